def wp_X8_heard (p0 : Int32) (p1 : Int32) (s0 : tm_St) (K : Int32 → tm_St → Prop) : Prop := wp_X8_modemAt p0 (fun k3 => (k3 = 0 → ((p1 < 0 → K (-1002) s0) ∧ (¬ p1 < 0 → ((p1 ≤ 4 → (vp_in p1 8 ∧ K (s0 11 (p1 : Int32).toNatClampNeg) s0)) ∧ (¬ p1 ≤ 4 → K (-1002) s0))))) ∧ (k3 = 1 → ((p1 < 0 → K (-1002) s0) ∧ (¬ p1 < 0 → ((p1 ≤ 4 → (vp_in p1 8 ∧ K (s0 6 (p1 : Int32).toNatClampNeg) s0)) ∧ (¬ p1 ≤ 4 → K (-1002) s0))))) ∧ (k3 = 2 → K (-1001) s0))
set_option maxRecDepth 100000 in
set_option maxHeartbeats 4000000 in
theorem kk_X8_heard (l : Launch) (dC : Nat → ClassId) (dI : Nat → Nat → Nat) (cI cZ : ClassId) (a : Nat → Nat) (s0 : tm_St) (sz : Nat) (p0 : Int32) (p1 : Int32) (K : Int32 → tm_St → Prop) (hw : wp_X8_heard p0 p1 s0 K) : Met l yX8_heard wsX8_heard ({ frames := 1, cells := 0, slots := 0, locals := 21 }) (va_Pc [.ref (a 0), .int p0, .int p1] (tm_Pre dC dI cI cZ (tm_wTwo cI cZ a s0) sz)) (va_Qi (fun (r : Int32) (u : tm_St) => K r u) (fun (u : tm_St) t => tm_At dC dI cI cZ (va_A (tm_wTwo cI cZ a s0) sz) (tm_wTwo cI cZ a u) t) (va_A (tm_wTwo cI cZ a s0) sz)) 0 0 (va_A (tm_wTwo cI cZ a s0) sz) := by
  refine Met.ofW (cc := cX8_heard) (maxL := 4) (ret := (some .int)) (by decide +kernel) rfl ?_
  intro p e z m args below meth c z₁ B hml hv
  obtain ⟨rfl, hsz, hP, hK, hD0⟩ := hv
  have hx := B.exec
  have hb := B.bytes
  have hr := B.returns
  have hts := atoms_spec (ws := wsX8_heard) B.pre
  have hown : z.vm.findClass RX8 = some m.cls := findClass_of_methodNamed B.named
  have hlocks := B.notSynchronized
  subst hsz
  have hD := hD0.self (sz := z.heap.size)
  generalize hAe : va_A (tm_wTwo cI cZ a s0) z.heap.size = A at hD ⊢
  have hA : ∀ q : Nat, z.heap.size ≤ q → A q := fun q h => by rw [← hAe]; exact Or.inr h
  have hS : va_S A z.heap z.heap [] := va_S.rf
  have h_f125 := hts (.fieldLink RX8 125 "TwoModems$Modem" "in" "LTwoModems$Way;") (by decide +kernel)
  have h_in3 : ∀ w ∈ u_ws RX3 TX3 20, w ∈ wsX8_heard := by decide +kernel
  have h_f128 := hts (.fieldLink RX8 128 "TwoModems$Way" "latest" "[I") (by decide +kernel)
  have h_in7 : ∀ w ∈ u_ws RX7 TX7 8, w ∈ wsX8_heard := by decide +kernel
  have hl := lv_entry ([.ref (a 0), .int p0, .int p1]) (n := 4) (Nat.le_of_ble_eq_true rfl)
  rw [lg_entry_eq]
  generalize (lg_sl ([.ref (a 0), .int p0, .int p1]) ++ List.replicate (4 - (lg_sl ([.ref (a 0), .int p0, .int p1])).length) Slot.unset).toArray = ls at hl ⊢
  have hl : lv_has ls 4 [(0, .ref (a 0)), (1, .int p0), (2, .int p1)] := hl
  unfold wp_X8_heard at hw
  refine lv_aload_n hx hb dX8_heard_0 rfl (lv_at hl 0 rfl) ?_
  refine lv_iload_n hx hb dX8_heard_1 rfl (lv_at hl 1 rfl) ?_
  have hPc := hP
  have hDc := hD
  have hFc := va_free (wc := (tm_wTwo cI cZ a s0)) hD hS hA [0, 1, 2, 3, 4, 5, 6, 7, 8, 9, 10, 11, 12, 13, 14, 15, 16, 17, 18, 19, 20, 21, 22, 23, 24, 25, 26, 27, 28, 29] rfl
  refine va_callq (va_runV (As := [.int p0]) (rest := []) ⟨hx, hb, hml, hown, hts⟩ (kk_X8_modemAt l dC dI cI cZ a s0 z.heap.size p0 _ hw) (cwV 1 hts gX8_heard_X8_modemAt rfl rfl rfl (by decide +kernel) ⟨Nat.le_of_ble_eq_true rfl, Nat.le_of_ble_eq_true rfl⟩) ⟨tm_blind, va_recv hK hPc (ci := 6) (q0 := 0) rfl rfl, fun U hU hW => ⟨rfl, by rw [hU], by rw [hU]; exact hPc, va_K.moved hW.alike hK, hDc.weaken (fun _ _ _ _ => trivial)⟩⟩ rfl rfl hl.1 rfl (lv_room (Nat.le_of_ble_eq_true rfl)) dX8_heard_2 ⟨Nat.zero_le _, Nat.zero_le _⟩) hS (fun q _ h => hFc q h) hFc (fun r1 u t H1 locs ht hvm hw hB hz1 hk1 hS => ?_)
  obtain ⟨hP1, hK1, hD1⟩ := hB
  rw [ht] at hP1
  obtain ⟨eu, k3, hw, hq⟩ := hw
  rw [eu] at hP1 hD1
  obtain ⟨hP, hD⟩ := va_join (wr := []) (w1 := (tm_wTwo cI cZ a s0)) hP hD [0, 1, 2, 3, 4, 5, 6, 7, 8, 9, 10, 11, 12, 13, 14, 15, 16, 17, 18, 19, 20, 21, 22, 23, 24, 25, 26, 27, 28, 29] [] rfl rfl (by decide) (by decide) hk1 hFc hP1 hD1
  have hP : va_P (dC, dI) vwCl (tm_wTwo cI cZ a s0) H1 := hP
  have hD : va_D A (tm_wTwo cI cZ a s0) := hD
  generalize H1 = H at hP hS ⊢
  rcases hq with ⟨ek, er⟩ | ⟨ek, er⟩ | ⟨ek, er⟩
  · subst ek; subst er; have hw := hw.1 rfl
    refine W.eq (g2 := F0 m 5 ls (.ref (a 14) :: [])) rfl ?_
    refine lv_astore_n (lv' := [(3, .ref (a 14)), (0, .ref (a 0)), (1, .int p0), (2, .int p1)]) hx hb dX8_heard_5 rfl hl (by decide) rfl (fun ls hl => ?_)
    refine lv_aload_n hx hb dX8_heard_6 rfl (lv_at hl 0 rfl) ?_
    refine lv_ifnonnull (tgt := 14) hx hb dX8_heard_7 (by decide) ?_
    refine lv_iload_n hx hb dX8_heard_14 rfl (lv_at hl 3 rfl) ?_
    refine lv_if_lt (tgt := 23) hx hb dX8_heard_15 (by decide) (fun c4 => ?_) (fun c4 => ?_)
    · have hw := hw.1 c4
      refine lv_sipush (v := (-1002)) hx hb dX8_heard_23 (by decide) ?_
      exact W.iret (v := (-1002)) hx hb hr (fun t ht hW => ⟨⟨(-1002), s0, rfl, hw, by rw [ht]; exact hP, va_K.moved hW.alike hK, hD⟩, hS.F ht⟩) hS.2.2 dX8_heard_26
    · have hw := hw.2 c4
      refine lv_iload_n hx hb dX8_heard_18 rfl (lv_at hl 3 rfl) ?_
      refine lv_iconst (v := 4) hx hb dX8_heard_19 (by decide) ?_
      refine lv_icmp_le (tgt := 27) hx hb dX8_heard_20 (by decide) (fun c5 => ?_) (fun c5 => ?_)
      · have hw := hw.1 c5
        refine lv_aload_n hx hb dX8_heard_27 rfl (lv_at hl 0 rfl) ?_
        refine va_get (D := (dC, dI)) (ci := 3) (v := .ref (a 9)) (C := RX3) (T := TX3) (N := 20) hx hb hts h_in3 hown hK hP 14 rfl rfl 1 (by decide) h_f125 (fun _ h9 => h9) rfl dX8_heard_28 ?_
        refine va_get (D := (dC, dI)) (ci := 5) (v := .ref (a 11)) (C := RX7) (T := TX7) (N := 8) hx hb hts h_in7 hown hK hP 9 rfl rfl 1 (by decide) h_f128 (fun _ h9 => h9) rfl dX8_heard_31 ?_
        refine lv_iload_n hx hb dX8_heard_34 rfl (lv_at hl 3 rfl) ?_
        have c6 := hw.1
        have hw := hw.2
        refine va_iald hx hb hK hP 11 0 rfl rfl c6 dX8_heard_35 ?_
        exact W.iret (v := (s0 11 (p1 : Int32).toNatClampNeg)) hx hb hr (fun t ht hW => ⟨⟨(s0 11 (p1 : Int32).toNatClampNeg), s0, rfl, hw, by rw [ht]; exact hP, va_K.moved hW.alike hK, hD⟩, hS.F ht⟩) hS.2.2 dX8_heard_36
      · have hw := hw.2 c5
        refine lv_sipush (v := (-1002)) hx hb dX8_heard_23 (by decide) ?_
        exact W.iret (v := (-1002)) hx hb hr (fun t ht hW => ⟨⟨(-1002), s0, rfl, hw, by rw [ht]; exact hP, va_K.moved hW.alike hK, hD⟩, hS.F ht⟩) hS.2.2 dX8_heard_26
  · subst ek; subst er; have hw := hw.2.1 rfl
    refine W.eq (g2 := F0 m 5 ls (.ref (a 22) :: [])) rfl ?_
    refine lv_astore_n (lv' := [(3, .ref (a 22)), (0, .ref (a 0)), (1, .int p0), (2, .int p1)]) hx hb dX8_heard_5 rfl hl (by decide) rfl (fun ls hl => ?_)
    refine lv_aload_n hx hb dX8_heard_6 rfl (lv_at hl 0 rfl) ?_
    refine lv_ifnonnull (tgt := 14) hx hb dX8_heard_7 (by decide) ?_
    refine lv_iload_n hx hb dX8_heard_14 rfl (lv_at hl 3 rfl) ?_
    refine lv_if_lt (tgt := 23) hx hb dX8_heard_15 (by decide) (fun c7 => ?_) (fun c7 => ?_)
    · have hw := hw.1 c7
      refine lv_sipush (v := (-1002)) hx hb dX8_heard_23 (by decide) ?_
      exact W.iret (v := (-1002)) hx hb hr (fun t ht hW => ⟨⟨(-1002), s0, rfl, hw, by rw [ht]; exact hP, va_K.moved hW.alike hK, hD⟩, hS.F ht⟩) hS.2.2 dX8_heard_26
    · have hw := hw.2 c7
      refine lv_iload_n hx hb dX8_heard_18 rfl (lv_at hl 3 rfl) ?_
      refine lv_iconst (v := 4) hx hb dX8_heard_19 (by decide) ?_
      refine lv_icmp_le (tgt := 27) hx hb dX8_heard_20 (by decide) (fun c8 => ?_) (fun c8 => ?_)
      · have hw := hw.1 c8
        refine lv_aload_n hx hb dX8_heard_27 rfl (lv_at hl 0 rfl) ?_
        refine va_get (D := (dC, dI)) (ci := 3) (v := .ref (a 4)) (C := RX3) (T := TX3) (N := 20) hx hb hts h_in3 hown hK hP 22 rfl rfl 1 (by decide) h_f125 (fun _ h9 => h9) rfl dX8_heard_28 ?_
        refine va_get (D := (dC, dI)) (ci := 5) (v := .ref (a 6)) (C := RX7) (T := TX7) (N := 8) hx hb hts h_in7 hown hK hP 4 rfl rfl 1 (by decide) h_f128 (fun _ h9 => h9) rfl dX8_heard_31 ?_
        refine lv_iload_n hx hb dX8_heard_34 rfl (lv_at hl 3 rfl) ?_
        have c9 := hw.1
        have hw := hw.2
        refine va_iald hx hb hK hP 6 0 rfl rfl c9 dX8_heard_35 ?_
        exact W.iret (v := (s0 6 (p1 : Int32).toNatClampNeg)) hx hb hr (fun t ht hW => ⟨⟨(s0 6 (p1 : Int32).toNatClampNeg), s0, rfl, hw, by rw [ht]; exact hP, va_K.moved hW.alike hK, hD⟩, hS.F ht⟩) hS.2.2 dX8_heard_36
      · have hw := hw.2 c8
        refine lv_sipush (v := (-1002)) hx hb dX8_heard_23 (by decide) ?_
        exact W.iret (v := (-1002)) hx hb hr (fun t ht hW => ⟨⟨(-1002), s0, rfl, hw, by rw [ht]; exact hP, va_K.moved hW.alike hK, hD⟩, hS.F ht⟩) hS.2.2 dX8_heard_26
  · subst ek; subst er; have hw := hw.2.2 rfl
    refine W.eq (g2 := F0 m 5 ls (.null :: [])) rfl ?_
    refine lv_astore_nN (lv' := [(3, .null), (0, .ref (a 0)), (1, .int p0), (2, .int p1)]) hx hb dX8_heard_5 rfl hl (by decide) rfl (fun ls hl => ?_)
    refine lv_aload_nN hx hb dX8_heard_6 rfl (lv_at hl 0 rfl) ?_
    refine lv_ifnonnullN hx hb dX8_heard_7 ?_
    refine lv_sipush (v := (-1001)) hx hb dX8_heard_10 (by decide) ?_
    exact W.iret (v := (-1001)) hx hb hr (fun t ht hW => ⟨⟨(-1001), s0, rfl, hw, by rw [ht]; exact hP, va_K.moved hW.alike hK, hD⟩, hS.F ht⟩) hS.2.2 dX8_heard_13
def wp_X8_about_56 (K : Int32 → tm_St → Prop) (v1 : Int32) (s : tm_St) : Prop := ((v1 = 0 → K (s 3 2) s) ∧ (¬ v1 = 0 → ((v1 = 1 → K (s 4 4) s) ∧ (¬ v1 = 1 → ((v1 = 2 → K (s 9 4) s) ∧ (¬ v1 = 2 → ((v1 = 3 → K ((s 4 7) + (s 9 7)) s) ∧ (¬ v1 = 3 → K (-1002) s))))))))
def wp_X8_about (p0 : Int32) (s0 : tm_St) (K : Int32 → tm_St → Prop) : Prop := ((p0 < 10 → ((p0 < 20 → wp_X8_about_56 K p0 s0) ∧ (¬ p0 < 20 → (((28 : Int32) ≤ p0 → wp_X8_about_56 K p0 s0) ∧ (¬ (28 : Int32) ≤ p0 → (vp_in (p0 - 20) 8 ∧ K (s0 10 ((p0 - 20) : Int32).toNatClampNeg) s0)))))) ∧ (¬ p0 < 10 → (((18 : Int32) ≤ p0 → ((p0 < 20 → wp_X8_about_56 K p0 s0) ∧ (¬ p0 < 20 → (((28 : Int32) ≤ p0 → wp_X8_about_56 K p0 s0) ∧ (¬ (28 : Int32) ≤ p0 → (vp_in (p0 - 20) 8 ∧ K (s0 10 ((p0 - 20) : Int32).toNatClampNeg) s0)))))) ∧ (¬ (18 : Int32) ≤ p0 → (vp_in (p0 - 10) 8 ∧ K (s0 5 ((p0 - 10) : Int32).toNatClampNeg) s0)))))
set_option maxRecDepth 100000 in
set_option maxHeartbeats 4000000 in
theorem kk_X8_about (l : Launch) (dC : Nat → ClassId) (dI : Nat → Nat → Nat) (cI cZ : ClassId) (a : Nat → Nat) (s0 : tm_St) (sz : Nat) (p0 : Int32) (K : Int32 → tm_St → Prop) (hw : wp_X8_about p0 s0 K) : Met l yX8_about wsX8_about ({ frames := 0, cells := 0, slots := 0, locals := 0 }) (va_Pc [.ref (a 0), .int p0] (tm_Pre dC dI cI cZ (tm_wTwo cI cZ a s0) sz)) (va_Qi (fun (r : Int32) (u : tm_St) => K r u) (fun (u : tm_St) t => tm_At dC dI cI cZ (va_A (tm_wTwo cI cZ a s0) sz) (tm_wTwo cI cZ a u) t) (va_A (tm_wTwo cI cZ a s0) sz)) 0 0 (va_A (tm_wTwo cI cZ a s0) sz) := by
  refine Met.ofW (cc := cX8_about) (maxL := 2) (ret := (some .int)) (by decide +kernel) rfl ?_
  intro p e z m args below meth c z₁ B hml hv
  obtain ⟨rfl, hsz, hP, hK, hD0⟩ := hv
  have hx := B.exec
  have hb := B.bytes
  have hr := B.returns
  have hts := atoms_spec (ws := wsX8_about) B.pre
  have hown : z.vm.findClass RX8 = some m.cls := findClass_of_methodNamed B.named
  have hlocks := B.notSynchronized
  subst hsz
  have hD := hD0.self (sz := z.heap.size)
  generalize hAe : va_A (tm_wTwo cI cZ a s0) z.heap.size = A at hD ⊢
  have hA : ∀ q : Nat, z.heap.size ≤ q → A q := fun q h => by rw [← hAe]; exact Or.inr h
  have hS : va_S A z.heap z.heap [] := va_S.rf
  have h_f19 := hts (.fieldLink RX8 19 "TwoModems" "line" "LTwoModems$Line;") (by decide +kernel)
  have h_in8 : ∀ w ∈ u_ws RX8 TX8 5, w ∈ wsX8_about := by decide +kernel
  have h_f65 := hts (.fieldLink RX8 65 "TwoModems$Line" "delay" "I") (by decide +kernel)
  have h_in1 : ∀ w ∈ u_ws RX1 TX1 4, w ∈ wsX8_about := by decide +kernel
  have h_f29 := hts (.fieldLink RX8 29 "TwoModems$Line" "forth" "LTwoModems$Way;") (by decide +kernel)
  have h_f136 := hts (.fieldLink RX8 136 "TwoModems$Way" "hurt" "I") (by decide +kernel)
  have h_in7 : ∀ w ∈ u_ws RX7 TX7 8, w ∈ wsX8_about := by decide +kernel
  have h_f25 := hts (.fieldLink RX8 25 "TwoModems$Line" "back" "LTwoModems$Way;") (by decide +kernel)
  have h_f139 := hts (.fieldLink RX8 139 "TwoModems$Way" "underWay" "I") (by decide +kernel)
  have h_f133 := hts (.fieldLink RX8 133 "TwoModems$Way" "quality" "[I") (by decide +kernel)
  have b56 : ∀ (v1 : Int32) (s : tm_St) (H : Heap) (locs : List Loc) (ls : Array Slot), wp_X8_about_56 K v1 s → va_P (dC, dI) vwCl (tm_wTwo cI cZ a s) H → va_D A (tm_wTwo cI cZ a s) → va_S A z.heap H locs → lv_has ls 2 [(0, .ref (a 0)), (1, .int v1)] → W p l e (headSpec wsX8_about ({ frames := 0, cells := 0, slots := 0, locals := 0 })).room z m (([.ref (a 0), .int p0] : List Value).toArray) below meth c H locs 0 0 (MQ below (va_Qi (fun (r : Int32) (u : tm_St) => K r u) (fun (u : tm_St) t => tm_At dC dI cI cZ A (tm_wTwo cI cZ a u) t) A) (([.ref (a 0), .int p0] : List Value).toArray) z 0 0 A) (F0 m 56 ls []) := by
    intro v1 s H locs ls hw hP hD hS hl
    unfold wp_X8_about_56 at hw
    refine lv_iload_n hx hb dX8_about_56 rfl (lv_at hl 1 rfl) ?_
    refine (Classical.em (v1 = 0)).elim (fun c3 => ?_) (fun c3 => ?_)
    · have hw := hw.1 c3
      refine lv_tableIn (tgt := 88) hx hb dX8_about_57 (by rw [c3]; decide) (by rw [c3]; decide) (by rw [c3]; rfl) (by decide) ?_
      refine lv_aload_n hx hb dX8_about_88 rfl (lv_at hl 0 rfl) ?_
      refine va_get (D := (dC, dI)) (ci := 6) (v := .ref (a 3)) (C := RX8) (T := TX8) (N := 5) hx hb hts h_in8 hown hK hP 0 rfl rfl 1 (by decide) h_f19 (fun _ h9 => h9) rfl dX8_about_89 ?_
      refine va_get (D := (dC, dI)) (ci := 1) (v := .int (s 3 2)) (C := RX1) (T := TX1) (N := 4) hx hb hts h_in1 hown hK hP 3 rfl rfl 2 (by decide) h_f65 (fun _ h9 => h9) rfl dX8_about_92 ?_
      exact W.iret (v := (s 3 2)) hx hb hr (fun t ht hW => ⟨⟨(s 3 2), s, rfl, hw, by rw [ht]; exact hP, va_K.moved hW.alike hK, hD⟩, hS.F ht⟩) hS.2.2 dX8_about_95
    have hw := hw.2 c3
    refine (Classical.em (v1 = 1)).elim (fun c4 => ?_) (fun c4 => ?_)
    · have hw := hw.1 c4
      refine lv_tableIn (tgt := 96) hx hb dX8_about_57 (by rw [c4]; decide) (by rw [c4]; decide) (by rw [c4]; rfl) (by decide) ?_
      refine lv_aload_n hx hb dX8_about_96 rfl (lv_at hl 0 rfl) ?_
      refine va_get (D := (dC, dI)) (ci := 6) (v := .ref (a 3)) (C := RX8) (T := TX8) (N := 5) hx hb hts h_in8 hown hK hP 0 rfl rfl 1 (by decide) h_f19 (fun _ h9 => h9) rfl dX8_about_97 ?_
      refine va_get (D := (dC, dI)) (ci := 1) (v := .ref (a 4)) (C := RX1) (T := TX1) (N := 4) hx hb hts h_in1 hown hK hP 3 rfl rfl 0 (by decide) h_f29 (fun _ h9 => h9) rfl dX8_about_100 ?_
      refine va_get (D := (dC, dI)) (ci := 5) (v := .int (s 4 4)) (C := RX7) (T := TX7) (N := 8) hx hb hts h_in7 hown hK hP 4 rfl rfl 4 (by decide) h_f136 (fun _ h9 => h9) rfl dX8_about_103 ?_
      exact W.iret (v := (s 4 4)) hx hb hr (fun t ht hW => ⟨⟨(s 4 4), s, rfl, hw, by rw [ht]; exact hP, va_K.moved hW.alike hK, hD⟩, hS.F ht⟩) hS.2.2 dX8_about_106
    have hw := hw.2 c4
    refine (Classical.em (v1 = 2)).elim (fun c5 => ?_) (fun c5 => ?_)
    · have hw := hw.1 c5
      refine lv_tableIn (tgt := 107) hx hb dX8_about_57 (by rw [c5]; decide) (by rw [c5]; decide) (by rw [c5]; rfl) (by decide) ?_
      refine lv_aload_n hx hb dX8_about_107 rfl (lv_at hl 0 rfl) ?_
      refine va_get (D := (dC, dI)) (ci := 6) (v := .ref (a 3)) (C := RX8) (T := TX8) (N := 5) hx hb hts h_in8 hown hK hP 0 rfl rfl 1 (by decide) h_f19 (fun _ h9 => h9) rfl dX8_about_108 ?_
      refine va_get (D := (dC, dI)) (ci := 1) (v := .ref (a 9)) (C := RX1) (T := TX1) (N := 4) hx hb hts h_in1 hown hK hP 3 rfl rfl 1 (by decide) h_f25 (fun _ h9 => h9) rfl dX8_about_111 ?_
      refine va_get (D := (dC, dI)) (ci := 5) (v := .int (s 9 4)) (C := RX7) (T := TX7) (N := 8) hx hb hts h_in7 hown hK hP 9 rfl rfl 4 (by decide) h_f136 (fun _ h9 => h9) rfl dX8_about_114 ?_
      exact W.iret (v := (s 9 4)) hx hb hr (fun t ht hW => ⟨⟨(s 9 4), s, rfl, hw, by rw [ht]; exact hP, va_K.moved hW.alike hK, hD⟩, hS.F ht⟩) hS.2.2 dX8_about_117
    have hw := hw.2 c5
    refine (Classical.em (v1 = 3)).elim (fun c6 => ?_) (fun c6 => ?_)
    · have hw := hw.1 c6
      refine lv_tableIn (tgt := 118) hx hb dX8_about_57 (by rw [c6]; decide) (by rw [c6]; decide) (by rw [c6]; rfl) (by decide) ?_
      refine lv_aload_n hx hb dX8_about_118 rfl (lv_at hl 0 rfl) ?_
      refine va_get (D := (dC, dI)) (ci := 6) (v := .ref (a 3)) (C := RX8) (T := TX8) (N := 5) hx hb hts h_in8 hown hK hP 0 rfl rfl 1 (by decide) h_f19 (fun _ h9 => h9) rfl dX8_about_119 ?_
      refine va_get (D := (dC, dI)) (ci := 1) (v := .ref (a 4)) (C := RX1) (T := TX1) (N := 4) hx hb hts h_in1 hown hK hP 3 rfl rfl 0 (by decide) h_f29 (fun _ h9 => h9) rfl dX8_about_122 ?_
      refine va_get (D := (dC, dI)) (ci := 5) (v := .int (s 4 7)) (C := RX7) (T := TX7) (N := 8) hx hb hts h_in7 hown hK hP 4 rfl rfl 7 (by decide) h_f139 (fun _ h9 => h9) rfl dX8_about_125 ?_
      refine lv_aload_n hx hb dX8_about_128 rfl (lv_at hl 0 rfl) ?_
      refine va_get (D := (dC, dI)) (ci := 6) (v := .ref (a 3)) (C := RX8) (T := TX8) (N := 5) hx hb hts h_in8 hown hK hP 0 rfl rfl 1 (by decide) h_f19 (fun _ h9 => h9) rfl dX8_about_129 ?_
      refine va_get (D := (dC, dI)) (ci := 1) (v := .ref (a 9)) (C := RX1) (T := TX1) (N := 4) hx hb hts h_in1 hown hK hP 3 rfl rfl 1 (by decide) h_f25 (fun _ h9 => h9) rfl dX8_about_132 ?_
      refine va_get (D := (dC, dI)) (ci := 5) (v := .int (s 9 7)) (C := RX7) (T := TX7) (N := 8) hx hb hts h_in7 hown hK hP 9 rfl rfl 7 (by decide) h_f139 (fun _ h9 => h9) rfl dX8_about_135 ?_
      refine lv_iadd hx hb dX8_about_138 ?_
      exact W.iret (v := ((s 4 7) + (s 9 7))) hx hb hr (fun t ht hW => ⟨⟨((s 4 7) + (s 9 7)), s, rfl, hw, by rw [ht]; exact hP, va_K.moved hW.alike hK, hD⟩, hS.F ht⟩) hS.2.2 dX8_about_139
    have hw := hw.2 c6
    have nc3 := lv_neT (a := 0) c3 rfl
    have nc4 := lv_neT (a := 1) c4 rfl
    have nc5 := lv_neT (a := 2) c5 rfl
    have nc6 := lv_neT (a := 3) c6 rfl
    refine lv_tableOut (tgt := 140) hx hb dX8_about_57 (by omega) (by decide) ?_
    refine lv_sipush (v := (-1002)) hx hb dX8_about_140 (by decide) ?_
    exact W.iret (v := (-1002)) hx hb hr (fun t ht hW => ⟨⟨(-1002), s, rfl, hw, by rw [ht]; exact hP, va_K.moved hW.alike hK, hD⟩, hS.F ht⟩) hS.2.2 dX8_about_143
  have hl := lv_entry ([.ref (a 0), .int p0]) (n := 2) (Nat.le_of_ble_eq_true rfl)
  rw [lg_entry_eq]
  generalize (lg_sl ([.ref (a 0), .int p0]) ++ List.replicate (2 - (lg_sl ([.ref (a 0), .int p0])).length) Slot.unset).toArray = ls at hl ⊢
  have hl : lv_has ls 2 [(0, .ref (a 0)), (1, .int p0)] := hl
  unfold wp_X8_about at hw
  refine lv_iload_n hx hb dX8_about_0 rfl (lv_at hl 1 rfl) ?_
  refine lv_bipush (v := 10) hx hb dX8_about_1 (by decide) ?_
  refine lv_icmp_lt (tgt := 28) hx hb dX8_about_3 (by decide) (fun c1 => ?_) (fun c1 => ?_)
  · have hw := hw.1 c1
    refine lv_iload_n hx hb dX8_about_28 rfl (lv_at hl 1 rfl) ?_
    refine lv_bipush (v := 20) hx hb dX8_about_29 (by decide) ?_
    refine lv_icmp_lt (tgt := 56) hx hb dX8_about_31 (by decide) (fun c2 => ?_) (fun c2 => ?_)
    · have hw := hw.1 c2
      exact b56 p0 s0 _ _ _ hw hP hD hS (lv_sub hl [0, 1] rfl)
    · have hw := hw.2 c2
      refine lv_iload_n hx hb dX8_about_34 rfl (lv_at hl 1 rfl) ?_
      refine lv_bipush (v := 28) hx hb dX8_about_35 (by decide) ?_
      refine lv_icmp_ge (tgt := 56) hx hb dX8_about_37 (by decide) (fun c7 => ?_) (fun c7 => ?_)
      · have hw := hw.1 c7
        exact b56 p0 s0 _ _ _ hw hP hD hS (lv_sub hl [0, 1] rfl)
      · have hw := hw.2 c7
        refine lv_aload_n hx hb dX8_about_40 rfl (lv_at hl 0 rfl) ?_
        refine va_get (D := (dC, dI)) (ci := 6) (v := .ref (a 3)) (C := RX8) (T := TX8) (N := 5) hx hb hts h_in8 hown hK hP 0 rfl rfl 1 (by decide) h_f19 (fun _ h9 => h9) rfl dX8_about_41 ?_
        refine va_get (D := (dC, dI)) (ci := 1) (v := .ref (a 9)) (C := RX1) (T := TX1) (N := 4) hx hb hts h_in1 hown hK hP 3 rfl rfl 1 (by decide) h_f25 (fun _ h9 => h9) rfl dX8_about_44 ?_
        refine va_get (D := (dC, dI)) (ci := 5) (v := .ref (a 10)) (C := RX7) (T := TX7) (N := 8) hx hb hts h_in7 hown hK hP 9 rfl rfl 0 (by decide) h_f133 (fun _ h9 => h9) rfl dX8_about_47 ?_
        refine lv_iload_n hx hb dX8_about_50 rfl (lv_at hl 1 rfl) ?_
        refine lv_bipush (v := 20) hx hb dX8_about_51 (by decide) ?_
        refine lv_isub hx hb dX8_about_53 ?_
        have c8 := hw.1
        have hw := hw.2
        refine va_iald hx hb hK hP 10 0 rfl rfl c8 dX8_about_54 ?_
        exact W.iret (v := (s0 10 ((p0 - 20) : Int32).toNatClampNeg)) hx hb hr (fun t ht hW => ⟨⟨(s0 10 ((p0 - 20) : Int32).toNatClampNeg), s0, rfl, hw, by rw [ht]; exact hP, va_K.moved hW.alike hK, hD⟩, hS.F ht⟩) hS.2.2 dX8_about_55
  · have hw := hw.2 c1
    refine lv_iload_n hx hb dX8_about_6 rfl (lv_at hl 1 rfl) ?_
    refine lv_bipush (v := 18) hx hb dX8_about_7 (by decide) ?_
    refine lv_icmp_ge (tgt := 28) hx hb dX8_about_9 (by decide) (fun c9 => ?_) (fun c9 => ?_)
    · have hw := hw.1 c9
      refine lv_iload_n hx hb dX8_about_28 rfl (lv_at hl 1 rfl) ?_
      refine lv_bipush (v := 20) hx hb dX8_about_29 (by decide) ?_
      refine lv_icmp_lt (tgt := 56) hx hb dX8_about_31 (by decide) (fun c10 => ?_) (fun c10 => ?_)
      · have hw := hw.1 c10
        exact b56 p0 s0 _ _ _ hw hP hD hS (lv_sub hl [0, 1] rfl)
      · have hw := hw.2 c10
        refine lv_iload_n hx hb dX8_about_34 rfl (lv_at hl 1 rfl) ?_
        refine lv_bipush (v := 28) hx hb dX8_about_35 (by decide) ?_
        refine lv_icmp_ge (tgt := 56) hx hb dX8_about_37 (by decide) (fun c11 => ?_) (fun c11 => ?_)
        · have hw := hw.1 c11
          exact b56 p0 s0 _ _ _ hw hP hD hS (lv_sub hl [0, 1] rfl)
        · have hw := hw.2 c11
          refine lv_aload_n hx hb dX8_about_40 rfl (lv_at hl 0 rfl) ?_
          refine va_get (D := (dC, dI)) (ci := 6) (v := .ref (a 3)) (C := RX8) (T := TX8) (N := 5) hx hb hts h_in8 hown hK hP 0 rfl rfl 1 (by decide) h_f19 (fun _ h9 => h9) rfl dX8_about_41 ?_
          refine va_get (D := (dC, dI)) (ci := 1) (v := .ref (a 9)) (C := RX1) (T := TX1) (N := 4) hx hb hts h_in1 hown hK hP 3 rfl rfl 1 (by decide) h_f25 (fun _ h9 => h9) rfl dX8_about_44 ?_
          refine va_get (D := (dC, dI)) (ci := 5) (v := .ref (a 10)) (C := RX7) (T := TX7) (N := 8) hx hb hts h_in7 hown hK hP 9 rfl rfl 0 (by decide) h_f133 (fun _ h9 => h9) rfl dX8_about_47 ?_
          refine lv_iload_n hx hb dX8_about_50 rfl (lv_at hl 1 rfl) ?_
          refine lv_bipush (v := 20) hx hb dX8_about_51 (by decide) ?_
          refine lv_isub hx hb dX8_about_53 ?_
          have c12 := hw.1
          have hw := hw.2
          refine va_iald hx hb hK hP 10 0 rfl rfl c12 dX8_about_54 ?_
          exact W.iret (v := (s0 10 ((p0 - 20) : Int32).toNatClampNeg)) hx hb hr (fun t ht hW => ⟨⟨(s0 10 ((p0 - 20) : Int32).toNatClampNeg), s0, rfl, hw, by rw [ht]; exact hP, va_K.moved hW.alike hK, hD⟩, hS.F ht⟩) hS.2.2 dX8_about_55
    · have hw := hw.2 c9
      refine lv_aload_n hx hb dX8_about_12 rfl (lv_at hl 0 rfl) ?_
      refine va_get (D := (dC, dI)) (ci := 6) (v := .ref (a 3)) (C := RX8) (T := TX8) (N := 5) hx hb hts h_in8 hown hK hP 0 rfl rfl 1 (by decide) h_f19 (fun _ h9 => h9) rfl dX8_about_13 ?_
      refine va_get (D := (dC, dI)) (ci := 1) (v := .ref (a 4)) (C := RX1) (T := TX1) (N := 4) hx hb hts h_in1 hown hK hP 3 rfl rfl 0 (by decide) h_f29 (fun _ h9 => h9) rfl dX8_about_16 ?_
      refine va_get (D := (dC, dI)) (ci := 5) (v := .ref (a 5)) (C := RX7) (T := TX7) (N := 8) hx hb hts h_in7 hown hK hP 4 rfl rfl 0 (by decide) h_f133 (fun _ h9 => h9) rfl dX8_about_19 ?_
      refine lv_iload_n hx hb dX8_about_22 rfl (lv_at hl 1 rfl) ?_
      refine lv_bipush (v := 10) hx hb dX8_about_23 (by decide) ?_
      refine lv_isub hx hb dX8_about_25 ?_
      have c13 := hw.1
      have hw := hw.2
      refine va_iald hx hb hK hP 5 0 rfl rfl c13 dX8_about_26 ?_
      exact W.iret (v := (s0 5 ((p0 - 10) : Int32).toNatClampNeg)) hx hb hr (fun t ht hW => ⟨⟨(s0 5 ((p0 - 10) : Int32).toNatClampNeg), s0, rfl, hw, by rw [ht]; exact hP, va_K.moved hW.alike hK, hD⟩, hS.F ht⟩) hS.2.2 dX8_about_27
def wp_X8_count (p0 : Int32) (s0 : tm_St) (K : Int32 → tm_St → Prop) : Prop := ((p0 = 0 → K (s0 1 1) s0) ∧ (¬ p0 = 0 → ((p0 = 1 → K (s0 0 4) s0) ∧ (¬ p0 = 1 → ((p0 = 2 → K (s0 4 5) s0) ∧ (¬ p0 = 2 → ((p0 = 3 → K (s0 9 5) s0) ∧ (¬ p0 = 3 → ((p0 = 4 → K (s0 4 6) s0) ∧ (¬ p0 = 4 → ((p0 = 5 → K (s0 9 6) s0) ∧ (¬ p0 = 5 → ((p0 = 6 → (wp_X8_changes  s0 (fun r8 s9 => K r8 s9))) ∧ (¬ p0 = 6 → ((p0 = 7 → K (s0 3 3) s0) ∧ (¬ p0 = 7 → ((p0 = 8 → K ((s0 18 6) + (s0 26 6)) s0) ∧ (¬ p0 = 8 → K (-1002) s0))))))))))))))))))
set_option maxRecDepth 100000 in
set_option maxHeartbeats 4000000 in
theorem kk_X8_count (l : Launch) (dC : Nat → ClassId) (dI : Nat → Nat → Nat) (cI cZ : ClassId) (a : Nat → Nat) (s0 : tm_St) (sz : Nat) (p0 : Int32) (K : Int32 → tm_St → Prop) (hw : wp_X8_count p0 s0 K) : Met l yX8_count wsX8_count ({ frames := 1, cells := 0, slots := 0, locals := 20 }) (va_Pc [.ref (a 0), .int p0] (tm_Pre dC dI cI cZ (tm_wTwo cI cZ a s0) sz)) (va_Qi (fun (r : Int32) (u : tm_St) => K r u) (fun (u : tm_St) t => tm_At dC dI cI cZ (va_A (tm_wTwo cI cZ a s0) sz) (tm_wTwo cI cZ a u) t) (va_A (tm_wTwo cI cZ a s0) sz)) 0 0 (va_A (tm_wTwo cI cZ a s0) sz) := by
  refine Met.ofW (cc := cX8_count) (maxL := 2) (ret := (some .int)) (by decide +kernel) rfl ?_
  intro p e z m args below meth c z₁ B hml hv
  obtain ⟨rfl, hsz, hP, hK, hD0⟩ := hv
  have hx := B.exec
  have hb := B.bytes
  have hr := B.returns
  have hts := atoms_spec (ws := wsX8_count) B.pre
  have hown : z.vm.findClass RX8 = some m.cls := findClass_of_methodNamed B.named
  have hlocks := B.notSynchronized
  subst hsz
  have hD := hD0.self (sz := z.heap.size)
  generalize hAe : va_A (tm_wTwo cI cZ a s0) z.heap.size = A at hD ⊢
  have hA : ∀ q : Nat, z.heap.size ≤ q → A q := fun q h => by rw [← hAe]; exact Or.inr h
  have hS : va_S A z.heap z.heap [] := va_S.rf
  have h_f13 := hts (.fieldLink RX8 13 "TwoModems" "page" "LTwoModems$Page;") (by decide +kernel)
  have h_in8 : ∀ w ∈ u_ws RX8 TX8 5, w ∈ wsX8_count := by decide +kernel
  have h_f46 := hts (.fieldLink RX8 46 "TwoModems$Page" "size" "I") (by decide +kernel)
  have h_in4 : ∀ w ∈ u_ws RX4 TX4 2, w ∈ wsX8_count := by decide +kernel
  have h_f42 := hts (.fieldLink RX8 42 "TwoModems" "ticks" "I") (by decide +kernel)
  have h_f19 := hts (.fieldLink RX8 19 "TwoModems" "line" "LTwoModems$Line;") (by decide +kernel)
  have h_f29 := hts (.fieldLink RX8 29 "TwoModems$Line" "forth" "LTwoModems$Way;") (by decide +kernel)
  have h_in1 : ∀ w ∈ u_ws RX1 TX1 4, w ∈ wsX8_count := by decide +kernel
  have h_f142 := hts (.fieldLink RX8 142 "TwoModems$Way" "came" "I") (by decide +kernel)
  have h_in7 : ∀ w ∈ u_ws RX7 TX7 8, w ∈ wsX8_count := by decide +kernel
  have h_f25 := hts (.fieldLink RX8 25 "TwoModems$Line" "back" "LTwoModems$Way;") (by decide +kernel)
  have h_f145 := hts (.fieldLink RX8 145 "TwoModems$Way" "harmed" "I") (by decide +kernel)
  have h_f148 := hts (.fieldLink RX8 148 "TwoModems$Line" "readings" "I") (by decide +kernel)
  have h_f35 := hts (.fieldLink RX8 35 "TwoModems" "zero" "LTwoModems$Modem;") (by decide +kernel)
  have h_f72 := hts (.fieldLink RX8 72 "TwoModems$Modem" "mail" "LTwoModems$Mail;") (by decide +kernel)
  have h_in3 : ∀ w ∈ u_ws RX3 TX3 20, w ∈ wsX8_count := by decide +kernel
  have h_f151 := hts (.fieldLink RX8 151 "TwoModems$Mail" "repeated" "I") (by decide +kernel)
  have h_in2 : ∀ w ∈ u_ws RX2 TX2 8, w ∈ wsX8_count := by decide +kernel
  have h_f39 := hts (.fieldLink RX8 39 "TwoModems" "one" "LTwoModems$Modem;") (by decide +kernel)
  have hl := lv_entry ([.ref (a 0), .int p0]) (n := 2) (Nat.le_of_ble_eq_true rfl)
  rw [lg_entry_eq]
  generalize (lg_sl ([.ref (a 0), .int p0]) ++ List.replicate (2 - (lg_sl ([.ref (a 0), .int p0])).length) Slot.unset).toArray = ls at hl ⊢
  have hl : lv_has ls 2 [(0, .ref (a 0)), (1, .int p0)] := hl
  unfold wp_X8_count at hw
  refine lv_iload_n hx hb dX8_count_0 rfl (lv_at hl 1 rfl) ?_
  refine (Classical.em (p0 = 0)).elim (fun c1 => ?_) (fun c1 => ?_)
  · have hw := hw.1 c1
    refine lv_tableIn (tgt := 52) hx hb dX8_count_1 (by rw [c1]; decide) (by rw [c1]; decide) (by rw [c1]; rfl) (by decide) ?_
    refine lv_aload_n hx hb dX8_count_52 rfl (lv_at hl 0 rfl) ?_
    refine va_get (D := (dC, dI)) (ci := 6) (v := .ref (a 1)) (C := RX8) (T := TX8) (N := 5) hx hb hts h_in8 hown hK hP 0 rfl rfl 0 (by decide) h_f13 (fun _ h9 => h9) rfl dX8_count_53 ?_
    refine va_get (D := (dC, dI)) (ci := 4) (v := .int (s0 1 1)) (C := RX4) (T := TX4) (N := 2) hx hb hts h_in4 hown hK hP 1 rfl rfl 1 (by decide) h_f46 (fun _ h9 => h9) rfl dX8_count_56 ?_
    exact W.iret (v := (s0 1 1)) hx hb hr (fun t ht hW => ⟨⟨(s0 1 1), s0, rfl, hw, by rw [ht]; exact hP, va_K.moved hW.alike hK, hD⟩, hS.F ht⟩) hS.2.2 dX8_count_59
  have hw := hw.2 c1
  refine (Classical.em (p0 = 1)).elim (fun c2 => ?_) (fun c2 => ?_)
  · have hw := hw.1 c2
    refine lv_tableIn (tgt := 60) hx hb dX8_count_1 (by rw [c2]; decide) (by rw [c2]; decide) (by rw [c2]; rfl) (by decide) ?_
    refine lv_aload_n hx hb dX8_count_60 rfl (lv_at hl 0 rfl) ?_
    refine va_get (D := (dC, dI)) (ci := 6) (v := .int (s0 0 4)) (C := RX8) (T := TX8) (N := 5) hx hb hts h_in8 hown hK hP 0 rfl rfl 4 (by decide) h_f42 (fun _ h9 => h9) rfl dX8_count_61 ?_
    exact W.iret (v := (s0 0 4)) hx hb hr (fun t ht hW => ⟨⟨(s0 0 4), s0, rfl, hw, by rw [ht]; exact hP, va_K.moved hW.alike hK, hD⟩, hS.F ht⟩) hS.2.2 dX8_count_64
  have hw := hw.2 c2
  refine (Classical.em (p0 = 2)).elim (fun c3 => ?_) (fun c3 => ?_)
  · have hw := hw.1 c3
    refine lv_tableIn (tgt := 65) hx hb dX8_count_1 (by rw [c3]; decide) (by rw [c3]; decide) (by rw [c3]; rfl) (by decide) ?_
    refine lv_aload_n hx hb dX8_count_65 rfl (lv_at hl 0 rfl) ?_
    refine va_get (D := (dC, dI)) (ci := 6) (v := .ref (a 3)) (C := RX8) (T := TX8) (N := 5) hx hb hts h_in8 hown hK hP 0 rfl rfl 1 (by decide) h_f19 (fun _ h9 => h9) rfl dX8_count_66 ?_
    refine va_get (D := (dC, dI)) (ci := 1) (v := .ref (a 4)) (C := RX1) (T := TX1) (N := 4) hx hb hts h_in1 hown hK hP 3 rfl rfl 0 (by decide) h_f29 (fun _ h9 => h9) rfl dX8_count_69 ?_
    refine va_get (D := (dC, dI)) (ci := 5) (v := .int (s0 4 5)) (C := RX7) (T := TX7) (N := 8) hx hb hts h_in7 hown hK hP 4 rfl rfl 5 (by decide) h_f142 (fun _ h9 => h9) rfl dX8_count_72 ?_
    exact W.iret (v := (s0 4 5)) hx hb hr (fun t ht hW => ⟨⟨(s0 4 5), s0, rfl, hw, by rw [ht]; exact hP, va_K.moved hW.alike hK, hD⟩, hS.F ht⟩) hS.2.2 dX8_count_75
  have hw := hw.2 c3
  refine (Classical.em (p0 = 3)).elim (fun c4 => ?_) (fun c4 => ?_)
  · have hw := hw.1 c4
    refine lv_tableIn (tgt := 76) hx hb dX8_count_1 (by rw [c4]; decide) (by rw [c4]; decide) (by rw [c4]; rfl) (by decide) ?_
    refine lv_aload_n hx hb dX8_count_76 rfl (lv_at hl 0 rfl) ?_
    refine va_get (D := (dC, dI)) (ci := 6) (v := .ref (a 3)) (C := RX8) (T := TX8) (N := 5) hx hb hts h_in8 hown hK hP 0 rfl rfl 1 (by decide) h_f19 (fun _ h9 => h9) rfl dX8_count_77 ?_
    refine va_get (D := (dC, dI)) (ci := 1) (v := .ref (a 9)) (C := RX1) (T := TX1) (N := 4) hx hb hts h_in1 hown hK hP 3 rfl rfl 1 (by decide) h_f25 (fun _ h9 => h9) rfl dX8_count_80 ?_
    refine va_get (D := (dC, dI)) (ci := 5) (v := .int (s0 9 5)) (C := RX7) (T := TX7) (N := 8) hx hb hts h_in7 hown hK hP 9 rfl rfl 5 (by decide) h_f142 (fun _ h9 => h9) rfl dX8_count_83 ?_
    exact W.iret (v := (s0 9 5)) hx hb hr (fun t ht hW => ⟨⟨(s0 9 5), s0, rfl, hw, by rw [ht]; exact hP, va_K.moved hW.alike hK, hD⟩, hS.F ht⟩) hS.2.2 dX8_count_86
  have hw := hw.2 c4
  refine (Classical.em (p0 = 4)).elim (fun c5 => ?_) (fun c5 => ?_)
  · have hw := hw.1 c5
    refine lv_tableIn (tgt := 87) hx hb dX8_count_1 (by rw [c5]; decide) (by rw [c5]; decide) (by rw [c5]; rfl) (by decide) ?_
    refine lv_aload_n hx hb dX8_count_87 rfl (lv_at hl 0 rfl) ?_
    refine va_get (D := (dC, dI)) (ci := 6) (v := .ref (a 3)) (C := RX8) (T := TX8) (N := 5) hx hb hts h_in8 hown hK hP 0 rfl rfl 1 (by decide) h_f19 (fun _ h9 => h9) rfl dX8_count_88 ?_
    refine va_get (D := (dC, dI)) (ci := 1) (v := .ref (a 4)) (C := RX1) (T := TX1) (N := 4) hx hb hts h_in1 hown hK hP 3 rfl rfl 0 (by decide) h_f29 (fun _ h9 => h9) rfl dX8_count_91 ?_
    refine va_get (D := (dC, dI)) (ci := 5) (v := .int (s0 4 6)) (C := RX7) (T := TX7) (N := 8) hx hb hts h_in7 hown hK hP 4 rfl rfl 6 (by decide) h_f145 (fun _ h9 => h9) rfl dX8_count_94 ?_
    exact W.iret (v := (s0 4 6)) hx hb hr (fun t ht hW => ⟨⟨(s0 4 6), s0, rfl, hw, by rw [ht]; exact hP, va_K.moved hW.alike hK, hD⟩, hS.F ht⟩) hS.2.2 dX8_count_97
  have hw := hw.2 c5
  refine (Classical.em (p0 = 5)).elim (fun c6 => ?_) (fun c6 => ?_)
  · have hw := hw.1 c6
    refine lv_tableIn (tgt := 98) hx hb dX8_count_1 (by rw [c6]; decide) (by rw [c6]; decide) (by rw [c6]; rfl) (by decide) ?_
    refine lv_aload_n hx hb dX8_count_98 rfl (lv_at hl 0 rfl) ?_
    refine va_get (D := (dC, dI)) (ci := 6) (v := .ref (a 3)) (C := RX8) (T := TX8) (N := 5) hx hb hts h_in8 hown hK hP 0 rfl rfl 1 (by decide) h_f19 (fun _ h9 => h9) rfl dX8_count_99 ?_
    refine va_get (D := (dC, dI)) (ci := 1) (v := .ref (a 9)) (C := RX1) (T := TX1) (N := 4) hx hb hts h_in1 hown hK hP 3 rfl rfl 1 (by decide) h_f25 (fun _ h9 => h9) rfl dX8_count_102 ?_
    refine va_get (D := (dC, dI)) (ci := 5) (v := .int (s0 9 6)) (C := RX7) (T := TX7) (N := 8) hx hb hts h_in7 hown hK hP 9 rfl rfl 6 (by decide) h_f145 (fun _ h9 => h9) rfl dX8_count_105 ?_
    exact W.iret (v := (s0 9 6)) hx hb hr (fun t ht hW => ⟨⟨(s0 9 6), s0, rfl, hw, by rw [ht]; exact hP, va_K.moved hW.alike hK, hD⟩, hS.F ht⟩) hS.2.2 dX8_count_108
  have hw := hw.2 c6
  refine (Classical.em (p0 = 6)).elim (fun c7 => ?_) (fun c7 => ?_)
  · have hw := hw.1 c7
    refine lv_tableIn (tgt := 109) hx hb dX8_count_1 (by rw [c7]; decide) (by rw [c7]; decide) (by rw [c7]; rfl) (by decide) ?_
    refine lv_aload_n hx hb dX8_count_109 rfl (lv_at hl 0 rfl) ?_
    have hPc := hP
    have hDc := hD
    have hFc := va_free (wc := (tm_wTwo cI cZ a s0)) hD hS hA [0, 1, 2, 3, 4, 5, 6, 7, 8, 9, 10, 11, 12, 13, 14, 15, 16, 17, 18, 19, 20, 21, 22, 23, 24, 25, 26, 27, 28, 29] rfl
    refine va_calli (va_runV (As := []) (rest := []) ⟨hx, hb, hml, hown, hts⟩ (kk_X8_changes l dC dI cI cZ a s0 z.heap.size  _ hw) (cwV 0 hts gX8_count_X8_changes rfl rfl rfl (by decide +kernel) ⟨Nat.le_of_ble_eq_true rfl, Nat.le_of_ble_eq_true rfl⟩) ⟨tm_blind, va_recv hK hPc (ci := 6) (q0 := 0) rfl rfl, fun U hU hW => ⟨rfl, by rw [hU], by rw [hU]; exact hPc, va_K.moved hW.alike hK, hDc.weaken (fun _ _ _ _ => trivial)⟩⟩ rfl rfl hl.1 rfl (lv_room (Nat.le_of_ble_eq_true rfl)) dX8_count_110 ⟨Nat.zero_le _, Nat.zero_le _⟩) hS (fun q _ h => hFc q h) hFc (fun r8 s9 t H1 locs ht hvm hw hB hz1 hk1 hS => ?_)
    obtain ⟨hP1, hK1, hD1⟩ := hB
    rw [ht] at hP1
    obtain ⟨hP, hD⟩ := va_join (wr := []) (w1 := (tm_wTwo cI cZ a s9)) hP hD [0, 1, 2, 3, 4, 5, 6, 7, 8, 9, 10, 11, 12, 13, 14, 15, 16, 17, 18, 19, 20, 21, 22, 23, 24, 25, 26, 27, 28, 29] [] rfl rfl (by decide) (by decide) hk1 hFc hP1 hD1
    generalize H1 = H at hP hS ⊢
    have hP : va_P (dC, dI) vwCl (tm_wTwo cI cZ a s9) H := hP
    have hD : va_D A (tm_wTwo cI cZ a s9) := hD
    exact W.iret (v := r8) hx hb hr (fun t ht hW => ⟨⟨r8, s9, rfl, hw, by rw [ht]; exact hP, va_K.moved hW.alike hK, hD⟩, hS.F ht⟩) hS.2.2 dX8_count_113
  have hw := hw.2 c7
  refine (Classical.em (p0 = 7)).elim (fun c10 => ?_) (fun c10 => ?_)
  · have hw := hw.1 c10
    refine lv_tableIn (tgt := 114) hx hb dX8_count_1 (by rw [c10]; decide) (by rw [c10]; decide) (by rw [c10]; rfl) (by decide) ?_
    refine lv_aload_n hx hb dX8_count_114 rfl (lv_at hl 0 rfl) ?_
    refine va_get (D := (dC, dI)) (ci := 6) (v := .ref (a 3)) (C := RX8) (T := TX8) (N := 5) hx hb hts h_in8 hown hK hP 0 rfl rfl 1 (by decide) h_f19 (fun _ h9 => h9) rfl dX8_count_115 ?_
    refine va_get (D := (dC, dI)) (ci := 1) (v := .int (s0 3 3)) (C := RX1) (T := TX1) (N := 4) hx hb hts h_in1 hown hK hP 3 rfl rfl 3 (by decide) h_f148 (fun _ h9 => h9) rfl dX8_count_118 ?_
    exact W.iret (v := (s0 3 3)) hx hb hr (fun t ht hW => ⟨⟨(s0 3 3), s0, rfl, hw, by rw [ht]; exact hP, va_K.moved hW.alike hK, hD⟩, hS.F ht⟩) hS.2.2 dX8_count_121
  have hw := hw.2 c10
  refine (Classical.em (p0 = 8)).elim (fun c11 => ?_) (fun c11 => ?_)
  · have hw := hw.1 c11
    refine lv_tableIn (tgt := 122) hx hb dX8_count_1 (by rw [c11]; decide) (by rw [c11]; decide) (by rw [c11]; rfl) (by decide) ?_
    refine lv_aload_n hx hb dX8_count_122 rfl (lv_at hl 0 rfl) ?_
    refine va_get (D := (dC, dI)) (ci := 6) (v := .ref (a 14)) (C := RX8) (T := TX8) (N := 5) hx hb hts h_in8 hown hK hP 0 rfl rfl 2 (by decide) h_f35 (fun _ h9 => h9) rfl dX8_count_123 ?_
    refine va_get (D := (dC, dI)) (ci := 3) (v := .ref (a 18)) (C := RX3) (T := TX3) (N := 20) hx hb hts h_in3 hown hK hP 14 rfl rfl 4 (by decide) h_f72 (fun _ h9 => h9) rfl dX8_count_126 ?_
    refine va_get (D := (dC, dI)) (ci := 2) (v := .int (s0 18 6)) (C := RX2) (T := TX2) (N := 8) hx hb hts h_in2 hown hK hP 18 rfl rfl 6 (by decide) h_f151 (fun _ h9 => h9) rfl dX8_count_129 ?_
    refine lv_aload_n hx hb dX8_count_132 rfl (lv_at hl 0 rfl) ?_
    refine va_get (D := (dC, dI)) (ci := 6) (v := .ref (a 22)) (C := RX8) (T := TX8) (N := 5) hx hb hts h_in8 hown hK hP 0 rfl rfl 3 (by decide) h_f39 (fun _ h9 => h9) rfl dX8_count_133 ?_
    refine va_get (D := (dC, dI)) (ci := 3) (v := .ref (a 26)) (C := RX3) (T := TX3) (N := 20) hx hb hts h_in3 hown hK hP 22 rfl rfl 4 (by decide) h_f72 (fun _ h9 => h9) rfl dX8_count_136 ?_
    refine va_get (D := (dC, dI)) (ci := 2) (v := .int (s0 26 6)) (C := RX2) (T := TX2) (N := 8) hx hb hts h_in2 hown hK hP 26 rfl rfl 6 (by decide) h_f151 (fun _ h9 => h9) rfl dX8_count_139 ?_
    refine lv_iadd hx hb dX8_count_142 ?_
    exact W.iret (v := ((s0 18 6) + (s0 26 6))) hx hb hr (fun t ht hW => ⟨⟨((s0 18 6) + (s0 26 6)), s0, rfl, hw, by rw [ht]; exact hP, va_K.moved hW.alike hK, hD⟩, hS.F ht⟩) hS.2.2 dX8_count_143
  have hw := hw.2 c11
  have nc1 := lv_neT (a := 0) c1 rfl
  have nc2 := lv_neT (a := 1) c2 rfl
  have nc3 := lv_neT (a := 2) c3 rfl
  have nc4 := lv_neT (a := 3) c4 rfl
  have nc5 := lv_neT (a := 4) c5 rfl
  have nc6 := lv_neT (a := 5) c6 rfl
  have nc7 := lv_neT (a := 6) c7 rfl
  have nc10 := lv_neT (a := 7) c10 rfl
  have nc11 := lv_neT (a := 8) c11 rfl
  refine lv_tableOut (tgt := 144) hx hb dX8_count_1 (by omega) (by decide) ?_
  refine lv_sipush (v := (-1002)) hx hb dX8_count_144 (by decide) ?_
  exact W.iret (v := (-1002)) hx hb hr (fun t ht hW => ⟨⟨(-1002), s0, rfl, hw, by rw [ht]; exact hP, va_K.moved hW.alike hK, hD⟩, hS.F ht⟩) hS.2.2 dX8_count_147
def wp_X8_digestOfEnd_195 (K : Int64 → tm_St → Prop) : Nat → Int64 → Int32 → tm_St → Prop
  | 0, _, _, _ => False
  | n + 1, v5, v7, s => (((s 18 3) ≤ v7 → K v5 s) ∧ (¬ (s 18 3) ≤ v7 → (wp_X2_takenAt v7 (tm_pj [18, 19, 20] s) (fun r10 u12 => ∀ s11 : tm_St, s11 = tm_pk [18, 19, 20] s u12 → (∀ x13 : Int64, x13 = ((31 * v5) + r10.toInt64) → (∀ x14 : Int32, x14 = v7 + 1 → wp_X8_digestOfEnd_195 K n x13 x14 s11))))))
def wp_X8_digestOfEnd_159 (K : Int64 → tm_St → Prop) : Nat → Int64 → Int32 → tm_St → Prop
  | 0, _, _, _ => False
  | n + 1, v5, v7, s => (((5 : Int32) ≤ v7 → ∃ nf : Nat, wp_X8_digestOfEnd_195 K nf v5 0 s) ∧ (¬ (5 : Int32) ≤ v7 → (vp_in v7 8 ∧ (∀ x16 : Int64, x16 = ((31 * v5) + ((s 11 (v7 : Int32).toNatClampNeg) : Int32).toInt64) → (∀ x17 : Int32, x17 = v7 + 1 → wp_X8_digestOfEnd_159 K n x16 x17 s)))))
def wp_X8_digestOfEnd_123 (K : Int64 → tm_St → Prop) : Nat → Int64 → Int32 → tm_St → Prop
  | 0, _, _, _ => False
  | n + 1, v5, v7, s => (((4 : Int32) ≤ v7 → ∃ nf : Nat, wp_X8_digestOfEnd_159 K nf v5 0 s) ∧ (¬ (4 : Int32) ≤ v7 → (vp_in v7 4 ∧ (∀ x19 : Int64, x19 = ((31 * v5) + ((s 16 (v7 : Int32).toNatClampNeg) : Int32).toInt64) → (∀ x20 : Int32, x20 = v7 + 1 → wp_X8_digestOfEnd_123 K n x19 x20 s)))))
def wp_X8_digestOfEnd_87 (K : Int64 → tm_St → Prop) : Nat → Int64 → Int32 → tm_St → Prop
  | 0, _, _, _ => False
  | n + 1, v5, v7, s => (((4 : Int32) ≤ v7 → ∃ nf : Nat, wp_X8_digestOfEnd_123 K nf v5 0 s) ∧ (¬ (4 : Int32) ≤ v7 → (vp_in v7 4 ∧ (∀ x22 : Int64, x22 = ((31 * v5) + ((s 17 (v7 : Int32).toNatClampNeg) : Int32).toInt64) → (∀ x23 : Int32, x23 = v7 + 1 → wp_X8_digestOfEnd_87 K n x22 x23 s)))))
def wp_X8_digestOfEnd_53 (K : Int64 → tm_St → Prop) : Nat → Int64 → Int32 → tm_St → Prop
  | 0, _, _, _ => False
  | n + 1, v5, v7, s => (((8 : Int32) ≤ v7 → ∃ nf : Nat, wp_X8_digestOfEnd_87 K nf v5 0 s) ∧ (¬ (8 : Int32) ≤ v7 → (vp_in v7 8 ∧ (∀ x25 : Int64, x25 = ((31 * v5) + ((s 21 (v7 : Int32).toNatClampNeg) : Int32).toInt64) → (∀ x26 : Int32, x26 = v7 + 1 → wp_X8_digestOfEnd_53 K n x25 x26 s)))))
def wp_X8_digestOfEnd_20 (K : Int64 → tm_St → Prop) : Nat → Int64 → Int32 → tm_St → Prop
  | 0, _, _, _ => False
  | n + 1, v5, v7, s => (((16 : Int32) ≤ v7 → ∃ nf : Nat, wp_X8_digestOfEnd_53 K nf v5 0 s) ∧ (¬ (16 : Int32) ≤ v7 → (wp_X3_fact v7 (tm_pj [14, 15, 16, 17, 18, 19, 20, 21, 3, 9, 10, 11, 12, 13, 4, 5, 6, 7, 8, 4, 9] s) (fun r27 u29 => ∀ s28 : tm_St, s28 = tm_pk [14, 15, 16, 17, 18, 19, 20, 21, 3, 9, 10, 11, 12, 13, 4, 5, 6, 7, 8] s u29 → (∀ x30 : Int64, x30 = ((31 * v5) + r27.toInt64) → (∀ x31 : Int32, x31 = v7 + 1 → wp_X8_digestOfEnd_20 K n x30 x31 s28))))))
def wp_X8_digestOfEnd_195a (K : Int64 → tm_St → Prop) : Nat → Int64 → Int32 → tm_St → Prop
  | 0, _, _, _ => False
  | n + 1, v5, v7, s => (((s 26 3) ≤ v7 → K v5 s) ∧ (¬ (s 26 3) ≤ v7 → (wp_X2_takenAt v7 (tm_pj [26, 27, 28] s) (fun r38 u40 => ∀ s39 : tm_St, s39 = tm_pk [26, 27, 28] s u40 → (∀ x41 : Int64, x41 = ((31 * v5) + r38.toInt64) → (∀ x42 : Int32, x42 = v7 + 1 → wp_X8_digestOfEnd_195a K n x41 x42 s39))))))
def wp_X8_digestOfEnd_159a (K : Int64 → tm_St → Prop) : Nat → Int64 → Int32 → tm_St → Prop
  | 0, _, _, _ => False
  | n + 1, v5, v7, s => (((5 : Int32) ≤ v7 → ∃ nf : Nat, wp_X8_digestOfEnd_195a K nf v5 0 s) ∧ (¬ (5 : Int32) ≤ v7 → (vp_in v7 8 ∧ (∀ x44 : Int64, x44 = ((31 * v5) + ((s 6 (v7 : Int32).toNatClampNeg) : Int32).toInt64) → (∀ x45 : Int32, x45 = v7 + 1 → wp_X8_digestOfEnd_159a K n x44 x45 s)))))
def wp_X8_digestOfEnd_123a (K : Int64 → tm_St → Prop) : Nat → Int64 → Int32 → tm_St → Prop
  | 0, _, _, _ => False
  | n + 1, v5, v7, s => (((4 : Int32) ≤ v7 → ∃ nf : Nat, wp_X8_digestOfEnd_159a K nf v5 0 s) ∧ (¬ (4 : Int32) ≤ v7 → (vp_in v7 4 ∧ (∀ x47 : Int64, x47 = ((31 * v5) + ((s 24 (v7 : Int32).toNatClampNeg) : Int32).toInt64) → (∀ x48 : Int32, x48 = v7 + 1 → wp_X8_digestOfEnd_123a K n x47 x48 s)))))
def wp_X8_digestOfEnd_87a (K : Int64 → tm_St → Prop) : Nat → Int64 → Int32 → tm_St → Prop
  | 0, _, _, _ => False
  | n + 1, v5, v7, s => (((4 : Int32) ≤ v7 → ∃ nf : Nat, wp_X8_digestOfEnd_123a K nf v5 0 s) ∧ (¬ (4 : Int32) ≤ v7 → (vp_in v7 4 ∧ (∀ x50 : Int64, x50 = ((31 * v5) + ((s 25 (v7 : Int32).toNatClampNeg) : Int32).toInt64) → (∀ x51 : Int32, x51 = v7 + 1 → wp_X8_digestOfEnd_87a K n x50 x51 s)))))
def wp_X8_digestOfEnd_53a (K : Int64 → tm_St → Prop) : Nat → Int64 → Int32 → tm_St → Prop
  | 0, _, _, _ => False
  | n + 1, v5, v7, s => (((8 : Int32) ≤ v7 → ∃ nf : Nat, wp_X8_digestOfEnd_87a K nf v5 0 s) ∧ (¬ (8 : Int32) ≤ v7 → (vp_in v7 8 ∧ (∀ x53 : Int64, x53 = ((31 * v5) + ((s 29 (v7 : Int32).toNatClampNeg) : Int32).toInt64) → (∀ x54 : Int32, x54 = v7 + 1 → wp_X8_digestOfEnd_53a K n x53 x54 s)))))
def wp_X8_digestOfEnd_20a (K : Int64 → tm_St → Prop) : Nat → Int64 → Int32 → tm_St → Prop
  | 0, _, _, _ => False
  | n + 1, v5, v7, s => (((16 : Int32) ≤ v7 → ∃ nf : Nat, wp_X8_digestOfEnd_53a K nf v5 0 s) ∧ (¬ (16 : Int32) ≤ v7 → (wp_X3_fact v7 (tm_pj [22, 23, 24, 25, 26, 27, 28, 29, 3, 4, 5, 6, 7, 8, 9, 10, 11, 12, 13, 4, 9] s) (fun r55 u57 => ∀ s56 : tm_St, s56 = tm_pk [22, 23, 24, 25, 26, 27, 28, 29, 3, 4, 5, 6, 7, 8, 9, 10, 11, 12, 13] s u57 → (∀ x58 : Int64, x58 = ((31 * v5) + r55.toInt64) → (∀ x59 : Int32, x59 = v7 + 1 → wp_X8_digestOfEnd_20a K n x58 x59 s56))))))
def wp_X8_digestOfEnd (p0 : Int32) (p1 : Int64) (s0 : tm_St) (K : Int64 → tm_St → Prop) : Prop := wp_X8_modemAt p0 (fun k3 => (k3 = 0 → ∃ nf : Nat, wp_X8_digestOfEnd_20 K nf p1 0 s0) ∧ (k3 = 1 → ∃ nf : Nat, wp_X8_digestOfEnd_20a K nf p1 0 s0) ∧ (k3 = 2 → K p1 s0))
set_option maxRecDepth 100000 in
set_option maxHeartbeats 4000000 in
theorem kk_X8_digestOfEnd (l : Launch) (dC : Nat → ClassId) (dI : Nat → Nat → Nat) (cI cZ : ClassId) (a : Nat → Nat) (s0 : tm_St) (sz : Nat) (p0 : Int32) (p1 : Int64) (K : Int64 → tm_St → Prop) (hw : wp_X8_digestOfEnd p0 p1 s0 K) : Met l yX8_digestOfEnd wsX8_digestOfEnd ({ frames := 1, cells := 0, slots := 0, locals := 21 }) (va_Pc [.ref (a 0), .int p0, .long p1] (tm_Pre dC dI cI cZ (tm_wTwo cI cZ a s0) sz)) (va_Ql (fun (r : Int64) (u : tm_St) => K r u) (fun (u : tm_St) t => tm_At dC dI cI cZ (va_A (tm_wTwo cI cZ a s0) sz) (tm_wTwo cI cZ a u) t) (va_A (tm_wTwo cI cZ a s0) sz)) 0 0 (va_A (tm_wTwo cI cZ a s0) sz) := by
  refine Met.ofW (cc := cX8_digestOfEnd) (maxL := 8) (ret := (some .long)) (by decide +kernel) rfl ?_
  intro p e z m args below meth c z₁ B hml hv
  obtain ⟨rfl, hsz, hP, hK, hD0⟩ := hv
  have hx := B.exec
  have hb := B.bytes
  have hr := B.returns
  have hts := atoms_spec (ws := wsX8_digestOfEnd) B.pre
  have hown : z.vm.findClass RX8 = some m.cls := findClass_of_methodNamed B.named
  have hlocks := B.notSynchronized
  subst hsz
  have hD := hD0.self (sz := z.heap.size)
  generalize hAe : va_A (tm_wTwo cI cZ a s0) z.heap.size = A at hD ⊢
  have hA : ∀ q : Nat, z.heap.size ≤ q → A q := fun q h => by rw [← hAe]; exact Or.inr h
  have hS : va_S A z.heap z.heap [] := va_S.rf
  have h_f72 := hts (.fieldLink RX8 72 "TwoModems$Modem" "mail" "LTwoModems$Mail;") (by decide +kernel)
  have h_in3 : ∀ w ∈ u_ws RX3 TX3 20, w ∈ wsX8_digestOfEnd := by decide +kernel
  have h_f119 := hts (.fieldLink RX8 119 "TwoModems$Mail" "taken" "I") (by decide +kernel)
  have h_in2 : ∀ w ∈ u_ws RX2 TX2 8, w ∈ wsX8_digestOfEnd := by decide +kernel
  have h_c160 := hts (.constantLong RX8 160 (31)) (by decide +kernel)
  have h_f125 := hts (.fieldLink RX8 125 "TwoModems$Modem" "in" "LTwoModems$Way;") (by decide +kernel)
  have h_f128 := hts (.fieldLink RX8 128 "TwoModems$Way" "latest" "[I") (by decide +kernel)
  have h_in7 : ∀ w ∈ u_ws RX7 TX7 8, w ∈ wsX8_digestOfEnd := by decide +kernel
  have h_f86 := hts (.fieldLink RX8 86 "TwoModems$Modem" "echo" "LTwoModems$Echo;") (by decide +kernel)
  have h_f90 := hts (.fieldLink RX8 90 "TwoModems$Echo" "taps" "[I") (by decide +kernel)
  have h_in0 : ∀ w ∈ u_ws RX0 TX0 2, w ∈ wsX8_digestOfEnd := by decide +kernel
  have h_f116 := hts (.fieldLink RX8 116 "TwoModems$Echo" "learnt" "[I") (by decide +kernel)
  have h_f113 := hts (.fieldLink RX8 113 "TwoModems$Modem" "noted" "[I") (by decide +kernel)
  have b195 : ∀ (n : Nat) (v5 : Int64) (v7 : Int32) (s : tm_St) (H : Heap) (locs : List Loc) (ls : Array Slot), wp_X8_digestOfEnd_195 K n v5 v7 s → va_P (dC, dI) vwCl (tm_wTwo cI cZ a s) H → va_D A (tm_wTwo cI cZ a s) → va_S A z.heap H locs → lv_has ls 8 [(4, .ref (a 14)), (5, .long v5), (7, .int v7)] → W p l e (headSpec wsX8_digestOfEnd ({ frames := 1, cells := 0, slots := 0, locals := 21 })).room z m (([.ref (a 0), .int p0, .long p1] : List Value).toArray) below meth c H locs 0 0 (MQ below (va_Ql (fun (r : Int64) (u : tm_St) => K r u) (fun (u : tm_St) t => tm_At dC dI cI cZ A (tm_wTwo cI cZ a u) t) A) (([.ref (a 0), .int p0, .long p1] : List Value).toArray) z 0 0 A) (F0 m 195 ls []) := by
    intro n
    induction n with
    | zero => intro v5 v7 s H locs ls hw hP hD hS hl; unfold wp_X8_digestOfEnd_195 at hw; exact hw.elim
    | succ n ih =>
      intro v5 v7 s H locs ls hw hP hD hS hl
      unfold wp_X8_digestOfEnd_195 at hw
      refine lv_iload hx hb dX8_digestOfEnd_195 (lv_at hl 2 rfl) ?_
      refine lv_aload hx hb dX8_digestOfEnd_197 (lv_at hl 0 rfl) ?_
      refine va_get (D := (dC, dI)) (ci := 3) (v := .ref (a 18)) (C := RX3) (T := TX3) (N := 20) hx hb hts h_in3 hown hK hP 14 rfl rfl 4 (by decide) h_f72 (fun _ h9 => h9) rfl dX8_digestOfEnd_199 ?_
      refine va_get (D := (dC, dI)) (ci := 2) (v := .int (s 18 3)) (C := RX2) (T := TX2) (N := 8) hx hb hts h_in2 hown hK hP 18 rfl rfl 3 (by decide) h_f119 (fun _ h9 => h9) rfl dX8_digestOfEnd_202 ?_
      refine lv_icmp_ge (tgt := 234) hx hb dX8_digestOfEnd_205 (by decide) (fun c9 => ?_) (fun c9 => ?_)
      · have hw := hw.1 c9
        refine lv_lload hx hb dX8_digestOfEnd_234 (lv_at hl 1 rfl) ?_
        exact W.lret (v := v5) hx hb hr (fun t ht hW => ⟨⟨v5, s, rfl, hw, by rw [ht]; exact hP, va_K.moved hW.alike hK, hD⟩, hS.F ht⟩) hS.2.2 dX8_digestOfEnd_236
      · have hw := hw.2 c9
        refine lv_ldc2 (v := 31) hx hb hown h_c160 dX8_digestOfEnd_208 ?_
        refine lv_lload hx hb dX8_digestOfEnd_211 (lv_at hl 1 rfl) ?_
        refine lv_lmul hx hb dX8_digestOfEnd_213 ?_
        refine lv_aload hx hb dX8_digestOfEnd_214 (lv_at hl 0 rfl) ?_
        refine va_get (D := (dC, dI)) (ci := 3) (v := .ref (a 18)) (C := RX3) (T := TX3) (N := 20) hx hb hts h_in3 hown hK hP 14 rfl rfl 4 (by decide) h_f72 (fun _ h9 => h9) rfl dX8_digestOfEnd_216 ?_
        refine lv_iload hx hb dX8_digestOfEnd_219 (lv_at hl 2 rfl) ?_
        have hPc := hP.sub (ws' := (tm_wMail cI cZ (tm_pj [18, 19, 20] a) (tm_pj [18, 19, 20] s))) [18, 19, 20] rfl
        have hDc := hD.sub (ws' := (tm_wMail cI cZ (tm_pj [18, 19, 20] a) (tm_pj [18, 19, 20] s))) [18, 19, 20] (by decide) rfl
        have hFc := va_free (wc := (tm_wMail cI cZ (tm_pj [18, 19, 20] a) (tm_pj [18, 19, 20] s))) hD hS hA [18, 19, 20] rfl
        refine va_calli (va_runV (As := [.int v7]) (rest := [.long (31 * v5)]) ⟨hx, hb, hml, hown, hts⟩ (kk_X2_takenAt l dC dI cI cZ (tm_pj [18, 19, 20] a) (tm_pj [18, 19, 20] s) H.size v7 _ hw) (cwV 1 hts gX8_digestOfEnd_X2_takenAt rfl rfl rfl (by decide +kernel) ⟨Nat.le_of_ble_eq_true rfl, Nat.le_of_ble_eq_true rfl⟩) ⟨tm_blind, va_recv hK hPc (ci := 2) (q0 := 0) rfl rfl, fun U hU hW => ⟨rfl, by rw [hU], by rw [hU]; exact hPc, va_K.moved hW.alike hK, hDc.weaken (fun _ _ _ _ => trivial)⟩⟩ rfl rfl hl.1 rfl (lv_room (Nat.le_of_ble_eq_true rfl)) dX8_digestOfEnd_221 ⟨Nat.zero_le _, Nat.zero_le _⟩) hS (fun q _ h => hFc q h) hFc (fun r10 u t H1 locs ht hvm hw hB hz1 hk1 hS => ?_)
        obtain ⟨hP1, hK1, hD1⟩ := hB
        rw [ht] at hP1
        obtain ⟨hP, hD⟩ := va_join (wr := ([0, 1, 2, 3, 4, 5, 6, 7, 8, 9, 10, 11, 12, 13, 14, 15, 16, 17, 21, 22, 23, 24, 25, 26, 27, 28, 29] : List Nat).filterMap (fun i => (tm_wTwo cI cZ a s)[i]?)) (w1 := (tm_wMail cI cZ (tm_pj [18, 19, 20] a) u)) hP hD [18, 19, 20] [0, 1, 2, 3, 4, 5, 6, 7, 8, 9, 10, 11, 12, 13, 14, 15, 16, 17, 21, 22, 23, 24, 25, 26, 27, 28, 29] rfl rfl (by decide) (by decide) hk1 hFc hP1 hD1
        generalize H1 = H at hP hS ⊢
        obtain ⟨s11, es11⟩ : ∃ y : tm_St, y = tm_pk [18, 19, 20] s u := ⟨_, rfl⟩
        have hw := hw s11 es11
        have hP : va_P (dC, dI) vwCl (tm_wTwo cI cZ a s11) H := by rw [es11]; exact hP.sub [0, 1, 2, 3, 4, 5, 6, 7, 8, 9, 10, 11, 12, 13, 14, 15, 16, 17, 27, 28, 29, 18, 19, 20, 21, 22, 23, 24, 25, 26] rfl
        have hD : va_D A (tm_wTwo cI cZ a s11) := by rw [es11]; exact hD.sub [0, 1, 2, 3, 4, 5, 6, 7, 8, 9, 10, 11, 12, 13, 14, 15, 16, 17, 27, 28, 29, 18, 19, 20, 21, 22, 23, 24, 25, 26] (by decide) rfl
        refine lv_i2l hx hb dX8_digestOfEnd_224 rfl ?_
        refine lv_ladd hx hb dX8_digestOfEnd_225 ?_
        refine lv_topl (fun x13 ex13 => ?_)
        have hw := hw x13 ex13
        refine lv_lstore (lv' := [(5, .long x13), (4, .ref (a 14)), (7, .int v7)]) hx hb dX8_digestOfEnd_226 hl (by decide) rfl (fun ls hl => ?_)
        obtain ⟨x14, ex14⟩ : ∃ y : Int32, y = v7 + 1 := ⟨_, rfl⟩
        have hw := hw x14 ex14
        refine lv_iinc (v := x14) (lv' := [(7, .int x14), (5, .long x13), (4, .ref (a 14))]) hx hb dX8_digestOfEnd_228 hl (k := 2) rfl (by rw [ex14]; rfl) (by decide) rfl (fun ls hl => ?_)
        refine lv_goto (tgt := 195) hx hb dX8_digestOfEnd_231 (by decide) ?_
        exact ih x13 x14 s11 _ _ _ hw hP hD hS (lv_sub hl [2, 1, 0] rfl)
  have b159 : ∀ (n : Nat) (v5 : Int64) (v7 : Int32) (s : tm_St) (H : Heap) (locs : List Loc) (ls : Array Slot), wp_X8_digestOfEnd_159 K n v5 v7 s → va_P (dC, dI) vwCl (tm_wTwo cI cZ a s) H → va_D A (tm_wTwo cI cZ a s) → va_S A z.heap H locs → lv_has ls 8 [(4, .ref (a 14)), (5, .long v5), (7, .int v7)] → W p l e (headSpec wsX8_digestOfEnd ({ frames := 1, cells := 0, slots := 0, locals := 21 })).room z m (([.ref (a 0), .int p0, .long p1] : List Value).toArray) below meth c H locs 0 0 (MQ below (va_Ql (fun (r : Int64) (u : tm_St) => K r u) (fun (u : tm_St) t => tm_At dC dI cI cZ A (tm_wTwo cI cZ a u) t) A) (([.ref (a 0), .int p0, .long p1] : List Value).toArray) z 0 0 A) (F0 m 159 ls []) := by
    intro n
    induction n with
    | zero => intro v5 v7 s H locs ls hw hP hD hS hl; unfold wp_X8_digestOfEnd_159 at hw; exact hw.elim
    | succ n ih =>
      intro v5 v7 s H locs ls hw hP hD hS hl
      unfold wp_X8_digestOfEnd_159 at hw
      refine lv_iload hx hb dX8_digestOfEnd_159 (lv_at hl 2 rfl) ?_
      refine lv_iconst (v := 5) hx hb dX8_digestOfEnd_161 (by decide) ?_
      refine lv_icmp_ge (tgt := 192) hx hb dX8_digestOfEnd_162 (by decide) (fun c8 => ?_) (fun c8 => ?_)
      · have hw := hw.1 c8
        refine lv_iconst (v := 0) hx hb dX8_digestOfEnd_192 (by decide) ?_
        refine lv_istore (lv' := [(7, .int 0), (4, .ref (a 14)), (5, .long v5)]) hx hb dX8_digestOfEnd_193 hl (by decide) rfl (fun ls hl => ?_)
        obtain ⟨nf, hw⟩ := hw
        exact b195 nf v5 0 s _ _ _ hw hP hD hS (lv_sub hl [1, 2, 0] rfl)
      · have hw := hw.2 c8
        refine lv_ldc2 (v := 31) hx hb hown h_c160 dX8_digestOfEnd_165 ?_
        refine lv_lload hx hb dX8_digestOfEnd_168 (lv_at hl 1 rfl) ?_
        refine lv_lmul hx hb dX8_digestOfEnd_170 ?_
        refine lv_aload hx hb dX8_digestOfEnd_171 (lv_at hl 0 rfl) ?_
        refine va_get (D := (dC, dI)) (ci := 3) (v := .ref (a 9)) (C := RX3) (T := TX3) (N := 20) hx hb hts h_in3 hown hK hP 14 rfl rfl 1 (by decide) h_f125 (fun _ h9 => h9) rfl dX8_digestOfEnd_173 ?_
        refine va_get (D := (dC, dI)) (ci := 5) (v := .ref (a 11)) (C := RX7) (T := TX7) (N := 8) hx hb hts h_in7 hown hK hP 9 rfl rfl 1 (by decide) h_f128 (fun _ h9 => h9) rfl dX8_digestOfEnd_176 ?_
        refine lv_iload hx hb dX8_digestOfEnd_179 (lv_at hl 2 rfl) ?_
        have c15 := hw.1
        have hw := hw.2
        refine va_iald hx hb hK hP 11 0 rfl rfl c15 dX8_digestOfEnd_181 ?_
        refine lv_i2l hx hb dX8_digestOfEnd_182 rfl ?_
        refine lv_ladd hx hb dX8_digestOfEnd_183 ?_
        refine lv_topl (fun x16 ex16 => ?_)
        have hw := hw x16 ex16
        refine lv_lstore (lv' := [(5, .long x16), (4, .ref (a 14)), (7, .int v7)]) hx hb dX8_digestOfEnd_184 hl (by decide) rfl (fun ls hl => ?_)
        obtain ⟨x17, ex17⟩ : ∃ y : Int32, y = v7 + 1 := ⟨_, rfl⟩
        have hw := hw x17 ex17
        refine lv_iinc (v := x17) (lv' := [(7, .int x17), (5, .long x16), (4, .ref (a 14))]) hx hb dX8_digestOfEnd_186 hl (k := 2) rfl (by rw [ex17]; rfl) (by decide) rfl (fun ls hl => ?_)
        refine lv_goto (tgt := 159) hx hb dX8_digestOfEnd_189 (by decide) ?_
        exact ih x16 x17 s _ _ _ hw hP hD hS (lv_sub hl [2, 1, 0] rfl)
  have b123 : ∀ (n : Nat) (v5 : Int64) (v7 : Int32) (s : tm_St) (H : Heap) (locs : List Loc) (ls : Array Slot), wp_X8_digestOfEnd_123 K n v5 v7 s → va_P (dC, dI) vwCl (tm_wTwo cI cZ a s) H → va_D A (tm_wTwo cI cZ a s) → va_S A z.heap H locs → lv_has ls 8 [(4, .ref (a 14)), (5, .long v5), (7, .int v7)] → W p l e (headSpec wsX8_digestOfEnd ({ frames := 1, cells := 0, slots := 0, locals := 21 })).room z m (([.ref (a 0), .int p0, .long p1] : List Value).toArray) below meth c H locs 0 0 (MQ below (va_Ql (fun (r : Int64) (u : tm_St) => K r u) (fun (u : tm_St) t => tm_At dC dI cI cZ A (tm_wTwo cI cZ a u) t) A) (([.ref (a 0), .int p0, .long p1] : List Value).toArray) z 0 0 A) (F0 m 123 ls []) := by
    intro n
    induction n with
    | zero => intro v5 v7 s H locs ls hw hP hD hS hl; unfold wp_X8_digestOfEnd_123 at hw; exact hw.elim
    | succ n ih =>
      intro v5 v7 s H locs ls hw hP hD hS hl
      unfold wp_X8_digestOfEnd_123 at hw
      refine lv_iload hx hb dX8_digestOfEnd_123 (lv_at hl 2 rfl) ?_
      refine lv_iconst (v := 4) hx hb dX8_digestOfEnd_125 (by decide) ?_
      refine lv_icmp_ge (tgt := 156) hx hb dX8_digestOfEnd_126 (by decide) (fun c7 => ?_) (fun c7 => ?_)
      · have hw := hw.1 c7
        refine lv_iconst (v := 0) hx hb dX8_digestOfEnd_156 (by decide) ?_
        refine lv_istore (lv' := [(7, .int 0), (4, .ref (a 14)), (5, .long v5)]) hx hb dX8_digestOfEnd_157 hl (by decide) rfl (fun ls hl => ?_)
        obtain ⟨nf, hw⟩ := hw
        exact b159 nf v5 0 s _ _ _ hw hP hD hS (lv_sub hl [1, 2, 0] rfl)
      · have hw := hw.2 c7
        refine lv_ldc2 (v := 31) hx hb hown h_c160 dX8_digestOfEnd_129 ?_
        refine lv_lload hx hb dX8_digestOfEnd_132 (lv_at hl 1 rfl) ?_
        refine lv_lmul hx hb dX8_digestOfEnd_134 ?_
        refine lv_aload hx hb dX8_digestOfEnd_135 (lv_at hl 0 rfl) ?_
        refine va_get (D := (dC, dI)) (ci := 3) (v := .ref (a 15)) (C := RX3) (T := TX3) (N := 20) hx hb hts h_in3 hown hK hP 14 rfl rfl 3 (by decide) h_f86 (fun _ h9 => h9) rfl dX8_digestOfEnd_137 ?_
        refine va_get (D := (dC, dI)) (ci := 0) (v := .ref (a 16)) (C := RX0) (T := TX0) (N := 2) hx hb hts h_in0 hown hK hP 15 rfl rfl 0 (by decide) h_f90 (fun _ h9 => h9) rfl dX8_digestOfEnd_140 ?_
        refine lv_iload hx hb dX8_digestOfEnd_143 (lv_at hl 2 rfl) ?_
        have c18 := hw.1
        have hw := hw.2
        refine va_iald hx hb hK hP 16 0 rfl rfl c18 dX8_digestOfEnd_145 ?_
        refine lv_i2l hx hb dX8_digestOfEnd_146 rfl ?_
        refine lv_ladd hx hb dX8_digestOfEnd_147 ?_
        refine lv_topl (fun x19 ex19 => ?_)
        have hw := hw x19 ex19
        refine lv_lstore (lv' := [(5, .long x19), (4, .ref (a 14)), (7, .int v7)]) hx hb dX8_digestOfEnd_148 hl (by decide) rfl (fun ls hl => ?_)
        obtain ⟨x20, ex20⟩ : ∃ y : Int32, y = v7 + 1 := ⟨_, rfl⟩
        have hw := hw x20 ex20
        refine lv_iinc (v := x20) (lv' := [(7, .int x20), (5, .long x19), (4, .ref (a 14))]) hx hb dX8_digestOfEnd_150 hl (k := 2) rfl (by rw [ex20]; rfl) (by decide) rfl (fun ls hl => ?_)
        refine lv_goto (tgt := 123) hx hb dX8_digestOfEnd_153 (by decide) ?_
        exact ih x19 x20 s _ _ _ hw hP hD hS (lv_sub hl [2, 1, 0] rfl)
  have b87 : ∀ (n : Nat) (v5 : Int64) (v7 : Int32) (s : tm_St) (H : Heap) (locs : List Loc) (ls : Array Slot), wp_X8_digestOfEnd_87 K n v5 v7 s → va_P (dC, dI) vwCl (tm_wTwo cI cZ a s) H → va_D A (tm_wTwo cI cZ a s) → va_S A z.heap H locs → lv_has ls 8 [(4, .ref (a 14)), (5, .long v5), (7, .int v7)] → W p l e (headSpec wsX8_digestOfEnd ({ frames := 1, cells := 0, slots := 0, locals := 21 })).room z m (([.ref (a 0), .int p0, .long p1] : List Value).toArray) below meth c H locs 0 0 (MQ below (va_Ql (fun (r : Int64) (u : tm_St) => K r u) (fun (u : tm_St) t => tm_At dC dI cI cZ A (tm_wTwo cI cZ a u) t) A) (([.ref (a 0), .int p0, .long p1] : List Value).toArray) z 0 0 A) (F0 m 87 ls []) := by
    intro n
    induction n with
    | zero => intro v5 v7 s H locs ls hw hP hD hS hl; unfold wp_X8_digestOfEnd_87 at hw; exact hw.elim
    | succ n ih =>
      intro v5 v7 s H locs ls hw hP hD hS hl
      unfold wp_X8_digestOfEnd_87 at hw
      refine lv_iload hx hb dX8_digestOfEnd_87 (lv_at hl 2 rfl) ?_
      refine lv_iconst (v := 4) hx hb dX8_digestOfEnd_89 (by decide) ?_
      refine lv_icmp_ge (tgt := 120) hx hb dX8_digestOfEnd_90 (by decide) (fun c6 => ?_) (fun c6 => ?_)
      · have hw := hw.1 c6
        refine lv_iconst (v := 0) hx hb dX8_digestOfEnd_120 (by decide) ?_
        refine lv_istore (lv' := [(7, .int 0), (4, .ref (a 14)), (5, .long v5)]) hx hb dX8_digestOfEnd_121 hl (by decide) rfl (fun ls hl => ?_)
        obtain ⟨nf, hw⟩ := hw
        exact b123 nf v5 0 s _ _ _ hw hP hD hS (lv_sub hl [1, 2, 0] rfl)
      · have hw := hw.2 c6
        refine lv_ldc2 (v := 31) hx hb hown h_c160 dX8_digestOfEnd_93 ?_
        refine lv_lload hx hb dX8_digestOfEnd_96 (lv_at hl 1 rfl) ?_
        refine lv_lmul hx hb dX8_digestOfEnd_98 ?_
        refine lv_aload hx hb dX8_digestOfEnd_99 (lv_at hl 0 rfl) ?_
        refine va_get (D := (dC, dI)) (ci := 3) (v := .ref (a 15)) (C := RX3) (T := TX3) (N := 20) hx hb hts h_in3 hown hK hP 14 rfl rfl 3 (by decide) h_f86 (fun _ h9 => h9) rfl dX8_digestOfEnd_101 ?_
        refine va_get (D := (dC, dI)) (ci := 0) (v := .ref (a 17)) (C := RX0) (T := TX0) (N := 2) hx hb hts h_in0 hown hK hP 15 rfl rfl 1 (by decide) h_f116 (fun _ h9 => h9) rfl dX8_digestOfEnd_104 ?_
        refine lv_iload hx hb dX8_digestOfEnd_107 (lv_at hl 2 rfl) ?_
        have c21 := hw.1
        have hw := hw.2
        refine va_iald hx hb hK hP 17 0 rfl rfl c21 dX8_digestOfEnd_109 ?_
        refine lv_i2l hx hb dX8_digestOfEnd_110 rfl ?_
        refine lv_ladd hx hb dX8_digestOfEnd_111 ?_
        refine lv_topl (fun x22 ex22 => ?_)
        have hw := hw x22 ex22
        refine lv_lstore (lv' := [(5, .long x22), (4, .ref (a 14)), (7, .int v7)]) hx hb dX8_digestOfEnd_112 hl (by decide) rfl (fun ls hl => ?_)
        obtain ⟨x23, ex23⟩ : ∃ y : Int32, y = v7 + 1 := ⟨_, rfl⟩
        have hw := hw x23 ex23
        refine lv_iinc (v := x23) (lv' := [(7, .int x23), (5, .long x22), (4, .ref (a 14))]) hx hb dX8_digestOfEnd_114 hl (k := 2) rfl (by rw [ex23]; rfl) (by decide) rfl (fun ls hl => ?_)
        refine lv_goto (tgt := 87) hx hb dX8_digestOfEnd_117 (by decide) ?_
        exact ih x22 x23 s _ _ _ hw hP hD hS (lv_sub hl [2, 1, 0] rfl)
  have b53 : ∀ (n : Nat) (v5 : Int64) (v7 : Int32) (s : tm_St) (H : Heap) (locs : List Loc) (ls : Array Slot), wp_X8_digestOfEnd_53 K n v5 v7 s → va_P (dC, dI) vwCl (tm_wTwo cI cZ a s) H → va_D A (tm_wTwo cI cZ a s) → va_S A z.heap H locs → lv_has ls 8 [(4, .ref (a 14)), (5, .long v5), (7, .int v7)] → W p l e (headSpec wsX8_digestOfEnd ({ frames := 1, cells := 0, slots := 0, locals := 21 })).room z m (([.ref (a 0), .int p0, .long p1] : List Value).toArray) below meth c H locs 0 0 (MQ below (va_Ql (fun (r : Int64) (u : tm_St) => K r u) (fun (u : tm_St) t => tm_At dC dI cI cZ A (tm_wTwo cI cZ a u) t) A) (([.ref (a 0), .int p0, .long p1] : List Value).toArray) z 0 0 A) (F0 m 53 ls []) := by
    intro n
    induction n with
    | zero => intro v5 v7 s H locs ls hw hP hD hS hl; unfold wp_X8_digestOfEnd_53 at hw; exact hw.elim
    | succ n ih =>
      intro v5 v7 s H locs ls hw hP hD hS hl
      unfold wp_X8_digestOfEnd_53 at hw
      refine lv_iload hx hb dX8_digestOfEnd_53 (lv_at hl 2 rfl) ?_
      refine lv_bipush (v := 8) hx hb dX8_digestOfEnd_55 (by decide) ?_
      refine lv_icmp_ge (tgt := 84) hx hb dX8_digestOfEnd_57 (by decide) (fun c5 => ?_) (fun c5 => ?_)
      · have hw := hw.1 c5
        refine lv_iconst (v := 0) hx hb dX8_digestOfEnd_84 (by decide) ?_
        refine lv_istore (lv' := [(7, .int 0), (4, .ref (a 14)), (5, .long v5)]) hx hb dX8_digestOfEnd_85 hl (by decide) rfl (fun ls hl => ?_)
        obtain ⟨nf, hw⟩ := hw
        exact b87 nf v5 0 s _ _ _ hw hP hD hS (lv_sub hl [1, 2, 0] rfl)
      · have hw := hw.2 c5
        refine lv_ldc2 (v := 31) hx hb hown h_c160 dX8_digestOfEnd_60 ?_
        refine lv_lload hx hb dX8_digestOfEnd_63 (lv_at hl 1 rfl) ?_
        refine lv_lmul hx hb dX8_digestOfEnd_65 ?_
        refine lv_aload hx hb dX8_digestOfEnd_66 (lv_at hl 0 rfl) ?_
        refine va_get (D := (dC, dI)) (ci := 3) (v := .ref (a 21)) (C := RX3) (T := TX3) (N := 20) hx hb hts h_in3 hown hK hP 14 rfl rfl 5 (by decide) h_f113 (fun _ h9 => h9) rfl dX8_digestOfEnd_68 ?_
        refine lv_iload hx hb dX8_digestOfEnd_71 (lv_at hl 2 rfl) ?_
        have c24 := hw.1
        have hw := hw.2
        refine va_iald hx hb hK hP 21 0 rfl rfl c24 dX8_digestOfEnd_73 ?_
        refine lv_i2l hx hb dX8_digestOfEnd_74 rfl ?_
        refine lv_ladd hx hb dX8_digestOfEnd_75 ?_
        refine lv_topl (fun x25 ex25 => ?_)
        have hw := hw x25 ex25
        refine lv_lstore (lv' := [(5, .long x25), (4, .ref (a 14)), (7, .int v7)]) hx hb dX8_digestOfEnd_76 hl (by decide) rfl (fun ls hl => ?_)
        obtain ⟨x26, ex26⟩ : ∃ y : Int32, y = v7 + 1 := ⟨_, rfl⟩
        have hw := hw x26 ex26
        refine lv_iinc (v := x26) (lv' := [(7, .int x26), (5, .long x25), (4, .ref (a 14))]) hx hb dX8_digestOfEnd_78 hl (k := 2) rfl (by rw [ex26]; rfl) (by decide) rfl (fun ls hl => ?_)
        refine lv_goto (tgt := 53) hx hb dX8_digestOfEnd_81 (by decide) ?_
        exact ih x25 x26 s _ _ _ hw hP hD hS (lv_sub hl [2, 1, 0] rfl)
  have b20 : ∀ (n : Nat) (v5 : Int64) (v7 : Int32) (s : tm_St) (H : Heap) (locs : List Loc) (ls : Array Slot), wp_X8_digestOfEnd_20 K n v5 v7 s → va_P (dC, dI) vwCl (tm_wTwo cI cZ a s) H → va_D A (tm_wTwo cI cZ a s) → va_S A z.heap H locs → lv_has ls 8 [(4, .ref (a 14)), (5, .long v5), (7, .int v7)] → W p l e (headSpec wsX8_digestOfEnd ({ frames := 1, cells := 0, slots := 0, locals := 21 })).room z m (([.ref (a 0), .int p0, .long p1] : List Value).toArray) below meth c H locs 0 0 (MQ below (va_Ql (fun (r : Int64) (u : tm_St) => K r u) (fun (u : tm_St) t => tm_At dC dI cI cZ A (tm_wTwo cI cZ a u) t) A) (([.ref (a 0), .int p0, .long p1] : List Value).toArray) z 0 0 A) (F0 m 20 ls []) := by
    intro n
    induction n with
    | zero => intro v5 v7 s H locs ls hw hP hD hS hl; unfold wp_X8_digestOfEnd_20 at hw; exact hw.elim
    | succ n ih =>
      intro v5 v7 s H locs ls hw hP hD hS hl
      unfold wp_X8_digestOfEnd_20 at hw
      refine lv_iload hx hb dX8_digestOfEnd_20 (lv_at hl 2 rfl) ?_
      refine lv_bipush (v := 16) hx hb dX8_digestOfEnd_22 (by decide) ?_
      refine lv_icmp_ge (tgt := 50) hx hb dX8_digestOfEnd_24 (by decide) (fun c4 => ?_) (fun c4 => ?_)
      · have hw := hw.1 c4
        refine lv_iconst (v := 0) hx hb dX8_digestOfEnd_50 (by decide) ?_
        refine lv_istore (lv' := [(7, .int 0), (4, .ref (a 14)), (5, .long v5)]) hx hb dX8_digestOfEnd_51 hl (by decide) rfl (fun ls hl => ?_)
        obtain ⟨nf, hw⟩ := hw
        exact b53 nf v5 0 s _ _ _ hw hP hD hS (lv_sub hl [1, 2, 0] rfl)
      · have hw := hw.2 c4
        refine lv_ldc2 (v := 31) hx hb hown h_c160 dX8_digestOfEnd_27 ?_
        refine lv_lload hx hb dX8_digestOfEnd_30 (lv_at hl 1 rfl) ?_
        refine lv_lmul hx hb dX8_digestOfEnd_32 ?_
        refine lv_aload hx hb dX8_digestOfEnd_33 (lv_at hl 0 rfl) ?_
        refine lv_iload hx hb dX8_digestOfEnd_35 (lv_at hl 2 rfl) ?_
        have hPc := hP.sub (ws' := (tm_wModem cI cZ (tm_pj [14, 15, 16, 17, 18, 19, 20, 21, 3, 9, 10, 11, 12, 13, 4, 5, 6, 7, 8, 4, 9] a) (tm_pj [14, 15, 16, 17, 18, 19, 20, 21, 3, 9, 10, 11, 12, 13, 4, 5, 6, 7, 8, 4, 9] s))) [14, 15, 16, 17, 18, 19, 20, 21, 3, 9, 10, 11, 12, 13, 4, 5, 6, 7, 8] rfl
        have hDc := hD.sub (ws' := (tm_wModem cI cZ (tm_pj [14, 15, 16, 17, 18, 19, 20, 21, 3, 9, 10, 11, 12, 13, 4, 5, 6, 7, 8, 4, 9] a) (tm_pj [14, 15, 16, 17, 18, 19, 20, 21, 3, 9, 10, 11, 12, 13, 4, 5, 6, 7, 8, 4, 9] s))) [14, 15, 16, 17, 18, 19, 20, 21, 3, 9, 10, 11, 12, 13, 4, 5, 6, 7, 8] (by decide) rfl
        have hFc := va_free (wc := (tm_wModem cI cZ (tm_pj [14, 15, 16, 17, 18, 19, 20, 21, 3, 9, 10, 11, 12, 13, 4, 5, 6, 7, 8, 4, 9] a) (tm_pj [14, 15, 16, 17, 18, 19, 20, 21, 3, 9, 10, 11, 12, 13, 4, 5, 6, 7, 8, 4, 9] s))) hD hS hA [14, 15, 16, 17, 18, 19, 20, 21, 3, 9, 10, 11, 12, 13, 4, 5, 6, 7, 8] rfl
        refine va_calli (va_runV (As := [.int v7]) (rest := [.long (31 * v5)]) ⟨hx, hb, hml, hown, hts⟩ (kk_X3_fact l dC dI cI cZ (tm_pj [14, 15, 16, 17, 18, 19, 20, 21, 3, 9, 10, 11, 12, 13, 4, 5, 6, 7, 8, 4, 9] a) (tm_pj [14, 15, 16, 17, 18, 19, 20, 21, 3, 9, 10, 11, 12, 13, 4, 5, 6, 7, 8, 4, 9] s) H.size v7 _ hw) (cwV 1 hts gX8_digestOfEnd_X3_fact rfl rfl rfl (by decide +kernel) ⟨Nat.le_of_ble_eq_true rfl, Nat.le_of_ble_eq_true rfl⟩) ⟨tm_blind, va_recv hK hPc (ci := 3) (q0 := 0) rfl rfl, fun U hU hW => ⟨rfl, by rw [hU], by rw [hU]; exact hPc, va_K.moved hW.alike hK, hDc.weaken (fun _ _ _ _ => trivial)⟩⟩ rfl rfl hl.1 rfl (lv_room (Nat.le_of_ble_eq_true rfl)) dX8_digestOfEnd_37 ⟨Nat.zero_le _, Nat.zero_le _⟩) hS (fun q _ h => hFc q h) hFc (fun r27 u t H1 locs ht hvm hw hB hz1 hk1 hS => ?_)
        obtain ⟨hP1, hK1, hD1⟩ := hB
        rw [ht] at hP1
        obtain ⟨hP, hD⟩ := va_join (wr := ([0, 1, 2, 22, 23, 24, 25, 26, 27, 28, 29] : List Nat).filterMap (fun i => (tm_wTwo cI cZ a s)[i]?)) (w1 := (tm_wModem cI cZ (tm_pj [14, 15, 16, 17, 18, 19, 20, 21, 3, 9, 10, 11, 12, 13, 4, 5, 6, 7, 8, 4, 9] a) u)) hP hD [14, 15, 16, 17, 18, 19, 20, 21, 3, 9, 10, 11, 12, 13, 4, 5, 6, 7, 8] [0, 1, 2, 22, 23, 24, 25, 26, 27, 28, 29] rfl rfl (by decide) (by decide) hk1 hFc hP1 hD1
        generalize H1 = H at hP hS ⊢
        obtain ⟨s28, es28⟩ : ∃ y : tm_St, y = tm_pk [14, 15, 16, 17, 18, 19, 20, 21, 3, 9, 10, 11, 12, 13, 4, 5, 6, 7, 8] s u := ⟨_, rfl⟩
        have hw := hw s28 es28
        have hP : va_P (dC, dI) vwCl (tm_wTwo cI cZ a s28) H := by rw [es28]; exact hP.sub [0, 1, 2, 19, 25, 26, 27, 28, 29, 20, 21, 22, 23, 24, 11, 12, 13, 14, 15, 16, 17, 18, 3, 4, 5, 6, 7, 8, 9, 10] rfl
        have hD : va_D A (tm_wTwo cI cZ a s28) := by rw [es28]; exact hD.sub [0, 1, 2, 19, 25, 26, 27, 28, 29, 20, 21, 22, 23, 24, 11, 12, 13, 14, 15, 16, 17, 18, 3, 4, 5, 6, 7, 8, 9, 10] (by decide) rfl
        refine lv_i2l hx hb dX8_digestOfEnd_40 rfl ?_
        refine lv_ladd hx hb dX8_digestOfEnd_41 ?_
        refine lv_topl (fun x30 ex30 => ?_)
        have hw := hw x30 ex30
        refine lv_lstore (lv' := [(5, .long x30), (4, .ref (a 14)), (7, .int v7)]) hx hb dX8_digestOfEnd_42 hl (by decide) rfl (fun ls hl => ?_)
        obtain ⟨x31, ex31⟩ : ∃ y : Int32, y = v7 + 1 := ⟨_, rfl⟩
        have hw := hw x31 ex31
        refine lv_iinc (v := x31) (lv' := [(7, .int x31), (5, .long x30), (4, .ref (a 14))]) hx hb dX8_digestOfEnd_44 hl (k := 2) rfl (by rw [ex31]; rfl) (by decide) rfl (fun ls hl => ?_)
        refine lv_goto (tgt := 20) hx hb dX8_digestOfEnd_47 (by decide) ?_
        exact ih x30 x31 s28 _ _ _ hw hP hD hS (lv_sub hl [2, 1, 0] rfl)
  have b195a : ∀ (n : Nat) (v5 : Int64) (v7 : Int32) (s : tm_St) (H : Heap) (locs : List Loc) (ls : Array Slot), wp_X8_digestOfEnd_195a K n v5 v7 s → va_P (dC, dI) vwCl (tm_wTwo cI cZ a s) H → va_D A (tm_wTwo cI cZ a s) → va_S A z.heap H locs → lv_has ls 8 [(4, .ref (a 22)), (5, .long v5), (7, .int v7)] → W p l e (headSpec wsX8_digestOfEnd ({ frames := 1, cells := 0, slots := 0, locals := 21 })).room z m (([.ref (a 0), .int p0, .long p1] : List Value).toArray) below meth c H locs 0 0 (MQ below (va_Ql (fun (r : Int64) (u : tm_St) => K r u) (fun (u : tm_St) t => tm_At dC dI cI cZ A (tm_wTwo cI cZ a u) t) A) (([.ref (a 0), .int p0, .long p1] : List Value).toArray) z 0 0 A) (F0 m 195 ls []) := by
    intro n
    induction n with
    | zero => intro v5 v7 s H locs ls hw hP hD hS hl; unfold wp_X8_digestOfEnd_195a at hw; exact hw.elim
    | succ n ih =>
      intro v5 v7 s H locs ls hw hP hD hS hl
      unfold wp_X8_digestOfEnd_195a at hw
      refine lv_iload hx hb dX8_digestOfEnd_195 (lv_at hl 2 rfl) ?_
      refine lv_aload hx hb dX8_digestOfEnd_197 (lv_at hl 0 rfl) ?_
      refine va_get (D := (dC, dI)) (ci := 3) (v := .ref (a 26)) (C := RX3) (T := TX3) (N := 20) hx hb hts h_in3 hown hK hP 22 rfl rfl 4 (by decide) h_f72 (fun _ h9 => h9) rfl dX8_digestOfEnd_199 ?_
      refine va_get (D := (dC, dI)) (ci := 2) (v := .int (s 26 3)) (C := RX2) (T := TX2) (N := 8) hx hb hts h_in2 hown hK hP 26 rfl rfl 3 (by decide) h_f119 (fun _ h9 => h9) rfl dX8_digestOfEnd_202 ?_
      refine lv_icmp_ge (tgt := 234) hx hb dX8_digestOfEnd_205 (by decide) (fun c37 => ?_) (fun c37 => ?_)
      · have hw := hw.1 c37
        refine lv_lload hx hb dX8_digestOfEnd_234 (lv_at hl 1 rfl) ?_
        exact W.lret (v := v5) hx hb hr (fun t ht hW => ⟨⟨v5, s, rfl, hw, by rw [ht]; exact hP, va_K.moved hW.alike hK, hD⟩, hS.F ht⟩) hS.2.2 dX8_digestOfEnd_236
      · have hw := hw.2 c37
        refine lv_ldc2 (v := 31) hx hb hown h_c160 dX8_digestOfEnd_208 ?_
        refine lv_lload hx hb dX8_digestOfEnd_211 (lv_at hl 1 rfl) ?_
        refine lv_lmul hx hb dX8_digestOfEnd_213 ?_
        refine lv_aload hx hb dX8_digestOfEnd_214 (lv_at hl 0 rfl) ?_
        refine va_get (D := (dC, dI)) (ci := 3) (v := .ref (a 26)) (C := RX3) (T := TX3) (N := 20) hx hb hts h_in3 hown hK hP 22 rfl rfl 4 (by decide) h_f72 (fun _ h9 => h9) rfl dX8_digestOfEnd_216 ?_
        refine lv_iload hx hb dX8_digestOfEnd_219 (lv_at hl 2 rfl) ?_
        have hPc := hP.sub (ws' := (tm_wMail cI cZ (tm_pj [26, 27, 28] a) (tm_pj [26, 27, 28] s))) [26, 27, 28] rfl
        have hDc := hD.sub (ws' := (tm_wMail cI cZ (tm_pj [26, 27, 28] a) (tm_pj [26, 27, 28] s))) [26, 27, 28] (by decide) rfl
        have hFc := va_free (wc := (tm_wMail cI cZ (tm_pj [26, 27, 28] a) (tm_pj [26, 27, 28] s))) hD hS hA [26, 27, 28] rfl
        refine va_calli (va_runV (As := [.int v7]) (rest := [.long (31 * v5)]) ⟨hx, hb, hml, hown, hts⟩ (kk_X2_takenAt l dC dI cI cZ (tm_pj [26, 27, 28] a) (tm_pj [26, 27, 28] s) H.size v7 _ hw) (cwV 1 hts gX8_digestOfEnd_X2_takenAt rfl rfl rfl (by decide +kernel) ⟨Nat.le_of_ble_eq_true rfl, Nat.le_of_ble_eq_true rfl⟩) ⟨tm_blind, va_recv hK hPc (ci := 2) (q0 := 0) rfl rfl, fun U hU hW => ⟨rfl, by rw [hU], by rw [hU]; exact hPc, va_K.moved hW.alike hK, hDc.weaken (fun _ _ _ _ => trivial)⟩⟩ rfl rfl hl.1 rfl (lv_room (Nat.le_of_ble_eq_true rfl)) dX8_digestOfEnd_221 ⟨Nat.zero_le _, Nat.zero_le _⟩) hS (fun q _ h => hFc q h) hFc (fun r38 u t H1 locs ht hvm hw hB hz1 hk1 hS => ?_)
        obtain ⟨hP1, hK1, hD1⟩ := hB
        rw [ht] at hP1
        obtain ⟨hP, hD⟩ := va_join (wr := ([0, 1, 2, 3, 4, 5, 6, 7, 8, 9, 10, 11, 12, 13, 14, 15, 16, 17, 18, 19, 20, 21, 22, 23, 24, 25, 29] : List Nat).filterMap (fun i => (tm_wTwo cI cZ a s)[i]?)) (w1 := (tm_wMail cI cZ (tm_pj [26, 27, 28] a) u)) hP hD [26, 27, 28] [0, 1, 2, 3, 4, 5, 6, 7, 8, 9, 10, 11, 12, 13, 14, 15, 16, 17, 18, 19, 20, 21, 22, 23, 24, 25, 29] rfl rfl (by decide) (by decide) hk1 hFc hP1 hD1
        generalize H1 = H at hP hS ⊢
        obtain ⟨s39, es39⟩ : ∃ y : tm_St, y = tm_pk [26, 27, 28] s u := ⟨_, rfl⟩
        have hw := hw s39 es39
        have hP : va_P (dC, dI) vwCl (tm_wTwo cI cZ a s39) H := by rw [es39]; exact hP.sub [0, 1, 2, 3, 4, 5, 6, 7, 8, 9, 10, 11, 12, 13, 14, 15, 16, 17, 18, 19, 20, 21, 22, 23, 24, 25, 27, 28, 29, 26] rfl
        have hD : va_D A (tm_wTwo cI cZ a s39) := by rw [es39]; exact hD.sub [0, 1, 2, 3, 4, 5, 6, 7, 8, 9, 10, 11, 12, 13, 14, 15, 16, 17, 18, 19, 20, 21, 22, 23, 24, 25, 27, 28, 29, 26] (by decide) rfl
        refine lv_i2l hx hb dX8_digestOfEnd_224 rfl ?_
        refine lv_ladd hx hb dX8_digestOfEnd_225 ?_
        refine lv_topl (fun x41 ex41 => ?_)
        have hw := hw x41 ex41
        refine lv_lstore (lv' := [(5, .long x41), (4, .ref (a 22)), (7, .int v7)]) hx hb dX8_digestOfEnd_226 hl (by decide) rfl (fun ls hl => ?_)
        obtain ⟨x42, ex42⟩ : ∃ y : Int32, y = v7 + 1 := ⟨_, rfl⟩
        have hw := hw x42 ex42
        refine lv_iinc (v := x42) (lv' := [(7, .int x42), (5, .long x41), (4, .ref (a 22))]) hx hb dX8_digestOfEnd_228 hl (k := 2) rfl (by rw [ex42]; rfl) (by decide) rfl (fun ls hl => ?_)
        refine lv_goto (tgt := 195) hx hb dX8_digestOfEnd_231 (by decide) ?_
        exact ih x41 x42 s39 _ _ _ hw hP hD hS (lv_sub hl [2, 1, 0] rfl)
  have b159a : ∀ (n : Nat) (v5 : Int64) (v7 : Int32) (s : tm_St) (H : Heap) (locs : List Loc) (ls : Array Slot), wp_X8_digestOfEnd_159a K n v5 v7 s → va_P (dC, dI) vwCl (tm_wTwo cI cZ a s) H → va_D A (tm_wTwo cI cZ a s) → va_S A z.heap H locs → lv_has ls 8 [(4, .ref (a 22)), (5, .long v5), (7, .int v7)] → W p l e (headSpec wsX8_digestOfEnd ({ frames := 1, cells := 0, slots := 0, locals := 21 })).room z m (([.ref (a 0), .int p0, .long p1] : List Value).toArray) below meth c H locs 0 0 (MQ below (va_Ql (fun (r : Int64) (u : tm_St) => K r u) (fun (u : tm_St) t => tm_At dC dI cI cZ A (tm_wTwo cI cZ a u) t) A) (([.ref (a 0), .int p0, .long p1] : List Value).toArray) z 0 0 A) (F0 m 159 ls []) := by
    intro n
    induction n with
    | zero => intro v5 v7 s H locs ls hw hP hD hS hl; unfold wp_X8_digestOfEnd_159a at hw; exact hw.elim
    | succ n ih =>
      intro v5 v7 s H locs ls hw hP hD hS hl
      unfold wp_X8_digestOfEnd_159a at hw
      refine lv_iload hx hb dX8_digestOfEnd_159 (lv_at hl 2 rfl) ?_
      refine lv_iconst (v := 5) hx hb dX8_digestOfEnd_161 (by decide) ?_
      refine lv_icmp_ge (tgt := 192) hx hb dX8_digestOfEnd_162 (by decide) (fun c36 => ?_) (fun c36 => ?_)
      · have hw := hw.1 c36
        refine lv_iconst (v := 0) hx hb dX8_digestOfEnd_192 (by decide) ?_
        refine lv_istore (lv' := [(7, .int 0), (4, .ref (a 22)), (5, .long v5)]) hx hb dX8_digestOfEnd_193 hl (by decide) rfl (fun ls hl => ?_)
        obtain ⟨nf, hw⟩ := hw
        exact b195a nf v5 0 s _ _ _ hw hP hD hS (lv_sub hl [1, 2, 0] rfl)
      · have hw := hw.2 c36
        refine lv_ldc2 (v := 31) hx hb hown h_c160 dX8_digestOfEnd_165 ?_
        refine lv_lload hx hb dX8_digestOfEnd_168 (lv_at hl 1 rfl) ?_
        refine lv_lmul hx hb dX8_digestOfEnd_170 ?_
        refine lv_aload hx hb dX8_digestOfEnd_171 (lv_at hl 0 rfl) ?_
        refine va_get (D := (dC, dI)) (ci := 3) (v := .ref (a 4)) (C := RX3) (T := TX3) (N := 20) hx hb hts h_in3 hown hK hP 22 rfl rfl 1 (by decide) h_f125 (fun _ h9 => h9) rfl dX8_digestOfEnd_173 ?_
        refine va_get (D := (dC, dI)) (ci := 5) (v := .ref (a 6)) (C := RX7) (T := TX7) (N := 8) hx hb hts h_in7 hown hK hP 4 rfl rfl 1 (by decide) h_f128 (fun _ h9 => h9) rfl dX8_digestOfEnd_176 ?_
        refine lv_iload hx hb dX8_digestOfEnd_179 (lv_at hl 2 rfl) ?_
        have c43 := hw.1
        have hw := hw.2
        refine va_iald hx hb hK hP 6 0 rfl rfl c43 dX8_digestOfEnd_181 ?_
        refine lv_i2l hx hb dX8_digestOfEnd_182 rfl ?_
        refine lv_ladd hx hb dX8_digestOfEnd_183 ?_
        refine lv_topl (fun x44 ex44 => ?_)
        have hw := hw x44 ex44
        refine lv_lstore (lv' := [(5, .long x44), (4, .ref (a 22)), (7, .int v7)]) hx hb dX8_digestOfEnd_184 hl (by decide) rfl (fun ls hl => ?_)
        obtain ⟨x45, ex45⟩ : ∃ y : Int32, y = v7 + 1 := ⟨_, rfl⟩
        have hw := hw x45 ex45
        refine lv_iinc (v := x45) (lv' := [(7, .int x45), (5, .long x44), (4, .ref (a 22))]) hx hb dX8_digestOfEnd_186 hl (k := 2) rfl (by rw [ex45]; rfl) (by decide) rfl (fun ls hl => ?_)
        refine lv_goto (tgt := 159) hx hb dX8_digestOfEnd_189 (by decide) ?_
        exact ih x44 x45 s _ _ _ hw hP hD hS (lv_sub hl [2, 1, 0] rfl)
  have b123a : ∀ (n : Nat) (v5 : Int64) (v7 : Int32) (s : tm_St) (H : Heap) (locs : List Loc) (ls : Array Slot), wp_X8_digestOfEnd_123a K n v5 v7 s → va_P (dC, dI) vwCl (tm_wTwo cI cZ a s) H → va_D A (tm_wTwo cI cZ a s) → va_S A z.heap H locs → lv_has ls 8 [(4, .ref (a 22)), (5, .long v5), (7, .int v7)] → W p l e (headSpec wsX8_digestOfEnd ({ frames := 1, cells := 0, slots := 0, locals := 21 })).room z m (([.ref (a 0), .int p0, .long p1] : List Value).toArray) below meth c H locs 0 0 (MQ below (va_Ql (fun (r : Int64) (u : tm_St) => K r u) (fun (u : tm_St) t => tm_At dC dI cI cZ A (tm_wTwo cI cZ a u) t) A) (([.ref (a 0), .int p0, .long p1] : List Value).toArray) z 0 0 A) (F0 m 123 ls []) := by
    intro n
    induction n with
    | zero => intro v5 v7 s H locs ls hw hP hD hS hl; unfold wp_X8_digestOfEnd_123a at hw; exact hw.elim
    | succ n ih =>
      intro v5 v7 s H locs ls hw hP hD hS hl
      unfold wp_X8_digestOfEnd_123a at hw
      refine lv_iload hx hb dX8_digestOfEnd_123 (lv_at hl 2 rfl) ?_
      refine lv_iconst (v := 4) hx hb dX8_digestOfEnd_125 (by decide) ?_
      refine lv_icmp_ge (tgt := 156) hx hb dX8_digestOfEnd_126 (by decide) (fun c35 => ?_) (fun c35 => ?_)
      · have hw := hw.1 c35
        refine lv_iconst (v := 0) hx hb dX8_digestOfEnd_156 (by decide) ?_
        refine lv_istore (lv' := [(7, .int 0), (4, .ref (a 22)), (5, .long v5)]) hx hb dX8_digestOfEnd_157 hl (by decide) rfl (fun ls hl => ?_)
        obtain ⟨nf, hw⟩ := hw
        exact b159a nf v5 0 s _ _ _ hw hP hD hS (lv_sub hl [1, 2, 0] rfl)
      · have hw := hw.2 c35
        refine lv_ldc2 (v := 31) hx hb hown h_c160 dX8_digestOfEnd_129 ?_
        refine lv_lload hx hb dX8_digestOfEnd_132 (lv_at hl 1 rfl) ?_
        refine lv_lmul hx hb dX8_digestOfEnd_134 ?_
        refine lv_aload hx hb dX8_digestOfEnd_135 (lv_at hl 0 rfl) ?_
        refine va_get (D := (dC, dI)) (ci := 3) (v := .ref (a 23)) (C := RX3) (T := TX3) (N := 20) hx hb hts h_in3 hown hK hP 22 rfl rfl 3 (by decide) h_f86 (fun _ h9 => h9) rfl dX8_digestOfEnd_137 ?_
        refine va_get (D := (dC, dI)) (ci := 0) (v := .ref (a 24)) (C := RX0) (T := TX0) (N := 2) hx hb hts h_in0 hown hK hP 23 rfl rfl 0 (by decide) h_f90 (fun _ h9 => h9) rfl dX8_digestOfEnd_140 ?_
        refine lv_iload hx hb dX8_digestOfEnd_143 (lv_at hl 2 rfl) ?_
        have c46 := hw.1
        have hw := hw.2
        refine va_iald hx hb hK hP 24 0 rfl rfl c46 dX8_digestOfEnd_145 ?_
        refine lv_i2l hx hb dX8_digestOfEnd_146 rfl ?_
        refine lv_ladd hx hb dX8_digestOfEnd_147 ?_
        refine lv_topl (fun x47 ex47 => ?_)
        have hw := hw x47 ex47
        refine lv_lstore (lv' := [(5, .long x47), (4, .ref (a 22)), (7, .int v7)]) hx hb dX8_digestOfEnd_148 hl (by decide) rfl (fun ls hl => ?_)
        obtain ⟨x48, ex48⟩ : ∃ y : Int32, y = v7 + 1 := ⟨_, rfl⟩
        have hw := hw x48 ex48
        refine lv_iinc (v := x48) (lv' := [(7, .int x48), (5, .long x47), (4, .ref (a 22))]) hx hb dX8_digestOfEnd_150 hl (k := 2) rfl (by rw [ex48]; rfl) (by decide) rfl (fun ls hl => ?_)
        refine lv_goto (tgt := 123) hx hb dX8_digestOfEnd_153 (by decide) ?_
        exact ih x47 x48 s _ _ _ hw hP hD hS (lv_sub hl [2, 1, 0] rfl)
  have b87a : ∀ (n : Nat) (v5 : Int64) (v7 : Int32) (s : tm_St) (H : Heap) (locs : List Loc) (ls : Array Slot), wp_X8_digestOfEnd_87a K n v5 v7 s → va_P (dC, dI) vwCl (tm_wTwo cI cZ a s) H → va_D A (tm_wTwo cI cZ a s) → va_S A z.heap H locs → lv_has ls 8 [(4, .ref (a 22)), (5, .long v5), (7, .int v7)] → W p l e (headSpec wsX8_digestOfEnd ({ frames := 1, cells := 0, slots := 0, locals := 21 })).room z m (([.ref (a 0), .int p0, .long p1] : List Value).toArray) below meth c H locs 0 0 (MQ below (va_Ql (fun (r : Int64) (u : tm_St) => K r u) (fun (u : tm_St) t => tm_At dC dI cI cZ A (tm_wTwo cI cZ a u) t) A) (([.ref (a 0), .int p0, .long p1] : List Value).toArray) z 0 0 A) (F0 m 87 ls []) := by
    intro n
    induction n with
    | zero => intro v5 v7 s H locs ls hw hP hD hS hl; unfold wp_X8_digestOfEnd_87a at hw; exact hw.elim
    | succ n ih =>
      intro v5 v7 s H locs ls hw hP hD hS hl
      unfold wp_X8_digestOfEnd_87a at hw
      refine lv_iload hx hb dX8_digestOfEnd_87 (lv_at hl 2 rfl) ?_
      refine lv_iconst (v := 4) hx hb dX8_digestOfEnd_89 (by decide) ?_
      refine lv_icmp_ge (tgt := 120) hx hb dX8_digestOfEnd_90 (by decide) (fun c34 => ?_) (fun c34 => ?_)
      · have hw := hw.1 c34
        refine lv_iconst (v := 0) hx hb dX8_digestOfEnd_120 (by decide) ?_
        refine lv_istore (lv' := [(7, .int 0), (4, .ref (a 22)), (5, .long v5)]) hx hb dX8_digestOfEnd_121 hl (by decide) rfl (fun ls hl => ?_)
        obtain ⟨nf, hw⟩ := hw
        exact b123a nf v5 0 s _ _ _ hw hP hD hS (lv_sub hl [1, 2, 0] rfl)
      · have hw := hw.2 c34
        refine lv_ldc2 (v := 31) hx hb hown h_c160 dX8_digestOfEnd_93 ?_
        refine lv_lload hx hb dX8_digestOfEnd_96 (lv_at hl 1 rfl) ?_
        refine lv_lmul hx hb dX8_digestOfEnd_98 ?_
        refine lv_aload hx hb dX8_digestOfEnd_99 (lv_at hl 0 rfl) ?_
        refine va_get (D := (dC, dI)) (ci := 3) (v := .ref (a 23)) (C := RX3) (T := TX3) (N := 20) hx hb hts h_in3 hown hK hP 22 rfl rfl 3 (by decide) h_f86 (fun _ h9 => h9) rfl dX8_digestOfEnd_101 ?_
        refine va_get (D := (dC, dI)) (ci := 0) (v := .ref (a 25)) (C := RX0) (T := TX0) (N := 2) hx hb hts h_in0 hown hK hP 23 rfl rfl 1 (by decide) h_f116 (fun _ h9 => h9) rfl dX8_digestOfEnd_104 ?_
        refine lv_iload hx hb dX8_digestOfEnd_107 (lv_at hl 2 rfl) ?_
        have c49 := hw.1
        have hw := hw.2
        refine va_iald hx hb hK hP 25 0 rfl rfl c49 dX8_digestOfEnd_109 ?_
        refine lv_i2l hx hb dX8_digestOfEnd_110 rfl ?_
        refine lv_ladd hx hb dX8_digestOfEnd_111 ?_
        refine lv_topl (fun x50 ex50 => ?_)
        have hw := hw x50 ex50
        refine lv_lstore (lv' := [(5, .long x50), (4, .ref (a 22)), (7, .int v7)]) hx hb dX8_digestOfEnd_112 hl (by decide) rfl (fun ls hl => ?_)
        obtain ⟨x51, ex51⟩ : ∃ y : Int32, y = v7 + 1 := ⟨_, rfl⟩
        have hw := hw x51 ex51
        refine lv_iinc (v := x51) (lv' := [(7, .int x51), (5, .long x50), (4, .ref (a 22))]) hx hb dX8_digestOfEnd_114 hl (k := 2) rfl (by rw [ex51]; rfl) (by decide) rfl (fun ls hl => ?_)
        refine lv_goto (tgt := 87) hx hb dX8_digestOfEnd_117 (by decide) ?_
        exact ih x50 x51 s _ _ _ hw hP hD hS (lv_sub hl [2, 1, 0] rfl)
  have b53a : ∀ (n : Nat) (v5 : Int64) (v7 : Int32) (s : tm_St) (H : Heap) (locs : List Loc) (ls : Array Slot), wp_X8_digestOfEnd_53a K n v5 v7 s → va_P (dC, dI) vwCl (tm_wTwo cI cZ a s) H → va_D A (tm_wTwo cI cZ a s) → va_S A z.heap H locs → lv_has ls 8 [(4, .ref (a 22)), (5, .long v5), (7, .int v7)] → W p l e (headSpec wsX8_digestOfEnd ({ frames := 1, cells := 0, slots := 0, locals := 21 })).room z m (([.ref (a 0), .int p0, .long p1] : List Value).toArray) below meth c H locs 0 0 (MQ below (va_Ql (fun (r : Int64) (u : tm_St) => K r u) (fun (u : tm_St) t => tm_At dC dI cI cZ A (tm_wTwo cI cZ a u) t) A) (([.ref (a 0), .int p0, .long p1] : List Value).toArray) z 0 0 A) (F0 m 53 ls []) := by
    intro n
    induction n with
    | zero => intro v5 v7 s H locs ls hw hP hD hS hl; unfold wp_X8_digestOfEnd_53a at hw; exact hw.elim
    | succ n ih =>
      intro v5 v7 s H locs ls hw hP hD hS hl
      unfold wp_X8_digestOfEnd_53a at hw
      refine lv_iload hx hb dX8_digestOfEnd_53 (lv_at hl 2 rfl) ?_
      refine lv_bipush (v := 8) hx hb dX8_digestOfEnd_55 (by decide) ?_
      refine lv_icmp_ge (tgt := 84) hx hb dX8_digestOfEnd_57 (by decide) (fun c33 => ?_) (fun c33 => ?_)
      · have hw := hw.1 c33
        refine lv_iconst (v := 0) hx hb dX8_digestOfEnd_84 (by decide) ?_
        refine lv_istore (lv' := [(7, .int 0), (4, .ref (a 22)), (5, .long v5)]) hx hb dX8_digestOfEnd_85 hl (by decide) rfl (fun ls hl => ?_)
        obtain ⟨nf, hw⟩ := hw
        exact b87a nf v5 0 s _ _ _ hw hP hD hS (lv_sub hl [1, 2, 0] rfl)
      · have hw := hw.2 c33
        refine lv_ldc2 (v := 31) hx hb hown h_c160 dX8_digestOfEnd_60 ?_
        refine lv_lload hx hb dX8_digestOfEnd_63 (lv_at hl 1 rfl) ?_
        refine lv_lmul hx hb dX8_digestOfEnd_65 ?_
        refine lv_aload hx hb dX8_digestOfEnd_66 (lv_at hl 0 rfl) ?_
        refine va_get (D := (dC, dI)) (ci := 3) (v := .ref (a 29)) (C := RX3) (T := TX3) (N := 20) hx hb hts h_in3 hown hK hP 22 rfl rfl 5 (by decide) h_f113 (fun _ h9 => h9) rfl dX8_digestOfEnd_68 ?_
        refine lv_iload hx hb dX8_digestOfEnd_71 (lv_at hl 2 rfl) ?_
        have c52 := hw.1
        have hw := hw.2
        refine va_iald hx hb hK hP 29 0 rfl rfl c52 dX8_digestOfEnd_73 ?_
        refine lv_i2l hx hb dX8_digestOfEnd_74 rfl ?_
        refine lv_ladd hx hb dX8_digestOfEnd_75 ?_
        refine lv_topl (fun x53 ex53 => ?_)
        have hw := hw x53 ex53
        refine lv_lstore (lv' := [(5, .long x53), (4, .ref (a 22)), (7, .int v7)]) hx hb dX8_digestOfEnd_76 hl (by decide) rfl (fun ls hl => ?_)
        obtain ⟨x54, ex54⟩ : ∃ y : Int32, y = v7 + 1 := ⟨_, rfl⟩
        have hw := hw x54 ex54
        refine lv_iinc (v := x54) (lv' := [(7, .int x54), (5, .long x53), (4, .ref (a 22))]) hx hb dX8_digestOfEnd_78 hl (k := 2) rfl (by rw [ex54]; rfl) (by decide) rfl (fun ls hl => ?_)
        refine lv_goto (tgt := 53) hx hb dX8_digestOfEnd_81 (by decide) ?_
        exact ih x53 x54 s _ _ _ hw hP hD hS (lv_sub hl [2, 1, 0] rfl)
  have b20a : ∀ (n : Nat) (v5 : Int64) (v7 : Int32) (s : tm_St) (H : Heap) (locs : List Loc) (ls : Array Slot), wp_X8_digestOfEnd_20a K n v5 v7 s → va_P (dC, dI) vwCl (tm_wTwo cI cZ a s) H → va_D A (tm_wTwo cI cZ a s) → va_S A z.heap H locs → lv_has ls 8 [(4, .ref (a 22)), (5, .long v5), (7, .int v7)] → W p l e (headSpec wsX8_digestOfEnd ({ frames := 1, cells := 0, slots := 0, locals := 21 })).room z m (([.ref (a 0), .int p0, .long p1] : List Value).toArray) below meth c H locs 0 0 (MQ below (va_Ql (fun (r : Int64) (u : tm_St) => K r u) (fun (u : tm_St) t => tm_At dC dI cI cZ A (tm_wTwo cI cZ a u) t) A) (([.ref (a 0), .int p0, .long p1] : List Value).toArray) z 0 0 A) (F0 m 20 ls []) := by
    intro n
    induction n with
    | zero => intro v5 v7 s H locs ls hw hP hD hS hl; unfold wp_X8_digestOfEnd_20a at hw; exact hw.elim
    | succ n ih =>
      intro v5 v7 s H locs ls hw hP hD hS hl
      unfold wp_X8_digestOfEnd_20a at hw
      refine lv_iload hx hb dX8_digestOfEnd_20 (lv_at hl 2 rfl) ?_
      refine lv_bipush (v := 16) hx hb dX8_digestOfEnd_22 (by decide) ?_
      refine lv_icmp_ge (tgt := 50) hx hb dX8_digestOfEnd_24 (by decide) (fun c32 => ?_) (fun c32 => ?_)
      · have hw := hw.1 c32
        refine lv_iconst (v := 0) hx hb dX8_digestOfEnd_50 (by decide) ?_
        refine lv_istore (lv' := [(7, .int 0), (4, .ref (a 22)), (5, .long v5)]) hx hb dX8_digestOfEnd_51 hl (by decide) rfl (fun ls hl => ?_)
        obtain ⟨nf, hw⟩ := hw
        exact b53a nf v5 0 s _ _ _ hw hP hD hS (lv_sub hl [1, 2, 0] rfl)
      · have hw := hw.2 c32
        refine lv_ldc2 (v := 31) hx hb hown h_c160 dX8_digestOfEnd_27 ?_
        refine lv_lload hx hb dX8_digestOfEnd_30 (lv_at hl 1 rfl) ?_
        refine lv_lmul hx hb dX8_digestOfEnd_32 ?_
        refine lv_aload hx hb dX8_digestOfEnd_33 (lv_at hl 0 rfl) ?_
        refine lv_iload hx hb dX8_digestOfEnd_35 (lv_at hl 2 rfl) ?_
        have hPc := hP.sub (ws' := (tm_wModem cI cZ (tm_pj [22, 23, 24, 25, 26, 27, 28, 29, 3, 4, 5, 6, 7, 8, 9, 10, 11, 12, 13, 4, 9] a) (tm_pj [22, 23, 24, 25, 26, 27, 28, 29, 3, 4, 5, 6, 7, 8, 9, 10, 11, 12, 13, 4, 9] s))) [22, 23, 24, 25, 26, 27, 28, 29, 3, 4, 5, 6, 7, 8, 9, 10, 11, 12, 13] rfl
        have hDc := hD.sub (ws' := (tm_wModem cI cZ (tm_pj [22, 23, 24, 25, 26, 27, 28, 29, 3, 4, 5, 6, 7, 8, 9, 10, 11, 12, 13, 4, 9] a) (tm_pj [22, 23, 24, 25, 26, 27, 28, 29, 3, 4, 5, 6, 7, 8, 9, 10, 11, 12, 13, 4, 9] s))) [22, 23, 24, 25, 26, 27, 28, 29, 3, 4, 5, 6, 7, 8, 9, 10, 11, 12, 13] (by decide) rfl
        have hFc := va_free (wc := (tm_wModem cI cZ (tm_pj [22, 23, 24, 25, 26, 27, 28, 29, 3, 4, 5, 6, 7, 8, 9, 10, 11, 12, 13, 4, 9] a) (tm_pj [22, 23, 24, 25, 26, 27, 28, 29, 3, 4, 5, 6, 7, 8, 9, 10, 11, 12, 13, 4, 9] s))) hD hS hA [22, 23, 24, 25, 26, 27, 28, 29, 3, 4, 5, 6, 7, 8, 9, 10, 11, 12, 13] rfl
        refine va_calli (va_runV (As := [.int v7]) (rest := [.long (31 * v5)]) ⟨hx, hb, hml, hown, hts⟩ (kk_X3_fact l dC dI cI cZ (tm_pj [22, 23, 24, 25, 26, 27, 28, 29, 3, 4, 5, 6, 7, 8, 9, 10, 11, 12, 13, 4, 9] a) (tm_pj [22, 23, 24, 25, 26, 27, 28, 29, 3, 4, 5, 6, 7, 8, 9, 10, 11, 12, 13, 4, 9] s) H.size v7 _ hw) (cwV 1 hts gX8_digestOfEnd_X3_fact rfl rfl rfl (by decide +kernel) ⟨Nat.le_of_ble_eq_true rfl, Nat.le_of_ble_eq_true rfl⟩) ⟨tm_blind, va_recv hK hPc (ci := 3) (q0 := 0) rfl rfl, fun U hU hW => ⟨rfl, by rw [hU], by rw [hU]; exact hPc, va_K.moved hW.alike hK, hDc.weaken (fun _ _ _ _ => trivial)⟩⟩ rfl rfl hl.1 rfl (lv_room (Nat.le_of_ble_eq_true rfl)) dX8_digestOfEnd_37 ⟨Nat.zero_le _, Nat.zero_le _⟩) hS (fun q _ h => hFc q h) hFc (fun r55 u t H1 locs ht hvm hw hB hz1 hk1 hS => ?_)
        obtain ⟨hP1, hK1, hD1⟩ := hB
        rw [ht] at hP1
        obtain ⟨hP, hD⟩ := va_join (wr := ([0, 1, 2, 14, 15, 16, 17, 18, 19, 20, 21] : List Nat).filterMap (fun i => (tm_wTwo cI cZ a s)[i]?)) (w1 := (tm_wModem cI cZ (tm_pj [22, 23, 24, 25, 26, 27, 28, 29, 3, 4, 5, 6, 7, 8, 9, 10, 11, 12, 13, 4, 9] a) u)) hP hD [22, 23, 24, 25, 26, 27, 28, 29, 3, 4, 5, 6, 7, 8, 9, 10, 11, 12, 13] [0, 1, 2, 14, 15, 16, 17, 18, 19, 20, 21] rfl rfl (by decide) (by decide) hk1 hFc hP1 hD1
        generalize H1 = H at hP hS ⊢
        obtain ⟨s56, es56⟩ : ∃ y : tm_St, y = tm_pk [22, 23, 24, 25, 26, 27, 28, 29, 3, 4, 5, 6, 7, 8, 9, 10, 11, 12, 13] s u := ⟨_, rfl⟩
        have hw := hw s56 es56
        have hP : va_P (dC, dI) vwCl (tm_wTwo cI cZ a s56) H := by rw [es56]; exact hP.sub [0, 1, 2, 19, 20, 21, 22, 23, 24, 25, 26, 27, 28, 29, 3, 4, 5, 6, 7, 8, 9, 10, 11, 12, 13, 14, 15, 16, 17, 18] rfl
        have hD : va_D A (tm_wTwo cI cZ a s56) := by rw [es56]; exact hD.sub [0, 1, 2, 19, 20, 21, 22, 23, 24, 25, 26, 27, 28, 29, 3, 4, 5, 6, 7, 8, 9, 10, 11, 12, 13, 14, 15, 16, 17, 18] (by decide) rfl
        refine lv_i2l hx hb dX8_digestOfEnd_40 rfl ?_
        refine lv_ladd hx hb dX8_digestOfEnd_41 ?_
        refine lv_topl (fun x58 ex58 => ?_)
        have hw := hw x58 ex58
        refine lv_lstore (lv' := [(5, .long x58), (4, .ref (a 22)), (7, .int v7)]) hx hb dX8_digestOfEnd_42 hl (by decide) rfl (fun ls hl => ?_)
        obtain ⟨x59, ex59⟩ : ∃ y : Int32, y = v7 + 1 := ⟨_, rfl⟩
        have hw := hw x59 ex59
        refine lv_iinc (v := x59) (lv' := [(7, .int x59), (5, .long x58), (4, .ref (a 22))]) hx hb dX8_digestOfEnd_44 hl (k := 2) rfl (by rw [ex59]; rfl) (by decide) rfl (fun ls hl => ?_)
        refine lv_goto (tgt := 20) hx hb dX8_digestOfEnd_47 (by decide) ?_
        exact ih x58 x59 s56 _ _ _ hw hP hD hS (lv_sub hl [2, 1, 0] rfl)
  have hl := lv_entry ([.ref (a 0), .int p0, .long p1]) (n := 8) (Nat.le_of_ble_eq_true rfl)
  rw [lg_entry_eq]
  generalize (lg_sl ([.ref (a 0), .int p0, .long p1]) ++ List.replicate (8 - (lg_sl ([.ref (a 0), .int p0, .long p1])).length) Slot.unset).toArray = ls at hl ⊢
  have hl : lv_has ls 8 [(0, .ref (a 0)), (1, .int p0), (2, .long p1)] := hl
  unfold wp_X8_digestOfEnd at hw
  refine lv_aload_n hx hb dX8_digestOfEnd_0 rfl (lv_at hl 0 rfl) ?_
  refine lv_iload_n hx hb dX8_digestOfEnd_1 rfl (lv_at hl 1 rfl) ?_
  have hPc := hP
  have hDc := hD
  have hFc := va_free (wc := (tm_wTwo cI cZ a s0)) hD hS hA [0, 1, 2, 3, 4, 5, 6, 7, 8, 9, 10, 11, 12, 13, 14, 15, 16, 17, 18, 19, 20, 21, 22, 23, 24, 25, 26, 27, 28, 29] rfl
  refine va_callq (va_runV (As := [.int p0]) (rest := []) ⟨hx, hb, hml, hown, hts⟩ (kk_X8_modemAt l dC dI cI cZ a s0 z.heap.size p0 _ hw) (cwV 1 hts gX8_digestOfEnd_X8_modemAt rfl rfl rfl (by decide +kernel) ⟨Nat.le_of_ble_eq_true rfl, Nat.le_of_ble_eq_true rfl⟩) ⟨tm_blind, va_recv hK hPc (ci := 6) (q0 := 0) rfl rfl, fun U hU hW => ⟨rfl, by rw [hU], by rw [hU]; exact hPc, va_K.moved hW.alike hK, hDc.weaken (fun _ _ _ _ => trivial)⟩⟩ rfl rfl hl.1 rfl (lv_room (Nat.le_of_ble_eq_true rfl)) dX8_digestOfEnd_2 ⟨Nat.zero_le _, Nat.zero_le _⟩) hS (fun q _ h => hFc q h) hFc (fun r1 u t H1 locs ht hvm hw hB hz1 hk1 hS => ?_)
  obtain ⟨hP1, hK1, hD1⟩ := hB
  rw [ht] at hP1
  obtain ⟨eu, k3, hw, hq⟩ := hw
  rw [eu] at hP1 hD1
  obtain ⟨hP, hD⟩ := va_join (wr := []) (w1 := (tm_wTwo cI cZ a s0)) hP hD [0, 1, 2, 3, 4, 5, 6, 7, 8, 9, 10, 11, 12, 13, 14, 15, 16, 17, 18, 19, 20, 21, 22, 23, 24, 25, 26, 27, 28, 29] [] rfl rfl (by decide) (by decide) hk1 hFc hP1 hD1
  have hP : va_P (dC, dI) vwCl (tm_wTwo cI cZ a s0) H1 := hP
  have hD : va_D A (tm_wTwo cI cZ a s0) := hD
  generalize H1 = H at hP hS ⊢
  rcases hq with ⟨ek, er⟩ | ⟨ek, er⟩ | ⟨ek, er⟩
  · subst ek; subst er; have hw := hw.1 rfl
    refine W.eq (g2 := F0 m 5 ls (.ref (a 14) :: [])) rfl ?_
    refine lv_astore (lv' := [(4, .ref (a 14)), (0, .ref (a 0)), (1, .int p0), (2, .long p1)]) hx hb dX8_digestOfEnd_5 hl (by decide) rfl (fun ls hl => ?_)
    refine lv_aload hx hb dX8_digestOfEnd_7 (lv_at hl 0 rfl) ?_
    refine lv_ifnonnull (tgt := 14) hx hb dX8_digestOfEnd_9 (by decide) ?_
    refine lv_lload_n hx hb dX8_digestOfEnd_14 rfl (lv_at hl 3 rfl) ?_
    refine lv_lstore (lv' := [(5, .long p1), (4, .ref (a 14)), (0, .ref (a 0)), (1, .int p0), (2, .long p1)]) hx hb dX8_digestOfEnd_15 hl (by decide) rfl (fun ls hl => ?_)
    refine lv_iconst (v := 0) hx hb dX8_digestOfEnd_17 (by decide) ?_
    refine lv_istore (lv' := [(7, .int 0), (5, .long p1), (4, .ref (a 14)), (0, .ref (a 0)), (1, .int p0), (2, .long p1)]) hx hb dX8_digestOfEnd_18 hl (by decide) rfl (fun ls hl => ?_)
    obtain ⟨nf, hw⟩ := hw
    exact b20 nf p1 0 s0 _ _ _ hw hP hD hS (lv_sub hl [2, 1, 0] rfl)
  · subst ek; subst er; have hw := hw.2.1 rfl
    refine W.eq (g2 := F0 m 5 ls (.ref (a 22) :: [])) rfl ?_
    refine lv_astore (lv' := [(4, .ref (a 22)), (0, .ref (a 0)), (1, .int p0), (2, .long p1)]) hx hb dX8_digestOfEnd_5 hl (by decide) rfl (fun ls hl => ?_)
    refine lv_aload hx hb dX8_digestOfEnd_7 (lv_at hl 0 rfl) ?_
    refine lv_ifnonnull (tgt := 14) hx hb dX8_digestOfEnd_9 (by decide) ?_
    refine lv_lload_n hx hb dX8_digestOfEnd_14 rfl (lv_at hl 3 rfl) ?_
    refine lv_lstore (lv' := [(5, .long p1), (4, .ref (a 22)), (0, .ref (a 0)), (1, .int p0), (2, .long p1)]) hx hb dX8_digestOfEnd_15 hl (by decide) rfl (fun ls hl => ?_)
    refine lv_iconst (v := 0) hx hb dX8_digestOfEnd_17 (by decide) ?_
    refine lv_istore (lv' := [(7, .int 0), (5, .long p1), (4, .ref (a 22)), (0, .ref (a 0)), (1, .int p0), (2, .long p1)]) hx hb dX8_digestOfEnd_18 hl (by decide) rfl (fun ls hl => ?_)
    obtain ⟨nf, hw⟩ := hw
    exact b20a nf p1 0 s0 _ _ _ hw hP hD hS (lv_sub hl [2, 1, 0] rfl)
  · subst ek; subst er; have hw := hw.2.2 rfl
    refine W.eq (g2 := F0 m 5 ls (.null :: [])) rfl ?_
    refine lv_astoreN (lv' := [(4, .null), (0, .ref (a 0)), (1, .int p0), (2, .long p1)]) hx hb dX8_digestOfEnd_5 hl (by decide) rfl (fun ls hl => ?_)
    refine lv_aloadN hx hb dX8_digestOfEnd_7 (lv_at hl 0 rfl) ?_
    refine lv_ifnonnullN hx hb dX8_digestOfEnd_9 ?_
    refine lv_lload_n hx hb dX8_digestOfEnd_12 rfl (lv_at hl 3 rfl) ?_
    exact W.lret (v := p1) hx hb hr (fun t ht hW => ⟨⟨p1, s0, rfl, hw, by rw [ht]; exact hP, va_K.moved hW.alike hK, hD⟩, hS.F ht⟩) hS.2.2 dX8_digestOfEnd_13
def wp_X8_digest_133 (K : Int64 → tm_St → Prop) : Nat → Int64 → Int32 → tm_St → Prop
  | 0, _, _, _ => False
  | n + 1, v1, v3, s => (((9 : Int32) ≤ v3 → K v1 s) ∧ (¬ (9 : Int32) ≤ v3 → (wp_X8_count v3 s (fun r10 s11 => (∀ x12 : Int64, x12 = ((31 * v1) + r10.toInt64) → (∀ x13 : Int32, x13 = v3 + 1 → wp_X8_digest_133 K n x12 x13 s11))))))
def wp_X8_digest_98 (K : Int64 → tm_St → Prop) : Nat → Int64 → Int32 → tm_St → Prop
  | 0, _, _, _ => False
  | n + 1, v1, v3, s => (((s 1 1) ≤ v3 → ∃ nf : Nat, wp_X8_digest_133 K nf v1 0 s) ∧ (¬ (s 1 1) ≤ v3 → (wp_X4_codeAt v3 (tm_pj [1, 2] s) (fun r14 u16 => ∀ s15 : tm_St, s15 = tm_pk [1, 2] s u16 → (∀ x17 : Int64, x17 = ((31 * v1) + r14.toInt64) → (∀ x18 : Int32, x18 = v3 + 1 → wp_X8_digest_98 K n x17 x18 s15))))))
def wp_X8_digest_71 (K : Int64 → tm_St → Prop) : Nat → Int64 → Int32 → tm_St → Prop
  | 0, _, _, _ => False
  | n + 1, v1, v3, s => (((28 : Int32) ≤ v3 → ∃ nf : Nat, wp_X8_digest_98 K nf v1 0 s) ∧ (¬ (28 : Int32) ≤ v3 → (wp_X8_about v3 s (fun r19 s20 => (∀ x21 : Int64, x21 = ((31 * v1) + r19.toInt64) → (∀ x22 : Int32, x22 = v3 + 1 → wp_X8_digest_71 K n x21 x22 s20))))))
def wp_X8_digest_43 (K : Int64 → tm_St → Prop) : Nat → Int64 → Int32 → tm_St → Prop
  | 0, _, _, _ => False
  | n + 1, v1, v3, s => (((18 : Int32) ≤ v3 → ∃ nf : Nat, wp_X8_digest_71 K nf v1 20 s) ∧ (¬ (18 : Int32) ≤ v3 → (wp_X8_about v3 s (fun r23 s24 => (∀ x25 : Int64, x25 = ((31 * v1) + r23.toInt64) → (∀ x26 : Int32, x26 = v3 + 1 → wp_X8_digest_43 K n x25 x26 s24))))))
def wp_X8_digest_16 (K : Int64 → tm_St → Prop) : Nat → Int64 → Int32 → tm_St → Prop
  | 0, _, _, _ => False
  | n + 1, v1, v3, s => (((4 : Int32) ≤ v3 → ∃ nf : Nat, wp_X8_digest_43 K nf v1 10 s) ∧ (¬ (4 : Int32) ≤ v3 → (wp_X8_about v3 s (fun r27 s28 => (∀ x29 : Int64, x29 = ((31 * v1) + r27.toInt64) → (∀ x30 : Int32, x30 = v3 + 1 → wp_X8_digest_16 K n x29 x30 s28))))))
def wp_X8_digest  (s0 : tm_St) (K : Int64 → tm_St → Prop) : Prop := (wp_X8_digestOfEnd 0 1613 s0 (fun r1 s2 => (wp_X8_digestOfEnd 1 r1 s2 (fun r3 s4 => ∃ nf : Nat, wp_X8_digest_16 K nf r3 0 s4))))
set_option maxRecDepth 100000 in
set_option maxHeartbeats 4000000 in
theorem kk_X8_digest (l : Launch) (dC : Nat → ClassId) (dI : Nat → Nat → Nat) (cI cZ : ClassId) (a : Nat → Nat) (s0 : tm_St) (sz : Nat)  (K : Int64 → tm_St → Prop) (hw : wp_X8_digest s0 K) : Met l yX8_digest wsX8_digest ({ frames := 2, cells := 0, slots := 0, locals := 48 }) (va_Pc [.ref (a 0)] (tm_Pre dC dI cI cZ (tm_wTwo cI cZ a s0) sz)) (va_Ql (fun (r : Int64) (u : tm_St) => K r u) (fun (u : tm_St) t => tm_At dC dI cI cZ (va_A (tm_wTwo cI cZ a s0) sz) (tm_wTwo cI cZ a u) t) (va_A (tm_wTwo cI cZ a s0) sz)) 0 0 (va_A (tm_wTwo cI cZ a s0) sz) := by
  refine Met.ofW (cc := cX8_digest) (maxL := 4) (ret := (some .long)) (by decide +kernel) rfl ?_
  intro p e z m args below meth c z₁ B hml hv
  obtain ⟨rfl, hsz, hP, hK, hD0⟩ := hv
  have hx := B.exec
  have hb := B.bytes
  have hr := B.returns
  have hts := atoms_spec (ws := wsX8_digest) B.pre
  have hown : z.vm.findClass RX8 = some m.cls := findClass_of_methodNamed B.named
  have hlocks := B.notSynchronized
  subst hsz
  have hD := hD0.self (sz := z.heap.size)
  generalize hAe : va_A (tm_wTwo cI cZ a s0) z.heap.size = A at hD ⊢
  have hA : ∀ q : Nat, z.heap.size ≤ q → A q := fun q h => by rw [← hAe]; exact Or.inr h
  have hS : va_S A z.heap z.heap [] := va_S.rf
  have h_c154 := hts (.constantLong RX8 154 (1613)) (by decide +kernel)
  have h_f13 := hts (.fieldLink RX8 13 "TwoModems" "page" "LTwoModems$Page;") (by decide +kernel)
  have h_in8 : ∀ w ∈ u_ws RX8 TX8 5, w ∈ wsX8_digest := by decide +kernel
  have h_f46 := hts (.fieldLink RX8 46 "TwoModems$Page" "size" "I") (by decide +kernel)
  have h_in4 : ∀ w ∈ u_ws RX4 TX4 2, w ∈ wsX8_digest := by decide +kernel
  have h_c160 := hts (.constantLong RX8 160 (31)) (by decide +kernel)
  have b133 : ∀ (n : Nat) (v1 : Int64) (v3 : Int32) (s : tm_St) (H : Heap) (locs : List Loc) (ls : Array Slot), wp_X8_digest_133 K n v1 v3 s → va_P (dC, dI) vwCl (tm_wTwo cI cZ a s) H → va_D A (tm_wTwo cI cZ a s) → va_S A z.heap H locs → lv_has ls 4 [(0, .ref (a 0)), (1, .long v1), (3, .int v3)] → W p l e (headSpec wsX8_digest ({ frames := 2, cells := 0, slots := 0, locals := 48 })).room z m (([.ref (a 0)] : List Value).toArray) below meth c H locs 0 0 (MQ below (va_Ql (fun (r : Int64) (u : tm_St) => K r u) (fun (u : tm_St) t => tm_At dC dI cI cZ A (tm_wTwo cI cZ a u) t) A) (([.ref (a 0)] : List Value).toArray) z 0 0 A) (F0 m 133 ls []) := by
    intro n
    induction n with
    | zero => intro v1 v3 s H locs ls hw hP hD hS hl; unfold wp_X8_digest_133 at hw; exact hw.elim
    | succ n ih =>
      intro v1 v3 s H locs ls hw hP hD hS hl
      unfold wp_X8_digest_133 at hw
      refine lv_iload_n hx hb dX8_digest_133 rfl (lv_at hl 2 rfl) ?_
      refine lv_bipush (v := 9) hx hb dX8_digest_134 (by decide) ?_
      refine lv_icmp_ge (tgt := 158) hx hb dX8_digest_136 (by decide) (fun c9 => ?_) (fun c9 => ?_)
      · have hw := hw.1 c9
        refine lv_lload_n hx hb dX8_digest_158 rfl (lv_at hl 1 rfl) ?_
        exact W.lret (v := v1) hx hb hr (fun t ht hW => ⟨⟨v1, s, rfl, hw, by rw [ht]; exact hP, va_K.moved hW.alike hK, hD⟩, hS.F ht⟩) hS.2.2 dX8_digest_159
      · have hw := hw.2 c9
        refine lv_ldc2 (v := 31) hx hb hown h_c160 dX8_digest_139 ?_
        refine lv_lload_n hx hb dX8_digest_142 rfl (lv_at hl 1 rfl) ?_
        refine lv_lmul hx hb dX8_digest_143 ?_
        refine lv_aload_n hx hb dX8_digest_144 rfl (lv_at hl 0 rfl) ?_
        refine lv_iload_n hx hb dX8_digest_145 rfl (lv_at hl 2 rfl) ?_
        have hPc := hP
        have hDc := hD
        have hFc := va_free (wc := (tm_wTwo cI cZ a s)) hD hS hA [0, 1, 2, 3, 4, 5, 6, 7, 8, 9, 10, 11, 12, 13, 14, 15, 16, 17, 18, 19, 20, 21, 22, 23, 24, 25, 26, 27, 28, 29] rfl
        refine va_calli (va_runV (As := [.int v3]) (rest := [.long (31 * v1)]) ⟨hx, hb, hml, hown, hts⟩ (kk_X8_count l dC dI cI cZ a s H.size v3 _ hw) (cwV 1 hts gX8_digest_X8_count rfl rfl rfl (by decide +kernel) ⟨Nat.le_of_ble_eq_true rfl, Nat.le_of_ble_eq_true rfl⟩) ⟨tm_blind, va_recv hK hPc (ci := 6) (q0 := 0) rfl rfl, fun U hU hW => ⟨rfl, by rw [hU], by rw [hU]; exact hPc, va_K.moved hW.alike hK, hDc.weaken (fun _ _ _ _ => trivial)⟩⟩ rfl rfl hl.1 rfl (lv_room (Nat.le_of_ble_eq_true rfl)) dX8_digest_146 ⟨Nat.zero_le _, Nat.zero_le _⟩) hS (fun q _ h => hFc q h) hFc (fun r10 s11 t H1 locs ht hvm hw hB hz1 hk1 hS => ?_)
        obtain ⟨hP1, hK1, hD1⟩ := hB
        rw [ht] at hP1
        obtain ⟨hP, hD⟩ := va_join (wr := []) (w1 := (tm_wTwo cI cZ a s11)) hP hD [0, 1, 2, 3, 4, 5, 6, 7, 8, 9, 10, 11, 12, 13, 14, 15, 16, 17, 18, 19, 20, 21, 22, 23, 24, 25, 26, 27, 28, 29] [] rfl rfl (by decide) (by decide) hk1 hFc hP1 hD1
        generalize H1 = H at hP hS ⊢
        have hP : va_P (dC, dI) vwCl (tm_wTwo cI cZ a s11) H := hP
        have hD : va_D A (tm_wTwo cI cZ a s11) := hD
        refine lv_i2l hx hb dX8_digest_149 rfl ?_
        refine lv_ladd hx hb dX8_digest_150 ?_
        refine lv_topl (fun x12 ex12 => ?_)
        have hw := hw x12 ex12
        refine lv_lstore_n (lv' := [(1, .long x12), (0, .ref (a 0)), (3, .int v3)]) hx hb dX8_digest_151 rfl hl (by decide) rfl (fun ls hl => ?_)
        obtain ⟨x13, ex13⟩ : ∃ y : Int32, y = v3 + 1 := ⟨_, rfl⟩
        have hw := hw x13 ex13
        refine lv_iinc (v := x13) (lv' := [(3, .int x13), (1, .long x12), (0, .ref (a 0))]) hx hb dX8_digest_152 hl (k := 2) rfl (by rw [ex13]; rfl) (by decide) rfl (fun ls hl => ?_)
        refine lv_goto (tgt := 133) hx hb dX8_digest_155 (by decide) ?_
        exact ih x12 x13 s11 _ _ _ hw hP hD hS (lv_sub hl [2, 1, 0] rfl)
  have b98 : ∀ (n : Nat) (v1 : Int64) (v3 : Int32) (s : tm_St) (H : Heap) (locs : List Loc) (ls : Array Slot), wp_X8_digest_98 K n v1 v3 s → va_P (dC, dI) vwCl (tm_wTwo cI cZ a s) H → va_D A (tm_wTwo cI cZ a s) → va_S A z.heap H locs → lv_has ls 4 [(0, .ref (a 0)), (1, .long v1), (3, .int v3)] → W p l e (headSpec wsX8_digest ({ frames := 2, cells := 0, slots := 0, locals := 48 })).room z m (([.ref (a 0)] : List Value).toArray) below meth c H locs 0 0 (MQ below (va_Ql (fun (r : Int64) (u : tm_St) => K r u) (fun (u : tm_St) t => tm_At dC dI cI cZ A (tm_wTwo cI cZ a u) t) A) (([.ref (a 0)] : List Value).toArray) z 0 0 A) (F0 m 98 ls []) := by
    intro n
    induction n with
    | zero => intro v1 v3 s H locs ls hw hP hD hS hl; unfold wp_X8_digest_98 at hw; exact hw.elim
    | succ n ih =>
      intro v1 v3 s H locs ls hw hP hD hS hl
      unfold wp_X8_digest_98 at hw
      refine lv_iload_n hx hb dX8_digest_98 rfl (lv_at hl 2 rfl) ?_
      refine lv_aload_n hx hb dX8_digest_99 rfl (lv_at hl 0 rfl) ?_
      refine va_get (D := (dC, dI)) (ci := 6) (v := .ref (a 1)) (C := RX8) (T := TX8) (N := 5) hx hb hts h_in8 hown hK hP 0 rfl rfl 0 (by decide) h_f13 (fun _ h9 => h9) rfl dX8_digest_100 ?_
      refine va_get (D := (dC, dI)) (ci := 4) (v := .int (s 1 1)) (C := RX4) (T := TX4) (N := 2) hx hb hts h_in4 hown hK hP 1 rfl rfl 1 (by decide) h_f46 (fun _ h9 => h9) rfl dX8_digest_103 ?_
      refine lv_icmp_ge (tgt := 131) hx hb dX8_digest_106 (by decide) (fun c8 => ?_) (fun c8 => ?_)
      · have hw := hw.1 c8
        refine lv_iconst (v := 0) hx hb dX8_digest_131 (by decide) ?_
        refine lv_istore_n (lv' := [(3, .int 0), (0, .ref (a 0)), (1, .long v1)]) hx hb dX8_digest_132 rfl hl (by decide) rfl (fun ls hl => ?_)
        obtain ⟨nf, hw⟩ := hw
        exact b133 nf v1 0 s _ _ _ hw hP hD hS (lv_sub hl [1, 2, 0] rfl)
      · have hw := hw.2 c8
        refine lv_ldc2 (v := 31) hx hb hown h_c160 dX8_digest_109 ?_
        refine lv_lload_n hx hb dX8_digest_112 rfl (lv_at hl 1 rfl) ?_
        refine lv_lmul hx hb dX8_digest_113 ?_
        refine lv_aload_n hx hb dX8_digest_114 rfl (lv_at hl 0 rfl) ?_
        refine va_get (D := (dC, dI)) (ci := 6) (v := .ref (a 1)) (C := RX8) (T := TX8) (N := 5) hx hb hts h_in8 hown hK hP 0 rfl rfl 0 (by decide) h_f13 (fun _ h9 => h9) rfl dX8_digest_115 ?_
        refine lv_iload_n hx hb dX8_digest_118 rfl (lv_at hl 2 rfl) ?_
        have hPc := hP.sub (ws' := (tm_wPage cI cZ (tm_pj [1, 2] a) (tm_pj [1, 2] s))) [1, 2] rfl
        have hDc := hD.sub (ws' := (tm_wPage cI cZ (tm_pj [1, 2] a) (tm_pj [1, 2] s))) [1, 2] (by decide) rfl
        have hFc := va_free (wc := (tm_wPage cI cZ (tm_pj [1, 2] a) (tm_pj [1, 2] s))) hD hS hA [1, 2] rfl
        refine va_calli (va_runV (As := [.int v3]) (rest := [.long (31 * v1)]) ⟨hx, hb, hml, hown, hts⟩ (kk_X4_codeAt l dC dI cI cZ (tm_pj [1, 2] a) (tm_pj [1, 2] s) H.size v3 _ hw) (cwV 1 hts gX8_digest_X4_codeAt rfl rfl rfl (by decide +kernel) ⟨Nat.le_of_ble_eq_true rfl, Nat.le_of_ble_eq_true rfl⟩) ⟨tm_blind, va_recv hK hPc (ci := 4) (q0 := 0) rfl rfl, fun U hU hW => ⟨rfl, by rw [hU], by rw [hU]; exact hPc, va_K.moved hW.alike hK, hDc.weaken (fun _ _ _ _ => trivial)⟩⟩ rfl rfl hl.1 rfl (lv_room (Nat.le_of_ble_eq_true rfl)) dX8_digest_119 ⟨Nat.zero_le _, Nat.zero_le _⟩) hS (fun q _ h => hFc q h) hFc (fun r14 u t H1 locs ht hvm hw hB hz1 hk1 hS => ?_)
        obtain ⟨hP1, hK1, hD1⟩ := hB
        rw [ht] at hP1
        obtain ⟨hP, hD⟩ := va_join (wr := ([0, 3, 4, 5, 6, 7, 8, 9, 10, 11, 12, 13, 14, 15, 16, 17, 18, 19, 20, 21, 22, 23, 24, 25, 26, 27, 28, 29] : List Nat).filterMap (fun i => (tm_wTwo cI cZ a s)[i]?)) (w1 := (tm_wPage cI cZ (tm_pj [1, 2] a) u)) hP hD [1, 2] [0, 3, 4, 5, 6, 7, 8, 9, 10, 11, 12, 13, 14, 15, 16, 17, 18, 19, 20, 21, 22, 23, 24, 25, 26, 27, 28, 29] rfl rfl (by decide) (by decide) hk1 hFc hP1 hD1
        generalize H1 = H at hP hS ⊢
        obtain ⟨s15, es15⟩ : ∃ y : tm_St, y = tm_pk [1, 2] s u := ⟨_, rfl⟩
        have hw := hw s15 es15
        have hP : va_P (dC, dI) vwCl (tm_wTwo cI cZ a s15) H := by rw [es15]; exact hP.sub [0, 28, 29, 1, 2, 3, 4, 5, 6, 7, 8, 9, 10, 11, 12, 13, 14, 15, 16, 17, 18, 19, 20, 21, 22, 23, 24, 25, 26, 27] rfl
        have hD : va_D A (tm_wTwo cI cZ a s15) := by rw [es15]; exact hD.sub [0, 28, 29, 1, 2, 3, 4, 5, 6, 7, 8, 9, 10, 11, 12, 13, 14, 15, 16, 17, 18, 19, 20, 21, 22, 23, 24, 25, 26, 27] (by decide) rfl
        refine lv_i2l hx hb dX8_digest_122 rfl ?_
        refine lv_ladd hx hb dX8_digest_123 ?_
        refine lv_topl (fun x17 ex17 => ?_)
        have hw := hw x17 ex17
        refine lv_lstore_n (lv' := [(1, .long x17), (0, .ref (a 0)), (3, .int v3)]) hx hb dX8_digest_124 rfl hl (by decide) rfl (fun ls hl => ?_)
        obtain ⟨x18, ex18⟩ : ∃ y : Int32, y = v3 + 1 := ⟨_, rfl⟩
        have hw := hw x18 ex18
        refine lv_iinc (v := x18) (lv' := [(3, .int x18), (1, .long x17), (0, .ref (a 0))]) hx hb dX8_digest_125 hl (k := 2) rfl (by rw [ex18]; rfl) (by decide) rfl (fun ls hl => ?_)
        refine lv_goto (tgt := 98) hx hb dX8_digest_128 (by decide) ?_
        exact ih x17 x18 s15 _ _ _ hw hP hD hS (lv_sub hl [2, 1, 0] rfl)
  have b71 : ∀ (n : Nat) (v1 : Int64) (v3 : Int32) (s : tm_St) (H : Heap) (locs : List Loc) (ls : Array Slot), wp_X8_digest_71 K n v1 v3 s → va_P (dC, dI) vwCl (tm_wTwo cI cZ a s) H → va_D A (tm_wTwo cI cZ a s) → va_S A z.heap H locs → lv_has ls 4 [(0, .ref (a 0)), (1, .long v1), (3, .int v3)] → W p l e (headSpec wsX8_digest ({ frames := 2, cells := 0, slots := 0, locals := 48 })).room z m (([.ref (a 0)] : List Value).toArray) below meth c H locs 0 0 (MQ below (va_Ql (fun (r : Int64) (u : tm_St) => K r u) (fun (u : tm_St) t => tm_At dC dI cI cZ A (tm_wTwo cI cZ a u) t) A) (([.ref (a 0)] : List Value).toArray) z 0 0 A) (F0 m 71 ls []) := by
    intro n
    induction n with
    | zero => intro v1 v3 s H locs ls hw hP hD hS hl; unfold wp_X8_digest_71 at hw; exact hw.elim
    | succ n ih =>
      intro v1 v3 s H locs ls hw hP hD hS hl
      unfold wp_X8_digest_71 at hw
      refine lv_iload_n hx hb dX8_digest_71 rfl (lv_at hl 2 rfl) ?_
      refine lv_bipush (v := 28) hx hb dX8_digest_72 (by decide) ?_
      refine lv_icmp_ge (tgt := 96) hx hb dX8_digest_74 (by decide) (fun c7 => ?_) (fun c7 => ?_)
      · have hw := hw.1 c7
        refine lv_iconst (v := 0) hx hb dX8_digest_96 (by decide) ?_
        refine lv_istore_n (lv' := [(3, .int 0), (0, .ref (a 0)), (1, .long v1)]) hx hb dX8_digest_97 rfl hl (by decide) rfl (fun ls hl => ?_)
        obtain ⟨nf, hw⟩ := hw
        exact b98 nf v1 0 s _ _ _ hw hP hD hS (lv_sub hl [1, 2, 0] rfl)
      · have hw := hw.2 c7
        refine lv_ldc2 (v := 31) hx hb hown h_c160 dX8_digest_77 ?_
        refine lv_lload_n hx hb dX8_digest_80 rfl (lv_at hl 1 rfl) ?_
        refine lv_lmul hx hb dX8_digest_81 ?_
        refine lv_aload_n hx hb dX8_digest_82 rfl (lv_at hl 0 rfl) ?_
        refine lv_iload_n hx hb dX8_digest_83 rfl (lv_at hl 2 rfl) ?_
        have hPc := hP
        have hDc := hD
        have hFc := va_free (wc := (tm_wTwo cI cZ a s)) hD hS hA [0, 1, 2, 3, 4, 5, 6, 7, 8, 9, 10, 11, 12, 13, 14, 15, 16, 17, 18, 19, 20, 21, 22, 23, 24, 25, 26, 27, 28, 29] rfl
        refine va_calli (va_runV (As := [.int v3]) (rest := [.long (31 * v1)]) ⟨hx, hb, hml, hown, hts⟩ (kk_X8_about l dC dI cI cZ a s H.size v3 _ hw) (cwV 1 hts gX8_digest_X8_about rfl rfl rfl (by decide +kernel) ⟨Nat.le_of_ble_eq_true rfl, Nat.le_of_ble_eq_true rfl⟩) ⟨tm_blind, va_recv hK hPc (ci := 6) (q0 := 0) rfl rfl, fun U hU hW => ⟨rfl, by rw [hU], by rw [hU]; exact hPc, va_K.moved hW.alike hK, hDc.weaken (fun _ _ _ _ => trivial)⟩⟩ rfl rfl hl.1 rfl (lv_room (Nat.le_of_ble_eq_true rfl)) dX8_digest_84 ⟨Nat.zero_le _, Nat.zero_le _⟩) hS (fun q _ h => hFc q h) hFc (fun r19 s20 t H1 locs ht hvm hw hB hz1 hk1 hS => ?_)
        obtain ⟨hP1, hK1, hD1⟩ := hB
        rw [ht] at hP1
        obtain ⟨hP, hD⟩ := va_join (wr := []) (w1 := (tm_wTwo cI cZ a s20)) hP hD [0, 1, 2, 3, 4, 5, 6, 7, 8, 9, 10, 11, 12, 13, 14, 15, 16, 17, 18, 19, 20, 21, 22, 23, 24, 25, 26, 27, 28, 29] [] rfl rfl (by decide) (by decide) hk1 hFc hP1 hD1
        generalize H1 = H at hP hS ⊢
        have hP : va_P (dC, dI) vwCl (tm_wTwo cI cZ a s20) H := hP
        have hD : va_D A (tm_wTwo cI cZ a s20) := hD
        refine lv_i2l hx hb dX8_digest_87 rfl ?_
        refine lv_ladd hx hb dX8_digest_88 ?_
        refine lv_topl (fun x21 ex21 => ?_)
        have hw := hw x21 ex21
        refine lv_lstore_n (lv' := [(1, .long x21), (0, .ref (a 0)), (3, .int v3)]) hx hb dX8_digest_89 rfl hl (by decide) rfl (fun ls hl => ?_)
        obtain ⟨x22, ex22⟩ : ∃ y : Int32, y = v3 + 1 := ⟨_, rfl⟩
        have hw := hw x22 ex22
        refine lv_iinc (v := x22) (lv' := [(3, .int x22), (1, .long x21), (0, .ref (a 0))]) hx hb dX8_digest_90 hl (k := 2) rfl (by rw [ex22]; rfl) (by decide) rfl (fun ls hl => ?_)
        refine lv_goto (tgt := 71) hx hb dX8_digest_93 (by decide) ?_
        exact ih x21 x22 s20 _ _ _ hw hP hD hS (lv_sub hl [2, 1, 0] rfl)
  have b43 : ∀ (n : Nat) (v1 : Int64) (v3 : Int32) (s : tm_St) (H : Heap) (locs : List Loc) (ls : Array Slot), wp_X8_digest_43 K n v1 v3 s → va_P (dC, dI) vwCl (tm_wTwo cI cZ a s) H → va_D A (tm_wTwo cI cZ a s) → va_S A z.heap H locs → lv_has ls 4 [(0, .ref (a 0)), (1, .long v1), (3, .int v3)] → W p l e (headSpec wsX8_digest ({ frames := 2, cells := 0, slots := 0, locals := 48 })).room z m (([.ref (a 0)] : List Value).toArray) below meth c H locs 0 0 (MQ below (va_Ql (fun (r : Int64) (u : tm_St) => K r u) (fun (u : tm_St) t => tm_At dC dI cI cZ A (tm_wTwo cI cZ a u) t) A) (([.ref (a 0)] : List Value).toArray) z 0 0 A) (F0 m 43 ls []) := by
    intro n
    induction n with
    | zero => intro v1 v3 s H locs ls hw hP hD hS hl; unfold wp_X8_digest_43 at hw; exact hw.elim
    | succ n ih =>
      intro v1 v3 s H locs ls hw hP hD hS hl
      unfold wp_X8_digest_43 at hw
      refine lv_iload_n hx hb dX8_digest_43 rfl (lv_at hl 2 rfl) ?_
      refine lv_bipush (v := 18) hx hb dX8_digest_44 (by decide) ?_
      refine lv_icmp_ge (tgt := 68) hx hb dX8_digest_46 (by decide) (fun c6 => ?_) (fun c6 => ?_)
      · have hw := hw.1 c6
        refine lv_bipush (v := 20) hx hb dX8_digest_68 (by decide) ?_
        refine lv_istore_n (lv' := [(3, .int 20), (0, .ref (a 0)), (1, .long v1)]) hx hb dX8_digest_70 rfl hl (by decide) rfl (fun ls hl => ?_)
        obtain ⟨nf, hw⟩ := hw
        exact b71 nf v1 20 s _ _ _ hw hP hD hS (lv_sub hl [1, 2, 0] rfl)
      · have hw := hw.2 c6
        refine lv_ldc2 (v := 31) hx hb hown h_c160 dX8_digest_49 ?_
        refine lv_lload_n hx hb dX8_digest_52 rfl (lv_at hl 1 rfl) ?_
        refine lv_lmul hx hb dX8_digest_53 ?_
        refine lv_aload_n hx hb dX8_digest_54 rfl (lv_at hl 0 rfl) ?_
        refine lv_iload_n hx hb dX8_digest_55 rfl (lv_at hl 2 rfl) ?_
        have hPc := hP
        have hDc := hD
        have hFc := va_free (wc := (tm_wTwo cI cZ a s)) hD hS hA [0, 1, 2, 3, 4, 5, 6, 7, 8, 9, 10, 11, 12, 13, 14, 15, 16, 17, 18, 19, 20, 21, 22, 23, 24, 25, 26, 27, 28, 29] rfl
        refine va_calli (va_runV (As := [.int v3]) (rest := [.long (31 * v1)]) ⟨hx, hb, hml, hown, hts⟩ (kk_X8_about l dC dI cI cZ a s H.size v3 _ hw) (cwV 1 hts gX8_digest_X8_about rfl rfl rfl (by decide +kernel) ⟨Nat.le_of_ble_eq_true rfl, Nat.le_of_ble_eq_true rfl⟩) ⟨tm_blind, va_recv hK hPc (ci := 6) (q0 := 0) rfl rfl, fun U hU hW => ⟨rfl, by rw [hU], by rw [hU]; exact hPc, va_K.moved hW.alike hK, hDc.weaken (fun _ _ _ _ => trivial)⟩⟩ rfl rfl hl.1 rfl (lv_room (Nat.le_of_ble_eq_true rfl)) dX8_digest_56 ⟨Nat.zero_le _, Nat.zero_le _⟩) hS (fun q _ h => hFc q h) hFc (fun r23 s24 t H1 locs ht hvm hw hB hz1 hk1 hS => ?_)
        obtain ⟨hP1, hK1, hD1⟩ := hB
        rw [ht] at hP1
        obtain ⟨hP, hD⟩ := va_join (wr := []) (w1 := (tm_wTwo cI cZ a s24)) hP hD [0, 1, 2, 3, 4, 5, 6, 7, 8, 9, 10, 11, 12, 13, 14, 15, 16, 17, 18, 19, 20, 21, 22, 23, 24, 25, 26, 27, 28, 29] [] rfl rfl (by decide) (by decide) hk1 hFc hP1 hD1
        generalize H1 = H at hP hS ⊢
        have hP : va_P (dC, dI) vwCl (tm_wTwo cI cZ a s24) H := hP
        have hD : va_D A (tm_wTwo cI cZ a s24) := hD
        refine lv_i2l hx hb dX8_digest_59 rfl ?_
        refine lv_ladd hx hb dX8_digest_60 ?_
        refine lv_topl (fun x25 ex25 => ?_)
        have hw := hw x25 ex25
        refine lv_lstore_n (lv' := [(1, .long x25), (0, .ref (a 0)), (3, .int v3)]) hx hb dX8_digest_61 rfl hl (by decide) rfl (fun ls hl => ?_)
        obtain ⟨x26, ex26⟩ : ∃ y : Int32, y = v3 + 1 := ⟨_, rfl⟩
        have hw := hw x26 ex26
        refine lv_iinc (v := x26) (lv' := [(3, .int x26), (1, .long x25), (0, .ref (a 0))]) hx hb dX8_digest_62 hl (k := 2) rfl (by rw [ex26]; rfl) (by decide) rfl (fun ls hl => ?_)
        refine lv_goto (tgt := 43) hx hb dX8_digest_65 (by decide) ?_
        exact ih x25 x26 s24 _ _ _ hw hP hD hS (lv_sub hl [2, 1, 0] rfl)
  have b16 : ∀ (n : Nat) (v1 : Int64) (v3 : Int32) (s : tm_St) (H : Heap) (locs : List Loc) (ls : Array Slot), wp_X8_digest_16 K n v1 v3 s → va_P (dC, dI) vwCl (tm_wTwo cI cZ a s) H → va_D A (tm_wTwo cI cZ a s) → va_S A z.heap H locs → lv_has ls 4 [(0, .ref (a 0)), (1, .long v1), (3, .int v3)] → W p l e (headSpec wsX8_digest ({ frames := 2, cells := 0, slots := 0, locals := 48 })).room z m (([.ref (a 0)] : List Value).toArray) below meth c H locs 0 0 (MQ below (va_Ql (fun (r : Int64) (u : tm_St) => K r u) (fun (u : tm_St) t => tm_At dC dI cI cZ A (tm_wTwo cI cZ a u) t) A) (([.ref (a 0)] : List Value).toArray) z 0 0 A) (F0 m 16 ls []) := by
    intro n
    induction n with
    | zero => intro v1 v3 s H locs ls hw hP hD hS hl; unfold wp_X8_digest_16 at hw; exact hw.elim
    | succ n ih =>
      intro v1 v3 s H locs ls hw hP hD hS hl
      unfold wp_X8_digest_16 at hw
      refine lv_iload_n hx hb dX8_digest_16 rfl (lv_at hl 2 rfl) ?_
      refine lv_iconst (v := 4) hx hb dX8_digest_17 (by decide) ?_
      refine lv_icmp_ge (tgt := 40) hx hb dX8_digest_18 (by decide) (fun c5 => ?_) (fun c5 => ?_)
      · have hw := hw.1 c5
        refine lv_bipush (v := 10) hx hb dX8_digest_40 (by decide) ?_
        refine lv_istore_n (lv' := [(3, .int 10), (0, .ref (a 0)), (1, .long v1)]) hx hb dX8_digest_42 rfl hl (by decide) rfl (fun ls hl => ?_)
        obtain ⟨nf, hw⟩ := hw
        exact b43 nf v1 10 s _ _ _ hw hP hD hS (lv_sub hl [1, 2, 0] rfl)
      · have hw := hw.2 c5
        refine lv_ldc2 (v := 31) hx hb hown h_c160 dX8_digest_21 ?_
        refine lv_lload_n hx hb dX8_digest_24 rfl (lv_at hl 1 rfl) ?_
        refine lv_lmul hx hb dX8_digest_25 ?_
        refine lv_aload_n hx hb dX8_digest_26 rfl (lv_at hl 0 rfl) ?_
        refine lv_iload_n hx hb dX8_digest_27 rfl (lv_at hl 2 rfl) ?_
        have hPc := hP
        have hDc := hD
        have hFc := va_free (wc := (tm_wTwo cI cZ a s)) hD hS hA [0, 1, 2, 3, 4, 5, 6, 7, 8, 9, 10, 11, 12, 13, 14, 15, 16, 17, 18, 19, 20, 21, 22, 23, 24, 25, 26, 27, 28, 29] rfl
        refine va_calli (va_runV (As := [.int v3]) (rest := [.long (31 * v1)]) ⟨hx, hb, hml, hown, hts⟩ (kk_X8_about l dC dI cI cZ a s H.size v3 _ hw) (cwV 1 hts gX8_digest_X8_about rfl rfl rfl (by decide +kernel) ⟨Nat.le_of_ble_eq_true rfl, Nat.le_of_ble_eq_true rfl⟩) ⟨tm_blind, va_recv hK hPc (ci := 6) (q0 := 0) rfl rfl, fun U hU hW => ⟨rfl, by rw [hU], by rw [hU]; exact hPc, va_K.moved hW.alike hK, hDc.weaken (fun _ _ _ _ => trivial)⟩⟩ rfl rfl hl.1 rfl (lv_room (Nat.le_of_ble_eq_true rfl)) dX8_digest_28 ⟨Nat.zero_le _, Nat.zero_le _⟩) hS (fun q _ h => hFc q h) hFc (fun r27 s28 t H1 locs ht hvm hw hB hz1 hk1 hS => ?_)
        obtain ⟨hP1, hK1, hD1⟩ := hB
        rw [ht] at hP1
        obtain ⟨hP, hD⟩ := va_join (wr := []) (w1 := (tm_wTwo cI cZ a s28)) hP hD [0, 1, 2, 3, 4, 5, 6, 7, 8, 9, 10, 11, 12, 13, 14, 15, 16, 17, 18, 19, 20, 21, 22, 23, 24, 25, 26, 27, 28, 29] [] rfl rfl (by decide) (by decide) hk1 hFc hP1 hD1
        generalize H1 = H at hP hS ⊢
        have hP : va_P (dC, dI) vwCl (tm_wTwo cI cZ a s28) H := hP
        have hD : va_D A (tm_wTwo cI cZ a s28) := hD
        refine lv_i2l hx hb dX8_digest_31 rfl ?_
        refine lv_ladd hx hb dX8_digest_32 ?_
        refine lv_topl (fun x29 ex29 => ?_)
        have hw := hw x29 ex29
        refine lv_lstore_n (lv' := [(1, .long x29), (0, .ref (a 0)), (3, .int v3)]) hx hb dX8_digest_33 rfl hl (by decide) rfl (fun ls hl => ?_)
        obtain ⟨x30, ex30⟩ : ∃ y : Int32, y = v3 + 1 := ⟨_, rfl⟩
        have hw := hw x30 ex30
        refine lv_iinc (v := x30) (lv' := [(3, .int x30), (1, .long x29), (0, .ref (a 0))]) hx hb dX8_digest_34 hl (k := 2) rfl (by rw [ex30]; rfl) (by decide) rfl (fun ls hl => ?_)
        refine lv_goto (tgt := 16) hx hb dX8_digest_37 (by decide) ?_
        exact ih x29 x30 s28 _ _ _ hw hP hD hS (lv_sub hl [2, 1, 0] rfl)
  have hl := lv_entry ([.ref (a 0)]) (n := 4) (Nat.le_of_ble_eq_true rfl)
  rw [lg_entry_eq]
  generalize (lg_sl ([.ref (a 0)]) ++ List.replicate (4 - (lg_sl ([.ref (a 0)])).length) Slot.unset).toArray = ls at hl ⊢
  have hl : lv_has ls 4 [(0, .ref (a 0))] := hl
  unfold wp_X8_digest at hw
  refine lv_aload_n hx hb dX8_digest_0 rfl (lv_at hl 0 rfl) ?_
  refine lv_iconst (v := 1) hx hb dX8_digest_1 (by decide) ?_
  refine lv_aload_n hx hb dX8_digest_2 rfl (lv_at hl 0 rfl) ?_
  refine lv_iconst (v := 0) hx hb dX8_digest_3 (by decide) ?_
  refine lv_ldc2 (v := 1613) hx hb hown h_c154 dX8_digest_4 ?_
  have hPc := hP
  have hDc := hD
  have hFc := va_free (wc := (tm_wTwo cI cZ a s0)) hD hS hA [0, 1, 2, 3, 4, 5, 6, 7, 8, 9, 10, 11, 12, 13, 14, 15, 16, 17, 18, 19, 20, 21, 22, 23, 24, 25, 26, 27, 28, 29] rfl
  refine va_calll (va_runV (As := [.int 0, .long 1613]) (rest := [.int 1, .ref (a 0)]) ⟨hx, hb, hml, hown, hts⟩ (kk_X8_digestOfEnd l dC dI cI cZ a s0 z.heap.size 0 1613 _ hw) (cwV 2 hts gX8_digest_X8_digestOfEnd rfl rfl rfl (by decide +kernel) ⟨Nat.le_of_ble_eq_true rfl, Nat.le_of_ble_eq_true rfl⟩) ⟨tm_blind, va_recv hK hPc (ci := 6) (q0 := 0) rfl rfl, fun U hU hW => ⟨rfl, by rw [hU], by rw [hU]; exact hPc, va_K.moved hW.alike hK, hDc.weaken (fun _ _ _ _ => trivial)⟩⟩ rfl rfl hl.1 rfl (lv_room (Nat.le_of_ble_eq_true rfl)) dX8_digest_7 ⟨Nat.zero_le _, Nat.zero_le _⟩) hS (fun q _ h => hFc q h) hFc (fun r1 s2 t H1 locs ht hvm hw hB hz1 hk1 hS => ?_)
  obtain ⟨hP1, hK1, hD1⟩ := hB
  rw [ht] at hP1
  obtain ⟨hP, hD⟩ := va_join (wr := []) (w1 := (tm_wTwo cI cZ a s2)) hP hD [0, 1, 2, 3, 4, 5, 6, 7, 8, 9, 10, 11, 12, 13, 14, 15, 16, 17, 18, 19, 20, 21, 22, 23, 24, 25, 26, 27, 28, 29] [] rfl rfl (by decide) (by decide) hk1 hFc hP1 hD1
  generalize H1 = H at hP hS ⊢
  have hP : va_P (dC, dI) vwCl (tm_wTwo cI cZ a s2) H := hP
  have hD : va_D A (tm_wTwo cI cZ a s2) := hD
  have hPc := hP
  have hDc := hD
  have hFc := va_free (wc := (tm_wTwo cI cZ a s2)) hD hS hA [0, 1, 2, 3, 4, 5, 6, 7, 8, 9, 10, 11, 12, 13, 14, 15, 16, 17, 18, 19, 20, 21, 22, 23, 24, 25, 26, 27, 28, 29] rfl
  refine va_calll (va_runV (As := [.int 1, .long r1]) (rest := []) ⟨hx, hb, hml, hown, hts⟩ (kk_X8_digestOfEnd l dC dI cI cZ a s2 H.size 1 r1 _ hw) (cwV 2 hts gX8_digest_X8_digestOfEnd rfl rfl rfl (by decide +kernel) ⟨Nat.le_of_ble_eq_true rfl, Nat.le_of_ble_eq_true rfl⟩) ⟨tm_blind, va_recv hK hPc (ci := 6) (q0 := 0) rfl rfl, fun U hU hW => ⟨rfl, by rw [hU], by rw [hU]; exact hPc, va_K.moved hW.alike hK, hDc.weaken (fun _ _ _ _ => trivial)⟩⟩ rfl rfl hl.1 rfl (lv_room (Nat.le_of_ble_eq_true rfl)) dX8_digest_10 ⟨Nat.zero_le _, Nat.zero_le _⟩) hS (fun q _ h => hFc q h) hFc (fun r3 s4 t H1 locs ht hvm hw hB hz1 hk1 hS => ?_)
  obtain ⟨hP1, hK1, hD1⟩ := hB
  rw [ht] at hP1
  obtain ⟨hP, hD⟩ := va_join (wr := []) (w1 := (tm_wTwo cI cZ a s4)) hP hD [0, 1, 2, 3, 4, 5, 6, 7, 8, 9, 10, 11, 12, 13, 14, 15, 16, 17, 18, 19, 20, 21, 22, 23, 24, 25, 26, 27, 28, 29] [] rfl rfl (by decide) (by decide) hk1 hFc hP1 hD1
  generalize H1 = H at hP hS ⊢
  have hP : va_P (dC, dI) vwCl (tm_wTwo cI cZ a s4) H := hP
  have hD : va_D A (tm_wTwo cI cZ a s4) := hD
  refine lv_lstore_n (lv' := [(1, .long r3), (0, .ref (a 0))]) hx hb dX8_digest_13 rfl hl (by decide) rfl (fun ls hl => ?_)
  refine lv_iconst (v := 0) hx hb dX8_digest_14 (by decide) ?_
  refine lv_istore_n (lv' := [(3, .int 0), (1, .long r3), (0, .ref (a 0))]) hx hb dX8_digest_15 rfl hl (by decide) rfl (fun ls hl => ?_)
  obtain ⟨nf, hw⟩ := hw
  exact b16 nf r3 0 s4 _ _ _ hw hP hD hS (lv_sub hl [2, 1, 0] rfl)
