def wp_X4_add (p0 : Int32) (s0 : tm_St) (K : tm_St → Prop) : Prop := (((s0 0 1) < 0 → K s0) ∧ (¬ (s0 0 1) < 0 → (((30 : Int32) ≤ (s0 0 1) → K s0) ∧ (¬ (30 : Int32) ≤ (s0 0 1) → (vp_in (s0 0 1) 30 ∧ (∀ s4 : tm_St, s4 = tm_s s0 1 (upd (s0 1) ((s0 0 1) : Int32).toNatClampNeg p0) → (∀ s5 : tm_St, s5 = tm_s s4 0 (tm_u (s4 0) 1 ((s4 0 1) + 1)) → K s5)))))))
set_option maxRecDepth 100000 in
set_option maxHeartbeats 4000000 in
theorem kk_X4_add (l : Launch) (dC : Nat → ClassId) (dI : Nat → Nat → Nat) (cI cZ : ClassId) (a : Nat → Nat) (s0 : tm_St) (sz : Nat) (p0 : Int32) (K : tm_St → Prop) (hw : wp_X4_add p0 s0 K) : Met l yX4_add wsX4_add ({ frames := 0, cells := 0, slots := 0, locals := 0 }) (va_Pc [.ref (a 0), .int p0] (tm_Pre dC dI cI cZ (tm_wPage cI cZ a s0) sz)) (va_Qv (fun (u : tm_St) => K u) (fun (u : tm_St) t => tm_At dC dI cI cZ (va_A (tm_wPage cI cZ a s0) sz) (tm_wPage cI cZ a u) t) (va_A (tm_wPage cI cZ a s0) sz)) 0 0 (va_A (tm_wPage cI cZ a s0) sz) := by
  refine Met.ofW (cc := cX4_add) (maxL := 2) (ret := none) (by decide +kernel) rfl ?_
  intro p e z m args below meth c z₁ B hml hv
  obtain ⟨rfl, hsz, hP, hK, hD0⟩ := hv
  have hx := B.exec
  have hb := B.bytes
  have hr := B.returns
  have hts := atoms_spec (ws := wsX4_add) B.pre
  have hown : z.vm.findClass RX4 = some m.cls := findClass_of_methodNamed B.named
  have hlocks := B.notSynchronized
  subst hsz
  have hD := hD0.self (sz := z.heap.size)
  generalize hAe : va_A (tm_wPage cI cZ a s0) z.heap.size = A at hD ⊢
  have hA : ∀ q : Nat, z.heap.size ≤ q → A q := fun q h => by rw [← hAe]; exact Or.inr h
  have hS : va_S A z.heap z.heap [] := va_S.rf
  have h_f15 := hts (.fieldLink RX4 15 "TwoModems$Page" "size" "I") (by decide +kernel)
  have h_in4 : ∀ w ∈ u_ws RX4 TX4 2, w ∈ wsX4_add := by decide +kernel
  have h_f11 := hts (.fieldLink RX4 11 "TwoModems$Page" "codes" "[I") (by decide +kernel)
  have hl := lv_entry ([.ref (a 0), .int p0]) (n := 2) (Nat.le_of_ble_eq_true rfl)
  rw [lg_entry_eq]
  generalize (lg_sl ([.ref (a 0), .int p0]) ++ List.replicate (2 - (lg_sl ([.ref (a 0), .int p0])).length) Slot.unset).toArray = ls at hl ⊢
  have hl : lv_has ls 2 [(0, .ref (a 0)), (1, .int p0)] := hl
  unfold wp_X4_add at hw
  refine lv_aload_n hx hb dX4_add_0 rfl (lv_at hl 0 rfl) ?_
  refine va_get (D := (dC, dI)) (ci := 4) (v := .int (s0 0 1)) (C := RX4) (T := TX4) (N := 2) hx hb hts h_in4 hown hK hP 0 rfl rfl 1 (by decide) h_f15 (fun _ h9 => h9) rfl dX4_add_1 ?_
  refine lv_if_lt (tgt := 36) hx hb dX4_add_4 (by decide) (fun c1 => ?_) (fun c1 => ?_)
  · have hw := hw.1 c1
    exact W.vret hx hb hr (fun t ht hW => ⟨⟨s0, rfl, hw, by rw [ht]; exact hP, va_K.moved hW.alike hK, hD⟩, hS.F ht⟩) hS.2.2 dX4_add_36
  · have hw := hw.2 c1
    refine lv_aload_n hx hb dX4_add_7 rfl (lv_at hl 0 rfl) ?_
    refine va_get (D := (dC, dI)) (ci := 4) (v := .int (s0 0 1)) (C := RX4) (T := TX4) (N := 2) hx hb hts h_in4 hown hK hP 0 rfl rfl 1 (by decide) h_f15 (fun _ h9 => h9) rfl dX4_add_8 ?_
    refine lv_bipush (v := 30) hx hb dX4_add_11 (by decide) ?_
    refine lv_icmp_ge (tgt := 36) hx hb dX4_add_13 (by decide) (fun c2 => ?_) (fun c2 => ?_)
    · have hw := hw.1 c2
      exact W.vret hx hb hr (fun t ht hW => ⟨⟨s0, rfl, hw, by rw [ht]; exact hP, va_K.moved hW.alike hK, hD⟩, hS.F ht⟩) hS.2.2 dX4_add_36
    · have hw := hw.2 c2
      refine lv_aload_n hx hb dX4_add_16 rfl (lv_at hl 0 rfl) ?_
      refine va_get (D := (dC, dI)) (ci := 4) (v := .ref (a 1)) (C := RX4) (T := TX4) (N := 2) hx hb hts h_in4 hown hK hP 0 rfl rfl 0 (by decide) h_f11 (fun _ h9 => h9) rfl dX4_add_17 ?_
      refine lv_aload_n hx hb dX4_add_20 rfl (lv_at hl 0 rfl) ?_
      refine va_get (D := (dC, dI)) (ci := 4) (v := .int (s0 0 1)) (C := RX4) (T := TX4) (N := 2) hx hb hts h_in4 hown hK hP 0 rfl rfl 1 (by decide) h_f15 (fun _ h9 => h9) rfl dX4_add_21 ?_
      refine lv_iload_n hx hb dX4_add_24 rfl (lv_at hl 1 rfl) ?_
      have c3 := hw.1
      have hw := hw.2
      refine va_iast hx hb hK hP hD hS 1 0 rfl rfl c3 dX4_add_25 (fun H locs hP hD hS => ?_)
      obtain ⟨s4, es4⟩ : ∃ y : tm_St, y = tm_s s0 1 (upd (s0 1) ((s0 0 1) : Int32).toNatClampNeg p0) := ⟨_, rfl⟩
      have hw := hw s4 es4
      have hP : va_P (dC, dI) vwCl (tm_wPage cI cZ a s4) H := by rw [es4]; exact hP
      have hD : va_D A (tm_wPage cI cZ a s4) := by rw [es4]; exact hD
      refine lv_aload_n hx hb dX4_add_26 rfl (lv_at hl 0 rfl) ?_
      refine lv_dup hx hb dX4_add_27 rfl ?_
      refine va_get (D := (dC, dI)) (ci := 4) (v := .int (s4 0 1)) (C := RX4) (T := TX4) (N := 2) hx hb hts h_in4 hown hK hP 0 rfl rfl 1 (by decide) h_f15 (fun _ h9 => h9) rfl dX4_add_28 ?_
      refine lv_iconst (v := 1) hx hb dX4_add_31 (by decide) ?_
      refine lv_iadd hx hb dX4_add_32 ?_
      refine va_put (D := (dC, dI)) (ci := 4) (v := .int ((s4 0 1) + 1)) (ty := .int) (C := RX4) (T := TX4) (N := 2) hx hb hts h_in4 tyX4 tyX4_ok nmX4 hown hK hP hD hS 0 rfl rfl 1 (by decide) h_f15 (fun _ h9 => h9) rfl (by decide +kernel) rfl rfl (Nat.le_of_ble_eq_true rfl) dX4_add_33 (fun H locs hP hD hS => ?_)
      obtain ⟨s5, es5⟩ : ∃ y : tm_St, y = tm_s s4 0 (tm_u (s4 0) 1 ((s4 0 1) + 1)) := ⟨_, rfl⟩
      have hw := hw s5 es5
      have hP : va_P (dC, dI) vwCl (tm_wPage cI cZ a s5) H := by rw [es5]; exact hP
      have hD : va_D A (tm_wPage cI cZ a s5) := by rw [es5]; exact hD
      exact W.vret hx hb hr (fun t ht hW => ⟨⟨s5, rfl, hw, by rw [ht]; exact hP, va_K.moved hW.alike hK, hD⟩, hS.F ht⟩) hS.2.2 dX4_add_36
def wp_X4_codeAt (p0 : Int32) (s0 : tm_St) (K : Int32 → tm_St → Prop) : Prop := ((p0 < 0 → K 0 s0) ∧ (¬ p0 < 0 → (((s0 0 1) ≤ p0 → K 0 s0) ∧ (¬ (s0 0 1) ≤ p0 → (((30 : Int32) ≤ p0 → K 0 s0) ∧ (¬ (30 : Int32) ≤ p0 → (vp_in p0 30 ∧ K (s0 1 (p0 : Int32).toNatClampNeg) s0)))))))
set_option maxRecDepth 100000 in
set_option maxHeartbeats 4000000 in
theorem kk_X4_codeAt (l : Launch) (dC : Nat → ClassId) (dI : Nat → Nat → Nat) (cI cZ : ClassId) (a : Nat → Nat) (s0 : tm_St) (sz : Nat) (p0 : Int32) (K : Int32 → tm_St → Prop) (hw : wp_X4_codeAt p0 s0 K) : Met l yX4_codeAt wsX4_codeAt ({ frames := 0, cells := 0, slots := 0, locals := 0 }) (va_Pc [.ref (a 0), .int p0] (tm_Pre dC dI cI cZ (tm_wPage cI cZ a s0) sz)) (va_Qi (fun (r : Int32) (u : tm_St) => K r u) (fun (u : tm_St) t => tm_At dC dI cI cZ (va_A (tm_wPage cI cZ a s0) sz) (tm_wPage cI cZ a u) t) (va_A (tm_wPage cI cZ a s0) sz)) 0 0 (va_A (tm_wPage cI cZ a s0) sz) := by
  refine Met.ofW (cc := cX4_codeAt) (maxL := 2) (ret := (some .int)) (by decide +kernel) rfl ?_
  intro p e z m args below meth c z₁ B hml hv
  obtain ⟨rfl, hsz, hP, hK, hD0⟩ := hv
  have hx := B.exec
  have hb := B.bytes
  have hr := B.returns
  have hts := atoms_spec (ws := wsX4_codeAt) B.pre
  have hown : z.vm.findClass RX4 = some m.cls := findClass_of_methodNamed B.named
  have hlocks := B.notSynchronized
  subst hsz
  have hD := hD0.self (sz := z.heap.size)
  generalize hAe : va_A (tm_wPage cI cZ a s0) z.heap.size = A at hD ⊢
  have hA : ∀ q : Nat, z.heap.size ≤ q → A q := fun q h => by rw [← hAe]; exact Or.inr h
  have hS : va_S A z.heap z.heap [] := va_S.rf
  have h_f15 := hts (.fieldLink RX4 15 "TwoModems$Page" "size" "I") (by decide +kernel)
  have h_in4 : ∀ w ∈ u_ws RX4 TX4 2, w ∈ wsX4_codeAt := by decide +kernel
  have h_f11 := hts (.fieldLink RX4 11 "TwoModems$Page" "codes" "[I") (by decide +kernel)
  have hl := lv_entry ([.ref (a 0), .int p0]) (n := 2) (Nat.le_of_ble_eq_true rfl)
  rw [lg_entry_eq]
  generalize (lg_sl ([.ref (a 0), .int p0]) ++ List.replicate (2 - (lg_sl ([.ref (a 0), .int p0])).length) Slot.unset).toArray = ls at hl ⊢
  have hl : lv_has ls 2 [(0, .ref (a 0)), (1, .int p0)] := hl
  unfold wp_X4_codeAt at hw
  refine lv_iload_n hx hb dX4_codeAt_0 rfl (lv_at hl 1 rfl) ?_
  refine lv_if_lt (tgt := 27) hx hb dX4_codeAt_1 (by decide) (fun c1 => ?_) (fun c1 => ?_)
  · have hw := hw.1 c1
    refine lv_iconst (v := 0) hx hb dX4_codeAt_27 (by decide) ?_
    exact W.iret (v := 0) hx hb hr (fun t ht hW => ⟨⟨0, s0, rfl, hw, by rw [ht]; exact hP, va_K.moved hW.alike hK, hD⟩, hS.F ht⟩) hS.2.2 dX4_codeAt_28
  · have hw := hw.2 c1
    refine lv_iload_n hx hb dX4_codeAt_4 rfl (lv_at hl 1 rfl) ?_
    refine lv_aload_n hx hb dX4_codeAt_5 rfl (lv_at hl 0 rfl) ?_
    refine va_get (D := (dC, dI)) (ci := 4) (v := .int (s0 0 1)) (C := RX4) (T := TX4) (N := 2) hx hb hts h_in4 hown hK hP 0 rfl rfl 1 (by decide) h_f15 (fun _ h9 => h9) rfl dX4_codeAt_6 ?_
    refine lv_icmp_ge (tgt := 27) hx hb dX4_codeAt_9 (by decide) (fun c2 => ?_) (fun c2 => ?_)
    · have hw := hw.1 c2
      refine lv_iconst (v := 0) hx hb dX4_codeAt_27 (by decide) ?_
      exact W.iret (v := 0) hx hb hr (fun t ht hW => ⟨⟨0, s0, rfl, hw, by rw [ht]; exact hP, va_K.moved hW.alike hK, hD⟩, hS.F ht⟩) hS.2.2 dX4_codeAt_28
    · have hw := hw.2 c2
      refine lv_iload_n hx hb dX4_codeAt_12 rfl (lv_at hl 1 rfl) ?_
      refine lv_bipush (v := 30) hx hb dX4_codeAt_13 (by decide) ?_
      refine lv_icmp_ge (tgt := 27) hx hb dX4_codeAt_15 (by decide) (fun c3 => ?_) (fun c3 => ?_)
      · have hw := hw.1 c3
        refine lv_iconst (v := 0) hx hb dX4_codeAt_27 (by decide) ?_
        exact W.iret (v := 0) hx hb hr (fun t ht hW => ⟨⟨0, s0, rfl, hw, by rw [ht]; exact hP, va_K.moved hW.alike hK, hD⟩, hS.F ht⟩) hS.2.2 dX4_codeAt_28
      · have hw := hw.2 c3
        refine lv_aload_n hx hb dX4_codeAt_18 rfl (lv_at hl 0 rfl) ?_
        refine va_get (D := (dC, dI)) (ci := 4) (v := .ref (a 1)) (C := RX4) (T := TX4) (N := 2) hx hb hts h_in4 hown hK hP 0 rfl rfl 0 (by decide) h_f11 (fun _ h9 => h9) rfl dX4_codeAt_19 ?_
        refine lv_iload_n hx hb dX4_codeAt_22 rfl (lv_at hl 1 rfl) ?_
        have c4 := hw.1
        have hw := hw.2
        refine va_iald hx hb hK hP 1 0 rfl rfl c4 dX4_codeAt_23 ?_
        refine lv_goto (tgt := 28) hx hb dX4_codeAt_24 (by decide) ?_
        exact W.iret (v := (s0 1 (p0 : Int32).toNatClampNeg)) hx hb hr (fun t ht hW => ⟨⟨(s0 1 (p0 : Int32).toNatClampNeg), s0, rfl, hw, by rw [ht]; exact hP, va_K.moved hW.alike hK, hD⟩, hS.F ht⟩) hS.2.2 dX4_codeAt_28
def wp_X4_commaAhead_3 (K : Int32 → tm_St → Prop) : Nat → Int32 → Int32 → tm_St → Prop
  | 0, _, _, _ => False
  | n + 1, v1, v2, s => ((v1 ≤ v2 → K (-1) s) ∧ (¬ v1 ≤ v2 → (wp_X4_codeAt v2 s (fun r2 s3 => ((¬ r2 = 44 → (∀ x5 : Int32, x5 = v2 + 1 → wp_X4_commaAhead_3 K n v1 x5 s3)) ∧ (r2 = 44 → K v2 s3))))))
def wp_X4_commaAhead (p0 : Int32) (s0 : tm_St) (K : Int32 → tm_St → Prop) : Prop := ∃ nf : Nat, wp_X4_commaAhead_3 K nf p0 20 s0
set_option maxRecDepth 100000 in
set_option maxHeartbeats 4000000 in
theorem kk_X4_commaAhead (l : Launch) (dC : Nat → ClassId) (dI : Nat → Nat → Nat) (cI cZ : ClassId) (a : Nat → Nat) (s0 : tm_St) (sz : Nat) (p0 : Int32) (K : Int32 → tm_St → Prop) (hw : wp_X4_commaAhead p0 s0 K) : Met l yX4_commaAhead wsX4_commaAhead ({ frames := 1, cells := 0, slots := 0, locals := 21 }) (va_Pc [.ref (a 0), .int p0] (tm_Pre dC dI cI cZ (tm_wPage cI cZ a s0) sz)) (va_Qi (fun (r : Int32) (u : tm_St) => K r u) (fun (u : tm_St) t => tm_At dC dI cI cZ (va_A (tm_wPage cI cZ a s0) sz) (tm_wPage cI cZ a u) t) (va_A (tm_wPage cI cZ a s0) sz)) 0 0 (va_A (tm_wPage cI cZ a s0) sz) := by
  refine Met.ofW (cc := cX4_commaAhead) (maxL := 3) (ret := (some .int)) (by decide +kernel) rfl ?_
  intro p e z m args below meth c z₁ B hml hv
  obtain ⟨rfl, hsz, hP, hK, hD0⟩ := hv
  have hx := B.exec
  have hb := B.bytes
  have hr := B.returns
  have hts := atoms_spec (ws := wsX4_commaAhead) B.pre
  have hown : z.vm.findClass RX4 = some m.cls := findClass_of_methodNamed B.named
  have hlocks := B.notSynchronized
  subst hsz
  have hD := hD0.self (sz := z.heap.size)
  generalize hAe : va_A (tm_wPage cI cZ a s0) z.heap.size = A at hD ⊢
  have hA : ∀ q : Nat, z.heap.size ≤ q → A q := fun q h => by rw [← hAe]; exact Or.inr h
  have hS : va_S A z.heap z.heap [] := va_S.rf
  have b3 : ∀ (n : Nat) (v1 : Int32) (v2 : Int32) (s : tm_St) (H : Heap) (locs : List Loc) (ls : Array Slot), wp_X4_commaAhead_3 K n v1 v2 s → va_P (dC, dI) vwCl (tm_wPage cI cZ a s) H → va_D A (tm_wPage cI cZ a s) → va_S A z.heap H locs → lv_has ls 3 [(0, .ref (a 0)), (1, .int v1), (2, .int v2)] → W p l e (headSpec wsX4_commaAhead ({ frames := 1, cells := 0, slots := 0, locals := 21 })).room z m (([.ref (a 0), .int p0] : List Value).toArray) below meth c H locs 0 0 (MQ below (va_Qi (fun (r : Int32) (u : tm_St) => K r u) (fun (u : tm_St) t => tm_At dC dI cI cZ A (tm_wPage cI cZ a u) t) A) (([.ref (a 0), .int p0] : List Value).toArray) z 0 0 A) (F0 m 3 ls []) := by
    intro n
    induction n with
    | zero => intro v1 v2 s H locs ls hw hP hD hS hl; unfold wp_X4_commaAhead_3 at hw; exact hw.elim
    | succ n ih =>
      intro v1 v2 s H locs ls hw hP hD hS hl
      unfold wp_X4_commaAhead_3 at hw
      refine lv_iload_n hx hb dX4_commaAhead_3 rfl (lv_at hl 2 rfl) ?_
      refine lv_iload_n hx hb dX4_commaAhead_4 rfl (lv_at hl 1 rfl) ?_
      refine lv_icmp_ge (tgt := 26) hx hb dX4_commaAhead_5 (by decide) (fun c1 => ?_) (fun c1 => ?_)
      · have hw := hw.1 c1
        refine lv_iconst (v := (-1)) hx hb dX4_commaAhead_26 (by decide) ?_
        exact W.iret (v := (-1)) hx hb hr (fun t ht hW => ⟨⟨(-1), s, rfl, hw, by rw [ht]; exact hP, va_K.moved hW.alike hK, hD⟩, hS.F ht⟩) hS.2.2 dX4_commaAhead_27
      · have hw := hw.2 c1
        refine lv_aload_n hx hb dX4_commaAhead_8 rfl (lv_at hl 0 rfl) ?_
        refine lv_iload_n hx hb dX4_commaAhead_9 rfl (lv_at hl 2 rfl) ?_
        have hPc := hP
        have hDc := hD
        have hFc := va_free (wc := (tm_wPage cI cZ a s)) hD hS hA [0, 1] rfl
        refine va_calli (va_runV (As := [.int v2]) (rest := []) ⟨hx, hb, hml, hown, hts⟩ (kk_X4_codeAt l dC dI cI cZ a s H.size v2 _ hw) (cwV 1 hts gX4_commaAhead_X4_codeAt rfl rfl rfl (by decide +kernel) ⟨Nat.le_of_ble_eq_true rfl, Nat.le_of_ble_eq_true rfl⟩) ⟨tm_blind, va_recv hK hPc (ci := 4) (q0 := 0) rfl rfl, fun U hU hW => ⟨rfl, by rw [hU], by rw [hU]; exact hPc, va_K.moved hW.alike hK, hDc.weaken (fun _ _ _ _ => trivial)⟩⟩ rfl rfl hl.1 rfl (lv_room (Nat.le_of_ble_eq_true rfl)) dX4_commaAhead_10 ⟨Nat.zero_le _, Nat.zero_le _⟩) hS (fun q _ h => hFc q h) hFc (fun r2 s3 t H1 locs ht hvm hw hB hz1 hk1 hS => ?_)
        obtain ⟨hP1, hK1, hD1⟩ := hB
        rw [ht] at hP1
        obtain ⟨hP, hD⟩ := va_join (wr := []) (w1 := (tm_wPage cI cZ a s3)) hP hD [0, 1] [] rfl rfl (by decide) (by decide) hk1 hFc hP1 hD1
        generalize H1 = H at hP hS ⊢
        have hP : va_P (dC, dI) vwCl (tm_wPage cI cZ a s3) H := hP
        have hD : va_D A (tm_wPage cI cZ a s3) := hD
        refine lv_bipush (v := 44) hx hb dX4_commaAhead_13 (by decide) ?_
        refine lv_icmp_ne (tgt := 20) hx hb dX4_commaAhead_15 (by decide) (fun c4 => ?_) (fun c4 => ?_)
        · have hw := hw.1 c4
          obtain ⟨x5, ex5⟩ : ∃ y : Int32, y = v2 + 1 := ⟨_, rfl⟩
          have hw := hw x5 ex5
          refine lv_iinc (v := x5) (lv' := [(2, .int x5), (0, .ref (a 0)), (1, .int v1)]) hx hb dX4_commaAhead_20 hl (k := 2) rfl (by rw [ex5]; rfl) (by decide) rfl (fun ls hl => ?_)
          refine lv_goto (tgt := 3) hx hb dX4_commaAhead_23 (by decide) ?_
          exact ih v1 x5 s3 _ _ _ hw hP hD hS (lv_sub hl [1, 2, 0] rfl)
        · have hw := hw.2 c4
          refine lv_iload_n hx hb dX4_commaAhead_18 rfl (lv_at hl 2 rfl) ?_
          exact W.iret (v := v2) hx hb hr (fun t ht hW => ⟨⟨v2, s3, rfl, hw, by rw [ht]; exact hP, va_K.moved hW.alike hK, hD⟩, hS.F ht⟩) hS.2.2 dX4_commaAhead_19
  have hl := lv_entry ([.ref (a 0), .int p0]) (n := 3) (Nat.le_of_ble_eq_true rfl)
  rw [lg_entry_eq]
  generalize (lg_sl ([.ref (a 0), .int p0]) ++ List.replicate (3 - (lg_sl ([.ref (a 0), .int p0])).length) Slot.unset).toArray = ls at hl ⊢
  have hl : lv_has ls 3 [(0, .ref (a 0)), (1, .int p0)] := hl
  unfold wp_X4_commaAhead at hw
  refine lv_bipush (v := 20) hx hb dX4_commaAhead_0 (by decide) ?_
  refine lv_istore_n (lv' := [(2, .int 20), (0, .ref (a 0)), (1, .int p0)]) hx hb dX4_commaAhead_2 rfl hl (by decide) rfl (fun ls hl => ?_)
  obtain ⟨nf, hw⟩ := hw
  exact b3 nf p0 20 s0 _ _ _ hw hP hD hS (lv_sub hl [1, 2, 0] rfl)
def wp_X4_number_5 (K : Int32 → tm_St → Prop) : Nat → Int32 → Int32 → Int32 → tm_St → Prop
  | 0, _, _, _, _ => False
  | n + 1, v2, v3, v4, s => ((v2 ≤ v4 → K v3 s) ∧ (¬ v2 ≤ v4 → (wp_X4_codeAt v4 s (fun r2 s3 => (∀ x4 : Int32, x4 = ((v3 * 10) + (r2 - 48)) → (∀ x5 : Int32, x5 = v4 + 1 → wp_X4_number_5 K n v2 x4 x5 s3))))))
def wp_X4_number (p0 : Int32) (p1 : Int32) (s0 : tm_St) (K : Int32 → tm_St → Prop) : Prop := ∃ nf : Nat, wp_X4_number_5 K nf p1 0 p0 s0
set_option maxRecDepth 100000 in
set_option maxHeartbeats 4000000 in
theorem kk_X4_number (l : Launch) (dC : Nat → ClassId) (dI : Nat → Nat → Nat) (cI cZ : ClassId) (a : Nat → Nat) (s0 : tm_St) (sz : Nat) (p0 : Int32) (p1 : Int32) (K : Int32 → tm_St → Prop) (hw : wp_X4_number p0 p1 s0 K) : Met l yX4_number wsX4_number ({ frames := 1, cells := 0, slots := 0, locals := 21 }) (va_Pc [.ref (a 0), .int p0, .int p1] (tm_Pre dC dI cI cZ (tm_wPage cI cZ a s0) sz)) (va_Qi (fun (r : Int32) (u : tm_St) => K r u) (fun (u : tm_St) t => tm_At dC dI cI cZ (va_A (tm_wPage cI cZ a s0) sz) (tm_wPage cI cZ a u) t) (va_A (tm_wPage cI cZ a s0) sz)) 0 0 (va_A (tm_wPage cI cZ a s0) sz) := by
  refine Met.ofW (cc := cX4_number) (maxL := 5) (ret := (some .int)) (by decide +kernel) rfl ?_
  intro p e z m args below meth c z₁ B hml hv
  obtain ⟨rfl, hsz, hP, hK, hD0⟩ := hv
  have hx := B.exec
  have hb := B.bytes
  have hr := B.returns
  have hts := atoms_spec (ws := wsX4_number) B.pre
  have hown : z.vm.findClass RX4 = some m.cls := findClass_of_methodNamed B.named
  have hlocks := B.notSynchronized
  subst hsz
  have hD := hD0.self (sz := z.heap.size)
  generalize hAe : va_A (tm_wPage cI cZ a s0) z.heap.size = A at hD ⊢
  have hA : ∀ q : Nat, z.heap.size ≤ q → A q := fun q h => by rw [← hAe]; exact Or.inr h
  have hS : va_S A z.heap z.heap [] := va_S.rf
  have b5 : ∀ (n : Nat) (v2 : Int32) (v3 : Int32) (v4 : Int32) (s : tm_St) (H : Heap) (locs : List Loc) (ls : Array Slot), wp_X4_number_5 K n v2 v3 v4 s → va_P (dC, dI) vwCl (tm_wPage cI cZ a s) H → va_D A (tm_wPage cI cZ a s) → va_S A z.heap H locs → lv_has ls 5 [(0, .ref (a 0)), (2, .int v2), (3, .int v3), (4, .int v4)] → W p l e (headSpec wsX4_number ({ frames := 1, cells := 0, slots := 0, locals := 21 })).room z m (([.ref (a 0), .int p0, .int p1] : List Value).toArray) below meth c H locs 0 0 (MQ below (va_Qi (fun (r : Int32) (u : tm_St) => K r u) (fun (u : tm_St) t => tm_At dC dI cI cZ A (tm_wPage cI cZ a u) t) A) (([.ref (a 0), .int p0, .int p1] : List Value).toArray) z 0 0 A) (F0 m 5 ls []) := by
    intro n
    induction n with
    | zero => intro v2 v3 v4 s H locs ls hw hP hD hS hl; unfold wp_X4_number_5 at hw; exact hw.elim
    | succ n ih =>
      intro v2 v3 v4 s H locs ls hw hP hD hS hl
      unfold wp_X4_number_5 at hw
      refine lv_iload hx hb dX4_number_5 (lv_at hl 3 rfl) ?_
      refine lv_iload_n hx hb dX4_number_7 rfl (lv_at hl 1 rfl) ?_
      refine lv_icmp_ge (tgt := 32) hx hb dX4_number_8 (by decide) (fun c1 => ?_) (fun c1 => ?_)
      · have hw := hw.1 c1
        refine lv_iload_n hx hb dX4_number_32 rfl (lv_at hl 2 rfl) ?_
        exact W.iret (v := v3) hx hb hr (fun t ht hW => ⟨⟨v3, s, rfl, hw, by rw [ht]; exact hP, va_K.moved hW.alike hK, hD⟩, hS.F ht⟩) hS.2.2 dX4_number_33
      · have hw := hw.2 c1
        refine lv_iload_n hx hb dX4_number_11 rfl (lv_at hl 2 rfl) ?_
        refine lv_bipush (v := 10) hx hb dX4_number_12 (by decide) ?_
        refine lv_imul hx hb dX4_number_14 ?_
        refine lv_aload_n hx hb dX4_number_15 rfl (lv_at hl 0 rfl) ?_
        refine lv_iload hx hb dX4_number_16 (lv_at hl 3 rfl) ?_
        have hPc := hP
        have hDc := hD
        have hFc := va_free (wc := (tm_wPage cI cZ a s)) hD hS hA [0, 1] rfl
        refine va_calli (va_runV (As := [.int v4]) (rest := [.int (v3 * 10)]) ⟨hx, hb, hml, hown, hts⟩ (kk_X4_codeAt l dC dI cI cZ a s H.size v4 _ hw) (cwV 1 hts gX4_number_X4_codeAt rfl rfl rfl (by decide +kernel) ⟨Nat.le_of_ble_eq_true rfl, Nat.le_of_ble_eq_true rfl⟩) ⟨tm_blind, va_recv hK hPc (ci := 4) (q0 := 0) rfl rfl, fun U hU hW => ⟨rfl, by rw [hU], by rw [hU]; exact hPc, va_K.moved hW.alike hK, hDc.weaken (fun _ _ _ _ => trivial)⟩⟩ rfl rfl hl.1 rfl (lv_room (Nat.le_of_ble_eq_true rfl)) dX4_number_18 ⟨Nat.zero_le _, Nat.zero_le _⟩) hS (fun q _ h => hFc q h) hFc (fun r2 s3 t H1 locs ht hvm hw hB hz1 hk1 hS => ?_)
        obtain ⟨hP1, hK1, hD1⟩ := hB
        rw [ht] at hP1
        obtain ⟨hP, hD⟩ := va_join (wr := []) (w1 := (tm_wPage cI cZ a s3)) hP hD [0, 1] [] rfl rfl (by decide) (by decide) hk1 hFc hP1 hD1
        generalize H1 = H at hP hS ⊢
        have hP : va_P (dC, dI) vwCl (tm_wPage cI cZ a s3) H := hP
        have hD : va_D A (tm_wPage cI cZ a s3) := hD
        refine lv_bipush (v := 48) hx hb dX4_number_21 (by decide) ?_
        refine lv_isub hx hb dX4_number_23 ?_
        refine lv_iadd hx hb dX4_number_24 ?_
        refine lv_topi (fun x4 ex4 => ?_)
        have hw := hw x4 ex4
        refine lv_istore_n (lv' := [(3, .int x4), (0, .ref (a 0)), (2, .int v2), (4, .int v4)]) hx hb dX4_number_25 rfl hl (by decide) rfl (fun ls hl => ?_)
        obtain ⟨x5, ex5⟩ : ∃ y : Int32, y = v4 + 1 := ⟨_, rfl⟩
        have hw := hw x5 ex5
        refine lv_iinc (v := x5) (lv' := [(4, .int x5), (3, .int x4), (0, .ref (a 0)), (2, .int v2)]) hx hb dX4_number_26 hl (k := 3) rfl (by rw [ex5]; rfl) (by decide) rfl (fun ls hl => ?_)
        refine lv_goto (tgt := 5) hx hb dX4_number_29 (by decide) ?_
        exact ih v2 x4 x5 s3 _ _ _ hw hP hD hS (lv_sub hl [2, 3, 1, 0] rfl)
  have hl := lv_entry ([.ref (a 0), .int p0, .int p1]) (n := 5) (Nat.le_of_ble_eq_true rfl)
  rw [lg_entry_eq]
  generalize (lg_sl ([.ref (a 0), .int p0, .int p1]) ++ List.replicate (5 - (lg_sl ([.ref (a 0), .int p0, .int p1])).length) Slot.unset).toArray = ls at hl ⊢
  have hl : lv_has ls 5 [(0, .ref (a 0)), (1, .int p0), (2, .int p1)] := hl
  unfold wp_X4_number at hw
  refine lv_iconst (v := 0) hx hb dX4_number_0 (by decide) ?_
  refine lv_istore_n (lv' := [(3, .int 0), (0, .ref (a 0)), (1, .int p0), (2, .int p1)]) hx hb dX4_number_1 rfl hl (by decide) rfl (fun ls hl => ?_)
  refine lv_iload_n hx hb dX4_number_2 rfl (lv_at hl 2 rfl) ?_
  refine lv_istore (lv' := [(4, .int p0), (3, .int 0), (0, .ref (a 0)), (1, .int p0), (2, .int p1)]) hx hb dX4_number_3 hl (by decide) rfl (fun ls hl => ?_)
  obtain ⟨nf, hw⟩ := hw
  exact b5 nf p1 0 p0 s0 _ _ _ hw hP hD hS (lv_sub hl [2, 4, 1, 0] rfl)
def wp_X4_fitsHurt_18 (K : Int32 → tm_St → Prop) (v1 : Int32) (v2 : Int32) (v3 : Int32) (t0 : Int32) (s : tm_St) : Prop := ((¬ v2 = 44 → ((v2 < 48 → K 0 s) ∧ (¬ v2 < 48 → ((v2 ≤ 57 → ((¬ v1 = t0 → (wp_X4_number t0 v1 s (fun r8 s9 => ((r8 ≤ 0 → K 0 s9) ∧ (¬ r8 ≤ 0 → (((50 : Int32) < ((r8 * 10) + (v2 - 48)) → K 0 s9) ∧ (¬ (50 : Int32) < ((r8 * 10) + (v2 - 48)) → K 1 s9))))))) ∧ (v1 = t0 → K 1 s))) ∧ (¬ v2 ≤ 57 → K 0 s))))) ∧ (v2 = 44 → (((0 : Int32) ≤ v3 → K 0 s) ∧ (¬ (0 : Int32) ≤ v3 → ((v1 ≤ t0 → K 0 s) ∧ (¬ v1 ≤ t0 → K 1 s))))))
def wp_X4_fitsHurt (p0 : Int32) (p1 : Int32) (s0 : tm_St) (K : Int32 → tm_St → Prop) : Prop := (wp_X4_commaAhead p0 s0 (fun r1 s2 => (((0 : Int32) ≤ r1 → wp_X4_fitsHurt_18 K p0 p1 r1 (r1 + 1) s2) ∧ (¬ (0 : Int32) ≤ r1 → wp_X4_fitsHurt_18 K p0 p1 r1 20 s2))))
set_option maxRecDepth 100000 in
set_option maxHeartbeats 4000000 in
theorem kk_X4_fitsHurt (l : Launch) (dC : Nat → ClassId) (dI : Nat → Nat → Nat) (cI cZ : ClassId) (a : Nat → Nat) (s0 : tm_St) (sz : Nat) (p0 : Int32) (p1 : Int32) (K : Int32 → tm_St → Prop) (hw : wp_X4_fitsHurt p0 p1 s0 K) : Met l yX4_fitsHurt wsX4_fitsHurt ({ frames := 2, cells := 0, slots := 0, locals := 45 }) (va_Pc [.ref (a 0), .int p0, .int p1] (tm_Pre dC dI cI cZ (tm_wPage cI cZ a s0) sz)) (va_Qi (fun (r : Int32) (u : tm_St) => (r = 0 ∨ r = 1) ∧ K r u) (fun (u : tm_St) t => tm_At dC dI cI cZ (va_A (tm_wPage cI cZ a s0) sz) (tm_wPage cI cZ a u) t) (va_A (tm_wPage cI cZ a s0) sz)) 0 0 (va_A (tm_wPage cI cZ a s0) sz) := by
  refine Met.ofW (cc := cX4_fitsHurt) (maxL := 6) (ret := (some .boolean)) (by decide +kernel) rfl ?_
  intro p e z m args below meth c z₁ B hml hv
  obtain ⟨rfl, hsz, hP, hK, hD0⟩ := hv
  have hx := B.exec
  have hb := B.bytes
  have hr := B.returns
  have hts := atoms_spec (ws := wsX4_fitsHurt) B.pre
  have hown : z.vm.findClass RX4 = some m.cls := findClass_of_methodNamed B.named
  have hlocks := B.notSynchronized
  subst hsz
  have hD := hD0.self (sz := z.heap.size)
  generalize hAe : va_A (tm_wPage cI cZ a s0) z.heap.size = A at hD ⊢
  have hA : ∀ q : Nat, z.heap.size ≤ q → A q := fun q h => by rw [← hAe]; exact Or.inr h
  have hS : va_S A z.heap z.heap [] := va_S.rf
  have b18 : ∀ (v1 : Int32) (v2 : Int32) (v3 : Int32) (t0 : Int32) (s : tm_St) (H : Heap) (locs : List Loc) (ls : Array Slot), wp_X4_fitsHurt_18 K v1 v2 v3 t0 s → va_P (dC, dI) vwCl (tm_wPage cI cZ a s) H → va_D A (tm_wPage cI cZ a s) → va_S A z.heap H locs → lv_has ls 6 [(0, .ref (a 0)), (1, .int v1), (2, .int v2), (3, .int v3)] → W p l e (headSpec wsX4_fitsHurt ({ frames := 2, cells := 0, slots := 0, locals := 45 })).room z m (([.ref (a 0), .int p0, .int p1] : List Value).toArray) below meth c H locs 0 0 (MQ below (va_Qi (fun (r : Int32) (u : tm_St) => (r = 0 ∨ r = 1) ∧ K r u) (fun (u : tm_St) t => tm_At dC dI cI cZ A (tm_wPage cI cZ a u) t) A) (([.ref (a 0), .int p0, .int p1] : List Value).toArray) z 0 0 A) (F0 m 18 ls [.int t0]) := by
    intro v1 v2 v3 t0 s H locs ls hw hP hD hS hl
    unfold wp_X4_fitsHurt_18 at hw
    refine lv_istore (lv' := [(4, .int t0), (0, .ref (a 0)), (1, .int v1), (2, .int v2), (3, .int v3)]) hx hb dX4_fitsHurt_18 hl (by decide) rfl (fun ls hl => ?_)
    refine lv_iload_n hx hb dX4_fitsHurt_20 rfl (lv_at hl 3 rfl) ?_
    refine lv_bipush (v := 44) hx hb dX4_fitsHurt_21 (by decide) ?_
    refine lv_icmp_ne (tgt := 42) hx hb dX4_fitsHurt_23 (by decide) (fun c4 => ?_) (fun c4 => ?_)
    · have hw := hw.1 c4
      refine lv_iload_n hx hb dX4_fitsHurt_42 rfl (lv_at hl 3 rfl) ?_
      refine lv_bipush (v := 48) hx hb dX4_fitsHurt_43 (by decide) ?_
      refine lv_icmp_lt (tgt := 54) hx hb dX4_fitsHurt_45 (by decide) (fun c5 => ?_) (fun c5 => ?_)
      · have hw := hw.1 c5
        refine lv_iconst (v := 0) hx hb dX4_fitsHurt_54 (by decide) ?_
        exact W.zret (v := 0) hx hb hr (tm_bool (by decide)) (fun t ht hW => ⟨⟨0, s, rfl, ⟨(by decide), hw⟩, by rw [ht]; exact hP, va_K.moved hW.alike hK, hD⟩, hS.F ht⟩) hS.2.2 dX4_fitsHurt_55
      · have hw := hw.2 c5
        refine lv_iload_n hx hb dX4_fitsHurt_48 rfl (lv_at hl 3 rfl) ?_
        refine lv_bipush (v := 57) hx hb dX4_fitsHurt_49 (by decide) ?_
        refine lv_icmp_le (tgt := 56) hx hb dX4_fitsHurt_51 (by decide) (fun c6 => ?_) (fun c6 => ?_)
        · have hw := hw.1 c6
          refine lv_iload_n hx hb dX4_fitsHurt_56 rfl (lv_at hl 2 rfl) ?_
          refine lv_iload hx hb dX4_fitsHurt_57 (lv_at hl 0 rfl) ?_
          refine lv_icmp_ne (tgt := 64) hx hb dX4_fitsHurt_59 (by decide) (fun c7 => ?_) (fun c7 => ?_)
          · have hw := hw.1 c7
            refine lv_aload_n hx hb dX4_fitsHurt_64 rfl (lv_at hl 1 rfl) ?_
            refine lv_iload hx hb dX4_fitsHurt_65 (lv_at hl 0 rfl) ?_
            refine lv_iload_n hx hb dX4_fitsHurt_67 rfl (lv_at hl 2 rfl) ?_
            have hPc := hP
            have hDc := hD
            have hFc := va_free (wc := (tm_wPage cI cZ a s)) hD hS hA [0, 1] rfl
            refine va_calli (va_runV (As := [.int t0, .int v1]) (rest := []) ⟨hx, hb, hml, hown, hts⟩ (kk_X4_number l dC dI cI cZ a s H.size t0 v1 _ hw) (cwV 2 hts gX4_fitsHurt_X4_number rfl rfl rfl (by decide +kernel) ⟨Nat.le_of_ble_eq_true rfl, Nat.le_of_ble_eq_true rfl⟩) ⟨tm_blind, va_recv hK hPc (ci := 4) (q0 := 0) rfl rfl, fun U hU hW => ⟨rfl, by rw [hU], by rw [hU]; exact hPc, va_K.moved hW.alike hK, hDc.weaken (fun _ _ _ _ => trivial)⟩⟩ rfl rfl hl.1 rfl (lv_room (Nat.le_of_ble_eq_true rfl)) dX4_fitsHurt_68 ⟨Nat.zero_le _, Nat.zero_le _⟩) hS (fun q _ h => hFc q h) hFc (fun r8 s9 t H1 locs ht hvm hw hB hz1 hk1 hS => ?_)
            obtain ⟨hP1, hK1, hD1⟩ := hB
            rw [ht] at hP1
            obtain ⟨hP, hD⟩ := va_join (wr := []) (w1 := (tm_wPage cI cZ a s9)) hP hD [0, 1] [] rfl rfl (by decide) (by decide) hk1 hFc hP1 hD1
            generalize H1 = H at hP hS ⊢
            have hP : va_P (dC, dI) vwCl (tm_wPage cI cZ a s9) H := hP
            have hD : va_D A (tm_wPage cI cZ a s9) := hD
            refine lv_istore (lv' := [(5, .int r8), (4, .int t0), (0, .ref (a 0)), (1, .int v1), (2, .int v2), (3, .int v3)]) hx hb dX4_fitsHurt_71 hl (by decide) rfl (fun ls hl => ?_)
            refine lv_iload hx hb dX4_fitsHurt_73 (lv_at hl 0 rfl) ?_
            refine lv_if_le (tgt := 97) hx hb dX4_fitsHurt_75 (by decide) (fun c10 => ?_) (fun c10 => ?_)
            · have hw := hw.1 c10
              refine lv_iconst (v := 0) hx hb dX4_fitsHurt_97 (by decide) ?_
              exact W.zret (v := 0) hx hb hr (tm_bool (by decide)) (fun t ht hW => ⟨⟨0, s9, rfl, ⟨(by decide), hw⟩, by rw [ht]; exact hP, va_K.moved hW.alike hK, hD⟩, hS.F ht⟩) hS.2.2 dX4_fitsHurt_98
            · have hw := hw.2 c10
              refine lv_iload hx hb dX4_fitsHurt_78 (lv_at hl 0 rfl) ?_
              refine lv_bipush (v := 10) hx hb dX4_fitsHurt_80 (by decide) ?_
              refine lv_imul hx hb dX4_fitsHurt_82 ?_
              refine lv_iload_n hx hb dX4_fitsHurt_83 rfl (lv_at hl 4 rfl) ?_
              refine lv_bipush (v := 48) hx hb dX4_fitsHurt_84 (by decide) ?_
              refine lv_isub hx hb dX4_fitsHurt_86 ?_
              refine lv_iadd hx hb dX4_fitsHurt_87 ?_
              refine lv_bipush (v := 50) hx hb dX4_fitsHurt_88 (by decide) ?_
              refine lv_icmp_gt (tgt := 97) hx hb dX4_fitsHurt_90 (by decide) (fun c11 => ?_) (fun c11 => ?_)
              · have hw := hw.1 c11
                refine lv_iconst (v := 0) hx hb dX4_fitsHurt_97 (by decide) ?_
                exact W.zret (v := 0) hx hb hr (tm_bool (by decide)) (fun t ht hW => ⟨⟨0, s9, rfl, ⟨(by decide), hw⟩, by rw [ht]; exact hP, va_K.moved hW.alike hK, hD⟩, hS.F ht⟩) hS.2.2 dX4_fitsHurt_98
              · have hw := hw.2 c11
                refine lv_iconst (v := 1) hx hb dX4_fitsHurt_93 (by decide) ?_
                refine lv_goto (tgt := 98) hx hb dX4_fitsHurt_94 (by decide) ?_
                exact W.zret (v := 1) hx hb hr (tm_bool (by decide)) (fun t ht hW => ⟨⟨1, s9, rfl, ⟨(by decide), hw⟩, by rw [ht]; exact hP, va_K.moved hW.alike hK, hD⟩, hS.F ht⟩) hS.2.2 dX4_fitsHurt_98
          · have hw := hw.2 c7
            refine lv_iconst (v := 1) hx hb dX4_fitsHurt_62 (by decide) ?_
            exact W.zret (v := 1) hx hb hr (tm_bool (by decide)) (fun t ht hW => ⟨⟨1, s, rfl, ⟨(by decide), hw⟩, by rw [ht]; exact hP, va_K.moved hW.alike hK, hD⟩, hS.F ht⟩) hS.2.2 dX4_fitsHurt_63
        · have hw := hw.2 c6
          refine lv_iconst (v := 0) hx hb dX4_fitsHurt_54 (by decide) ?_
          exact W.zret (v := 0) hx hb hr (tm_bool (by decide)) (fun t ht hW => ⟨⟨0, s, rfl, ⟨(by decide), hw⟩, by rw [ht]; exact hP, va_K.moved hW.alike hK, hD⟩, hS.F ht⟩) hS.2.2 dX4_fitsHurt_55
    · have hw := hw.2 c4
      refine lv_iload_n hx hb dX4_fitsHurt_26 rfl (lv_at hl 4 rfl) ?_
      refine lv_if_ge (tgt := 40) hx hb dX4_fitsHurt_27 (by decide) (fun c12 => ?_) (fun c12 => ?_)
      · have hw := hw.1 c12
        refine lv_iconst (v := 0) hx hb dX4_fitsHurt_40 (by decide) ?_
        exact W.zret (v := 0) hx hb hr (tm_bool (by decide)) (fun t ht hW => ⟨⟨0, s, rfl, ⟨(by decide), hw⟩, by rw [ht]; exact hP, va_K.moved hW.alike hK, hD⟩, hS.F ht⟩) hS.2.2 dX4_fitsHurt_41
      · have hw := hw.2 c12
        refine lv_iload_n hx hb dX4_fitsHurt_30 rfl (lv_at hl 2 rfl) ?_
        refine lv_iload hx hb dX4_fitsHurt_31 (lv_at hl 0 rfl) ?_
        refine lv_icmp_le (tgt := 40) hx hb dX4_fitsHurt_33 (by decide) (fun c13 => ?_) (fun c13 => ?_)
        · have hw := hw.1 c13
          refine lv_iconst (v := 0) hx hb dX4_fitsHurt_40 (by decide) ?_
          exact W.zret (v := 0) hx hb hr (tm_bool (by decide)) (fun t ht hW => ⟨⟨0, s, rfl, ⟨(by decide), hw⟩, by rw [ht]; exact hP, va_K.moved hW.alike hK, hD⟩, hS.F ht⟩) hS.2.2 dX4_fitsHurt_41
        · have hw := hw.2 c13
          refine lv_iconst (v := 1) hx hb dX4_fitsHurt_36 (by decide) ?_
          refine lv_goto (tgt := 41) hx hb dX4_fitsHurt_37 (by decide) ?_
          exact W.zret (v := 1) hx hb hr (tm_bool (by decide)) (fun t ht hW => ⟨⟨1, s, rfl, ⟨(by decide), hw⟩, by rw [ht]; exact hP, va_K.moved hW.alike hK, hD⟩, hS.F ht⟩) hS.2.2 dX4_fitsHurt_41
  have hl := lv_entry ([.ref (a 0), .int p0, .int p1]) (n := 6) (Nat.le_of_ble_eq_true rfl)
  rw [lg_entry_eq]
  generalize (lg_sl ([.ref (a 0), .int p0, .int p1]) ++ List.replicate (6 - (lg_sl ([.ref (a 0), .int p0, .int p1])).length) Slot.unset).toArray = ls at hl ⊢
  have hl : lv_has ls 6 [(0, .ref (a 0)), (1, .int p0), (2, .int p1)] := hl
  unfold wp_X4_fitsHurt at hw
  refine lv_aload_n hx hb dX4_fitsHurt_0 rfl (lv_at hl 0 rfl) ?_
  refine lv_iload_n hx hb dX4_fitsHurt_1 rfl (lv_at hl 1 rfl) ?_
  have hPc := hP
  have hDc := hD
  have hFc := va_free (wc := (tm_wPage cI cZ a s0)) hD hS hA [0, 1] rfl
  refine va_calli (va_runV (As := [.int p0]) (rest := []) ⟨hx, hb, hml, hown, hts⟩ (kk_X4_commaAhead l dC dI cI cZ a s0 z.heap.size p0 _ hw) (cwV 1 hts gX4_fitsHurt_X4_commaAhead rfl rfl rfl (by decide +kernel) ⟨Nat.le_of_ble_eq_true rfl, Nat.le_of_ble_eq_true rfl⟩) ⟨tm_blind, va_recv hK hPc (ci := 4) (q0 := 0) rfl rfl, fun U hU hW => ⟨rfl, by rw [hU], by rw [hU]; exact hPc, va_K.moved hW.alike hK, hDc.weaken (fun _ _ _ _ => trivial)⟩⟩ rfl rfl hl.1 rfl (lv_room (Nat.le_of_ble_eq_true rfl)) dX4_fitsHurt_2 ⟨Nat.zero_le _, Nat.zero_le _⟩) hS (fun q _ h => hFc q h) hFc (fun r1 s2 t H1 locs ht hvm hw hB hz1 hk1 hS => ?_)
  obtain ⟨hP1, hK1, hD1⟩ := hB
  rw [ht] at hP1
  obtain ⟨hP, hD⟩ := va_join (wr := []) (w1 := (tm_wPage cI cZ a s2)) hP hD [0, 1] [] rfl rfl (by decide) (by decide) hk1 hFc hP1 hD1
  generalize H1 = H at hP hS ⊢
  have hP : va_P (dC, dI) vwCl (tm_wPage cI cZ a s2) H := hP
  have hD : va_D A (tm_wPage cI cZ a s2) := hD
  refine lv_istore_n (lv' := [(3, .int r1), (0, .ref (a 0)), (1, .int p0), (2, .int p1)]) hx hb dX4_fitsHurt_5 rfl hl (by decide) rfl (fun ls hl => ?_)
  refine lv_iload_n hx hb dX4_fitsHurt_6 rfl (lv_at hl 0 rfl) ?_
  refine lv_if_ge (tgt := 15) hx hb dX4_fitsHurt_7 (by decide) (fun c3 => ?_) (fun c3 => ?_)
  · have hw := hw.1 c3
    refine lv_iload_n hx hb dX4_fitsHurt_15 rfl (lv_at hl 0 rfl) ?_
    refine lv_iconst (v := 1) hx hb dX4_fitsHurt_16 (by decide) ?_
    refine lv_iadd hx hb dX4_fitsHurt_17 ?_
    exact b18 p0 p1 r1 (r1 + 1) s2 _ _ _ hw hP hD hS (lv_sub hl [1, 2, 3, 0] rfl)
  · have hw := hw.2 c3
    refine lv_bipush (v := 20) hx hb dX4_fitsHurt_10 (by decide) ?_
    refine lv_goto (tgt := 18) hx hb dX4_fitsHurt_12 (by decide) ?_
    exact b18 p0 p1 r1 20 s2 _ _ _ hw hP hD hS (lv_sub hl [1, 2, 3, 0] rfl)
def wp_X4_figure (p0 : Int32) (s0 : tm_St) (K : Int32 → tm_St → Prop) : Prop := ((p0 < 48 → ((p0 < 97 → K (-1) s0) ∧ (¬ p0 < 97 → (((102 : Int32) < p0 → K (-1) s0) ∧ (¬ (102 : Int32) < p0 → K ((p0 - 97) + 10) s0))))) ∧ (¬ p0 < 48 → (((57 : Int32) < p0 → ((p0 < 97 → K (-1) s0) ∧ (¬ p0 < 97 → (((102 : Int32) < p0 → K (-1) s0) ∧ (¬ (102 : Int32) < p0 → K ((p0 - 97) + 10) s0))))) ∧ (¬ (57 : Int32) < p0 → K (p0 - 48) s0))))
set_option maxRecDepth 100000 in
set_option maxHeartbeats 4000000 in
theorem kk_X4_figure (l : Launch) (dC : Nat → ClassId) (dI : Nat → Nat → Nat) (cI cZ : ClassId) (a : Nat → Nat) (s0 : tm_St) (sz : Nat) (p0 : Int32) (K : Int32 → tm_St → Prop) (hw : wp_X4_figure p0 s0 K) : Met l yX4_figure wsX4_figure ({ frames := 0, cells := 0, slots := 0, locals := 0 }) (va_Pc [.ref (a 0), .int p0] (tm_Pre dC dI cI cZ (tm_wPage cI cZ a s0) sz)) (va_Qi (fun (r : Int32) (u : tm_St) => K r u) (fun (u : tm_St) t => tm_At dC dI cI cZ (va_A (tm_wPage cI cZ a s0) sz) (tm_wPage cI cZ a u) t) (va_A (tm_wPage cI cZ a s0) sz)) 0 0 (va_A (tm_wPage cI cZ a s0) sz) := by
  refine Met.ofW (cc := cX4_figure) (maxL := 2) (ret := (some .int)) (by decide +kernel) rfl ?_
  intro p e z m args below meth c z₁ B hml hv
  obtain ⟨rfl, hsz, hP, hK, hD0⟩ := hv
  have hx := B.exec
  have hb := B.bytes
  have hr := B.returns
  have hts := atoms_spec (ws := wsX4_figure) B.pre
  have hown : z.vm.findClass RX4 = some m.cls := findClass_of_methodNamed B.named
  have hlocks := B.notSynchronized
  subst hsz
  have hD := hD0.self (sz := z.heap.size)
  generalize hAe : va_A (tm_wPage cI cZ a s0) z.heap.size = A at hD ⊢
  have hA : ∀ q : Nat, z.heap.size ≤ q → A q := fun q h => by rw [← hAe]; exact Or.inr h
  have hS : va_S A z.heap z.heap [] := va_S.rf
  have hl := lv_entry ([.ref (a 0), .int p0]) (n := 2) (Nat.le_of_ble_eq_true rfl)
  rw [lg_entry_eq]
  generalize (lg_sl ([.ref (a 0), .int p0]) ++ List.replicate (2 - (lg_sl ([.ref (a 0), .int p0])).length) Slot.unset).toArray = ls at hl ⊢
  have hl : lv_has ls 2 [(0, .ref (a 0)), (1, .int p0)] := hl
  unfold wp_X4_figure at hw
  refine lv_iload_n hx hb dX4_figure_0 rfl (lv_at hl 1 rfl) ?_
  refine lv_bipush (v := 48) hx hb dX4_figure_1 (by decide) ?_
  refine lv_icmp_lt (tgt := 17) hx hb dX4_figure_3 (by decide) (fun c1 => ?_) (fun c1 => ?_)
  · have hw := hw.1 c1
    refine lv_iload_n hx hb dX4_figure_17 rfl (lv_at hl 1 rfl) ?_
    refine lv_bipush (v := 97) hx hb dX4_figure_18 (by decide) ?_
    refine lv_icmp_lt (tgt := 39) hx hb dX4_figure_20 (by decide) (fun c2 => ?_) (fun c2 => ?_)
    · have hw := hw.1 c2
      refine lv_iconst (v := (-1)) hx hb dX4_figure_39 (by decide) ?_
      exact W.iret (v := (-1)) hx hb hr (fun t ht hW => ⟨⟨(-1), s0, rfl, hw, by rw [ht]; exact hP, va_K.moved hW.alike hK, hD⟩, hS.F ht⟩) hS.2.2 dX4_figure_40
    · have hw := hw.2 c2
      refine lv_iload_n hx hb dX4_figure_23 rfl (lv_at hl 1 rfl) ?_
      refine lv_bipush (v := 102) hx hb dX4_figure_24 (by decide) ?_
      refine lv_icmp_gt (tgt := 39) hx hb dX4_figure_26 (by decide) (fun c3 => ?_) (fun c3 => ?_)
      · have hw := hw.1 c3
        refine lv_iconst (v := (-1)) hx hb dX4_figure_39 (by decide) ?_
        exact W.iret (v := (-1)) hx hb hr (fun t ht hW => ⟨⟨(-1), s0, rfl, hw, by rw [ht]; exact hP, va_K.moved hW.alike hK, hD⟩, hS.F ht⟩) hS.2.2 dX4_figure_40
      · have hw := hw.2 c3
        refine lv_iload_n hx hb dX4_figure_29 rfl (lv_at hl 1 rfl) ?_
        refine lv_bipush (v := 97) hx hb dX4_figure_30 (by decide) ?_
        refine lv_isub hx hb dX4_figure_32 ?_
        refine lv_bipush (v := 10) hx hb dX4_figure_33 (by decide) ?_
        refine lv_iadd hx hb dX4_figure_35 ?_
        refine lv_goto (tgt := 40) hx hb dX4_figure_36 (by decide) ?_
        exact W.iret (v := ((p0 - 97) + 10)) hx hb hr (fun t ht hW => ⟨⟨((p0 - 97) + 10), s0, rfl, hw, by rw [ht]; exact hP, va_K.moved hW.alike hK, hD⟩, hS.F ht⟩) hS.2.2 dX4_figure_40
  · have hw := hw.2 c1
    refine lv_iload_n hx hb dX4_figure_6 rfl (lv_at hl 1 rfl) ?_
    refine lv_bipush (v := 57) hx hb dX4_figure_7 (by decide) ?_
    refine lv_icmp_gt (tgt := 17) hx hb dX4_figure_9 (by decide) (fun c4 => ?_) (fun c4 => ?_)
    · have hw := hw.1 c4
      refine lv_iload_n hx hb dX4_figure_17 rfl (lv_at hl 1 rfl) ?_
      refine lv_bipush (v := 97) hx hb dX4_figure_18 (by decide) ?_
      refine lv_icmp_lt (tgt := 39) hx hb dX4_figure_20 (by decide) (fun c5 => ?_) (fun c5 => ?_)
      · have hw := hw.1 c5
        refine lv_iconst (v := (-1)) hx hb dX4_figure_39 (by decide) ?_
        exact W.iret (v := (-1)) hx hb hr (fun t ht hW => ⟨⟨(-1), s0, rfl, hw, by rw [ht]; exact hP, va_K.moved hW.alike hK, hD⟩, hS.F ht⟩) hS.2.2 dX4_figure_40
      · have hw := hw.2 c5
        refine lv_iload_n hx hb dX4_figure_23 rfl (lv_at hl 1 rfl) ?_
        refine lv_bipush (v := 102) hx hb dX4_figure_24 (by decide) ?_
        refine lv_icmp_gt (tgt := 39) hx hb dX4_figure_26 (by decide) (fun c6 => ?_) (fun c6 => ?_)
        · have hw := hw.1 c6
          refine lv_iconst (v := (-1)) hx hb dX4_figure_39 (by decide) ?_
          exact W.iret (v := (-1)) hx hb hr (fun t ht hW => ⟨⟨(-1), s0, rfl, hw, by rw [ht]; exact hP, va_K.moved hW.alike hK, hD⟩, hS.F ht⟩) hS.2.2 dX4_figure_40
        · have hw := hw.2 c6
          refine lv_iload_n hx hb dX4_figure_29 rfl (lv_at hl 1 rfl) ?_
          refine lv_bipush (v := 97) hx hb dX4_figure_30 (by decide) ?_
          refine lv_isub hx hb dX4_figure_32 ?_
          refine lv_bipush (v := 10) hx hb dX4_figure_33 (by decide) ?_
          refine lv_iadd hx hb dX4_figure_35 ?_
          refine lv_goto (tgt := 40) hx hb dX4_figure_36 (by decide) ?_
          exact W.iret (v := ((p0 - 97) + 10)) hx hb hr (fun t ht hW => ⟨⟨((p0 - 97) + 10), s0, rfl, hw, by rw [ht]; exact hP, va_K.moved hW.alike hK, hD⟩, hS.F ht⟩) hS.2.2 dX4_figure_40
    · have hw := hw.2 c4
      refine lv_iload_n hx hb dX4_figure_12 rfl (lv_at hl 1 rfl) ?_
      refine lv_bipush (v := 48) hx hb dX4_figure_13 (by decide) ?_
      refine lv_isub hx hb dX4_figure_15 ?_
      exact W.iret (v := (p0 - 48)) hx hb hr (fun t ht hW => ⟨⟨(p0 - 48), s0, rfl, hw, by rw [ht]; exact hP, va_K.moved hW.alike hK, hD⟩, hS.F ht⟩) hS.2.2 dX4_figure_16
def wp_X4_fits (p0 : Int32) (s0 : tm_St) (K : Int32 → tm_St → Prop) : Prop := (wp_X4_codeAt p0 s0 (fun r1 s2 => ((p0 = 8 → ((¬ r1 = 47 → K 0 s2) ∧ (r1 = 47 → K 1 s2))) ∧ (¬ p0 = 8 → ((p0 = 17 → ((¬ r1 = 59 → K 0 s2) ∧ (r1 = 59 → K 1 s2))) ∧ (¬ p0 = 17 → ((p0 = 18 → ((r1 < 49 → K 0 s2) ∧ (¬ r1 < 49 → (((56 : Int32) < r1 → K 0 s2) ∧ (¬ (56 : Int32) < r1 → K 1 s2))))) ∧ (¬ p0 = 18 → ((p0 = 19 → ((¬ r1 = 104 → K 0 s2) ∧ (r1 = 104 → K 1 s2))) ∧ (¬ p0 = 19 → (((17 : Int32) ≤ p0 → (wp_X4_fitsHurt p0 r1 s2 (fun r13 s14 => K r13 s14))) ∧ (¬ (17 : Int32) ≤ p0 → (wp_X4_figure r1 s2 (fun r15 s16 => ((r15 < 0 → K 0 s16) ∧ (¬ r15 < 0 → K 1 s16))))))))))))))))
set_option maxRecDepth 100000 in
set_option maxHeartbeats 4000000 in
theorem kk_X4_fits (l : Launch) (dC : Nat → ClassId) (dI : Nat → Nat → Nat) (cI cZ : ClassId) (a : Nat → Nat) (s0 : tm_St) (sz : Nat) (p0 : Int32) (K : Int32 → tm_St → Prop) (hw : wp_X4_fits p0 s0 K) : Met l yX4_fits wsX4_fits ({ frames := 3, cells := 0, slots := 0, locals := 70 }) (va_Pc [.ref (a 0), .int p0] (tm_Pre dC dI cI cZ (tm_wPage cI cZ a s0) sz)) (va_Qi (fun (r : Int32) (u : tm_St) => (r = 0 ∨ r = 1) ∧ K r u) (fun (u : tm_St) t => tm_At dC dI cI cZ (va_A (tm_wPage cI cZ a s0) sz) (tm_wPage cI cZ a u) t) (va_A (tm_wPage cI cZ a s0) sz)) 0 0 (va_A (tm_wPage cI cZ a s0) sz) := by
  refine Met.ofW (cc := cX4_fits) (maxL := 3) (ret := (some .boolean)) (by decide +kernel) rfl ?_
  intro p e z m args below meth c z₁ B hml hv
  obtain ⟨rfl, hsz, hP, hK, hD0⟩ := hv
  have hx := B.exec
  have hb := B.bytes
  have hr := B.returns
  have hts := atoms_spec (ws := wsX4_fits) B.pre
  have hown : z.vm.findClass RX4 = some m.cls := findClass_of_methodNamed B.named
  have hlocks := B.notSynchronized
  subst hsz
  have hD := hD0.self (sz := z.heap.size)
  generalize hAe : va_A (tm_wPage cI cZ a s0) z.heap.size = A at hD ⊢
  have hA : ∀ q : Nat, z.heap.size ≤ q → A q := fun q h => by rw [← hAe]; exact Or.inr h
  have hS : va_S A z.heap z.heap [] := va_S.rf
  have hl := lv_entry ([.ref (a 0), .int p0]) (n := 3) (Nat.le_of_ble_eq_true rfl)
  rw [lg_entry_eq]
  generalize (lg_sl ([.ref (a 0), .int p0]) ++ List.replicate (3 - (lg_sl ([.ref (a 0), .int p0])).length) Slot.unset).toArray = ls at hl ⊢
  have hl : lv_has ls 3 [(0, .ref (a 0)), (1, .int p0)] := hl
  unfold wp_X4_fits at hw
  refine lv_aload_n hx hb dX4_fits_0 rfl (lv_at hl 0 rfl) ?_
  refine lv_iload_n hx hb dX4_fits_1 rfl (lv_at hl 1 rfl) ?_
  have hPc := hP
  have hDc := hD
  have hFc := va_free (wc := (tm_wPage cI cZ a s0)) hD hS hA [0, 1] rfl
  refine va_calli (va_runV (As := [.int p0]) (rest := []) ⟨hx, hb, hml, hown, hts⟩ (kk_X4_codeAt l dC dI cI cZ a s0 z.heap.size p0 _ hw) (cwV 1 hts gX4_fits_X4_codeAt rfl rfl rfl (by decide +kernel) ⟨Nat.le_of_ble_eq_true rfl, Nat.le_of_ble_eq_true rfl⟩) ⟨tm_blind, va_recv hK hPc (ci := 4) (q0 := 0) rfl rfl, fun U hU hW => ⟨rfl, by rw [hU], by rw [hU]; exact hPc, va_K.moved hW.alike hK, hDc.weaken (fun _ _ _ _ => trivial)⟩⟩ rfl rfl hl.1 rfl (lv_room (Nat.le_of_ble_eq_true rfl)) dX4_fits_2 ⟨Nat.zero_le _, Nat.zero_le _⟩) hS (fun q _ h => hFc q h) hFc (fun r1 s2 t H1 locs ht hvm hw hB hz1 hk1 hS => ?_)
  obtain ⟨hP1, hK1, hD1⟩ := hB
  rw [ht] at hP1
  obtain ⟨hP, hD⟩ := va_join (wr := []) (w1 := (tm_wPage cI cZ a s2)) hP hD [0, 1] [] rfl rfl (by decide) (by decide) hk1 hFc hP1 hD1
  generalize H1 = H at hP hS ⊢
  have hP : va_P (dC, dI) vwCl (tm_wPage cI cZ a s2) H := hP
  have hD : va_D A (tm_wPage cI cZ a s2) := hD
  refine lv_istore_n (lv' := [(2, .int r1), (0, .ref (a 0)), (1, .int p0)]) hx hb dX4_fits_5 rfl hl (by decide) rfl (fun ls hl => ?_)
  refine lv_iload_n hx hb dX4_fits_6 rfl (lv_at hl 2 rfl) ?_
  refine (Classical.em (p0 = 8)).elim (fun c3 => ?_) (fun c3 => ?_)
  · have hw := hw.1 c3
    refine lv_lookup (tgt := 48) hx hb dX4_fits_7 (by decide) (by rw [c3]) (by decide) ?_
    refine lv_iload_n hx hb dX4_fits_48 rfl (lv_at hl 0 rfl) ?_
    refine lv_bipush (v := 47) hx hb dX4_fits_49 (by decide) ?_
    refine lv_icmp_ne (tgt := 58) hx hb dX4_fits_51 (by decide) (fun c4 => ?_) (fun c4 => ?_)
    · have hw := hw.1 c4
      refine lv_iconst (v := 0) hx hb dX4_fits_58 (by decide) ?_
      exact W.zret (v := 0) hx hb hr (tm_bool (by decide)) (fun t ht hW => ⟨⟨0, s2, rfl, ⟨(by decide), hw⟩, by rw [ht]; exact hP, va_K.moved hW.alike hK, hD⟩, hS.F ht⟩) hS.2.2 dX4_fits_59
    · have hw := hw.2 c4
      refine lv_iconst (v := 1) hx hb dX4_fits_54 (by decide) ?_
      refine lv_goto (tgt := 59) hx hb dX4_fits_55 (by decide) ?_
      exact W.zret (v := 1) hx hb hr (tm_bool (by decide)) (fun t ht hW => ⟨⟨1, s2, rfl, ⟨(by decide), hw⟩, by rw [ht]; exact hP, va_K.moved hW.alike hK, hD⟩, hS.F ht⟩) hS.2.2 dX4_fits_59
  have hw := hw.2 c3
  refine (Classical.em (p0 = 17)).elim (fun c5 => ?_) (fun c5 => ?_)
  · have hw := hw.1 c5
    refine lv_lookup (tgt := 60) hx hb dX4_fits_7 (by decide) (by rw [c5]) (by decide) ?_
    refine lv_iload_n hx hb dX4_fits_60 rfl (lv_at hl 0 rfl) ?_
    refine lv_bipush (v := 59) hx hb dX4_fits_61 (by decide) ?_
    refine lv_icmp_ne (tgt := 70) hx hb dX4_fits_63 (by decide) (fun c6 => ?_) (fun c6 => ?_)
    · have hw := hw.1 c6
      refine lv_iconst (v := 0) hx hb dX4_fits_70 (by decide) ?_
      exact W.zret (v := 0) hx hb hr (tm_bool (by decide)) (fun t ht hW => ⟨⟨0, s2, rfl, ⟨(by decide), hw⟩, by rw [ht]; exact hP, va_K.moved hW.alike hK, hD⟩, hS.F ht⟩) hS.2.2 dX4_fits_71
    · have hw := hw.2 c6
      refine lv_iconst (v := 1) hx hb dX4_fits_66 (by decide) ?_
      refine lv_goto (tgt := 71) hx hb dX4_fits_67 (by decide) ?_
      exact W.zret (v := 1) hx hb hr (tm_bool (by decide)) (fun t ht hW => ⟨⟨1, s2, rfl, ⟨(by decide), hw⟩, by rw [ht]; exact hP, va_K.moved hW.alike hK, hD⟩, hS.F ht⟩) hS.2.2 dX4_fits_71
  have hw := hw.2 c5
  refine (Classical.em (p0 = 18)).elim (fun c7 => ?_) (fun c7 => ?_)
  · have hw := hw.1 c7
    refine lv_lookup (tgt := 72) hx hb dX4_fits_7 (by decide) (by rw [c7]) (by decide) ?_
    refine lv_iload_n hx hb dX4_fits_72 rfl (lv_at hl 0 rfl) ?_
    refine lv_bipush (v := 49) hx hb dX4_fits_73 (by decide) ?_
    refine lv_icmp_lt (tgt := 88) hx hb dX4_fits_75 (by decide) (fun c8 => ?_) (fun c8 => ?_)
    · have hw := hw.1 c8
      refine lv_iconst (v := 0) hx hb dX4_fits_88 (by decide) ?_
      exact W.zret (v := 0) hx hb hr (tm_bool (by decide)) (fun t ht hW => ⟨⟨0, s2, rfl, ⟨(by decide), hw⟩, by rw [ht]; exact hP, va_K.moved hW.alike hK, hD⟩, hS.F ht⟩) hS.2.2 dX4_fits_89
    · have hw := hw.2 c8
      refine lv_iload_n hx hb dX4_fits_78 rfl (lv_at hl 0 rfl) ?_
      refine lv_bipush (v := 56) hx hb dX4_fits_79 (by decide) ?_
      refine lv_icmp_gt (tgt := 88) hx hb dX4_fits_81 (by decide) (fun c9 => ?_) (fun c9 => ?_)
      · have hw := hw.1 c9
        refine lv_iconst (v := 0) hx hb dX4_fits_88 (by decide) ?_
        exact W.zret (v := 0) hx hb hr (tm_bool (by decide)) (fun t ht hW => ⟨⟨0, s2, rfl, ⟨(by decide), hw⟩, by rw [ht]; exact hP, va_K.moved hW.alike hK, hD⟩, hS.F ht⟩) hS.2.2 dX4_fits_89
      · have hw := hw.2 c9
        refine lv_iconst (v := 1) hx hb dX4_fits_84 (by decide) ?_
        refine lv_goto (tgt := 89) hx hb dX4_fits_85 (by decide) ?_
        exact W.zret (v := 1) hx hb hr (tm_bool (by decide)) (fun t ht hW => ⟨⟨1, s2, rfl, ⟨(by decide), hw⟩, by rw [ht]; exact hP, va_K.moved hW.alike hK, hD⟩, hS.F ht⟩) hS.2.2 dX4_fits_89
  have hw := hw.2 c7
  refine (Classical.em (p0 = 19)).elim (fun c10 => ?_) (fun c10 => ?_)
  · have hw := hw.1 c10
    refine lv_lookup (tgt := 90) hx hb dX4_fits_7 (by decide) (by rw [c10]) (by decide) ?_
    refine lv_iload_n hx hb dX4_fits_90 rfl (lv_at hl 0 rfl) ?_
    refine lv_bipush (v := 104) hx hb dX4_fits_91 (by decide) ?_
    refine lv_icmp_ne (tgt := 100) hx hb dX4_fits_93 (by decide) (fun c11 => ?_) (fun c11 => ?_)
    · have hw := hw.1 c11
      refine lv_iconst (v := 0) hx hb dX4_fits_100 (by decide) ?_
      exact W.zret (v := 0) hx hb hr (tm_bool (by decide)) (fun t ht hW => ⟨⟨0, s2, rfl, ⟨(by decide), hw⟩, by rw [ht]; exact hP, va_K.moved hW.alike hK, hD⟩, hS.F ht⟩) hS.2.2 dX4_fits_101
    · have hw := hw.2 c11
      refine lv_iconst (v := 1) hx hb dX4_fits_96 (by decide) ?_
      refine lv_goto (tgt := 101) hx hb dX4_fits_97 (by decide) ?_
      exact W.zret (v := 1) hx hb hr (tm_bool (by decide)) (fun t ht hW => ⟨⟨1, s2, rfl, ⟨(by decide), hw⟩, by rw [ht]; exact hP, va_K.moved hW.alike hK, hD⟩, hS.F ht⟩) hS.2.2 dX4_fits_101
  have hw := hw.2 c10
  refine lv_lookup (tgt := 102) hx hb dX4_fits_7 (by decide) (by show Op.lookupswitch.offset [(8, 41), (17, 53), (18, 65), (19, 83)] 95 (p0 : Int32).toInt = 95; rw [lv_osw (a := 8) c3 (by decide)]; rw [lv_osw (a := 17) c5 (by decide)]; rw [lv_osw (a := 18) c7 (by decide)]; rw [lv_osw (a := 19) c10 (by decide)]; rfl) (by decide) ?_
  refine lv_iload_n hx hb dX4_fits_102 rfl (lv_at hl 2 rfl) ?_
  refine lv_bipush (v := 17) hx hb dX4_fits_103 (by decide) ?_
  refine lv_icmp_ge (tgt := 124) hx hb dX4_fits_105 (by decide) (fun c12 => ?_) (fun c12 => ?_)
  · have hw := hw.1 c12
    refine lv_aload_n hx hb dX4_fits_124 rfl (lv_at hl 1 rfl) ?_
    refine lv_iload_n hx hb dX4_fits_125 rfl (lv_at hl 2 rfl) ?_
    refine lv_iload_n hx hb dX4_fits_126 rfl (lv_at hl 0 rfl) ?_
    have hPc := hP
    have hDc := hD
    have hFc := va_free (wc := (tm_wPage cI cZ a s2)) hD hS hA [0, 1] rfl
    refine va_calli (va_runV (As := [.int p0, .int r1]) (rest := []) ⟨hx, hb, hml, hown, hts⟩ (kk_X4_fitsHurt l dC dI cI cZ a s2 H.size p0 r1 _ hw) (cwV 2 hts gX4_fits_X4_fitsHurt rfl rfl rfl (by decide +kernel) ⟨Nat.le_of_ble_eq_true rfl, Nat.le_of_ble_eq_true rfl⟩) ⟨tm_blind, va_recv hK hPc (ci := 4) (q0 := 0) rfl rfl, fun U hU hW => ⟨rfl, by rw [hU], by rw [hU]; exact hPc, va_K.moved hW.alike hK, hDc.weaken (fun _ _ _ _ => trivial)⟩⟩ rfl rfl hl.1 rfl (lv_room (Nat.le_of_ble_eq_true rfl)) dX4_fits_127 ⟨Nat.zero_le _, Nat.zero_le _⟩) hS (fun q _ h => hFc q h) hFc (fun r13 s14 t H1 locs ht hvm hw hB hz1 hk1 hS => ?_)
    obtain ⟨hP1, hK1, hD1⟩ := hB
    rw [ht] at hP1
    have b9_r13 := hw.1
    have hw := hw.2
    obtain ⟨hP, hD⟩ := va_join (wr := []) (w1 := (tm_wPage cI cZ a s14)) hP hD [0, 1] [] rfl rfl (by decide) (by decide) hk1 hFc hP1 hD1
    generalize H1 = H at hP hS ⊢
    have hP : va_P (dC, dI) vwCl (tm_wPage cI cZ a s14) H := hP
    have hD : va_D A (tm_wPage cI cZ a s14) := hD
    exact W.zret (v := r13) hx hb hr (tm_bool b9_r13) (fun t ht hW => ⟨⟨r13, s14, rfl, ⟨b9_r13, hw⟩, by rw [ht]; exact hP, va_K.moved hW.alike hK, hD⟩, hS.F ht⟩) hS.2.2 dX4_fits_130
  · have hw := hw.2 c12
    refine lv_aload_n hx hb dX4_fits_108 rfl (lv_at hl 1 rfl) ?_
    refine lv_iload_n hx hb dX4_fits_109 rfl (lv_at hl 0 rfl) ?_
    have hPc := hP
    have hDc := hD
    have hFc := va_free (wc := (tm_wPage cI cZ a s2)) hD hS hA [0, 1] rfl
    refine va_calli (va_runV (As := [.int r1]) (rest := []) ⟨hx, hb, hml, hown, hts⟩ (kk_X4_figure l dC dI cI cZ a s2 H.size r1 _ hw) (cwV 1 hts gX4_fits_X4_figure rfl rfl rfl (by decide +kernel) ⟨Nat.le_of_ble_eq_true rfl, Nat.le_of_ble_eq_true rfl⟩) ⟨tm_blind, va_recv hK hPc (ci := 4) (q0 := 0) rfl rfl, fun U hU hW => ⟨rfl, by rw [hU], by rw [hU]; exact hPc, va_K.moved hW.alike hK, hDc.weaken (fun _ _ _ _ => trivial)⟩⟩ rfl rfl hl.1 rfl (lv_room (Nat.le_of_ble_eq_true rfl)) dX4_fits_110 ⟨Nat.zero_le _, Nat.zero_le _⟩) hS (fun q _ h => hFc q h) hFc (fun r15 s16 t H1 locs ht hvm hw hB hz1 hk1 hS => ?_)
    obtain ⟨hP1, hK1, hD1⟩ := hB
    rw [ht] at hP1
    obtain ⟨hP, hD⟩ := va_join (wr := []) (w1 := (tm_wPage cI cZ a s16)) hP hD [0, 1] [] rfl rfl (by decide) (by decide) hk1 hFc hP1 hD1
    generalize H1 = H at hP hS ⊢
    have hP : va_P (dC, dI) vwCl (tm_wPage cI cZ a s16) H := hP
    have hD : va_D A (tm_wPage cI cZ a s16) := hD
    refine lv_if_lt (tgt := 120) hx hb dX4_fits_113 (by decide) (fun c17 => ?_) (fun c17 => ?_)
    · have hw := hw.1 c17
      refine lv_iconst (v := 0) hx hb dX4_fits_120 (by decide) ?_
      refine lv_goto (tgt := 130) hx hb dX4_fits_121 (by decide) ?_
      exact W.zret (v := 0) hx hb hr (tm_bool (by decide)) (fun t ht hW => ⟨⟨0, s16, rfl, ⟨(by decide), hw⟩, by rw [ht]; exact hP, va_K.moved hW.alike hK, hD⟩, hS.F ht⟩) hS.2.2 dX4_fits_130
    · have hw := hw.2 c17
      refine lv_iconst (v := 1) hx hb dX4_fits_116 (by decide) ?_
      refine lv_goto (tgt := 130) hx hb dX4_fits_117 (by decide) ?_
      exact W.zret (v := 1) hx hb hr (tm_bool (by decide)) (fun t ht hW => ⟨⟨1, s16, rfl, ⟨(by decide), hw⟩, by rw [ht]; exact hP, va_K.moved hW.alike hK, hD⟩, hS.F ht⟩) hS.2.2 dX4_fits_130
def wp_X4_firstFault_2 (K : Int32 → tm_St → Prop) : Nat → Int32 → tm_St → Prop
  | 0, _, _ => False
  | n + 1, v1, s => (((s 0 1) ≤ v1 → K (s 0 1) s) ∧ (¬ (s 0 1) ≤ v1 → (wp_X4_fits v1 s (fun r2 s3 => ((¬ r2 = 0 → (∀ x5 : Int32, x5 = v1 + 1 → wp_X4_firstFault_2 K n x5 s3)) ∧ (r2 = 0 → K v1 s3))))))
def wp_X4_firstFault  (s0 : tm_St) (K : Int32 → tm_St → Prop) : Prop := ∃ nf : Nat, wp_X4_firstFault_2 K nf 0 s0
set_option maxRecDepth 100000 in
set_option maxHeartbeats 4000000 in
theorem kk_X4_firstFault (l : Launch) (dC : Nat → ClassId) (dI : Nat → Nat → Nat) (cI cZ : ClassId) (a : Nat → Nat) (s0 : tm_St) (sz : Nat)  (K : Int32 → tm_St → Prop) (hw : wp_X4_firstFault s0 K) : Met l yX4_firstFault wsX4_firstFault ({ frames := 4, cells := 0, slots := 0, locals := 92 }) (va_Pc [.ref (a 0)] (tm_Pre dC dI cI cZ (tm_wPage cI cZ a s0) sz)) (va_Qi (fun (r : Int32) (u : tm_St) => K r u) (fun (u : tm_St) t => tm_At dC dI cI cZ (va_A (tm_wPage cI cZ a s0) sz) (tm_wPage cI cZ a u) t) (va_A (tm_wPage cI cZ a s0) sz)) 0 0 (va_A (tm_wPage cI cZ a s0) sz) := by
  refine Met.ofW (cc := cX4_firstFault) (maxL := 2) (ret := (some .int)) (by decide +kernel) rfl ?_
  intro p e z m args below meth c z₁ B hml hv
  obtain ⟨rfl, hsz, hP, hK, hD0⟩ := hv
  have hx := B.exec
  have hb := B.bytes
  have hr := B.returns
  have hts := atoms_spec (ws := wsX4_firstFault) B.pre
  have hown : z.vm.findClass RX4 = some m.cls := findClass_of_methodNamed B.named
  have hlocks := B.notSynchronized
  subst hsz
  have hD := hD0.self (sz := z.heap.size)
  generalize hAe : va_A (tm_wPage cI cZ a s0) z.heap.size = A at hD ⊢
  have hA : ∀ q : Nat, z.heap.size ≤ q → A q := fun q h => by rw [← hAe]; exact Or.inr h
  have hS : va_S A z.heap z.heap [] := va_S.rf
  have h_f15 := hts (.fieldLink RX4 15 "TwoModems$Page" "size" "I") (by decide +kernel)
  have h_in4 : ∀ w ∈ u_ws RX4 TX4 2, w ∈ wsX4_firstFault := by decide +kernel
  have b2 : ∀ (n : Nat) (v1 : Int32) (s : tm_St) (H : Heap) (locs : List Loc) (ls : Array Slot), wp_X4_firstFault_2 K n v1 s → va_P (dC, dI) vwCl (tm_wPage cI cZ a s) H → va_D A (tm_wPage cI cZ a s) → va_S A z.heap H locs → lv_has ls 2 [(0, .ref (a 0)), (1, .int v1)] → W p l e (headSpec wsX4_firstFault ({ frames := 4, cells := 0, slots := 0, locals := 92 })).room z m (([.ref (a 0)] : List Value).toArray) below meth c H locs 0 0 (MQ below (va_Qi (fun (r : Int32) (u : tm_St) => K r u) (fun (u : tm_St) t => tm_At dC dI cI cZ A (tm_wPage cI cZ a u) t) A) (([.ref (a 0)] : List Value).toArray) z 0 0 A) (F0 m 2 ls []) := by
    intro n
    induction n with
    | zero => intro v1 s H locs ls hw hP hD hS hl; unfold wp_X4_firstFault_2 at hw; exact hw.elim
    | succ n ih =>
      intro v1 s H locs ls hw hP hD hS hl
      unfold wp_X4_firstFault_2 at hw
      refine lv_iload_n hx hb dX4_firstFault_2 rfl (lv_at hl 1 rfl) ?_
      refine lv_aload_n hx hb dX4_firstFault_3 rfl (lv_at hl 0 rfl) ?_
      refine va_get (D := (dC, dI)) (ci := 4) (v := .int (s 0 1)) (C := RX4) (T := TX4) (N := 2) hx hb hts h_in4 hown hK hP 0 rfl rfl 1 (by decide) h_f15 (fun _ h9 => h9) rfl dX4_firstFault_4 ?_
      refine lv_icmp_ge (tgt := 26) hx hb dX4_firstFault_7 (by decide) (fun c1 => ?_) (fun c1 => ?_)
      · have hw := hw.1 c1
        refine lv_aload_n hx hb dX4_firstFault_26 rfl (lv_at hl 0 rfl) ?_
        refine va_get (D := (dC, dI)) (ci := 4) (v := .int (s 0 1)) (C := RX4) (T := TX4) (N := 2) hx hb hts h_in4 hown hK hP 0 rfl rfl 1 (by decide) h_f15 (fun _ h9 => h9) rfl dX4_firstFault_27 ?_
        exact W.iret (v := (s 0 1)) hx hb hr (fun t ht hW => ⟨⟨(s 0 1), s, rfl, hw, by rw [ht]; exact hP, va_K.moved hW.alike hK, hD⟩, hS.F ht⟩) hS.2.2 dX4_firstFault_30
      · have hw := hw.2 c1
        refine lv_aload_n hx hb dX4_firstFault_10 rfl (lv_at hl 0 rfl) ?_
        refine lv_iload_n hx hb dX4_firstFault_11 rfl (lv_at hl 1 rfl) ?_
        have hPc := hP
        have hDc := hD
        have hFc := va_free (wc := (tm_wPage cI cZ a s)) hD hS hA [0, 1] rfl
        refine va_calli (va_runV (As := [.int v1]) (rest := []) ⟨hx, hb, hml, hown, hts⟩ (kk_X4_fits l dC dI cI cZ a s H.size v1 _ hw) (cwV 1 hts gX4_firstFault_X4_fits rfl rfl rfl (by decide +kernel) ⟨Nat.le_of_ble_eq_true rfl, Nat.le_of_ble_eq_true rfl⟩) ⟨tm_blind, va_recv hK hPc (ci := 4) (q0 := 0) rfl rfl, fun U hU hW => ⟨rfl, by rw [hU], by rw [hU]; exact hPc, va_K.moved hW.alike hK, hDc.weaken (fun _ _ _ _ => trivial)⟩⟩ rfl rfl hl.1 rfl (lv_room (Nat.le_of_ble_eq_true rfl)) dX4_firstFault_12 ⟨Nat.zero_le _, Nat.zero_le _⟩) hS (fun q _ h => hFc q h) hFc (fun r2 s3 t H1 locs ht hvm hw hB hz1 hk1 hS => ?_)
        obtain ⟨hP1, hK1, hD1⟩ := hB
        rw [ht] at hP1
        have b9_r2 := hw.1
        have hw := hw.2
        obtain ⟨hP, hD⟩ := va_join (wr := []) (w1 := (tm_wPage cI cZ a s3)) hP hD [0, 1] [] rfl rfl (by decide) (by decide) hk1 hFc hP1 hD1
        generalize H1 = H at hP hS ⊢
        have hP : va_P (dC, dI) vwCl (tm_wPage cI cZ a s3) H := hP
        have hD : va_D A (tm_wPage cI cZ a s3) := hD
        refine lv_if_ne (tgt := 20) hx hb dX4_firstFault_15 (by decide) (fun c4 => ?_) (fun c4 => ?_)
        · have hw := hw.1 c4
          obtain ⟨x5, ex5⟩ : ∃ y : Int32, y = v1 + 1 := ⟨_, rfl⟩
          have hw := hw x5 ex5
          refine lv_iinc (v := x5) (lv' := [(1, .int x5), (0, .ref (a 0))]) hx hb dX4_firstFault_20 hl (k := 1) rfl (by rw [ex5]; rfl) (by decide) rfl (fun ls hl => ?_)
          refine lv_goto (tgt := 2) hx hb dX4_firstFault_23 (by decide) ?_
          exact ih x5 s3 _ _ _ hw hP hD hS (lv_sub hl [1, 0] rfl)
        · have hw := hw.2 c4
          refine lv_iload_n hx hb dX4_firstFault_18 rfl (lv_at hl 1 rfl) ?_
          exact W.iret (v := v1) hx hb hr (fun t ht hW => ⟨⟨v1, s3, rfl, hw, by rw [ht]; exact hP, va_K.moved hW.alike hK, hD⟩, hS.F ht⟩) hS.2.2 dX4_firstFault_19
  have hl := lv_entry ([.ref (a 0)]) (n := 2) (Nat.le_of_ble_eq_true rfl)
  rw [lg_entry_eq]
  generalize (lg_sl ([.ref (a 0)]) ++ List.replicate (2 - (lg_sl ([.ref (a 0)])).length) Slot.unset).toArray = ls at hl ⊢
  have hl : lv_has ls 2 [(0, .ref (a 0))] := hl
  unfold wp_X4_firstFault at hw
  refine lv_iconst (v := 0) hx hb dX4_firstFault_0 (by decide) ?_
  refine lv_istore_n (lv' := [(1, .int 0), (0, .ref (a 0))]) hx hb dX4_firstFault_1 rfl hl (by decide) rfl (fun ls hl => ?_)
  obtain ⟨nf, hw⟩ := hw
  exact b2 nf 0 s0 _ _ _ hw hP hD hS (lv_sub hl [1, 0] rfl)
def wp_X4_isLine  (s0 : tm_St) (K : Int32 → tm_St → Prop) : Prop := (wp_X4_firstFault  s0 (fun r1 s2 => (((s2 0 1) ≤ r1 → (wp_X4_commaAhead (s2 0 1) s2 (fun r4 s5 => (((s5 0 1) = 19 → K 1 s5) ∧ (¬ (s5 0 1) = 19 → ((r4 < 0 → K 0 s5) ∧ (¬ r4 < 0 → (((s5 0 1) ≤ (r4 + 1) → K 0 s5) ∧ (¬ (s5 0 1) ≤ (r4 + 1) → K 1 s5))))))))) ∧ (¬ (s2 0 1) ≤ r1 → K 0 s2))))
set_option maxRecDepth 100000 in
set_option maxHeartbeats 4000000 in
theorem kk_X4_isLine (l : Launch) (dC : Nat → ClassId) (dI : Nat → Nat → Nat) (cI cZ : ClassId) (a : Nat → Nat) (s0 : tm_St) (sz : Nat)  (K : Int32 → tm_St → Prop) (hw : wp_X4_isLine s0 K) : Met l yX4_isLine wsX4_isLine ({ frames := 5, cells := 0, slots := 0, locals := 113 }) (va_Pc [.ref (a 0)] (tm_Pre dC dI cI cZ (tm_wPage cI cZ a s0) sz)) (va_Qi (fun (r : Int32) (u : tm_St) => (r = 0 ∨ r = 1) ∧ K r u) (fun (u : tm_St) t => tm_At dC dI cI cZ (va_A (tm_wPage cI cZ a s0) sz) (tm_wPage cI cZ a u) t) (va_A (tm_wPage cI cZ a s0) sz)) 0 0 (va_A (tm_wPage cI cZ a s0) sz) := by
  refine Met.ofW (cc := cX4_isLine) (maxL := 2) (ret := (some .boolean)) (by decide +kernel) rfl ?_
  intro p e z m args below meth c z₁ B hml hv
  obtain ⟨rfl, hsz, hP, hK, hD0⟩ := hv
  have hx := B.exec
  have hb := B.bytes
  have hr := B.returns
  have hts := atoms_spec (ws := wsX4_isLine) B.pre
  have hown : z.vm.findClass RX4 = some m.cls := findClass_of_methodNamed B.named
  have hlocks := B.notSynchronized
  subst hsz
  have hD := hD0.self (sz := z.heap.size)
  generalize hAe : va_A (tm_wPage cI cZ a s0) z.heap.size = A at hD ⊢
  have hA : ∀ q : Nat, z.heap.size ≤ q → A q := fun q h => by rw [← hAe]; exact Or.inr h
  have hS : va_S A z.heap z.heap [] := va_S.rf
  have h_f15 := hts (.fieldLink RX4 15 "TwoModems$Page" "size" "I") (by decide +kernel)
  have h_in4 : ∀ w ∈ u_ws RX4 TX4 2, w ∈ wsX4_isLine := by decide +kernel
  have hl := lv_entry ([.ref (a 0)]) (n := 2) (Nat.le_of_ble_eq_true rfl)
  rw [lg_entry_eq]
  generalize (lg_sl ([.ref (a 0)]) ++ List.replicate (2 - (lg_sl ([.ref (a 0)])).length) Slot.unset).toArray = ls at hl ⊢
  have hl : lv_has ls 2 [(0, .ref (a 0))] := hl
  unfold wp_X4_isLine at hw
  refine lv_aload_n hx hb dX4_isLine_0 rfl (lv_at hl 0 rfl) ?_
  have hPc := hP
  have hDc := hD
  have hFc := va_free (wc := (tm_wPage cI cZ a s0)) hD hS hA [0, 1] rfl
  refine va_calli (va_runV (As := []) (rest := []) ⟨hx, hb, hml, hown, hts⟩ (kk_X4_firstFault l dC dI cI cZ a s0 z.heap.size  _ hw) (cwV 0 hts gX4_isLine_X4_firstFault rfl rfl rfl (by decide +kernel) ⟨Nat.le_of_ble_eq_true rfl, Nat.le_of_ble_eq_true rfl⟩) ⟨tm_blind, va_recv hK hPc (ci := 4) (q0 := 0) rfl rfl, fun U hU hW => ⟨rfl, by rw [hU], by rw [hU]; exact hPc, va_K.moved hW.alike hK, hDc.weaken (fun _ _ _ _ => trivial)⟩⟩ rfl rfl hl.1 rfl (lv_room (Nat.le_of_ble_eq_true rfl)) dX4_isLine_1 ⟨Nat.zero_le _, Nat.zero_le _⟩) hS (fun q _ h => hFc q h) hFc (fun r1 s2 t H1 locs ht hvm hw hB hz1 hk1 hS => ?_)
  obtain ⟨hP1, hK1, hD1⟩ := hB
  rw [ht] at hP1
  obtain ⟨hP, hD⟩ := va_join (wr := []) (w1 := (tm_wPage cI cZ a s2)) hP hD [0, 1] [] rfl rfl (by decide) (by decide) hk1 hFc hP1 hD1
  generalize H1 = H at hP hS ⊢
  have hP : va_P (dC, dI) vwCl (tm_wPage cI cZ a s2) H := hP
  have hD : va_D A (tm_wPage cI cZ a s2) := hD
  refine lv_aload_n hx hb dX4_isLine_4 rfl (lv_at hl 0 rfl) ?_
  refine va_get (D := (dC, dI)) (ci := 4) (v := .int (s2 0 1)) (C := RX4) (T := TX4) (N := 2) hx hb hts h_in4 hown hK hP 0 rfl rfl 1 (by decide) h_f15 (fun _ h9 => h9) rfl dX4_isLine_5 ?_
  refine lv_icmp_ge (tgt := 13) hx hb dX4_isLine_8 (by decide) (fun c3 => ?_) (fun c3 => ?_)
  · have hw := hw.1 c3
    refine lv_aload_n hx hb dX4_isLine_13 rfl (lv_at hl 0 rfl) ?_
    refine lv_aload_n hx hb dX4_isLine_14 rfl (lv_at hl 0 rfl) ?_
    refine va_get (D := (dC, dI)) (ci := 4) (v := .int (s2 0 1)) (C := RX4) (T := TX4) (N := 2) hx hb hts h_in4 hown hK hP 0 rfl rfl 1 (by decide) h_f15 (fun _ h9 => h9) rfl dX4_isLine_15 ?_
    have hPc := hP
    have hDc := hD
    have hFc := va_free (wc := (tm_wPage cI cZ a s2)) hD hS hA [0, 1] rfl
    refine va_calli (va_runV (As := [.int (s2 0 1)]) (rest := []) ⟨hx, hb, hml, hown, hts⟩ (kk_X4_commaAhead l dC dI cI cZ a s2 H.size (s2 0 1) _ hw) (cwV 1 hts gX4_isLine_X4_commaAhead rfl rfl rfl (by decide +kernel) ⟨Nat.le_of_ble_eq_true rfl, Nat.le_of_ble_eq_true rfl⟩) ⟨tm_blind, va_recv hK hPc (ci := 4) (q0 := 0) rfl rfl, fun U hU hW => ⟨rfl, by rw [hU], by rw [hU]; exact hPc, va_K.moved hW.alike hK, hDc.weaken (fun _ _ _ _ => trivial)⟩⟩ rfl rfl hl.1 rfl (lv_room (Nat.le_of_ble_eq_true rfl)) dX4_isLine_18 ⟨Nat.zero_le _, Nat.zero_le _⟩) hS (fun q _ h => hFc q h) hFc (fun r4 s5 t H1 locs ht hvm hw hB hz1 hk1 hS => ?_)
    obtain ⟨hP1, hK1, hD1⟩ := hB
    rw [ht] at hP1
    obtain ⟨hP, hD⟩ := va_join (wr := []) (w1 := (tm_wPage cI cZ a s5)) hP hD [0, 1] [] rfl rfl (by decide) (by decide) hk1 hFc hP1 hD1
    generalize H1 = H at hP hS ⊢
    have hP : va_P (dC, dI) vwCl (tm_wPage cI cZ a s5) H := hP
    have hD : va_D A (tm_wPage cI cZ a s5) := hD
    refine lv_istore_n (lv' := [(1, .int r4), (0, .ref (a 0))]) hx hb dX4_isLine_21 rfl hl (by decide) rfl (fun ls hl => ?_)
    refine lv_aload_n hx hb dX4_isLine_22 rfl (lv_at hl 1 rfl) ?_
    refine va_get (D := (dC, dI)) (ci := 4) (v := .int (s5 0 1)) (C := RX4) (T := TX4) (N := 2) hx hb hts h_in4 hown hK hP 0 rfl rfl 1 (by decide) h_f15 (fun _ h9 => h9) rfl dX4_isLine_23 ?_
    refine lv_bipush (v := 19) hx hb dX4_isLine_26 (by decide) ?_
    refine lv_icmp_eq (tgt := 45) hx hb dX4_isLine_28 (by decide) (fun c6 => ?_) (fun c6 => ?_)
    · have hw := hw.1 c6
      refine lv_iconst (v := 1) hx hb dX4_isLine_45 (by decide) ?_
      refine lv_goto (tgt := 50) hx hb dX4_isLine_46 (by decide) ?_
      exact W.zret (v := 1) hx hb hr (tm_bool (by decide)) (fun t ht hW => ⟨⟨1, s5, rfl, ⟨(by decide), hw⟩, by rw [ht]; exact hP, va_K.moved hW.alike hK, hD⟩, hS.F ht⟩) hS.2.2 dX4_isLine_50
    · have hw := hw.2 c6
      refine lv_iload_n hx hb dX4_isLine_31 rfl (lv_at hl 0 rfl) ?_
      refine lv_if_lt (tgt := 49) hx hb dX4_isLine_32 (by decide) (fun c7 => ?_) (fun c7 => ?_)
      · have hw := hw.1 c7
        refine lv_iconst (v := 0) hx hb dX4_isLine_49 (by decide) ?_
        exact W.zret (v := 0) hx hb hr (tm_bool (by decide)) (fun t ht hW => ⟨⟨0, s5, rfl, ⟨(by decide), hw⟩, by rw [ht]; exact hP, va_K.moved hW.alike hK, hD⟩, hS.F ht⟩) hS.2.2 dX4_isLine_50
      · have hw := hw.2 c7
        refine lv_aload_n hx hb dX4_isLine_35 rfl (lv_at hl 1 rfl) ?_
        refine va_get (D := (dC, dI)) (ci := 4) (v := .int (s5 0 1)) (C := RX4) (T := TX4) (N := 2) hx hb hts h_in4 hown hK hP 0 rfl rfl 1 (by decide) h_f15 (fun _ h9 => h9) rfl dX4_isLine_36 ?_
        refine lv_iload_n hx hb dX4_isLine_39 rfl (lv_at hl 0 rfl) ?_
        refine lv_iconst (v := 1) hx hb dX4_isLine_40 (by decide) ?_
        refine lv_iadd hx hb dX4_isLine_41 ?_
        refine lv_icmp_le (tgt := 49) hx hb dX4_isLine_42 (by decide) (fun c8 => ?_) (fun c8 => ?_)
        · have hw := hw.1 c8
          refine lv_iconst (v := 0) hx hb dX4_isLine_49 (by decide) ?_
          exact W.zret (v := 0) hx hb hr (tm_bool (by decide)) (fun t ht hW => ⟨⟨0, s5, rfl, ⟨(by decide), hw⟩, by rw [ht]; exact hP, va_K.moved hW.alike hK, hD⟩, hS.F ht⟩) hS.2.2 dX4_isLine_50
        · have hw := hw.2 c8
          refine lv_iconst (v := 1) hx hb dX4_isLine_45 (by decide) ?_
          refine lv_goto (tgt := 50) hx hb dX4_isLine_46 (by decide) ?_
          exact W.zret (v := 1) hx hb hr (tm_bool (by decide)) (fun t ht hW => ⟨⟨1, s5, rfl, ⟨(by decide), hw⟩, by rw [ht]; exact hP, va_K.moved hW.alike hK, hD⟩, hS.F ht⟩) hS.2.2 dX4_isLine_50
  · have hw := hw.2 c3
    refine lv_iconst (v := 0) hx hb dX4_isLine_11 (by decide) ?_
    exact W.zret (v := 0) hx hb hr (tm_bool (by decide)) (fun t ht hW => ⟨⟨0, s2, rfl, ⟨(by decide), hw⟩, by rw [ht]; exact hP, va_K.moved hW.alike hK, hD⟩, hS.F ht⟩) hS.2.2 dX4_isLine_12
def wp_X4_delay  (s0 : tm_St) (K : Int32 → tm_St → Prop) : Prop := (wp_X4_codeAt 18 s0 (fun r1 s2 => K (r1 - 48) s2))
set_option maxRecDepth 100000 in
set_option maxHeartbeats 4000000 in
theorem kk_X4_delay (l : Launch) (dC : Nat → ClassId) (dI : Nat → Nat → Nat) (cI cZ : ClassId) (a : Nat → Nat) (s0 : tm_St) (sz : Nat)  (K : Int32 → tm_St → Prop) (hw : wp_X4_delay s0 K) : Met l yX4_delay wsX4_delay ({ frames := 1, cells := 0, slots := 0, locals := 21 }) (va_Pc [.ref (a 0)] (tm_Pre dC dI cI cZ (tm_wPage cI cZ a s0) sz)) (va_Qi (fun (r : Int32) (u : tm_St) => K r u) (fun (u : tm_St) t => tm_At dC dI cI cZ (va_A (tm_wPage cI cZ a s0) sz) (tm_wPage cI cZ a u) t) (va_A (tm_wPage cI cZ a s0) sz)) 0 0 (va_A (tm_wPage cI cZ a s0) sz) := by
  refine Met.ofW (cc := cX4_delay) (maxL := 1) (ret := (some .int)) (by decide +kernel) rfl ?_
  intro p e z m args below meth c z₁ B hml hv
  obtain ⟨rfl, hsz, hP, hK, hD0⟩ := hv
  have hx := B.exec
  have hb := B.bytes
  have hr := B.returns
  have hts := atoms_spec (ws := wsX4_delay) B.pre
  have hown : z.vm.findClass RX4 = some m.cls := findClass_of_methodNamed B.named
  have hlocks := B.notSynchronized
  subst hsz
  have hD := hD0.self (sz := z.heap.size)
  generalize hAe : va_A (tm_wPage cI cZ a s0) z.heap.size = A at hD ⊢
  have hA : ∀ q : Nat, z.heap.size ≤ q → A q := fun q h => by rw [← hAe]; exact Or.inr h
  have hS : va_S A z.heap z.heap [] := va_S.rf
  have hl := lv_entry ([.ref (a 0)]) (n := 1) (Nat.le_of_ble_eq_true rfl)
  rw [lg_entry_eq]
  generalize (lg_sl ([.ref (a 0)]) ++ List.replicate (1 - (lg_sl ([.ref (a 0)])).length) Slot.unset).toArray = ls at hl ⊢
  have hl : lv_has ls 1 [(0, .ref (a 0))] := hl
  unfold wp_X4_delay at hw
  refine lv_aload_n hx hb dX4_delay_0 rfl (lv_at hl 0 rfl) ?_
  refine lv_bipush (v := 18) hx hb dX4_delay_1 (by decide) ?_
  have hPc := hP
  have hDc := hD
  have hFc := va_free (wc := (tm_wPage cI cZ a s0)) hD hS hA [0, 1] rfl
  refine va_calli (va_runV (As := [.int 18]) (rest := []) ⟨hx, hb, hml, hown, hts⟩ (kk_X4_codeAt l dC dI cI cZ a s0 z.heap.size 18 _ hw) (cwV 1 hts gX4_delay_X4_codeAt rfl rfl rfl (by decide +kernel) ⟨Nat.le_of_ble_eq_true rfl, Nat.le_of_ble_eq_true rfl⟩) ⟨tm_blind, va_recv hK hPc (ci := 4) (q0 := 0) rfl rfl, fun U hU hW => ⟨rfl, by rw [hU], by rw [hU]; exact hPc, va_K.moved hW.alike hK, hDc.weaken (fun _ _ _ _ => trivial)⟩⟩ rfl rfl hl.1 rfl (lv_room (Nat.le_of_ble_eq_true rfl)) dX4_delay_3 ⟨Nat.zero_le _, Nat.zero_le _⟩) hS (fun q _ h => hFc q h) hFc (fun r1 s2 t H1 locs ht hvm hw hB hz1 hk1 hS => ?_)
  obtain ⟨hP1, hK1, hD1⟩ := hB
  rw [ht] at hP1
  obtain ⟨hP, hD⟩ := va_join (wr := []) (w1 := (tm_wPage cI cZ a s2)) hP hD [0, 1] [] rfl rfl (by decide) (by decide) hk1 hFc hP1 hD1
  generalize H1 = H at hP hS ⊢
  have hP : va_P (dC, dI) vwCl (tm_wPage cI cZ a s2) H := hP
  have hD : va_D A (tm_wPage cI cZ a s2) := hD
  refine lv_bipush (v := 48) hx hb dX4_delay_6 (by decide) ?_
  refine lv_isub hx hb dX4_delay_8 ?_
  exact W.iret (v := (r1 - 48)) hx hb hr (fun t ht hW => ⟨⟨(r1 - 48), s2, rfl, hw, by rw [ht]; exact hP, va_K.moved hW.alike hK, hD⟩, hS.F ht⟩) hS.2.2 dX4_delay_9
def wp_X4_hurtOf (p0 : Int32) (s0 : tm_St) (K : Int32 → tm_St → Prop) : Prop := (wp_X4_commaAhead (s0 0 1) s0 (fun r1 s2 => (((0 : Int32) ≤ r1 → ((¬ p0 = 0 → (wp_X4_number (r1 + 1) (s2 0 1) s2 (fun r5 s6 => K r5 s6))) ∧ (p0 = 0 → (wp_X4_number 20 r1 s2 (fun r7 s8 => K r7 s8))))) ∧ (¬ (0 : Int32) ≤ r1 → K 0 s2))))
set_option maxRecDepth 100000 in
set_option maxHeartbeats 4000000 in
theorem kk_X4_hurtOf (l : Launch) (dC : Nat → ClassId) (dI : Nat → Nat → Nat) (cI cZ : ClassId) (a : Nat → Nat) (s0 : tm_St) (sz : Nat) (p0 : Int32) (K : Int32 → tm_St → Prop) (hw : wp_X4_hurtOf p0 s0 K) : Met l yX4_hurtOf wsX4_hurtOf ({ frames := 2, cells := 0, slots := 0, locals := 45 }) (va_Pc [.ref (a 0), .int p0] (tm_Pre dC dI cI cZ (tm_wPage cI cZ a s0) sz)) (va_Qi (fun (r : Int32) (u : tm_St) => K r u) (fun (u : tm_St) t => tm_At dC dI cI cZ (va_A (tm_wPage cI cZ a s0) sz) (tm_wPage cI cZ a u) t) (va_A (tm_wPage cI cZ a s0) sz)) 0 0 (va_A (tm_wPage cI cZ a s0) sz) := by
  refine Met.ofW (cc := cX4_hurtOf) (maxL := 3) (ret := (some .int)) (by decide +kernel) rfl ?_
  intro p e z m args below meth c z₁ B hml hv
  obtain ⟨rfl, hsz, hP, hK, hD0⟩ := hv
  have hx := B.exec
  have hb := B.bytes
  have hr := B.returns
  have hts := atoms_spec (ws := wsX4_hurtOf) B.pre
  have hown : z.vm.findClass RX4 = some m.cls := findClass_of_methodNamed B.named
  have hlocks := B.notSynchronized
  subst hsz
  have hD := hD0.self (sz := z.heap.size)
  generalize hAe : va_A (tm_wPage cI cZ a s0) z.heap.size = A at hD ⊢
  have hA : ∀ q : Nat, z.heap.size ≤ q → A q := fun q h => by rw [← hAe]; exact Or.inr h
  have hS : va_S A z.heap z.heap [] := va_S.rf
  have h_f15 := hts (.fieldLink RX4 15 "TwoModems$Page" "size" "I") (by decide +kernel)
  have h_in4 : ∀ w ∈ u_ws RX4 TX4 2, w ∈ wsX4_hurtOf := by decide +kernel
  have hl := lv_entry ([.ref (a 0), .int p0]) (n := 3) (Nat.le_of_ble_eq_true rfl)
  rw [lg_entry_eq]
  generalize (lg_sl ([.ref (a 0), .int p0]) ++ List.replicate (3 - (lg_sl ([.ref (a 0), .int p0])).length) Slot.unset).toArray = ls at hl ⊢
  have hl : lv_has ls 3 [(0, .ref (a 0)), (1, .int p0)] := hl
  unfold wp_X4_hurtOf at hw
  refine lv_aload_n hx hb dX4_hurtOf_0 rfl (lv_at hl 0 rfl) ?_
  refine lv_aload_n hx hb dX4_hurtOf_1 rfl (lv_at hl 0 rfl) ?_
  refine va_get (D := (dC, dI)) (ci := 4) (v := .int (s0 0 1)) (C := RX4) (T := TX4) (N := 2) hx hb hts h_in4 hown hK hP 0 rfl rfl 1 (by decide) h_f15 (fun _ h9 => h9) rfl dX4_hurtOf_2 ?_
  have hPc := hP
  have hDc := hD
  have hFc := va_free (wc := (tm_wPage cI cZ a s0)) hD hS hA [0, 1] rfl
  refine va_calli (va_runV (As := [.int (s0 0 1)]) (rest := []) ⟨hx, hb, hml, hown, hts⟩ (kk_X4_commaAhead l dC dI cI cZ a s0 z.heap.size (s0 0 1) _ hw) (cwV 1 hts gX4_hurtOf_X4_commaAhead rfl rfl rfl (by decide +kernel) ⟨Nat.le_of_ble_eq_true rfl, Nat.le_of_ble_eq_true rfl⟩) ⟨tm_blind, va_recv hK hPc (ci := 4) (q0 := 0) rfl rfl, fun U hU hW => ⟨rfl, by rw [hU], by rw [hU]; exact hPc, va_K.moved hW.alike hK, hDc.weaken (fun _ _ _ _ => trivial)⟩⟩ rfl rfl hl.1 rfl (lv_room (Nat.le_of_ble_eq_true rfl)) dX4_hurtOf_5 ⟨Nat.zero_le _, Nat.zero_le _⟩) hS (fun q _ h => hFc q h) hFc (fun r1 s2 t H1 locs ht hvm hw hB hz1 hk1 hS => ?_)
  obtain ⟨hP1, hK1, hD1⟩ := hB
  rw [ht] at hP1
  obtain ⟨hP, hD⟩ := va_join (wr := []) (w1 := (tm_wPage cI cZ a s2)) hP hD [0, 1] [] rfl rfl (by decide) (by decide) hk1 hFc hP1 hD1
  generalize H1 = H at hP hS ⊢
  have hP : va_P (dC, dI) vwCl (tm_wPage cI cZ a s2) H := hP
  have hD : va_D A (tm_wPage cI cZ a s2) := hD
  refine lv_istore_n (lv' := [(2, .int r1), (0, .ref (a 0)), (1, .int p0)]) hx hb dX4_hurtOf_8 rfl hl (by decide) rfl (fun ls hl => ?_)
  refine lv_iload_n hx hb dX4_hurtOf_9 rfl (lv_at hl 0 rfl) ?_
  refine lv_if_ge (tgt := 15) hx hb dX4_hurtOf_10 (by decide) (fun c3 => ?_) (fun c3 => ?_)
  · have hw := hw.1 c3
    refine lv_iload_n hx hb dX4_hurtOf_15 rfl (lv_at hl 2 rfl) ?_
    refine lv_if_ne (tgt := 29) hx hb dX4_hurtOf_16 (by decide) (fun c4 => ?_) (fun c4 => ?_)
    · have hw := hw.1 c4
      refine lv_aload_n hx hb dX4_hurtOf_29 rfl (lv_at hl 1 rfl) ?_
      refine lv_iload_n hx hb dX4_hurtOf_30 rfl (lv_at hl 0 rfl) ?_
      refine lv_iconst (v := 1) hx hb dX4_hurtOf_31 (by decide) ?_
      refine lv_iadd hx hb dX4_hurtOf_32 ?_
      refine lv_aload_n hx hb dX4_hurtOf_33 rfl (lv_at hl 1 rfl) ?_
      refine va_get (D := (dC, dI)) (ci := 4) (v := .int (s2 0 1)) (C := RX4) (T := TX4) (N := 2) hx hb hts h_in4 hown hK hP 0 rfl rfl 1 (by decide) h_f15 (fun _ h9 => h9) rfl dX4_hurtOf_34 ?_
      have hPc := hP
      have hDc := hD
      have hFc := va_free (wc := (tm_wPage cI cZ a s2)) hD hS hA [0, 1] rfl
      refine va_calli (va_runV (As := [.int (r1 + 1), .int (s2 0 1)]) (rest := []) ⟨hx, hb, hml, hown, hts⟩ (kk_X4_number l dC dI cI cZ a s2 H.size (r1 + 1) (s2 0 1) _ hw) (cwV 2 hts gX4_hurtOf_X4_number rfl rfl rfl (by decide +kernel) ⟨Nat.le_of_ble_eq_true rfl, Nat.le_of_ble_eq_true rfl⟩) ⟨tm_blind, va_recv hK hPc (ci := 4) (q0 := 0) rfl rfl, fun U hU hW => ⟨rfl, by rw [hU], by rw [hU]; exact hPc, va_K.moved hW.alike hK, hDc.weaken (fun _ _ _ _ => trivial)⟩⟩ rfl rfl hl.1 rfl (lv_room (Nat.le_of_ble_eq_true rfl)) dX4_hurtOf_37 ⟨Nat.zero_le _, Nat.zero_le _⟩) hS (fun q _ h => hFc q h) hFc (fun r5 s6 t H1 locs ht hvm hw hB hz1 hk1 hS => ?_)
      obtain ⟨hP1, hK1, hD1⟩ := hB
      rw [ht] at hP1
      obtain ⟨hP, hD⟩ := va_join (wr := []) (w1 := (tm_wPage cI cZ a s6)) hP hD [0, 1] [] rfl rfl (by decide) (by decide) hk1 hFc hP1 hD1
      generalize H1 = H at hP hS ⊢
      have hP : va_P (dC, dI) vwCl (tm_wPage cI cZ a s6) H := hP
      have hD : va_D A (tm_wPage cI cZ a s6) := hD
      exact W.iret (v := r5) hx hb hr (fun t ht hW => ⟨⟨r5, s6, rfl, hw, by rw [ht]; exact hP, va_K.moved hW.alike hK, hD⟩, hS.F ht⟩) hS.2.2 dX4_hurtOf_40
    · have hw := hw.2 c4
      refine lv_aload_n hx hb dX4_hurtOf_19 rfl (lv_at hl 1 rfl) ?_
      refine lv_bipush (v := 20) hx hb dX4_hurtOf_20 (by decide) ?_
      refine lv_iload_n hx hb dX4_hurtOf_22 rfl (lv_at hl 0 rfl) ?_
      have hPc := hP
      have hDc := hD
      have hFc := va_free (wc := (tm_wPage cI cZ a s2)) hD hS hA [0, 1] rfl
      refine va_calli (va_runV (As := [.int 20, .int r1]) (rest := []) ⟨hx, hb, hml, hown, hts⟩ (kk_X4_number l dC dI cI cZ a s2 H.size 20 r1 _ hw) (cwV 2 hts gX4_hurtOf_X4_number rfl rfl rfl (by decide +kernel) ⟨Nat.le_of_ble_eq_true rfl, Nat.le_of_ble_eq_true rfl⟩) ⟨tm_blind, va_recv hK hPc (ci := 4) (q0 := 0) rfl rfl, fun U hU hW => ⟨rfl, by rw [hU], by rw [hU]; exact hPc, va_K.moved hW.alike hK, hDc.weaken (fun _ _ _ _ => trivial)⟩⟩ rfl rfl hl.1 rfl (lv_room (Nat.le_of_ble_eq_true rfl)) dX4_hurtOf_23 ⟨Nat.zero_le _, Nat.zero_le _⟩) hS (fun q _ h => hFc q h) hFc (fun r7 s8 t H1 locs ht hvm hw hB hz1 hk1 hS => ?_)
      obtain ⟨hP1, hK1, hD1⟩ := hB
      rw [ht] at hP1
      obtain ⟨hP, hD⟩ := va_join (wr := []) (w1 := (tm_wPage cI cZ a s8)) hP hD [0, 1] [] rfl rfl (by decide) (by decide) hk1 hFc hP1 hD1
      generalize H1 = H at hP hS ⊢
      have hP : va_P (dC, dI) vwCl (tm_wPage cI cZ a s8) H := hP
      have hD : va_D A (tm_wPage cI cZ a s8) := hD
      refine lv_goto (tgt := 40) hx hb dX4_hurtOf_26 (by decide) ?_
      exact W.iret (v := r7) hx hb hr (fun t ht hW => ⟨⟨r7, s8, rfl, hw, by rw [ht]; exact hP, va_K.moved hW.alike hK, hD⟩, hS.F ht⟩) hS.2.2 dX4_hurtOf_40
  · have hw := hw.2 c3
    refine lv_iconst (v := 0) hx hb dX4_hurtOf_13 (by decide) ?_
    exact W.iret (v := 0) hx hb hr (fun t ht hW => ⟨⟨0, s2, rfl, hw, by rw [ht]; exact hP, va_K.moved hW.alike hK, hD⟩, hS.F ht⟩) hS.2.2 dX4_hurtOf_14
def wp_X4_qualityAt (p0 : Int32) (p1 : Int32) (s0 : tm_St) (K : Int32 → tm_St → Prop) : Prop := (wp_X4_codeAt ((9 * p0) + p1) s0 (fun r1 s2 => (wp_X4_figure r1 s2 (fun r3 s4 => K r3 s4))))
set_option maxRecDepth 100000 in
set_option maxHeartbeats 4000000 in
theorem kk_X4_qualityAt (l : Launch) (dC : Nat → ClassId) (dI : Nat → Nat → Nat) (cI cZ : ClassId) (a : Nat → Nat) (s0 : tm_St) (sz : Nat) (p0 : Int32) (p1 : Int32) (K : Int32 → tm_St → Prop) (hw : wp_X4_qualityAt p0 p1 s0 K) : Met l yX4_qualityAt wsX4_qualityAt ({ frames := 1, cells := 0, slots := 0, locals := 21 }) (va_Pc [.ref (a 0), .int p0, .int p1] (tm_Pre dC dI cI cZ (tm_wPage cI cZ a s0) sz)) (va_Qi (fun (r : Int32) (u : tm_St) => K r u) (fun (u : tm_St) t => tm_At dC dI cI cZ (va_A (tm_wPage cI cZ a s0) sz) (tm_wPage cI cZ a u) t) (va_A (tm_wPage cI cZ a s0) sz)) 0 0 (va_A (tm_wPage cI cZ a s0) sz) := by
  refine Met.ofW (cc := cX4_qualityAt) (maxL := 3) (ret := (some .int)) (by decide +kernel) rfl ?_
  intro p e z m args below meth c z₁ B hml hv
  obtain ⟨rfl, hsz, hP, hK, hD0⟩ := hv
  have hx := B.exec
  have hb := B.bytes
  have hr := B.returns
  have hts := atoms_spec (ws := wsX4_qualityAt) B.pre
  have hown : z.vm.findClass RX4 = some m.cls := findClass_of_methodNamed B.named
  have hlocks := B.notSynchronized
  subst hsz
  have hD := hD0.self (sz := z.heap.size)
  generalize hAe : va_A (tm_wPage cI cZ a s0) z.heap.size = A at hD ⊢
  have hA : ∀ q : Nat, z.heap.size ≤ q → A q := fun q h => by rw [← hAe]; exact Or.inr h
  have hS : va_S A z.heap z.heap [] := va_S.rf
  have hl := lv_entry ([.ref (a 0), .int p0, .int p1]) (n := 3) (Nat.le_of_ble_eq_true rfl)
  rw [lg_entry_eq]
  generalize (lg_sl ([.ref (a 0), .int p0, .int p1]) ++ List.replicate (3 - (lg_sl ([.ref (a 0), .int p0, .int p1])).length) Slot.unset).toArray = ls at hl ⊢
  have hl : lv_has ls 3 [(0, .ref (a 0)), (1, .int p0), (2, .int p1)] := hl
  unfold wp_X4_qualityAt at hw
  refine lv_aload_n hx hb dX4_qualityAt_0 rfl (lv_at hl 0 rfl) ?_
  refine lv_aload_n hx hb dX4_qualityAt_1 rfl (lv_at hl 0 rfl) ?_
  refine lv_bipush (v := 9) hx hb dX4_qualityAt_2 (by decide) ?_
  refine lv_iload_n hx hb dX4_qualityAt_4 rfl (lv_at hl 1 rfl) ?_
  refine lv_imul hx hb dX4_qualityAt_5 ?_
  refine lv_iload_n hx hb dX4_qualityAt_6 rfl (lv_at hl 2 rfl) ?_
  refine lv_iadd hx hb dX4_qualityAt_7 ?_
  have hPc := hP
  have hDc := hD
  have hFc := va_free (wc := (tm_wPage cI cZ a s0)) hD hS hA [0, 1] rfl
  refine va_calli (va_runV (As := [.int ((9 * p0) + p1)]) (rest := [.ref (a 0)]) ⟨hx, hb, hml, hown, hts⟩ (kk_X4_codeAt l dC dI cI cZ a s0 z.heap.size ((9 * p0) + p1) _ hw) (cwV 1 hts gX4_qualityAt_X4_codeAt rfl rfl rfl (by decide +kernel) ⟨Nat.le_of_ble_eq_true rfl, Nat.le_of_ble_eq_true rfl⟩) ⟨tm_blind, va_recv hK hPc (ci := 4) (q0 := 0) rfl rfl, fun U hU hW => ⟨rfl, by rw [hU], by rw [hU]; exact hPc, va_K.moved hW.alike hK, hDc.weaken (fun _ _ _ _ => trivial)⟩⟩ rfl rfl hl.1 rfl (lv_room (Nat.le_of_ble_eq_true rfl)) dX4_qualityAt_8 ⟨Nat.zero_le _, Nat.zero_le _⟩) hS (fun q _ h => hFc q h) hFc (fun r1 s2 t H1 locs ht hvm hw hB hz1 hk1 hS => ?_)
  obtain ⟨hP1, hK1, hD1⟩ := hB
  rw [ht] at hP1
  obtain ⟨hP, hD⟩ := va_join (wr := []) (w1 := (tm_wPage cI cZ a s2)) hP hD [0, 1] [] rfl rfl (by decide) (by decide) hk1 hFc hP1 hD1
  generalize H1 = H at hP hS ⊢
  have hP : va_P (dC, dI) vwCl (tm_wPage cI cZ a s2) H := hP
  have hD : va_D A (tm_wPage cI cZ a s2) := hD
  have hPc := hP
  have hDc := hD
  have hFc := va_free (wc := (tm_wPage cI cZ a s2)) hD hS hA [0, 1] rfl
  refine va_calli (va_runV (As := [.int r1]) (rest := []) ⟨hx, hb, hml, hown, hts⟩ (kk_X4_figure l dC dI cI cZ a s2 H.size r1 _ hw) (cwV 1 hts gX4_qualityAt_X4_figure rfl rfl rfl (by decide +kernel) ⟨Nat.le_of_ble_eq_true rfl, Nat.le_of_ble_eq_true rfl⟩) ⟨tm_blind, va_recv hK hPc (ci := 4) (q0 := 0) rfl rfl, fun U hU hW => ⟨rfl, by rw [hU], by rw [hU]; exact hPc, va_K.moved hW.alike hK, hDc.weaken (fun _ _ _ _ => trivial)⟩⟩ rfl rfl hl.1 rfl (lv_room (Nat.le_of_ble_eq_true rfl)) dX4_qualityAt_11 ⟨Nat.zero_le _, Nat.zero_le _⟩) hS (fun q _ h => hFc q h) hFc (fun r3 s4 t H1 locs ht hvm hw hB hz1 hk1 hS => ?_)
  obtain ⟨hP1, hK1, hD1⟩ := hB
  rw [ht] at hP1
  obtain ⟨hP, hD⟩ := va_join (wr := []) (w1 := (tm_wPage cI cZ a s4)) hP hD [0, 1] [] rfl rfl (by decide) (by decide) hk1 hFc hP1 hD1
  generalize H1 = H at hP hS ⊢
  have hP : va_P (dC, dI) vwCl (tm_wPage cI cZ a s4) H := hP
  have hD : va_D A (tm_wPage cI cZ a s4) := hD
  exact W.iret (v := r3) hx hb hr (fun t ht hW => ⟨⟨r3, s4, rfl, hw, by rw [ht]; exact hP, va_K.moved hW.alike hK, hD⟩, hS.F ht⟩) hS.2.2 dX4_qualityAt_14
