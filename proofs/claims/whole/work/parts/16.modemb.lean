def wp_X3_isOfRound (p0 : Int32) (s0 : tm_St) (K : Int32 → tm_St → Prop) : Prop := (wp_X7_sort  (tm_pj [9, 10, 11, 12, 13] s0) (fun r1 u3 => ∀ s2 : tm_St, s2 = tm_pk [9, 10, 11, 12, 13] s0 u3 → ((¬ r1 = p0 → K 0 s2) ∧ (r1 = p0 → (wp_X7_first  (tm_pj [9, 10, 11, 12, 13] s2) (fun r5 u7 => ∀ s6 : tm_St, s6 = tm_pk [9, 10, 11, 12, 13] s2 u7 → ((¬ r5 = (s6 0 10) → K 0 s6) ∧ (r5 = (s6 0 10) → K 1 s6))))))))
set_option maxRecDepth 100000 in
set_option maxHeartbeats 4000000 in
theorem kk_X3_isOfRound (l : Launch) (dC : Nat → ClassId) (dI : Nat → Nat → Nat) (cI cZ : ClassId) (a : Nat → Nat) (s0 : tm_St) (sz : Nat) (p0 : Int32) (K : Int32 → tm_St → Prop) (hw : wp_X3_isOfRound p0 s0 K) : Met l yX3_isOfRound wsX3_isOfRound ({ frames := 1, cells := 0, slots := 0, locals := 20 }) (va_Pc [.ref (a 0), .int p0] (tm_Pre dC dI cI cZ (tm_wModem cI cZ a s0) sz)) (va_Qi (fun (r : Int32) (u : tm_St) => (r = 0 ∨ r = 1) ∧ K r u) (fun (u : tm_St) t => tm_At dC dI cI cZ (va_A (tm_wModem cI cZ a s0) sz) (tm_wModem cI cZ a u) t) (va_A (tm_wModem cI cZ a s0) sz)) 0 0 (va_A (tm_wModem cI cZ a s0) sz) := by
  refine Met.ofW (cc := cX3_isOfRound) (maxL := 2) (ret := (some .boolean)) (by decide +kernel) rfl ?_
  intro p e z m args below meth c z₁ B hml hv
  obtain ⟨rfl, hsz, hP, hK, hD0⟩ := hv
  have hx := B.exec
  have hb := B.bytes
  have hr := B.returns
  have hts := atoms_spec (ws := wsX3_isOfRound) B.pre
  have hown : z.vm.findClass RX3 = some m.cls := findClass_of_methodNamed B.named
  have hlocks := B.notSynchronized
  subst hsz
  have hD := hD0.self (sz := z.heap.size)
  generalize hAe : va_A (tm_wModem cI cZ a s0) z.heap.size = A at hD ⊢
  have hA : ∀ q : Nat, z.heap.size ≤ q → A q := fun q h => by rw [← hAe]; exact Or.inr h
  have hS : va_S A z.heap z.heap [] := va_S.rf
  have h_f78 := hts (.fieldLink RX3 78 "TwoModems$Modem" "in" "LTwoModems$Way;") (by decide +kernel)
  have h_in3 : ∀ w ∈ u_ws RX3 TX3 20, w ∈ wsX3_isOfRound := by decide +kernel
  have h_f44 := hts (.fieldLink RX3 44 "TwoModems$Modem" "round" "I") (by decide +kernel)
  have hl := lv_entry ([.ref (a 0), .int p0]) (n := 2) (Nat.le_of_ble_eq_true rfl)
  rw [lg_entry_eq]
  generalize (lg_sl ([.ref (a 0), .int p0]) ++ List.replicate (2 - (lg_sl ([.ref (a 0), .int p0])).length) Slot.unset).toArray = ls at hl ⊢
  have hl : lv_has ls 2 [(0, .ref (a 0)), (1, .int p0)] := hl
  unfold wp_X3_isOfRound at hw
  refine lv_aload_n hx hb dX3_isOfRound_0 rfl (lv_at hl 0 rfl) ?_
  refine va_get (D := (dC, dI)) (ci := 3) (v := .ref (a 9)) (C := RX3) (T := TX3) (N := 20) hx hb hts h_in3 hown hK hP 0 rfl rfl 1 (by decide) h_f78 (fun _ h9 => h9) rfl dX3_isOfRound_1 ?_
  have hPc := hP.sub (ws' := (tm_wWay cI cZ (tm_pj [9, 10, 11, 12, 13] a) (tm_pj [9, 10, 11, 12, 13] s0))) [9, 10, 11, 12, 13] rfl
  have hDc := hD.sub (ws' := (tm_wWay cI cZ (tm_pj [9, 10, 11, 12, 13] a) (tm_pj [9, 10, 11, 12, 13] s0))) [9, 10, 11, 12, 13] (by decide) rfl
  have hFc := va_free (wc := (tm_wWay cI cZ (tm_pj [9, 10, 11, 12, 13] a) (tm_pj [9, 10, 11, 12, 13] s0))) hD hS hA [9, 10, 11, 12, 13] rfl
  refine va_calli (va_runV (As := []) (rest := []) ⟨hx, hb, hml, hown, hts⟩ (kk_X7_sort l dC dI cI cZ (tm_pj [9, 10, 11, 12, 13] a) (tm_pj [9, 10, 11, 12, 13] s0) z.heap.size  _ hw) (cwV 0 hts gX3_isOfRound_X7_sort rfl rfl rfl (by decide +kernel) ⟨Nat.le_of_ble_eq_true rfl, Nat.le_of_ble_eq_true rfl⟩) ⟨tm_blind, va_recv hK hPc (ci := 5) (q0 := 0) rfl rfl, fun U hU hW => ⟨rfl, by rw [hU], by rw [hU]; exact hPc, va_K.moved hW.alike hK, hDc.weaken (fun _ _ _ _ => trivial)⟩⟩ rfl rfl hl.1 rfl (lv_room (Nat.le_of_ble_eq_true rfl)) dX3_isOfRound_4 ⟨Nat.zero_le _, Nat.zero_le _⟩) hS (fun q _ h => hFc q h) hFc (fun r1 u t H1 locs ht hvm hw hB hz1 hk1 hS => ?_)
  obtain ⟨hP1, hK1, hD1⟩ := hB
  rw [ht] at hP1
  obtain ⟨hP, hD⟩ := va_join (wr := ([0, 1, 2, 3, 4, 5, 6, 7, 8, 14, 15, 16, 17, 18] : List Nat).filterMap (fun i => (tm_wModem cI cZ a s0)[i]?)) (w1 := (tm_wWay cI cZ (tm_pj [9, 10, 11, 12, 13] a) u)) hP hD [9, 10, 11, 12, 13] [0, 1, 2, 3, 4, 5, 6, 7, 8, 14, 15, 16, 17, 18] rfl rfl (by decide) (by decide) hk1 hFc hP1 hD1
  generalize H1 = H at hP hS ⊢
  obtain ⟨s2, es2⟩ : ∃ y : tm_St, y = tm_pk [9, 10, 11, 12, 13] s0 u := ⟨_, rfl⟩
  have hw := hw s2 es2
  have hP : va_P (dC, dI) vwCl (tm_wModem cI cZ a s2) H := by rw [es2]; exact hP.sub [0, 1, 2, 3, 4, 5, 6, 7, 8, 14, 15, 16, 17, 18, 9, 10, 11, 12, 13] rfl
  have hD : va_D A (tm_wModem cI cZ a s2) := by rw [es2]; exact hD.sub [0, 1, 2, 3, 4, 5, 6, 7, 8, 14, 15, 16, 17, 18, 9, 10, 11, 12, 13] (by decide) rfl
  refine lv_iload_n hx hb dX3_isOfRound_7 rfl (lv_at hl 1 rfl) ?_
  refine lv_icmp_ne (tgt := 29) hx hb dX3_isOfRound_8 (by decide) (fun c4 => ?_) (fun c4 => ?_)
  · have hw := hw.1 c4
    refine lv_iconst (v := 0) hx hb dX3_isOfRound_29 (by decide) ?_
    exact W.zret (v := 0) hx hb hr (tm_bool (by decide)) (fun t ht hW => ⟨⟨0, s2, rfl, ⟨(by decide), hw⟩, by rw [ht]; exact hP, va_K.moved hW.alike hK, hD⟩, hS.F ht⟩) hS.2.2 dX3_isOfRound_30
  · have hw := hw.2 c4
    refine lv_aload_n hx hb dX3_isOfRound_11 rfl (lv_at hl 0 rfl) ?_
    refine va_get (D := (dC, dI)) (ci := 3) (v := .ref (a 9)) (C := RX3) (T := TX3) (N := 20) hx hb hts h_in3 hown hK hP 0 rfl rfl 1 (by decide) h_f78 (fun _ h9 => h9) rfl dX3_isOfRound_12 ?_
    have hPc := hP.sub (ws' := (tm_wWay cI cZ (tm_pj [9, 10, 11, 12, 13] a) (tm_pj [9, 10, 11, 12, 13] s2))) [9, 10, 11, 12, 13] rfl
    have hDc := hD.sub (ws' := (tm_wWay cI cZ (tm_pj [9, 10, 11, 12, 13] a) (tm_pj [9, 10, 11, 12, 13] s2))) [9, 10, 11, 12, 13] (by decide) rfl
    have hFc := va_free (wc := (tm_wWay cI cZ (tm_pj [9, 10, 11, 12, 13] a) (tm_pj [9, 10, 11, 12, 13] s2))) hD hS hA [9, 10, 11, 12, 13] rfl
    refine va_calli (va_runV (As := []) (rest := []) ⟨hx, hb, hml, hown, hts⟩ (kk_X7_first l dC dI cI cZ (tm_pj [9, 10, 11, 12, 13] a) (tm_pj [9, 10, 11, 12, 13] s2) H.size  _ hw) (cwV 0 hts gX3_isOfRound_X7_first rfl rfl rfl (by decide +kernel) ⟨Nat.le_of_ble_eq_true rfl, Nat.le_of_ble_eq_true rfl⟩) ⟨tm_blind, va_recv hK hPc (ci := 5) (q0 := 0) rfl rfl, fun U hU hW => ⟨rfl, by rw [hU], by rw [hU]; exact hPc, va_K.moved hW.alike hK, hDc.weaken (fun _ _ _ _ => trivial)⟩⟩ rfl rfl hl.1 rfl (lv_room (Nat.le_of_ble_eq_true rfl)) dX3_isOfRound_15 ⟨Nat.zero_le _, Nat.zero_le _⟩) hS (fun q _ h => hFc q h) hFc (fun r5 u t H1 locs ht hvm hw hB hz1 hk1 hS => ?_)
    obtain ⟨hP1, hK1, hD1⟩ := hB
    rw [ht] at hP1
    obtain ⟨hP, hD⟩ := va_join (wr := ([0, 1, 2, 3, 4, 5, 6, 7, 8, 14, 15, 16, 17, 18] : List Nat).filterMap (fun i => (tm_wModem cI cZ a s2)[i]?)) (w1 := (tm_wWay cI cZ (tm_pj [9, 10, 11, 12, 13] a) u)) hP hD [9, 10, 11, 12, 13] [0, 1, 2, 3, 4, 5, 6, 7, 8, 14, 15, 16, 17, 18] rfl rfl (by decide) (by decide) hk1 hFc hP1 hD1
    generalize H1 = H at hP hS ⊢
    obtain ⟨s6, es6⟩ : ∃ y : tm_St, y = tm_pk [9, 10, 11, 12, 13] s2 u := ⟨_, rfl⟩
    have hw := hw s6 es6
    have hP : va_P (dC, dI) vwCl (tm_wModem cI cZ a s6) H := by rw [es6]; exact hP.sub [0, 1, 2, 3, 4, 5, 6, 7, 8, 14, 15, 16, 17, 18, 9, 10, 11, 12, 13] rfl
    have hD : va_D A (tm_wModem cI cZ a s6) := by rw [es6]; exact hD.sub [0, 1, 2, 3, 4, 5, 6, 7, 8, 14, 15, 16, 17, 18, 9, 10, 11, 12, 13] (by decide) rfl
    refine lv_aload_n hx hb dX3_isOfRound_18 rfl (lv_at hl 0 rfl) ?_
    refine va_get (D := (dC, dI)) (ci := 3) (v := .int (s6 0 10)) (C := RX3) (T := TX3) (N := 20) hx hb hts h_in3 hown hK hP 0 rfl rfl 10 (by decide) h_f44 (fun _ h9 => h9) rfl dX3_isOfRound_19 ?_
    refine lv_icmp_ne (tgt := 29) hx hb dX3_isOfRound_22 (by decide) (fun c8 => ?_) (fun c8 => ?_)
    · have hw := hw.1 c8
      refine lv_iconst (v := 0) hx hb dX3_isOfRound_29 (by decide) ?_
      exact W.zret (v := 0) hx hb hr (tm_bool (by decide)) (fun t ht hW => ⟨⟨0, s6, rfl, ⟨(by decide), hw⟩, by rw [ht]; exact hP, va_K.moved hW.alike hK, hD⟩, hS.F ht⟩) hS.2.2 dX3_isOfRound_30
    · have hw := hw.2 c8
      refine lv_iconst (v := 1) hx hb dX3_isOfRound_25 (by decide) ?_
      refine lv_goto (tgt := 30) hx hb dX3_isOfRound_26 (by decide) ?_
      exact W.zret (v := 1) hx hb hr (tm_bool (by decide)) (fun t ht hW => ⟨⟨1, s6, rfl, ⟨(by decide), hw⟩, by rw [ht]; exact hP, va_K.moved hW.alike hK, hD⟩, hS.F ht⟩) hS.2.2 dX3_isOfRound_30
def wp_X3_hearGreaterRound  (s0 : tm_St) (K : tm_St → Prop) : Prop := (wp_X7_sort  (tm_pj [9, 10, 11, 12, 13] s0) (fun r1 u3 => ∀ s2 : tm_St, s2 = tm_pk [9, 10, 11, 12, 13] s0 u3 → ((¬ r1 = 5 → K s2) ∧ (r1 = 5 → (wp_X7_first  (tm_pj [9, 10, 11, 12, 13] s2) (fun r5 u7 => ∀ s6 : tm_St, s6 = tm_pk [9, 10, 11, 12, 13] s2 u7 → ((r5 ≤ (s6 0 10) → K s6) ∧ (¬ r5 ≤ (s6 0 10) → (wp_X7_first  (tm_pj [9, 10, 11, 12, 13] s6) (fun r9 u11 => ∀ s10 : tm_St, s10 = tm_pk [9, 10, 11, 12, 13] s6 u11 → (∀ s12 : tm_St, s12 = tm_s s10 0 (tm_u (s10 0) 10 r9) → (wp_X3_come 5 s12 (fun s13 => K s13)))))))))))))
set_option maxRecDepth 100000 in
set_option maxHeartbeats 4000000 in
theorem kk_X3_hearGreaterRound (l : Launch) (dC : Nat → ClassId) (dI : Nat → Nat → Nat) (cI cZ : ClassId) (a : Nat → Nat) (s0 : tm_St) (sz : Nat)  (K : tm_St → Prop) (hw : wp_X3_hearGreaterRound s0 K) : Met l yX3_hearGreaterRound wsX3_hearGreaterRound ({ frames := 2, cells := 0, slots := 0, locals := 43 }) (va_Pc [.ref (a 0)] (tm_Pre dC dI cI cZ (tm_wModem cI cZ a s0) sz)) (va_Qv (fun (u : tm_St) => K u) (fun (u : tm_St) t => tm_At dC dI cI cZ (va_A (tm_wModem cI cZ a s0) sz) (tm_wModem cI cZ a u) t) (va_A (tm_wModem cI cZ a s0) sz)) 0 0 (va_A (tm_wModem cI cZ a s0) sz) := by
  refine Met.ofW (cc := cX3_hearGreaterRound) (maxL := 1) (ret := none) (by decide +kernel) rfl ?_
  intro p e z m args below meth c z₁ B hml hv
  obtain ⟨rfl, hsz, hP, hK, hD0⟩ := hv
  have hx := B.exec
  have hb := B.bytes
  have hr := B.returns
  have hts := atoms_spec (ws := wsX3_hearGreaterRound) B.pre
  have hown : z.vm.findClass RX3 = some m.cls := findClass_of_methodNamed B.named
  have hlocks := B.notSynchronized
  subst hsz
  have hD := hD0.self (sz := z.heap.size)
  generalize hAe : va_A (tm_wModem cI cZ a s0) z.heap.size = A at hD ⊢
  have hA : ∀ q : Nat, z.heap.size ≤ q → A q := fun q h => by rw [← hAe]; exact Or.inr h
  have hS : va_S A z.heap z.heap [] := va_S.rf
  have h_f78 := hts (.fieldLink RX3 78 "TwoModems$Modem" "in" "LTwoModems$Way;") (by decide +kernel)
  have h_in3 : ∀ w ∈ u_ws RX3 TX3 20, w ∈ wsX3_hearGreaterRound := by decide +kernel
  have h_f44 := hts (.fieldLink RX3 44 "TwoModems$Modem" "round" "I") (by decide +kernel)
  have hl := lv_entry ([.ref (a 0)]) (n := 1) (Nat.le_of_ble_eq_true rfl)
  rw [lg_entry_eq]
  generalize (lg_sl ([.ref (a 0)]) ++ List.replicate (1 - (lg_sl ([.ref (a 0)])).length) Slot.unset).toArray = ls at hl ⊢
  have hl : lv_has ls 1 [(0, .ref (a 0))] := hl
  unfold wp_X3_hearGreaterRound at hw
  refine lv_aload_n hx hb dX3_hearGreaterRound_0 rfl (lv_at hl 0 rfl) ?_
  refine va_get (D := (dC, dI)) (ci := 3) (v := .ref (a 9)) (C := RX3) (T := TX3) (N := 20) hx hb hts h_in3 hown hK hP 0 rfl rfl 1 (by decide) h_f78 (fun _ h9 => h9) rfl dX3_hearGreaterRound_1 ?_
  have hPc := hP.sub (ws' := (tm_wWay cI cZ (tm_pj [9, 10, 11, 12, 13] a) (tm_pj [9, 10, 11, 12, 13] s0))) [9, 10, 11, 12, 13] rfl
  have hDc := hD.sub (ws' := (tm_wWay cI cZ (tm_pj [9, 10, 11, 12, 13] a) (tm_pj [9, 10, 11, 12, 13] s0))) [9, 10, 11, 12, 13] (by decide) rfl
  have hFc := va_free (wc := (tm_wWay cI cZ (tm_pj [9, 10, 11, 12, 13] a) (tm_pj [9, 10, 11, 12, 13] s0))) hD hS hA [9, 10, 11, 12, 13] rfl
  refine va_calli (va_runV (As := []) (rest := []) ⟨hx, hb, hml, hown, hts⟩ (kk_X7_sort l dC dI cI cZ (tm_pj [9, 10, 11, 12, 13] a) (tm_pj [9, 10, 11, 12, 13] s0) z.heap.size  _ hw) (cwV 0 hts gX3_hearGreaterRound_X7_sort rfl rfl rfl (by decide +kernel) ⟨Nat.le_of_ble_eq_true rfl, Nat.le_of_ble_eq_true rfl⟩) ⟨tm_blind, va_recv hK hPc (ci := 5) (q0 := 0) rfl rfl, fun U hU hW => ⟨rfl, by rw [hU], by rw [hU]; exact hPc, va_K.moved hW.alike hK, hDc.weaken (fun _ _ _ _ => trivial)⟩⟩ rfl rfl hl.1 rfl (lv_room (Nat.le_of_ble_eq_true rfl)) dX3_hearGreaterRound_4 ⟨Nat.zero_le _, Nat.zero_le _⟩) hS (fun q _ h => hFc q h) hFc (fun r1 u t H1 locs ht hvm hw hB hz1 hk1 hS => ?_)
  obtain ⟨hP1, hK1, hD1⟩ := hB
  rw [ht] at hP1
  obtain ⟨hP, hD⟩ := va_join (wr := ([0, 1, 2, 3, 4, 5, 6, 7, 8, 14, 15, 16, 17, 18] : List Nat).filterMap (fun i => (tm_wModem cI cZ a s0)[i]?)) (w1 := (tm_wWay cI cZ (tm_pj [9, 10, 11, 12, 13] a) u)) hP hD [9, 10, 11, 12, 13] [0, 1, 2, 3, 4, 5, 6, 7, 8, 14, 15, 16, 17, 18] rfl rfl (by decide) (by decide) hk1 hFc hP1 hD1
  generalize H1 = H at hP hS ⊢
  obtain ⟨s2, es2⟩ : ∃ y : tm_St, y = tm_pk [9, 10, 11, 12, 13] s0 u := ⟨_, rfl⟩
  have hw := hw s2 es2
  have hP : va_P (dC, dI) vwCl (tm_wModem cI cZ a s2) H := by rw [es2]; exact hP.sub [0, 1, 2, 3, 4, 5, 6, 7, 8, 14, 15, 16, 17, 18, 9, 10, 11, 12, 13] rfl
  have hD : va_D A (tm_wModem cI cZ a s2) := by rw [es2]; exact hD.sub [0, 1, 2, 3, 4, 5, 6, 7, 8, 14, 15, 16, 17, 18, 9, 10, 11, 12, 13] (by decide) rfl
  refine lv_iconst (v := 5) hx hb dX3_hearGreaterRound_7 (by decide) ?_
  refine lv_icmp_ne (tgt := 41) hx hb dX3_hearGreaterRound_8 (by decide) (fun c4 => ?_) (fun c4 => ?_)
  · have hw := hw.1 c4
    exact W.vret hx hb hr (fun t ht hW => ⟨⟨s2, rfl, hw, by rw [ht]; exact hP, va_K.moved hW.alike hK, hD⟩, hS.F ht⟩) hS.2.2 dX3_hearGreaterRound_41
  · have hw := hw.2 c4
    refine lv_aload_n hx hb dX3_hearGreaterRound_11 rfl (lv_at hl 0 rfl) ?_
    refine va_get (D := (dC, dI)) (ci := 3) (v := .ref (a 9)) (C := RX3) (T := TX3) (N := 20) hx hb hts h_in3 hown hK hP 0 rfl rfl 1 (by decide) h_f78 (fun _ h9 => h9) rfl dX3_hearGreaterRound_12 ?_
    have hPc := hP.sub (ws' := (tm_wWay cI cZ (tm_pj [9, 10, 11, 12, 13] a) (tm_pj [9, 10, 11, 12, 13] s2))) [9, 10, 11, 12, 13] rfl
    have hDc := hD.sub (ws' := (tm_wWay cI cZ (tm_pj [9, 10, 11, 12, 13] a) (tm_pj [9, 10, 11, 12, 13] s2))) [9, 10, 11, 12, 13] (by decide) rfl
    have hFc := va_free (wc := (tm_wWay cI cZ (tm_pj [9, 10, 11, 12, 13] a) (tm_pj [9, 10, 11, 12, 13] s2))) hD hS hA [9, 10, 11, 12, 13] rfl
    refine va_calli (va_runV (As := []) (rest := []) ⟨hx, hb, hml, hown, hts⟩ (kk_X7_first l dC dI cI cZ (tm_pj [9, 10, 11, 12, 13] a) (tm_pj [9, 10, 11, 12, 13] s2) H.size  _ hw) (cwV 0 hts gX3_hearGreaterRound_X7_first rfl rfl rfl (by decide +kernel) ⟨Nat.le_of_ble_eq_true rfl, Nat.le_of_ble_eq_true rfl⟩) ⟨tm_blind, va_recv hK hPc (ci := 5) (q0 := 0) rfl rfl, fun U hU hW => ⟨rfl, by rw [hU], by rw [hU]; exact hPc, va_K.moved hW.alike hK, hDc.weaken (fun _ _ _ _ => trivial)⟩⟩ rfl rfl hl.1 rfl (lv_room (Nat.le_of_ble_eq_true rfl)) dX3_hearGreaterRound_15 ⟨Nat.zero_le _, Nat.zero_le _⟩) hS (fun q _ h => hFc q h) hFc (fun r5 u t H1 locs ht hvm hw hB hz1 hk1 hS => ?_)
    obtain ⟨hP1, hK1, hD1⟩ := hB
    rw [ht] at hP1
    obtain ⟨hP, hD⟩ := va_join (wr := ([0, 1, 2, 3, 4, 5, 6, 7, 8, 14, 15, 16, 17, 18] : List Nat).filterMap (fun i => (tm_wModem cI cZ a s2)[i]?)) (w1 := (tm_wWay cI cZ (tm_pj [9, 10, 11, 12, 13] a) u)) hP hD [9, 10, 11, 12, 13] [0, 1, 2, 3, 4, 5, 6, 7, 8, 14, 15, 16, 17, 18] rfl rfl (by decide) (by decide) hk1 hFc hP1 hD1
    generalize H1 = H at hP hS ⊢
    obtain ⟨s6, es6⟩ : ∃ y : tm_St, y = tm_pk [9, 10, 11, 12, 13] s2 u := ⟨_, rfl⟩
    have hw := hw s6 es6
    have hP : va_P (dC, dI) vwCl (tm_wModem cI cZ a s6) H := by rw [es6]; exact hP.sub [0, 1, 2, 3, 4, 5, 6, 7, 8, 14, 15, 16, 17, 18, 9, 10, 11, 12, 13] rfl
    have hD : va_D A (tm_wModem cI cZ a s6) := by rw [es6]; exact hD.sub [0, 1, 2, 3, 4, 5, 6, 7, 8, 14, 15, 16, 17, 18, 9, 10, 11, 12, 13] (by decide) rfl
    refine lv_aload_n hx hb dX3_hearGreaterRound_18 rfl (lv_at hl 0 rfl) ?_
    refine va_get (D := (dC, dI)) (ci := 3) (v := .int (s6 0 10)) (C := RX3) (T := TX3) (N := 20) hx hb hts h_in3 hown hK hP 0 rfl rfl 10 (by decide) h_f44 (fun _ h9 => h9) rfl dX3_hearGreaterRound_19 ?_
    refine lv_icmp_le (tgt := 41) hx hb dX3_hearGreaterRound_22 (by decide) (fun c8 => ?_) (fun c8 => ?_)
    · have hw := hw.1 c8
      exact W.vret hx hb hr (fun t ht hW => ⟨⟨s6, rfl, hw, by rw [ht]; exact hP, va_K.moved hW.alike hK, hD⟩, hS.F ht⟩) hS.2.2 dX3_hearGreaterRound_41
    · have hw := hw.2 c8
      refine lv_aload_n hx hb dX3_hearGreaterRound_25 rfl (lv_at hl 0 rfl) ?_
      refine lv_aload_n hx hb dX3_hearGreaterRound_26 rfl (lv_at hl 0 rfl) ?_
      refine va_get (D := (dC, dI)) (ci := 3) (v := .ref (a 9)) (C := RX3) (T := TX3) (N := 20) hx hb hts h_in3 hown hK hP 0 rfl rfl 1 (by decide) h_f78 (fun _ h9 => h9) rfl dX3_hearGreaterRound_27 ?_
      have hPc := hP.sub (ws' := (tm_wWay cI cZ (tm_pj [9, 10, 11, 12, 13] a) (tm_pj [9, 10, 11, 12, 13] s6))) [9, 10, 11, 12, 13] rfl
      have hDc := hD.sub (ws' := (tm_wWay cI cZ (tm_pj [9, 10, 11, 12, 13] a) (tm_pj [9, 10, 11, 12, 13] s6))) [9, 10, 11, 12, 13] (by decide) rfl
      have hFc := va_free (wc := (tm_wWay cI cZ (tm_pj [9, 10, 11, 12, 13] a) (tm_pj [9, 10, 11, 12, 13] s6))) hD hS hA [9, 10, 11, 12, 13] rfl
      refine va_calli (va_runV (As := []) (rest := [.ref (a 0)]) ⟨hx, hb, hml, hown, hts⟩ (kk_X7_first l dC dI cI cZ (tm_pj [9, 10, 11, 12, 13] a) (tm_pj [9, 10, 11, 12, 13] s6) H.size  _ hw) (cwV 0 hts gX3_hearGreaterRound_X7_first rfl rfl rfl (by decide +kernel) ⟨Nat.le_of_ble_eq_true rfl, Nat.le_of_ble_eq_true rfl⟩) ⟨tm_blind, va_recv hK hPc (ci := 5) (q0 := 0) rfl rfl, fun U hU hW => ⟨rfl, by rw [hU], by rw [hU]; exact hPc, va_K.moved hW.alike hK, hDc.weaken (fun _ _ _ _ => trivial)⟩⟩ rfl rfl hl.1 rfl (lv_room (Nat.le_of_ble_eq_true rfl)) dX3_hearGreaterRound_30 ⟨Nat.zero_le _, Nat.zero_le _⟩) hS (fun q _ h => hFc q h) hFc (fun r9 u t H1 locs ht hvm hw hB hz1 hk1 hS => ?_)
      obtain ⟨hP1, hK1, hD1⟩ := hB
      rw [ht] at hP1
      obtain ⟨hP, hD⟩ := va_join (wr := ([0, 1, 2, 3, 4, 5, 6, 7, 8, 14, 15, 16, 17, 18] : List Nat).filterMap (fun i => (tm_wModem cI cZ a s6)[i]?)) (w1 := (tm_wWay cI cZ (tm_pj [9, 10, 11, 12, 13] a) u)) hP hD [9, 10, 11, 12, 13] [0, 1, 2, 3, 4, 5, 6, 7, 8, 14, 15, 16, 17, 18] rfl rfl (by decide) (by decide) hk1 hFc hP1 hD1
      generalize H1 = H at hP hS ⊢
      obtain ⟨s10, es10⟩ : ∃ y : tm_St, y = tm_pk [9, 10, 11, 12, 13] s6 u := ⟨_, rfl⟩
      have hw := hw s10 es10
      have hP : va_P (dC, dI) vwCl (tm_wModem cI cZ a s10) H := by rw [es10]; exact hP.sub [0, 1, 2, 3, 4, 5, 6, 7, 8, 14, 15, 16, 17, 18, 9, 10, 11, 12, 13] rfl
      have hD : va_D A (tm_wModem cI cZ a s10) := by rw [es10]; exact hD.sub [0, 1, 2, 3, 4, 5, 6, 7, 8, 14, 15, 16, 17, 18, 9, 10, 11, 12, 13] (by decide) rfl
      refine va_put (D := (dC, dI)) (ci := 3) (v := .int r9) (ty := .int) (C := RX3) (T := TX3) (N := 20) hx hb hts h_in3 tyX3 tyX3_ok nmX3 hown hK hP hD hS 0 rfl rfl 10 (by decide) h_f44 (fun _ h9 => h9) rfl (by decide +kernel) rfl rfl (Nat.le_of_ble_eq_true rfl) dX3_hearGreaterRound_33 (fun H locs hP hD hS => ?_)
      obtain ⟨s12, es12⟩ : ∃ y : tm_St, y = tm_s s10 0 (tm_u (s10 0) 10 r9) := ⟨_, rfl⟩
      have hw := hw s12 es12
      have hP : va_P (dC, dI) vwCl (tm_wModem cI cZ a s12) H := by rw [es12]; exact hP
      have hD : va_D A (tm_wModem cI cZ a s12) := by rw [es12]; exact hD
      refine lv_aload_n hx hb dX3_hearGreaterRound_36 rfl (lv_at hl 0 rfl) ?_
      refine lv_iconst (v := 5) hx hb dX3_hearGreaterRound_37 (by decide) ?_
      have hPc := hP
      have hDc := hD
      have hFc := va_free (wc := (tm_wModem cI cZ a s12)) hD hS hA [0, 1, 2, 3, 4, 5, 6, 7, 8, 9, 10, 11, 12, 13, 14, 15, 16, 17, 18] rfl
      refine va_callv (va_runV (As := [.int 5]) (rest := []) ⟨hx, hb, hml, hown, hts⟩ (kk_X3_come l dC dI cI cZ a s12 H.size 5 _ hw) (cwV 1 hts gX3_hearGreaterRound_X3_come rfl rfl rfl (by decide +kernel) ⟨Nat.le_of_ble_eq_true rfl, Nat.le_of_ble_eq_true rfl⟩) ⟨tm_blind, va_recv hK hPc (ci := 3) (q0 := 0) rfl rfl, fun U hU hW => ⟨rfl, by rw [hU], by rw [hU]; exact hPc, va_K.moved hW.alike hK, hDc.weaken (fun _ _ _ _ => trivial)⟩⟩ rfl rfl hl.1 rfl (lv_room (Nat.le_of_ble_eq_true rfl)) dX3_hearGreaterRound_38 ⟨Nat.zero_le _, Nat.zero_le _⟩) hS (fun q _ h => hFc q h) hFc (fun s13 t H1 locs ht hvm hw hB hz1 hk1 hS => ?_)
      obtain ⟨hP1, hK1, hD1⟩ := hB
      rw [ht] at hP1
      obtain ⟨hP, hD⟩ := va_join (wr := []) (w1 := (tm_wModem cI cZ a s13)) hP hD [0, 1, 2, 3, 4, 5, 6, 7, 8, 9, 10, 11, 12, 13, 14, 15, 16, 17, 18] [] rfl rfl (by decide) (by decide) hk1 hFc hP1 hD1
      generalize H1 = H at hP hS ⊢
      have hP : va_P (dC, dI) vwCl (tm_wModem cI cZ a s13) H := hP
      have hD : va_D A (tm_wModem cI cZ a s13) := hD
      exact W.vret hx hb hr (fun t ht hW => ⟨⟨s13, rfl, hw, by rw [ht]; exact hP, va_K.moved hW.alike hK, hD⟩, hS.F ht⟩) hS.2.2 dX3_hearGreaterRound_41
def wp_X3_settle (p0 : Int32) (s0 : tm_St) (K : tm_St → Prop) : Prop := (∀ s1 : tm_St, s1 = tm_s s0 0 (tm_u (s0 0) 12 p0) → ((¬ (s1 0 12) = 0 → (wp_X3_come 6 s1 (fun s3 => K s3))) ∧ ((s1 0 12) = 0 → (wp_X3_come 0 s1 (fun s4 => K s4)))))
set_option maxRecDepth 100000 in
set_option maxHeartbeats 4000000 in
theorem kk_X3_settle (l : Launch) (dC : Nat → ClassId) (dI : Nat → Nat → Nat) (cI cZ : ClassId) (a : Nat → Nat) (s0 : tm_St) (sz : Nat) (p0 : Int32) (K : tm_St → Prop) (hw : wp_X3_settle p0 s0 K) : Met l yX3_settle wsX3_settle ({ frames := 2, cells := 0, slots := 0, locals := 43 }) (va_Pc [.ref (a 0), .int p0] (tm_Pre dC dI cI cZ (tm_wModem cI cZ a s0) sz)) (va_Qv (fun (u : tm_St) => K u) (fun (u : tm_St) t => tm_At dC dI cI cZ (va_A (tm_wModem cI cZ a s0) sz) (tm_wModem cI cZ a u) t) (va_A (tm_wModem cI cZ a s0) sz)) 0 0 (va_A (tm_wModem cI cZ a s0) sz) := by
  refine Met.ofW (cc := cX3_settle) (maxL := 2) (ret := none) (by decide +kernel) rfl ?_
  intro p e z m args below meth c z₁ B hml hv
  obtain ⟨rfl, hsz, hP, hK, hD0⟩ := hv
  have hx := B.exec
  have hb := B.bytes
  have hr := B.returns
  have hts := atoms_spec (ws := wsX3_settle) B.pre
  have hown : z.vm.findClass RX3 = some m.cls := findClass_of_methodNamed B.named
  have hlocks := B.notSynchronized
  subst hsz
  have hD := hD0.self (sz := z.heap.size)
  generalize hAe : va_A (tm_wModem cI cZ a s0) z.heap.size = A at hD ⊢
  have hA : ∀ q : Nat, z.heap.size ≤ q → A q := fun q h => by rw [← hAe]; exact Or.inr h
  have hS : va_S A z.heap z.heap [] := va_S.rf
  have h_f50 := hts (.fieldLink RX3 50 "TwoModems$Modem" "rate" "I") (by decide +kernel)
  have h_in3 : ∀ w ∈ u_ws RX3 TX3 20, w ∈ wsX3_settle := by decide +kernel
  have hl := lv_entry ([.ref (a 0), .int p0]) (n := 2) (Nat.le_of_ble_eq_true rfl)
  rw [lg_entry_eq]
  generalize (lg_sl ([.ref (a 0), .int p0]) ++ List.replicate (2 - (lg_sl ([.ref (a 0), .int p0])).length) Slot.unset).toArray = ls at hl ⊢
  have hl : lv_has ls 2 [(0, .ref (a 0)), (1, .int p0)] := hl
  unfold wp_X3_settle at hw
  refine lv_aload_n hx hb dX3_settle_0 rfl (lv_at hl 0 rfl) ?_
  refine lv_iload_n hx hb dX3_settle_1 rfl (lv_at hl 1 rfl) ?_
  refine va_put (D := (dC, dI)) (ci := 3) (v := .int p0) (ty := .int) (C := RX3) (T := TX3) (N := 20) hx hb hts h_in3 tyX3 tyX3_ok nmX3 hown hK hP hD hS 0 rfl rfl 12 (by decide) h_f50 (fun _ h9 => h9) rfl (by decide +kernel) rfl rfl (Nat.le_of_ble_eq_true rfl) dX3_settle_2 (fun H locs hP hD hS => ?_)
  obtain ⟨s1, es1⟩ : ∃ y : tm_St, y = tm_s s0 0 (tm_u (s0 0) 12 p0) := ⟨_, rfl⟩
  have hw := hw s1 es1
  have hP : va_P (dC, dI) vwCl (tm_wModem cI cZ a s1) H := by rw [es1]; exact hP
  have hD : va_D A (tm_wModem cI cZ a s1) := by rw [es1]; exact hD
  refine lv_aload_n hx hb dX3_settle_5 rfl (lv_at hl 0 rfl) ?_
  refine lv_aload_n hx hb dX3_settle_6 rfl (lv_at hl 0 rfl) ?_
  refine va_get (D := (dC, dI)) (ci := 3) (v := .int (s1 0 12)) (C := RX3) (T := TX3) (N := 20) hx hb hts h_in3 hown hK hP 0 rfl rfl 12 (by decide) h_f50 (fun _ h9 => h9) rfl dX3_settle_7 ?_
  refine lv_if_ne (tgt := 17) hx hb dX3_settle_10 (by decide) (fun c2 => ?_) (fun c2 => ?_)
  · have hw := hw.1 c2
    refine lv_bipush (v := 6) hx hb dX3_settle_17 (by decide) ?_
    have hPc := hP
    have hDc := hD
    have hFc := va_free (wc := (tm_wModem cI cZ a s1)) hD hS hA [0, 1, 2, 3, 4, 5, 6, 7, 8, 9, 10, 11, 12, 13, 14, 15, 16, 17, 18] rfl
    refine va_callv (va_runV (As := [.int 6]) (rest := []) ⟨hx, hb, hml, hown, hts⟩ (kk_X3_come l dC dI cI cZ a s1 H.size 6 _ hw) (cwV 1 hts gX3_settle_X3_come rfl rfl rfl (by decide +kernel) ⟨Nat.le_of_ble_eq_true rfl, Nat.le_of_ble_eq_true rfl⟩) ⟨tm_blind, va_recv hK hPc (ci := 3) (q0 := 0) rfl rfl, fun U hU hW => ⟨rfl, by rw [hU], by rw [hU]; exact hPc, va_K.moved hW.alike hK, hDc.weaken (fun _ _ _ _ => trivial)⟩⟩ rfl rfl hl.1 rfl (lv_room (Nat.le_of_ble_eq_true rfl)) dX3_settle_19 ⟨Nat.zero_le _, Nat.zero_le _⟩) hS (fun q _ h => hFc q h) hFc (fun s3 t H1 locs ht hvm hw hB hz1 hk1 hS => ?_)
    obtain ⟨hP1, hK1, hD1⟩ := hB
    rw [ht] at hP1
    obtain ⟨hP, hD⟩ := va_join (wr := []) (w1 := (tm_wModem cI cZ a s3)) hP hD [0, 1, 2, 3, 4, 5, 6, 7, 8, 9, 10, 11, 12, 13, 14, 15, 16, 17, 18] [] rfl rfl (by decide) (by decide) hk1 hFc hP1 hD1
    generalize H1 = H at hP hS ⊢
    have hP : va_P (dC, dI) vwCl (tm_wModem cI cZ a s3) H := hP
    have hD : va_D A (tm_wModem cI cZ a s3) := hD
    exact W.vret hx hb hr (fun t ht hW => ⟨⟨s3, rfl, hw, by rw [ht]; exact hP, va_K.moved hW.alike hK, hD⟩, hS.F ht⟩) hS.2.2 dX3_settle_22
  · have hw := hw.2 c2
    refine lv_iconst (v := 0) hx hb dX3_settle_13 (by decide) ?_
    refine lv_goto (tgt := 19) hx hb dX3_settle_14 (by decide) ?_
    have hPc := hP
    have hDc := hD
    have hFc := va_free (wc := (tm_wModem cI cZ a s1)) hD hS hA [0, 1, 2, 3, 4, 5, 6, 7, 8, 9, 10, 11, 12, 13, 14, 15, 16, 17, 18] rfl
    refine va_callv (va_runV (As := [.int 0]) (rest := []) ⟨hx, hb, hml, hown, hts⟩ (kk_X3_come l dC dI cI cZ a s1 H.size 0 _ hw) (cwV 1 hts gX3_settle_X3_come rfl rfl rfl (by decide +kernel) ⟨Nat.le_of_ble_eq_true rfl, Nat.le_of_ble_eq_true rfl⟩) ⟨tm_blind, va_recv hK hPc (ci := 3) (q0 := 0) rfl rfl, fun U hU hW => ⟨rfl, by rw [hU], by rw [hU]; exact hPc, va_K.moved hW.alike hK, hDc.weaken (fun _ _ _ _ => trivial)⟩⟩ rfl rfl hl.1 rfl (lv_room (Nat.le_of_ble_eq_true rfl)) dX3_settle_19 ⟨Nat.zero_le _, Nat.zero_le _⟩) hS (fun q _ h => hFc q h) hFc (fun s4 t H1 locs ht hvm hw hB hz1 hk1 hS => ?_)
    obtain ⟨hP1, hK1, hD1⟩ := hB
    rw [ht] at hP1
    obtain ⟨hP, hD⟩ := va_join (wr := []) (w1 := (tm_wModem cI cZ a s4)) hP hD [0, 1, 2, 3, 4, 5, 6, 7, 8, 9, 10, 11, 12, 13, 14, 15, 16, 17, 18] [] rfl rfl (by decide) (by decide) hk1 hFc hP1 hD1
    generalize H1 = H at hP hS ⊢
    have hP : va_P (dC, dI) vwCl (tm_wModem cI cZ a s4) H := hP
    have hD : va_D A (tm_wModem cI cZ a s4) := hD
    exact W.vret hx hb hr (fun t ht hW => ⟨⟨s4, rfl, hw, by rw [ht]; exact hP, va_K.moved hW.alike hK, hD⟩, hS.F ht⟩) hS.2.2 dX3_settle_22
def wp_X3_hearInBargain  (s0 : tm_St) (K : tm_St → Prop) : Prop := (wp_X3_isOfRound 5 s0 (fun r1 s2 => ((r1 = 0 → (wp_X3_isOfRound 6 s2 (fun r4 s5 => ((r4 = 0 → (wp_X3_hearGreaterRound  s5 (fun s7 => K s7))) ∧ (¬ r4 = 0 → (wp_X7_second  (tm_pj [9, 10, 11, 12, 13] s5) (fun r8 u10 => ∀ s9 : tm_St, s9 = tm_pk [9, 10, 11, 12, 13] s5 u10 → (wp_X3_settle r8 s9 (fun s11 => K s11))))))))) ∧ (¬ r1 = 0 → (wp_X7_second  (tm_pj [9, 10, 11, 12, 13] s2) (fun r12 u14 => ∀ s13 : tm_St, s13 = tm_pk [9, 10, 11, 12, 13] s2 u14 → (∀ x15 : Int32, x15 = (if (s13 0 11) < r12 then (s13 0 11) else r12) → (wp_X3_settle x15 s13 (fun s16 => K s16)))))))))
set_option maxRecDepth 100000 in
set_option maxHeartbeats 4000000 in
theorem kk_X3_hearInBargain (l : Launch) (dC : Nat → ClassId) (dI : Nat → Nat → Nat) (cI cZ : ClassId) (a : Nat → Nat) (s0 : tm_St) (sz : Nat)  (K : tm_St → Prop) (hw : wp_X3_hearInBargain s0 K) : Met l yX3_hearInBargain wsX3_hearInBargain ({ frames := 3, cells := 0, slots := 0, locals := 64 }) (va_Pc [.ref (a 0)] (tm_Pre dC dI cI cZ (tm_wModem cI cZ a s0) sz)) (va_Qv (fun (u : tm_St) => K u) (fun (u : tm_St) t => tm_At dC dI cI cZ (va_A (tm_wModem cI cZ a s0) sz) (tm_wModem cI cZ a u) t) (va_A (tm_wModem cI cZ a s0) sz)) 0 0 (va_A (tm_wModem cI cZ a s0) sz) := by
  refine Met.ofW (cc := cX3_hearInBargain) (maxL := 1) (ret := none) (by decide +kernel) rfl ?_
  intro p e z m args below meth c z₁ B hml hv
  obtain ⟨rfl, hsz, hP, hK, hD0⟩ := hv
  have hx := B.exec
  have hb := B.bytes
  have hr := B.returns
  have hts := atoms_spec (ws := wsX3_hearInBargain) B.pre
  have hown : z.vm.findClass RX3 = some m.cls := findClass_of_methodNamed B.named
  have hlocks := B.notSynchronized
  subst hsz
  have hD := hD0.self (sz := z.heap.size)
  generalize hAe : va_A (tm_wModem cI cZ a s0) z.heap.size = A at hD ⊢
  have hA : ∀ q : Nat, z.heap.size ≤ q → A q := fun q h => by rw [← hAe]; exact Or.inr h
  have hS : va_S A z.heap z.heap [] := va_S.rf
  have h_f78 := hts (.fieldLink RX3 78 "TwoModems$Modem" "in" "LTwoModems$Way;") (by decide +kernel)
  have h_in3 : ∀ w ∈ u_ws RX3 TX3 20, w ∈ wsX3_hearInBargain := by decide +kernel
  have h_f47 := hts (.fieldLink RX3 47 "TwoModems$Modem" "offer" "I") (by decide +kernel)
  have h_m158 := hts (.methodLink RX3 158 Lib.Math.min.name) (by decide +kernel)
  have h_ms_min := hts (.static Lib.Math.min.name) (by decide +kernel)
  have h_mi := hts (.initialized "java/lang/Math") (by decide +kernel)
  have h_mc_min := hts (.code Lib.Math.min.name Lib.Math.min.code 2 (some .int)) (by decide +kernel)
  have hl := lv_entry ([.ref (a 0)]) (n := 1) (Nat.le_of_ble_eq_true rfl)
  rw [lg_entry_eq]
  generalize (lg_sl ([.ref (a 0)]) ++ List.replicate (1 - (lg_sl ([.ref (a 0)])).length) Slot.unset).toArray = ls at hl ⊢
  have hl : lv_has ls 1 [(0, .ref (a 0))] := hl
  unfold wp_X3_hearInBargain at hw
  refine lv_aload_n hx hb dX3_hearInBargain_0 rfl (lv_at hl 0 rfl) ?_
  refine lv_iconst (v := 5) hx hb dX3_hearInBargain_1 (by decide) ?_
  have hPc := hP
  have hDc := hD
  have hFc := va_free (wc := (tm_wModem cI cZ a s0)) hD hS hA [0, 1, 2, 3, 4, 5, 6, 7, 8, 9, 10, 11, 12, 13, 14, 15, 16, 17, 18] rfl
  refine va_calli (va_runV (As := [.int 5]) (rest := []) ⟨hx, hb, hml, hown, hts⟩ (kk_X3_isOfRound l dC dI cI cZ a s0 z.heap.size 5 _ hw) (cwV 1 hts gX3_hearInBargain_X3_isOfRound rfl rfl rfl (by decide +kernel) ⟨Nat.le_of_ble_eq_true rfl, Nat.le_of_ble_eq_true rfl⟩) ⟨tm_blind, va_recv hK hPc (ci := 3) (q0 := 0) rfl rfl, fun U hU hW => ⟨rfl, by rw [hU], by rw [hU]; exact hPc, va_K.moved hW.alike hK, hDc.weaken (fun _ _ _ _ => trivial)⟩⟩ rfl rfl hl.1 rfl (lv_room (Nat.le_of_ble_eq_true rfl)) dX3_hearInBargain_2 ⟨Nat.zero_le _, Nat.zero_le _⟩) hS (fun q _ h => hFc q h) hFc (fun r1 s2 t H1 locs ht hvm hw hB hz1 hk1 hS => ?_)
  obtain ⟨hP1, hK1, hD1⟩ := hB
  rw [ht] at hP1
  have b9_r1 := hw.1
  have hw := hw.2
  obtain ⟨hP, hD⟩ := va_join (wr := []) (w1 := (tm_wModem cI cZ a s2)) hP hD [0, 1, 2, 3, 4, 5, 6, 7, 8, 9, 10, 11, 12, 13, 14, 15, 16, 17, 18] [] rfl rfl (by decide) (by decide) hk1 hFc hP1 hD1
  generalize H1 = H at hP hS ⊢
  have hP : va_P (dC, dI) vwCl (tm_wModem cI cZ a s2) H := hP
  have hD : va_D A (tm_wModem cI cZ a s2) := hD
  refine lv_if_eq (tgt := 29) hx hb dX3_hearInBargain_5 (by decide) (fun c3 => ?_) (fun c3 => ?_)
  · have hw := hw.1 c3
    refine lv_aload_n hx hb dX3_hearInBargain_29 rfl (lv_at hl 0 rfl) ?_
    refine lv_bipush (v := 6) hx hb dX3_hearInBargain_30 (by decide) ?_
    have hPc := hP
    have hDc := hD
    have hFc := va_free (wc := (tm_wModem cI cZ a s2)) hD hS hA [0, 1, 2, 3, 4, 5, 6, 7, 8, 9, 10, 11, 12, 13, 14, 15, 16, 17, 18] rfl
    refine va_calli (va_runV (As := [.int 6]) (rest := []) ⟨hx, hb, hml, hown, hts⟩ (kk_X3_isOfRound l dC dI cI cZ a s2 H.size 6 _ hw) (cwV 1 hts gX3_hearInBargain_X3_isOfRound rfl rfl rfl (by decide +kernel) ⟨Nat.le_of_ble_eq_true rfl, Nat.le_of_ble_eq_true rfl⟩) ⟨tm_blind, va_recv hK hPc (ci := 3) (q0 := 0) rfl rfl, fun U hU hW => ⟨rfl, by rw [hU], by rw [hU]; exact hPc, va_K.moved hW.alike hK, hDc.weaken (fun _ _ _ _ => trivial)⟩⟩ rfl rfl hl.1 rfl (lv_room (Nat.le_of_ble_eq_true rfl)) dX3_hearInBargain_32 ⟨Nat.zero_le _, Nat.zero_le _⟩) hS (fun q _ h => hFc q h) hFc (fun r4 s5 t H1 locs ht hvm hw hB hz1 hk1 hS => ?_)
    obtain ⟨hP1, hK1, hD1⟩ := hB
    rw [ht] at hP1
    have b9_r4 := hw.1
    have hw := hw.2
    obtain ⟨hP, hD⟩ := va_join (wr := []) (w1 := (tm_wModem cI cZ a s5)) hP hD [0, 1, 2, 3, 4, 5, 6, 7, 8, 9, 10, 11, 12, 13, 14, 15, 16, 17, 18] [] rfl rfl (by decide) (by decide) hk1 hFc hP1 hD1
    generalize H1 = H at hP hS ⊢
    have hP : va_P (dC, dI) vwCl (tm_wModem cI cZ a s5) H := hP
    have hD : va_D A (tm_wModem cI cZ a s5) := hD
    refine lv_if_eq (tgt := 52) hx hb dX3_hearInBargain_35 (by decide) (fun c6 => ?_) (fun c6 => ?_)
    · have hw := hw.1 c6
      refine lv_aload_n hx hb dX3_hearInBargain_52 rfl (lv_at hl 0 rfl) ?_
      have hPc := hP
      have hDc := hD
      have hFc := va_free (wc := (tm_wModem cI cZ a s5)) hD hS hA [0, 1, 2, 3, 4, 5, 6, 7, 8, 9, 10, 11, 12, 13, 14, 15, 16, 17, 18] rfl
      refine va_callv (va_runV (As := []) (rest := []) ⟨hx, hb, hml, hown, hts⟩ (kk_X3_hearGreaterRound l dC dI cI cZ a s5 H.size  _ hw) (cwV 0 hts gX3_hearInBargain_X3_hearGreaterRound rfl rfl rfl (by decide +kernel) ⟨Nat.le_of_ble_eq_true rfl, Nat.le_of_ble_eq_true rfl⟩) ⟨tm_blind, va_recv hK hPc (ci := 3) (q0 := 0) rfl rfl, fun U hU hW => ⟨rfl, by rw [hU], by rw [hU]; exact hPc, va_K.moved hW.alike hK, hDc.weaken (fun _ _ _ _ => trivial)⟩⟩ rfl rfl hl.1 rfl (lv_room (Nat.le_of_ble_eq_true rfl)) dX3_hearInBargain_53 ⟨Nat.zero_le _, Nat.zero_le _⟩) hS (fun q _ h => hFc q h) hFc (fun s7 t H1 locs ht hvm hw hB hz1 hk1 hS => ?_)
      obtain ⟨hP1, hK1, hD1⟩ := hB
      rw [ht] at hP1
      obtain ⟨hP, hD⟩ := va_join (wr := []) (w1 := (tm_wModem cI cZ a s7)) hP hD [0, 1, 2, 3, 4, 5, 6, 7, 8, 9, 10, 11, 12, 13, 14, 15, 16, 17, 18] [] rfl rfl (by decide) (by decide) hk1 hFc hP1 hD1
      generalize H1 = H at hP hS ⊢
      have hP : va_P (dC, dI) vwCl (tm_wModem cI cZ a s7) H := hP
      have hD : va_D A (tm_wModem cI cZ a s7) := hD
      exact W.vret hx hb hr (fun t ht hW => ⟨⟨s7, rfl, hw, by rw [ht]; exact hP, va_K.moved hW.alike hK, hD⟩, hS.F ht⟩) hS.2.2 dX3_hearInBargain_56
    · have hw := hw.2 c6
      refine lv_aload_n hx hb dX3_hearInBargain_38 rfl (lv_at hl 0 rfl) ?_
      refine lv_aload_n hx hb dX3_hearInBargain_39 rfl (lv_at hl 0 rfl) ?_
      refine va_get (D := (dC, dI)) (ci := 3) (v := .ref (a 9)) (C := RX3) (T := TX3) (N := 20) hx hb hts h_in3 hown hK hP 0 rfl rfl 1 (by decide) h_f78 (fun _ h9 => h9) rfl dX3_hearInBargain_40 ?_
      have hPc := hP.sub (ws' := (tm_wWay cI cZ (tm_pj [9, 10, 11, 12, 13] a) (tm_pj [9, 10, 11, 12, 13] s5))) [9, 10, 11, 12, 13] rfl
      have hDc := hD.sub (ws' := (tm_wWay cI cZ (tm_pj [9, 10, 11, 12, 13] a) (tm_pj [9, 10, 11, 12, 13] s5))) [9, 10, 11, 12, 13] (by decide) rfl
      have hFc := va_free (wc := (tm_wWay cI cZ (tm_pj [9, 10, 11, 12, 13] a) (tm_pj [9, 10, 11, 12, 13] s5))) hD hS hA [9, 10, 11, 12, 13] rfl
      refine va_calli (va_runV (As := []) (rest := [.ref (a 0)]) ⟨hx, hb, hml, hown, hts⟩ (kk_X7_second l dC dI cI cZ (tm_pj [9, 10, 11, 12, 13] a) (tm_pj [9, 10, 11, 12, 13] s5) H.size  _ hw) (cwV 0 hts gX3_hearInBargain_X7_second rfl rfl rfl (by decide +kernel) ⟨Nat.le_of_ble_eq_true rfl, Nat.le_of_ble_eq_true rfl⟩) ⟨tm_blind, va_recv hK hPc (ci := 5) (q0 := 0) rfl rfl, fun U hU hW => ⟨rfl, by rw [hU], by rw [hU]; exact hPc, va_K.moved hW.alike hK, hDc.weaken (fun _ _ _ _ => trivial)⟩⟩ rfl rfl hl.1 rfl (lv_room (Nat.le_of_ble_eq_true rfl)) dX3_hearInBargain_43 ⟨Nat.zero_le _, Nat.zero_le _⟩) hS (fun q _ h => hFc q h) hFc (fun r8 u t H1 locs ht hvm hw hB hz1 hk1 hS => ?_)
      obtain ⟨hP1, hK1, hD1⟩ := hB
      rw [ht] at hP1
      obtain ⟨hP, hD⟩ := va_join (wr := ([0, 1, 2, 3, 4, 5, 6, 7, 8, 14, 15, 16, 17, 18] : List Nat).filterMap (fun i => (tm_wModem cI cZ a s5)[i]?)) (w1 := (tm_wWay cI cZ (tm_pj [9, 10, 11, 12, 13] a) u)) hP hD [9, 10, 11, 12, 13] [0, 1, 2, 3, 4, 5, 6, 7, 8, 14, 15, 16, 17, 18] rfl rfl (by decide) (by decide) hk1 hFc hP1 hD1
      generalize H1 = H at hP hS ⊢
      obtain ⟨s9, es9⟩ : ∃ y : tm_St, y = tm_pk [9, 10, 11, 12, 13] s5 u := ⟨_, rfl⟩
      have hw := hw s9 es9
      have hP : va_P (dC, dI) vwCl (tm_wModem cI cZ a s9) H := by rw [es9]; exact hP.sub [0, 1, 2, 3, 4, 5, 6, 7, 8, 14, 15, 16, 17, 18, 9, 10, 11, 12, 13] rfl
      have hD : va_D A (tm_wModem cI cZ a s9) := by rw [es9]; exact hD.sub [0, 1, 2, 3, 4, 5, 6, 7, 8, 14, 15, 16, 17, 18, 9, 10, 11, 12, 13] (by decide) rfl
      have hPc := hP
      have hDc := hD
      have hFc := va_free (wc := (tm_wModem cI cZ a s9)) hD hS hA [0, 1, 2, 3, 4, 5, 6, 7, 8, 9, 10, 11, 12, 13, 14, 15, 16, 17, 18] rfl
      refine va_callv (va_runV (As := [.int r8]) (rest := []) ⟨hx, hb, hml, hown, hts⟩ (kk_X3_settle l dC dI cI cZ a s9 H.size r8 _ hw) (cwV 1 hts gX3_hearInBargain_X3_settle rfl rfl rfl (by decide +kernel) ⟨Nat.le_of_ble_eq_true rfl, Nat.le_of_ble_eq_true rfl⟩) ⟨tm_blind, va_recv hK hPc (ci := 3) (q0 := 0) rfl rfl, fun U hU hW => ⟨rfl, by rw [hU], by rw [hU]; exact hPc, va_K.moved hW.alike hK, hDc.weaken (fun _ _ _ _ => trivial)⟩⟩ rfl rfl hl.1 rfl (lv_room (Nat.le_of_ble_eq_true rfl)) dX3_hearInBargain_46 ⟨Nat.zero_le _, Nat.zero_le _⟩) hS (fun q _ h => hFc q h) hFc (fun s11 t H1 locs ht hvm hw hB hz1 hk1 hS => ?_)
      obtain ⟨hP1, hK1, hD1⟩ := hB
      rw [ht] at hP1
      obtain ⟨hP, hD⟩ := va_join (wr := []) (w1 := (tm_wModem cI cZ a s11)) hP hD [0, 1, 2, 3, 4, 5, 6, 7, 8, 9, 10, 11, 12, 13, 14, 15, 16, 17, 18] [] rfl rfl (by decide) (by decide) hk1 hFc hP1 hD1
      generalize H1 = H at hP hS ⊢
      have hP : va_P (dC, dI) vwCl (tm_wModem cI cZ a s11) H := hP
      have hD : va_D A (tm_wModem cI cZ a s11) := hD
      refine lv_goto (tgt := 56) hx hb dX3_hearInBargain_49 (by decide) ?_
      exact W.vret hx hb hr (fun t ht hW => ⟨⟨s11, rfl, hw, by rw [ht]; exact hP, va_K.moved hW.alike hK, hD⟩, hS.F ht⟩) hS.2.2 dX3_hearInBargain_56
  · have hw := hw.2 c3
    refine lv_aload_n hx hb dX3_hearInBargain_8 rfl (lv_at hl 0 rfl) ?_
    refine lv_aload_n hx hb dX3_hearInBargain_9 rfl (lv_at hl 0 rfl) ?_
    refine va_get (D := (dC, dI)) (ci := 3) (v := .ref (a 9)) (C := RX3) (T := TX3) (N := 20) hx hb hts h_in3 hown hK hP 0 rfl rfl 1 (by decide) h_f78 (fun _ h9 => h9) rfl dX3_hearInBargain_10 ?_
    have hPc := hP.sub (ws' := (tm_wWay cI cZ (tm_pj [9, 10, 11, 12, 13] a) (tm_pj [9, 10, 11, 12, 13] s2))) [9, 10, 11, 12, 13] rfl
    have hDc := hD.sub (ws' := (tm_wWay cI cZ (tm_pj [9, 10, 11, 12, 13] a) (tm_pj [9, 10, 11, 12, 13] s2))) [9, 10, 11, 12, 13] (by decide) rfl
    have hFc := va_free (wc := (tm_wWay cI cZ (tm_pj [9, 10, 11, 12, 13] a) (tm_pj [9, 10, 11, 12, 13] s2))) hD hS hA [9, 10, 11, 12, 13] rfl
    refine va_calli (va_runV (As := []) (rest := [.ref (a 0)]) ⟨hx, hb, hml, hown, hts⟩ (kk_X7_second l dC dI cI cZ (tm_pj [9, 10, 11, 12, 13] a) (tm_pj [9, 10, 11, 12, 13] s2) H.size  _ hw) (cwV 0 hts gX3_hearInBargain_X7_second rfl rfl rfl (by decide +kernel) ⟨Nat.le_of_ble_eq_true rfl, Nat.le_of_ble_eq_true rfl⟩) ⟨tm_blind, va_recv hK hPc (ci := 5) (q0 := 0) rfl rfl, fun U hU hW => ⟨rfl, by rw [hU], by rw [hU]; exact hPc, va_K.moved hW.alike hK, hDc.weaken (fun _ _ _ _ => trivial)⟩⟩ rfl rfl hl.1 rfl (lv_room (Nat.le_of_ble_eq_true rfl)) dX3_hearInBargain_13 ⟨Nat.zero_le _, Nat.zero_le _⟩) hS (fun q _ h => hFc q h) hFc (fun r12 u t H1 locs ht hvm hw hB hz1 hk1 hS => ?_)
    obtain ⟨hP1, hK1, hD1⟩ := hB
    rw [ht] at hP1
    obtain ⟨hP, hD⟩ := va_join (wr := ([0, 1, 2, 3, 4, 5, 6, 7, 8, 14, 15, 16, 17, 18] : List Nat).filterMap (fun i => (tm_wModem cI cZ a s2)[i]?)) (w1 := (tm_wWay cI cZ (tm_pj [9, 10, 11, 12, 13] a) u)) hP hD [9, 10, 11, 12, 13] [0, 1, 2, 3, 4, 5, 6, 7, 8, 14, 15, 16, 17, 18] rfl rfl (by decide) (by decide) hk1 hFc hP1 hD1
    generalize H1 = H at hP hS ⊢
    obtain ⟨s13, es13⟩ : ∃ y : tm_St, y = tm_pk [9, 10, 11, 12, 13] s2 u := ⟨_, rfl⟩
    have hw := hw s13 es13
    have hP : va_P (dC, dI) vwCl (tm_wModem cI cZ a s13) H := by rw [es13]; exact hP.sub [0, 1, 2, 3, 4, 5, 6, 7, 8, 14, 15, 16, 17, 18, 9, 10, 11, 12, 13] rfl
    have hD : va_D A (tm_wModem cI cZ a s13) := by rw [es13]; exact hD.sub [0, 1, 2, 3, 4, 5, 6, 7, 8, 14, 15, 16, 17, 18, 9, 10, 11, 12, 13] (by decide) rfl
    refine lv_aload_n hx hb dX3_hearInBargain_16 rfl (lv_at hl 0 rfl) ?_
    refine va_get (D := (dC, dI)) (ci := 3) (v := .int (s13 0 11)) (C := RX3) (T := TX3) (N := 20) hx hb hts h_in3 hown hK hP 0 rfl rfl 11 (by decide) h_f47 (fun _ h9 => h9) rfl dX3_hearInBargain_17 ?_
    refine va_mmin hx hb (hml.trans hl.1.symm) hown h_m158 h_ms_min h_mi h_mc_min (Nat.le_of_ble_eq_true rfl) (Nat.le_of_ble_eq_true rfl) (Nat.zero_le _) (Nat.zero_le _) dX3_hearInBargain_20 ?_
    refine lv_topi (fun x15 ex15 => ?_)
    have hw := hw x15 ex15
    have hPc := hP
    have hDc := hD
    have hFc := va_free (wc := (tm_wModem cI cZ a s13)) hD hS hA [0, 1, 2, 3, 4, 5, 6, 7, 8, 9, 10, 11, 12, 13, 14, 15, 16, 17, 18] rfl
    refine va_callv (va_runV (As := [.int x15]) (rest := []) ⟨hx, hb, hml, hown, hts⟩ (kk_X3_settle l dC dI cI cZ a s13 H.size x15 _ hw) (cwV 1 hts gX3_hearInBargain_X3_settle rfl rfl rfl (by decide +kernel) ⟨Nat.le_of_ble_eq_true rfl, Nat.le_of_ble_eq_true rfl⟩) ⟨tm_blind, va_recv hK hPc (ci := 3) (q0 := 0) rfl rfl, fun U hU hW => ⟨rfl, by rw [hU], by rw [hU]; exact hPc, va_K.moved hW.alike hK, hDc.weaken (fun _ _ _ _ => trivial)⟩⟩ rfl rfl hl.1 rfl (lv_room (Nat.le_of_ble_eq_true rfl)) dX3_hearInBargain_23 ⟨Nat.zero_le _, Nat.zero_le _⟩) hS (fun q _ h => hFc q h) hFc (fun s16 t H1 locs ht hvm hw hB hz1 hk1 hS => ?_)
    obtain ⟨hP1, hK1, hD1⟩ := hB
    rw [ht] at hP1
    obtain ⟨hP, hD⟩ := va_join (wr := []) (w1 := (tm_wModem cI cZ a s16)) hP hD [0, 1, 2, 3, 4, 5, 6, 7, 8, 9, 10, 11, 12, 13, 14, 15, 16, 17, 18] [] rfl rfl (by decide) (by decide) hk1 hFc hP1 hD1
    generalize H1 = H at hP hS ⊢
    have hP : va_P (dC, dI) vwCl (tm_wModem cI cZ a s16) H := hP
    have hD : va_D A (tm_wModem cI cZ a s16) := hD
    refine lv_goto (tgt := 56) hx hb dX3_hearInBargain_26 (by decide) ?_
    exact W.vret hx hb hr (fun t ht hW => ⟨⟨s16, rfl, hw, by rw [ht]; exact hP, va_K.moved hW.alike hK, hD⟩, hS.F ht⟩) hS.2.2 dX3_hearInBargain_56
def wp_X3_hearInData  (s0 : tm_St) (K : tm_St → Prop) : Prop := (wp_X7_sort  (tm_pj [9, 10, 11, 12, 13] s0) (fun r1 u3 => ∀ s2 : tm_St, s2 = tm_pk [9, 10, 11, 12, 13] s0 u3 → ((¬ r1 = 0 → (∀ s5 : tm_St, s5 = tm_s s2 0 (tm_u (s2 0) 16 (((2 * (s0 0 16)) + 0) &&& 255)) → (wp_X3_isOfRound 7 s5 (fun r6 s7 => ((r6 = 0 → (wp_X3_hearGreaterRound  s7 (fun s9 => K s9))) ∧ (¬ r6 = 0 → (wp_X2_take  (tm_pj [4, 5, 6, 9, 10, 11, 12, 13] s7) (fun u11 => ∀ s10 : tm_St, s10 = tm_pk [4, 5, 6, 9, 10, 11, 12, 13] s7 u11 → K s10)))))))) ∧ (r1 = 0 → (∀ s12 : tm_St, s12 = tm_s s2 0 (tm_u (s2 0) 16 (((2 * (s0 0 16)) + 1) &&& 255)) → (wp_X3_isOfRound 7 s12 (fun r13 s14 => ((r13 = 0 → (wp_X3_hearGreaterRound  s14 (fun s16 => K s16))) ∧ (¬ r13 = 0 → (wp_X2_take  (tm_pj [4, 5, 6, 9, 10, 11, 12, 13] s14) (fun u18 => ∀ s17 : tm_St, s17 = tm_pk [4, 5, 6, 9, 10, 11, 12, 13] s14 u18 → K s17)))))))))))
set_option maxRecDepth 100000 in
set_option maxHeartbeats 4000000 in
theorem kk_X3_hearInData (l : Launch) (dC : Nat → ClassId) (dI : Nat → Nat → Nat) (cI cZ : ClassId) (a : Nat → Nat) (s0 : tm_St) (sz : Nat)  (K : tm_St → Prop) (hw : wp_X3_hearInData s0 K) : Met l yX3_hearInData wsX3_hearInData ({ frames := 3, cells := 0, slots := 0, locals := 63 }) (va_Pc [.ref (a 0)] (tm_Pre dC dI cI cZ (tm_wModem cI cZ a s0) sz)) (va_Qv (fun (u : tm_St) => K u) (fun (u : tm_St) t => tm_At dC dI cI cZ (va_A (tm_wModem cI cZ a s0) sz) (tm_wModem cI cZ a u) t) (va_A (tm_wModem cI cZ a s0) sz)) 0 0 (va_A (tm_wModem cI cZ a s0) sz) := by
  refine Met.ofW (cc := cX3_hearInData) (maxL := 1) (ret := none) (by decide +kernel) rfl ?_
  intro p e z m args below meth c z₁ B hml hv
  obtain ⟨rfl, hsz, hP, hK, hD0⟩ := hv
  have hx := B.exec
  have hb := B.bytes
  have hr := B.returns
  have hts := atoms_spec (ws := wsX3_hearInData) B.pre
  have hown : z.vm.findClass RX3 = some m.cls := findClass_of_methodNamed B.named
  have hlocks := B.notSynchronized
  subst hsz
  have hD := hD0.self (sz := z.heap.size)
  generalize hAe : va_A (tm_wModem cI cZ a s0) z.heap.size = A at hD ⊢
  have hA : ∀ q : Nat, z.heap.size ≤ q → A q := fun q h => by rw [← hAe]; exact Or.inr h
  have hS : va_S A z.heap z.heap [] := va_S.rf
  have h_f62 := hts (.fieldLink RX3 62 "TwoModems$Modem" "losses" "I") (by decide +kernel)
  have h_in3 : ∀ w ∈ u_ws RX3 TX3 20, w ∈ wsX3_hearInData := by decide +kernel
  have h_f78 := hts (.fieldLink RX3 78 "TwoModems$Modem" "in" "LTwoModems$Way;") (by decide +kernel)
  have h_f21 := hts (.fieldLink RX3 21 "TwoModems$Modem" "mail" "LTwoModems$Mail;") (by decide +kernel)
  have hl := lv_entry ([.ref (a 0)]) (n := 1) (Nat.le_of_ble_eq_true rfl)
  rw [lg_entry_eq]
  generalize (lg_sl ([.ref (a 0)]) ++ List.replicate (1 - (lg_sl ([.ref (a 0)])).length) Slot.unset).toArray = ls at hl ⊢
  have hl : lv_has ls 1 [(0, .ref (a 0))] := hl
  unfold wp_X3_hearInData at hw
  refine lv_aload_n hx hb dX3_hearInData_0 rfl (lv_at hl 0 rfl) ?_
  refine lv_iconst (v := 2) hx hb dX3_hearInData_1 (by decide) ?_
  refine lv_aload_n hx hb dX3_hearInData_2 rfl (lv_at hl 0 rfl) ?_
  refine va_get (D := (dC, dI)) (ci := 3) (v := .int (s0 0 16)) (C := RX3) (T := TX3) (N := 20) hx hb hts h_in3 hown hK hP 0 rfl rfl 16 (by decide) h_f62 (fun _ h9 => h9) rfl dX3_hearInData_3 ?_
  refine lv_imul hx hb dX3_hearInData_6 ?_
  refine lv_aload_n hx hb dX3_hearInData_7 rfl (lv_at hl 0 rfl) ?_
  refine va_get (D := (dC, dI)) (ci := 3) (v := .ref (a 9)) (C := RX3) (T := TX3) (N := 20) hx hb hts h_in3 hown hK hP 0 rfl rfl 1 (by decide) h_f78 (fun _ h9 => h9) rfl dX3_hearInData_8 ?_
  have hPc := hP.sub (ws' := (tm_wWay cI cZ (tm_pj [9, 10, 11, 12, 13] a) (tm_pj [9, 10, 11, 12, 13] s0))) [9, 10, 11, 12, 13] rfl
  have hDc := hD.sub (ws' := (tm_wWay cI cZ (tm_pj [9, 10, 11, 12, 13] a) (tm_pj [9, 10, 11, 12, 13] s0))) [9, 10, 11, 12, 13] (by decide) rfl
  have hFc := va_free (wc := (tm_wWay cI cZ (tm_pj [9, 10, 11, 12, 13] a) (tm_pj [9, 10, 11, 12, 13] s0))) hD hS hA [9, 10, 11, 12, 13] rfl
  refine va_calli (va_runV (As := []) (rest := [.int (2 * (s0 0 16)), .ref (a 0)]) ⟨hx, hb, hml, hown, hts⟩ (kk_X7_sort l dC dI cI cZ (tm_pj [9, 10, 11, 12, 13] a) (tm_pj [9, 10, 11, 12, 13] s0) z.heap.size  _ hw) (cwV 0 hts gX3_hearInData_X7_sort rfl rfl rfl (by decide +kernel) ⟨Nat.le_of_ble_eq_true rfl, Nat.le_of_ble_eq_true rfl⟩) ⟨tm_blind, va_recv hK hPc (ci := 5) (q0 := 0) rfl rfl, fun U hU hW => ⟨rfl, by rw [hU], by rw [hU]; exact hPc, va_K.moved hW.alike hK, hDc.weaken (fun _ _ _ _ => trivial)⟩⟩ rfl rfl hl.1 rfl (lv_room (Nat.le_of_ble_eq_true rfl)) dX3_hearInData_11 ⟨Nat.zero_le _, Nat.zero_le _⟩) hS (fun q _ h => hFc q h) hFc (fun r1 u t H1 locs ht hvm hw hB hz1 hk1 hS => ?_)
  obtain ⟨hP1, hK1, hD1⟩ := hB
  rw [ht] at hP1
  obtain ⟨hP, hD⟩ := va_join (wr := ([0, 1, 2, 3, 4, 5, 6, 7, 8, 14, 15, 16, 17, 18] : List Nat).filterMap (fun i => (tm_wModem cI cZ a s0)[i]?)) (w1 := (tm_wWay cI cZ (tm_pj [9, 10, 11, 12, 13] a) u)) hP hD [9, 10, 11, 12, 13] [0, 1, 2, 3, 4, 5, 6, 7, 8, 14, 15, 16, 17, 18] rfl rfl (by decide) (by decide) hk1 hFc hP1 hD1
  generalize H1 = H at hP hS ⊢
  obtain ⟨s2, es2⟩ : ∃ y : tm_St, y = tm_pk [9, 10, 11, 12, 13] s0 u := ⟨_, rfl⟩
  have hw := hw s2 es2
  have hP : va_P (dC, dI) vwCl (tm_wModem cI cZ a s2) H := by rw [es2]; exact hP.sub [0, 1, 2, 3, 4, 5, 6, 7, 8, 14, 15, 16, 17, 18, 9, 10, 11, 12, 13] rfl
  have hD : va_D A (tm_wModem cI cZ a s2) := by rw [es2]; exact hD.sub [0, 1, 2, 3, 4, 5, 6, 7, 8, 14, 15, 16, 17, 18, 9, 10, 11, 12, 13] (by decide) rfl
  refine lv_if_ne (tgt := 21) hx hb dX3_hearInData_14 (by decide) (fun c4 => ?_) (fun c4 => ?_)
  · have hw := hw.1 c4
    refine lv_iconst (v := 0) hx hb dX3_hearInData_21 (by decide) ?_
    refine lv_iadd hx hb dX3_hearInData_22 ?_
    refine lv_sipush (v := 255) hx hb dX3_hearInData_23 (by decide) ?_
    refine lv_iand hx hb dX3_hearInData_26 ?_
    refine va_put (D := (dC, dI)) (ci := 3) (v := .int (((2 * (s0 0 16)) + 0) &&& 255)) (ty := .int) (C := RX3) (T := TX3) (N := 20) hx hb hts h_in3 tyX3 tyX3_ok nmX3 hown hK hP hD hS 0 rfl rfl 16 (by decide) h_f62 (fun _ h9 => h9) rfl (by decide +kernel) rfl rfl (Nat.le_of_ble_eq_true rfl) dX3_hearInData_27 (fun H locs hP hD hS => ?_)
    obtain ⟨s5, es5⟩ : ∃ y : tm_St, y = tm_s s2 0 (tm_u (s2 0) 16 (((2 * (s0 0 16)) + 0) &&& 255)) := ⟨_, rfl⟩
    have hw := hw s5 es5
    have hP : va_P (dC, dI) vwCl (tm_wModem cI cZ a s5) H := by rw [es5]; exact hP
    have hD : va_D A (tm_wModem cI cZ a s5) := by rw [es5]; exact hD
    refine lv_aload_n hx hb dX3_hearInData_30 rfl (lv_at hl 0 rfl) ?_
    refine lv_bipush (v := 7) hx hb dX3_hearInData_31 (by decide) ?_
    have hPc := hP
    have hDc := hD
    have hFc := va_free (wc := (tm_wModem cI cZ a s5)) hD hS hA [0, 1, 2, 3, 4, 5, 6, 7, 8, 9, 10, 11, 12, 13, 14, 15, 16, 17, 18] rfl
    refine va_calli (va_runV (As := [.int 7]) (rest := []) ⟨hx, hb, hml, hown, hts⟩ (kk_X3_isOfRound l dC dI cI cZ a s5 H.size 7 _ hw) (cwV 1 hts gX3_hearInData_X3_isOfRound rfl rfl rfl (by decide +kernel) ⟨Nat.le_of_ble_eq_true rfl, Nat.le_of_ble_eq_true rfl⟩) ⟨tm_blind, va_recv hK hPc (ci := 3) (q0 := 0) rfl rfl, fun U hU hW => ⟨rfl, by rw [hU], by rw [hU]; exact hPc, va_K.moved hW.alike hK, hDc.weaken (fun _ _ _ _ => trivial)⟩⟩ rfl rfl hl.1 rfl (lv_room (Nat.le_of_ble_eq_true rfl)) dX3_hearInData_33 ⟨Nat.zero_le _, Nat.zero_le _⟩) hS (fun q _ h => hFc q h) hFc (fun r6 s7 t H1 locs ht hvm hw hB hz1 hk1 hS => ?_)
    obtain ⟨hP1, hK1, hD1⟩ := hB
    rw [ht] at hP1
    have b9_r6 := hw.1
    have hw := hw.2
    obtain ⟨hP, hD⟩ := va_join (wr := []) (w1 := (tm_wModem cI cZ a s7)) hP hD [0, 1, 2, 3, 4, 5, 6, 7, 8, 9, 10, 11, 12, 13, 14, 15, 16, 17, 18] [] rfl rfl (by decide) (by decide) hk1 hFc hP1 hD1
    generalize H1 = H at hP hS ⊢
    have hP : va_P (dC, dI) vwCl (tm_wModem cI cZ a s7) H := hP
    have hD : va_D A (tm_wModem cI cZ a s7) := hD
    refine lv_if_eq (tgt := 53) hx hb dX3_hearInData_36 (by decide) (fun c8 => ?_) (fun c8 => ?_)
    · have hw := hw.1 c8
      refine lv_aload_n hx hb dX3_hearInData_53 rfl (lv_at hl 0 rfl) ?_
      have hPc := hP
      have hDc := hD
      have hFc := va_free (wc := (tm_wModem cI cZ a s7)) hD hS hA [0, 1, 2, 3, 4, 5, 6, 7, 8, 9, 10, 11, 12, 13, 14, 15, 16, 17, 18] rfl
      refine va_callv (va_runV (As := []) (rest := []) ⟨hx, hb, hml, hown, hts⟩ (kk_X3_hearGreaterRound l dC dI cI cZ a s7 H.size  _ hw) (cwV 0 hts gX3_hearInData_X3_hearGreaterRound rfl rfl rfl (by decide +kernel) ⟨Nat.le_of_ble_eq_true rfl, Nat.le_of_ble_eq_true rfl⟩) ⟨tm_blind, va_recv hK hPc (ci := 3) (q0 := 0) rfl rfl, fun U hU hW => ⟨rfl, by rw [hU], by rw [hU]; exact hPc, va_K.moved hW.alike hK, hDc.weaken (fun _ _ _ _ => trivial)⟩⟩ rfl rfl hl.1 rfl (lv_room (Nat.le_of_ble_eq_true rfl)) dX3_hearInData_54 ⟨Nat.zero_le _, Nat.zero_le _⟩) hS (fun q _ h => hFc q h) hFc (fun s9 t H1 locs ht hvm hw hB hz1 hk1 hS => ?_)
      obtain ⟨hP1, hK1, hD1⟩ := hB
      rw [ht] at hP1
      obtain ⟨hP, hD⟩ := va_join (wr := []) (w1 := (tm_wModem cI cZ a s9)) hP hD [0, 1, 2, 3, 4, 5, 6, 7, 8, 9, 10, 11, 12, 13, 14, 15, 16, 17, 18] [] rfl rfl (by decide) (by decide) hk1 hFc hP1 hD1
      generalize H1 = H at hP hS ⊢
      have hP : va_P (dC, dI) vwCl (tm_wModem cI cZ a s9) H := hP
      have hD : va_D A (tm_wModem cI cZ a s9) := hD
      exact W.vret hx hb hr (fun t ht hW => ⟨⟨s9, rfl, hw, by rw [ht]; exact hP, va_K.moved hW.alike hK, hD⟩, hS.F ht⟩) hS.2.2 dX3_hearInData_57
    · have hw := hw.2 c8
      refine lv_aload_n hx hb dX3_hearInData_39 rfl (lv_at hl 0 rfl) ?_
      refine va_get (D := (dC, dI)) (ci := 3) (v := .ref (a 4)) (C := RX3) (T := TX3) (N := 20) hx hb hts h_in3 hown hK hP 0 rfl rfl 4 (by decide) h_f21 (fun _ h9 => h9) rfl dX3_hearInData_40 ?_
      refine lv_aload_n hx hb dX3_hearInData_43 rfl (lv_at hl 0 rfl) ?_
      refine va_get (D := (dC, dI)) (ci := 3) (v := .ref (a 9)) (C := RX3) (T := TX3) (N := 20) hx hb hts h_in3 hown hK hP 0 rfl rfl 1 (by decide) h_f78 (fun _ h9 => h9) rfl dX3_hearInData_44 ?_
      have hPc := hP.sub (ws' := (tm_wMailT cI cZ (tm_pj [4, 5, 6, 9, 10, 11, 12, 13] a) (tm_pj [4, 5, 6, 9, 10, 11, 12, 13] s7))) [4, 5, 6, 9, 10, 11, 12, 13] rfl
      have hDc := hD.sub (ws' := (tm_wMailT cI cZ (tm_pj [4, 5, 6, 9, 10, 11, 12, 13] a) (tm_pj [4, 5, 6, 9, 10, 11, 12, 13] s7))) [4, 5, 6, 9, 10, 11, 12, 13] (by decide) rfl
      have hFc := va_free (wc := (tm_wMailT cI cZ (tm_pj [4, 5, 6, 9, 10, 11, 12, 13] a) (tm_pj [4, 5, 6, 9, 10, 11, 12, 13] s7))) hD hS hA [4, 5, 6, 9, 10, 11, 12, 13] rfl
      refine va_callv (va_runV (As := [.ref (a 9)]) (rest := []) ⟨hx, hb, hml, hown, hts⟩ (kk_X2_take l dC dI cI cZ (tm_pj [4, 5, 6, 9, 10, 11, 12, 13] a) (tm_pj [4, 5, 6, 9, 10, 11, 12, 13] s7) H.size  _ hw) (cwV 1 hts gX3_hearInData_X2_take rfl rfl rfl (by decide +kernel) ⟨Nat.le_of_ble_eq_true rfl, Nat.le_of_ble_eq_true rfl⟩) ⟨tm_blind, va_recv hK hPc (ci := 2) (q0 := 0) rfl rfl, fun U hU hW => ⟨rfl, by rw [hU], by rw [hU]; exact hPc, va_K.moved hW.alike hK, hDc.weaken (fun _ _ _ _ => trivial)⟩⟩ rfl rfl hl.1 rfl (lv_room (Nat.le_of_ble_eq_true rfl)) dX3_hearInData_47 ⟨Nat.zero_le _, Nat.zero_le _⟩) hS (fun q _ h => hFc q h) hFc (fun u t H1 locs ht hvm hw hB hz1 hk1 hS => ?_)
      obtain ⟨hP1, hK1, hD1⟩ := hB
      rw [ht] at hP1
      obtain ⟨hP, hD⟩ := va_join (wr := ([0, 1, 2, 3, 7, 8, 14, 15, 16, 17, 18] : List Nat).filterMap (fun i => (tm_wModem cI cZ a s7)[i]?)) (w1 := (tm_wMailT cI cZ (tm_pj [4, 5, 6, 9, 10, 11, 12, 13] a) u)) hP hD [4, 5, 6, 9, 10, 11, 12, 13] [0, 1, 2, 3, 7, 8, 14, 15, 16, 17, 18] rfl rfl (by decide) (by decide) hk1 hFc hP1 hD1
      generalize H1 = H at hP hS ⊢
      obtain ⟨s10, es10⟩ : ∃ y : tm_St, y = tm_pk [4, 5, 6, 9, 10, 11, 12, 13] s7 u := ⟨_, rfl⟩
      have hw := hw s10 es10
      have hP : va_P (dC, dI) vwCl (tm_wModem cI cZ a s10) H := by rw [es10]; exact hP.sub [0, 1, 2, 3, 11, 12, 13, 4, 5, 14, 15, 16, 17, 18, 6, 7, 8, 9, 10] rfl
      have hD : va_D A (tm_wModem cI cZ a s10) := by rw [es10]; exact hD.sub [0, 1, 2, 3, 11, 12, 13, 4, 5, 14, 15, 16, 17, 18, 6, 7, 8, 9, 10] (by decide) rfl
      refine lv_goto (tgt := 57) hx hb dX3_hearInData_50 (by decide) ?_
      exact W.vret hx hb hr (fun t ht hW => ⟨⟨s10, rfl, hw, by rw [ht]; exact hP, va_K.moved hW.alike hK, hD⟩, hS.F ht⟩) hS.2.2 dX3_hearInData_57
  · have hw := hw.2 c4
    refine lv_iconst (v := 1) hx hb dX3_hearInData_17 (by decide) ?_
    refine lv_goto (tgt := 22) hx hb dX3_hearInData_18 (by decide) ?_
    refine lv_iadd hx hb dX3_hearInData_22 ?_
    refine lv_sipush (v := 255) hx hb dX3_hearInData_23 (by decide) ?_
    refine lv_iand hx hb dX3_hearInData_26 ?_
    refine va_put (D := (dC, dI)) (ci := 3) (v := .int (((2 * (s0 0 16)) + 1) &&& 255)) (ty := .int) (C := RX3) (T := TX3) (N := 20) hx hb hts h_in3 tyX3 tyX3_ok nmX3 hown hK hP hD hS 0 rfl rfl 16 (by decide) h_f62 (fun _ h9 => h9) rfl (by decide +kernel) rfl rfl (Nat.le_of_ble_eq_true rfl) dX3_hearInData_27 (fun H locs hP hD hS => ?_)
    obtain ⟨s12, es12⟩ : ∃ y : tm_St, y = tm_s s2 0 (tm_u (s2 0) 16 (((2 * (s0 0 16)) + 1) &&& 255)) := ⟨_, rfl⟩
    have hw := hw s12 es12
    have hP : va_P (dC, dI) vwCl (tm_wModem cI cZ a s12) H := by rw [es12]; exact hP
    have hD : va_D A (tm_wModem cI cZ a s12) := by rw [es12]; exact hD
    refine lv_aload_n hx hb dX3_hearInData_30 rfl (lv_at hl 0 rfl) ?_
    refine lv_bipush (v := 7) hx hb dX3_hearInData_31 (by decide) ?_
    have hPc := hP
    have hDc := hD
    have hFc := va_free (wc := (tm_wModem cI cZ a s12)) hD hS hA [0, 1, 2, 3, 4, 5, 6, 7, 8, 9, 10, 11, 12, 13, 14, 15, 16, 17, 18] rfl
    refine va_calli (va_runV (As := [.int 7]) (rest := []) ⟨hx, hb, hml, hown, hts⟩ (kk_X3_isOfRound l dC dI cI cZ a s12 H.size 7 _ hw) (cwV 1 hts gX3_hearInData_X3_isOfRound rfl rfl rfl (by decide +kernel) ⟨Nat.le_of_ble_eq_true rfl, Nat.le_of_ble_eq_true rfl⟩) ⟨tm_blind, va_recv hK hPc (ci := 3) (q0 := 0) rfl rfl, fun U hU hW => ⟨rfl, by rw [hU], by rw [hU]; exact hPc, va_K.moved hW.alike hK, hDc.weaken (fun _ _ _ _ => trivial)⟩⟩ rfl rfl hl.1 rfl (lv_room (Nat.le_of_ble_eq_true rfl)) dX3_hearInData_33 ⟨Nat.zero_le _, Nat.zero_le _⟩) hS (fun q _ h => hFc q h) hFc (fun r13 s14 t H1 locs ht hvm hw hB hz1 hk1 hS => ?_)
    obtain ⟨hP1, hK1, hD1⟩ := hB
    rw [ht] at hP1
    have b9_r13 := hw.1
    have hw := hw.2
    obtain ⟨hP, hD⟩ := va_join (wr := []) (w1 := (tm_wModem cI cZ a s14)) hP hD [0, 1, 2, 3, 4, 5, 6, 7, 8, 9, 10, 11, 12, 13, 14, 15, 16, 17, 18] [] rfl rfl (by decide) (by decide) hk1 hFc hP1 hD1
    generalize H1 = H at hP hS ⊢
    have hP : va_P (dC, dI) vwCl (tm_wModem cI cZ a s14) H := hP
    have hD : va_D A (tm_wModem cI cZ a s14) := hD
    refine lv_if_eq (tgt := 53) hx hb dX3_hearInData_36 (by decide) (fun c15 => ?_) (fun c15 => ?_)
    · have hw := hw.1 c15
      refine lv_aload_n hx hb dX3_hearInData_53 rfl (lv_at hl 0 rfl) ?_
      have hPc := hP
      have hDc := hD
      have hFc := va_free (wc := (tm_wModem cI cZ a s14)) hD hS hA [0, 1, 2, 3, 4, 5, 6, 7, 8, 9, 10, 11, 12, 13, 14, 15, 16, 17, 18] rfl
      refine va_callv (va_runV (As := []) (rest := []) ⟨hx, hb, hml, hown, hts⟩ (kk_X3_hearGreaterRound l dC dI cI cZ a s14 H.size  _ hw) (cwV 0 hts gX3_hearInData_X3_hearGreaterRound rfl rfl rfl (by decide +kernel) ⟨Nat.le_of_ble_eq_true rfl, Nat.le_of_ble_eq_true rfl⟩) ⟨tm_blind, va_recv hK hPc (ci := 3) (q0 := 0) rfl rfl, fun U hU hW => ⟨rfl, by rw [hU], by rw [hU]; exact hPc, va_K.moved hW.alike hK, hDc.weaken (fun _ _ _ _ => trivial)⟩⟩ rfl rfl hl.1 rfl (lv_room (Nat.le_of_ble_eq_true rfl)) dX3_hearInData_54 ⟨Nat.zero_le _, Nat.zero_le _⟩) hS (fun q _ h => hFc q h) hFc (fun s16 t H1 locs ht hvm hw hB hz1 hk1 hS => ?_)
      obtain ⟨hP1, hK1, hD1⟩ := hB
      rw [ht] at hP1
      obtain ⟨hP, hD⟩ := va_join (wr := []) (w1 := (tm_wModem cI cZ a s16)) hP hD [0, 1, 2, 3, 4, 5, 6, 7, 8, 9, 10, 11, 12, 13, 14, 15, 16, 17, 18] [] rfl rfl (by decide) (by decide) hk1 hFc hP1 hD1
      generalize H1 = H at hP hS ⊢
      have hP : va_P (dC, dI) vwCl (tm_wModem cI cZ a s16) H := hP
      have hD : va_D A (tm_wModem cI cZ a s16) := hD
      exact W.vret hx hb hr (fun t ht hW => ⟨⟨s16, rfl, hw, by rw [ht]; exact hP, va_K.moved hW.alike hK, hD⟩, hS.F ht⟩) hS.2.2 dX3_hearInData_57
    · have hw := hw.2 c15
      refine lv_aload_n hx hb dX3_hearInData_39 rfl (lv_at hl 0 rfl) ?_
      refine va_get (D := (dC, dI)) (ci := 3) (v := .ref (a 4)) (C := RX3) (T := TX3) (N := 20) hx hb hts h_in3 hown hK hP 0 rfl rfl 4 (by decide) h_f21 (fun _ h9 => h9) rfl dX3_hearInData_40 ?_
      refine lv_aload_n hx hb dX3_hearInData_43 rfl (lv_at hl 0 rfl) ?_
      refine va_get (D := (dC, dI)) (ci := 3) (v := .ref (a 9)) (C := RX3) (T := TX3) (N := 20) hx hb hts h_in3 hown hK hP 0 rfl rfl 1 (by decide) h_f78 (fun _ h9 => h9) rfl dX3_hearInData_44 ?_
      have hPc := hP.sub (ws' := (tm_wMailT cI cZ (tm_pj [4, 5, 6, 9, 10, 11, 12, 13] a) (tm_pj [4, 5, 6, 9, 10, 11, 12, 13] s14))) [4, 5, 6, 9, 10, 11, 12, 13] rfl
      have hDc := hD.sub (ws' := (tm_wMailT cI cZ (tm_pj [4, 5, 6, 9, 10, 11, 12, 13] a) (tm_pj [4, 5, 6, 9, 10, 11, 12, 13] s14))) [4, 5, 6, 9, 10, 11, 12, 13] (by decide) rfl
      have hFc := va_free (wc := (tm_wMailT cI cZ (tm_pj [4, 5, 6, 9, 10, 11, 12, 13] a) (tm_pj [4, 5, 6, 9, 10, 11, 12, 13] s14))) hD hS hA [4, 5, 6, 9, 10, 11, 12, 13] rfl
      refine va_callv (va_runV (As := [.ref (a 9)]) (rest := []) ⟨hx, hb, hml, hown, hts⟩ (kk_X2_take l dC dI cI cZ (tm_pj [4, 5, 6, 9, 10, 11, 12, 13] a) (tm_pj [4, 5, 6, 9, 10, 11, 12, 13] s14) H.size  _ hw) (cwV 1 hts gX3_hearInData_X2_take rfl rfl rfl (by decide +kernel) ⟨Nat.le_of_ble_eq_true rfl, Nat.le_of_ble_eq_true rfl⟩) ⟨tm_blind, va_recv hK hPc (ci := 2) (q0 := 0) rfl rfl, fun U hU hW => ⟨rfl, by rw [hU], by rw [hU]; exact hPc, va_K.moved hW.alike hK, hDc.weaken (fun _ _ _ _ => trivial)⟩⟩ rfl rfl hl.1 rfl (lv_room (Nat.le_of_ble_eq_true rfl)) dX3_hearInData_47 ⟨Nat.zero_le _, Nat.zero_le _⟩) hS (fun q _ h => hFc q h) hFc (fun u t H1 locs ht hvm hw hB hz1 hk1 hS => ?_)
      obtain ⟨hP1, hK1, hD1⟩ := hB
      rw [ht] at hP1
      obtain ⟨hP, hD⟩ := va_join (wr := ([0, 1, 2, 3, 7, 8, 14, 15, 16, 17, 18] : List Nat).filterMap (fun i => (tm_wModem cI cZ a s14)[i]?)) (w1 := (tm_wMailT cI cZ (tm_pj [4, 5, 6, 9, 10, 11, 12, 13] a) u)) hP hD [4, 5, 6, 9, 10, 11, 12, 13] [0, 1, 2, 3, 7, 8, 14, 15, 16, 17, 18] rfl rfl (by decide) (by decide) hk1 hFc hP1 hD1
      generalize H1 = H at hP hS ⊢
      obtain ⟨s17, es17⟩ : ∃ y : tm_St, y = tm_pk [4, 5, 6, 9, 10, 11, 12, 13] s14 u := ⟨_, rfl⟩
      have hw := hw s17 es17
      have hP : va_P (dC, dI) vwCl (tm_wModem cI cZ a s17) H := by rw [es17]; exact hP.sub [0, 1, 2, 3, 11, 12, 13, 4, 5, 14, 15, 16, 17, 18, 6, 7, 8, 9, 10] rfl
      have hD : va_D A (tm_wModem cI cZ a s17) := by rw [es17]; exact hD.sub [0, 1, 2, 3, 11, 12, 13, 4, 5, 14, 15, 16, 17, 18, 6, 7, 8, 9, 10] (by decide) rfl
      refine lv_goto (tgt := 57) hx hb dX3_hearInData_50 (by decide) ?_
      exact W.vret hx hb hr (fun t ht hW => ⟨⟨s17, rfl, hw, by rw [ht]; exact hP, va_K.moved hW.alike hK, hD⟩, hS.F ht⟩) hS.2.2 dX3_hearInData_57
def wp_X3_hear  (s0 : tm_St) (K : tm_St → Prop) : Prop := (wp_X7_sort  (tm_pj [9, 10, 11, 12, 13] s0) (fun r1 u3 => ∀ s2 : tm_St, s2 = tm_pk [9, 10, 11, 12, 13] s0 u3 → (((s2 0 6) = 0 → ((¬ r1 = 1 → K s2) ∧ (r1 = 1 → (wp_X3_come 2 s2 (fun s6 => K s6))))) ∧ (¬ (s2 0 6) = 0 → (((s2 0 6) = 1 → ((¬ r1 = 2 → K s2) ∧ (r1 = 2 → (wp_X3_come 3 s2 (fun s9 => K s9))))) ∧ (¬ (s2 0 6) = 1 → (((s2 0 6) = 2 → ((¬ r1 = 3 → K s2) ∧ (r1 = 3 → (wp_X3_come 3 s2 (fun s12 => (wp_X7_first  (tm_pj [9, 10, 11, 12, 13] s12) (fun r13 u15 => ∀ s14 : tm_St, s14 = tm_pk [9, 10, 11, 12, 13] s12 u15 → (wp_X3_note r13 s14 (fun s16 => K s16))))))))) ∧ (¬ (s2 0 6) = 2 → (((s2 0 6) = 3 → ((¬ r1 = 3 → K s2) ∧ (r1 = 3 → (wp_X7_first  (tm_pj [9, 10, 11, 12, 13] s2) (fun r19 u21 => ∀ s20 : tm_St, s20 = tm_pk [9, 10, 11, 12, 13] s2 u21 → (wp_X3_note r19 s20 (fun s22 => K s22))))))) ∧ (¬ (s2 0 6) = 3 → (((s2 0 6) = 4 → K s2) ∧ (¬ (s2 0 6) = 4 → (((s2 0 6) = 5 → (wp_X3_hearInBargain  s2 (fun s25 => K s25))) ∧ (¬ (s2 0 6) = 5 → (((s2 0 6) = 6 → (wp_X3_isOfRound 6 s2 (fun r27 s28 => ((¬ r27 = 0 → (wp_X3_come 7 s28 (fun s30 => K s30))) ∧ (r27 = 0 → (wp_X3_isOfRound 7 s28 (fun r31 s32 => ((r31 = 0 → (wp_X3_hearGreaterRound  s32 (fun s34 => K s34))) ∧ (¬ r31 = 0 → (wp_X3_come 7 s32 (fun s35 => K s35))))))))))) ∧ (¬ (s2 0 6) = 6 → (((s2 0 6) = 7 → (wp_X3_hearInData  s2 (fun s37 => K s37))) ∧ (¬ (s2 0 6) = 7 → K s2))))))))))))))))))
set_option maxRecDepth 100000 in
set_option maxHeartbeats 4000000 in
theorem kk_X3_hear (l : Launch) (dC : Nat → ClassId) (dI : Nat → Nat → Nat) (cI cZ : ClassId) (a : Nat → Nat) (s0 : tm_St) (sz : Nat)  (K : tm_St → Prop) (hw : wp_X3_hear s0 K) : Met l yX3_hear wsX3_hear ({ frames := 4, cells := 0, slots := 0, locals := 84 }) (va_Pc [.ref (a 0)] (tm_Pre dC dI cI cZ (tm_wModem cI cZ a s0) sz)) (va_Qv (fun (u : tm_St) => K u) (fun (u : tm_St) t => tm_At dC dI cI cZ (va_A (tm_wModem cI cZ a s0) sz) (tm_wModem cI cZ a u) t) (va_A (tm_wModem cI cZ a s0) sz)) 0 0 (va_A (tm_wModem cI cZ a s0) sz) := by
  refine Met.ofW (cc := cX3_hear) (maxL := 2) (ret := none) (by decide +kernel) rfl ?_
  intro p e z m args below meth c z₁ B hml hv
  obtain ⟨rfl, hsz, hP, hK, hD0⟩ := hv
  have hx := B.exec
  have hb := B.bytes
  have hr := B.returns
  have hts := atoms_spec (ws := wsX3_hear) B.pre
  have hown : z.vm.findClass RX3 = some m.cls := findClass_of_methodNamed B.named
  have hlocks := B.notSynchronized
  subst hsz
  have hD := hD0.self (sz := z.heap.size)
  generalize hAe : va_A (tm_wModem cI cZ a s0) z.heap.size = A at hD ⊢
  have hA : ∀ q : Nat, z.heap.size ≤ q → A q := fun q h => by rw [← hAe]; exact Or.inr h
  have hS : va_S A z.heap z.heap [] := va_S.rf
  have h_f78 := hts (.fieldLink RX3 78 "TwoModems$Modem" "in" "LTwoModems$Way;") (by decide +kernel)
  have h_in3 : ∀ w ∈ u_ws RX3 TX3 20, w ∈ wsX3_hear := by decide +kernel
  have h_f31 := hts (.fieldLink RX3 31 "TwoModems$Modem" "phase" "I") (by decide +kernel)
  have hl := lv_entry ([.ref (a 0)]) (n := 2) (Nat.le_of_ble_eq_true rfl)
  rw [lg_entry_eq]
  generalize (lg_sl ([.ref (a 0)]) ++ List.replicate (2 - (lg_sl ([.ref (a 0)])).length) Slot.unset).toArray = ls at hl ⊢
  have hl : lv_has ls 2 [(0, .ref (a 0))] := hl
  unfold wp_X3_hear at hw
  refine lv_aload_n hx hb dX3_hear_0 rfl (lv_at hl 0 rfl) ?_
  refine va_get (D := (dC, dI)) (ci := 3) (v := .ref (a 9)) (C := RX3) (T := TX3) (N := 20) hx hb hts h_in3 hown hK hP 0 rfl rfl 1 (by decide) h_f78 (fun _ h9 => h9) rfl dX3_hear_1 ?_
  have hPc := hP.sub (ws' := (tm_wWay cI cZ (tm_pj [9, 10, 11, 12, 13] a) (tm_pj [9, 10, 11, 12, 13] s0))) [9, 10, 11, 12, 13] rfl
  have hDc := hD.sub (ws' := (tm_wWay cI cZ (tm_pj [9, 10, 11, 12, 13] a) (tm_pj [9, 10, 11, 12, 13] s0))) [9, 10, 11, 12, 13] (by decide) rfl
  have hFc := va_free (wc := (tm_wWay cI cZ (tm_pj [9, 10, 11, 12, 13] a) (tm_pj [9, 10, 11, 12, 13] s0))) hD hS hA [9, 10, 11, 12, 13] rfl
  refine va_calli (va_runV (As := []) (rest := []) ⟨hx, hb, hml, hown, hts⟩ (kk_X7_sort l dC dI cI cZ (tm_pj [9, 10, 11, 12, 13] a) (tm_pj [9, 10, 11, 12, 13] s0) z.heap.size  _ hw) (cwV 0 hts gX3_hear_X7_sort rfl rfl rfl (by decide +kernel) ⟨Nat.le_of_ble_eq_true rfl, Nat.le_of_ble_eq_true rfl⟩) ⟨tm_blind, va_recv hK hPc (ci := 5) (q0 := 0) rfl rfl, fun U hU hW => ⟨rfl, by rw [hU], by rw [hU]; exact hPc, va_K.moved hW.alike hK, hDc.weaken (fun _ _ _ _ => trivial)⟩⟩ rfl rfl hl.1 rfl (lv_room (Nat.le_of_ble_eq_true rfl)) dX3_hear_4 ⟨Nat.zero_le _, Nat.zero_le _⟩) hS (fun q _ h => hFc q h) hFc (fun r1 u t H1 locs ht hvm hw hB hz1 hk1 hS => ?_)
  obtain ⟨hP1, hK1, hD1⟩ := hB
  rw [ht] at hP1
  obtain ⟨hP, hD⟩ := va_join (wr := ([0, 1, 2, 3, 4, 5, 6, 7, 8, 14, 15, 16, 17, 18] : List Nat).filterMap (fun i => (tm_wModem cI cZ a s0)[i]?)) (w1 := (tm_wWay cI cZ (tm_pj [9, 10, 11, 12, 13] a) u)) hP hD [9, 10, 11, 12, 13] [0, 1, 2, 3, 4, 5, 6, 7, 8, 14, 15, 16, 17, 18] rfl rfl (by decide) (by decide) hk1 hFc hP1 hD1
  generalize H1 = H at hP hS ⊢
  obtain ⟨s2, es2⟩ : ∃ y : tm_St, y = tm_pk [9, 10, 11, 12, 13] s0 u := ⟨_, rfl⟩
  have hw := hw s2 es2
  have hP : va_P (dC, dI) vwCl (tm_wModem cI cZ a s2) H := by rw [es2]; exact hP.sub [0, 1, 2, 3, 4, 5, 6, 7, 8, 14, 15, 16, 17, 18, 9, 10, 11, 12, 13] rfl
  have hD : va_D A (tm_wModem cI cZ a s2) := by rw [es2]; exact hD.sub [0, 1, 2, 3, 4, 5, 6, 7, 8, 14, 15, 16, 17, 18, 9, 10, 11, 12, 13] (by decide) rfl
  refine lv_istore_n (lv' := [(1, .int r1), (0, .ref (a 0))]) hx hb dX3_hear_7 rfl hl (by decide) rfl (fun ls hl => ?_)
  refine lv_aload_n hx hb dX3_hear_8 rfl (lv_at hl 1 rfl) ?_
  refine va_get (D := (dC, dI)) (ci := 3) (v := .int (s2 0 6)) (C := RX3) (T := TX3) (N := 20) hx hb hts h_in3 hown hK hP 0 rfl rfl 6 (by decide) h_f31 (fun _ h9 => h9) rfl dX3_hear_9 ?_
  refine (Classical.em ((s2 0 6) = 0)).elim (fun c4 => ?_) (fun c4 => ?_)
  · have hw := hw.1 c4
    refine lv_tableIn (tgt := 60) hx hb dX3_hear_12 (by rw [c4]; decide) (by rw [c4]; decide) (by rw [c4]; rfl) (by decide) ?_
    refine lv_iload_n hx hb dX3_hear_60 rfl (lv_at hl 0 rfl) ?_
    refine lv_iconst (v := 1) hx hb dX3_hear_61 (by decide) ?_
    refine lv_icmp_ne (tgt := 177) hx hb dX3_hear_62 (by decide) (fun c5 => ?_) (fun c5 => ?_)
    · have hw := hw.1 c5
      exact W.vret hx hb hr (fun t ht hW => ⟨⟨s2, rfl, hw, by rw [ht]; exact hP, va_K.moved hW.alike hK, hD⟩, hS.F ht⟩) hS.2.2 dX3_hear_177
    · have hw := hw.2 c5
      refine lv_aload_n hx hb dX3_hear_65 rfl (lv_at hl 1 rfl) ?_
      refine lv_iconst (v := 2) hx hb dX3_hear_66 (by decide) ?_
      have hPc := hP
      have hDc := hD
      have hFc := va_free (wc := (tm_wModem cI cZ a s2)) hD hS hA [0, 1, 2, 3, 4, 5, 6, 7, 8, 9, 10, 11, 12, 13, 14, 15, 16, 17, 18] rfl
      refine va_callv (va_runV (As := [.int 2]) (rest := []) ⟨hx, hb, hml, hown, hts⟩ (kk_X3_come l dC dI cI cZ a s2 H.size 2 _ hw) (cwV 1 hts gX3_hear_X3_come rfl rfl rfl (by decide +kernel) ⟨Nat.le_of_ble_eq_true rfl, Nat.le_of_ble_eq_true rfl⟩) ⟨tm_blind, va_recv hK hPc (ci := 3) (q0 := 0) rfl rfl, fun U hU hW => ⟨rfl, by rw [hU], by rw [hU]; exact hPc, va_K.moved hW.alike hK, hDc.weaken (fun _ _ _ _ => trivial)⟩⟩ rfl rfl hl.1 rfl (lv_room (Nat.le_of_ble_eq_true rfl)) dX3_hear_67 ⟨Nat.zero_le _, Nat.zero_le _⟩) hS (fun q _ h => hFc q h) hFc (fun s6 t H1 locs ht hvm hw hB hz1 hk1 hS => ?_)
      obtain ⟨hP1, hK1, hD1⟩ := hB
      rw [ht] at hP1
      obtain ⟨hP, hD⟩ := va_join (wr := []) (w1 := (tm_wModem cI cZ a s6)) hP hD [0, 1, 2, 3, 4, 5, 6, 7, 8, 9, 10, 11, 12, 13, 14, 15, 16, 17, 18] [] rfl rfl (by decide) (by decide) hk1 hFc hP1 hD1
      generalize H1 = H at hP hS ⊢
      have hP : va_P (dC, dI) vwCl (tm_wModem cI cZ a s6) H := hP
      have hD : va_D A (tm_wModem cI cZ a s6) := hD
      refine lv_goto (tgt := 177) hx hb dX3_hear_70 (by decide) ?_
      exact W.vret hx hb hr (fun t ht hW => ⟨⟨s6, rfl, hw, by rw [ht]; exact hP, va_K.moved hW.alike hK, hD⟩, hS.F ht⟩) hS.2.2 dX3_hear_177
  have hw := hw.2 c4
  refine (Classical.em ((s2 0 6) = 1)).elim (fun c7 => ?_) (fun c7 => ?_)
  · have hw := hw.1 c7
    refine lv_tableIn (tgt := 73) hx hb dX3_hear_12 (by rw [c7]; decide) (by rw [c7]; decide) (by rw [c7]; rfl) (by decide) ?_
    refine lv_iload_n hx hb dX3_hear_73 rfl (lv_at hl 0 rfl) ?_
    refine lv_iconst (v := 2) hx hb dX3_hear_74 (by decide) ?_
    refine lv_icmp_ne (tgt := 177) hx hb dX3_hear_75 (by decide) (fun c8 => ?_) (fun c8 => ?_)
    · have hw := hw.1 c8
      exact W.vret hx hb hr (fun t ht hW => ⟨⟨s2, rfl, hw, by rw [ht]; exact hP, va_K.moved hW.alike hK, hD⟩, hS.F ht⟩) hS.2.2 dX3_hear_177
    · have hw := hw.2 c8
      refine lv_aload_n hx hb dX3_hear_78 rfl (lv_at hl 1 rfl) ?_
      refine lv_iconst (v := 3) hx hb dX3_hear_79 (by decide) ?_
      have hPc := hP
      have hDc := hD
      have hFc := va_free (wc := (tm_wModem cI cZ a s2)) hD hS hA [0, 1, 2, 3, 4, 5, 6, 7, 8, 9, 10, 11, 12, 13, 14, 15, 16, 17, 18] rfl
      refine va_callv (va_runV (As := [.int 3]) (rest := []) ⟨hx, hb, hml, hown, hts⟩ (kk_X3_come l dC dI cI cZ a s2 H.size 3 _ hw) (cwV 1 hts gX3_hear_X3_come rfl rfl rfl (by decide +kernel) ⟨Nat.le_of_ble_eq_true rfl, Nat.le_of_ble_eq_true rfl⟩) ⟨tm_blind, va_recv hK hPc (ci := 3) (q0 := 0) rfl rfl, fun U hU hW => ⟨rfl, by rw [hU], by rw [hU]; exact hPc, va_K.moved hW.alike hK, hDc.weaken (fun _ _ _ _ => trivial)⟩⟩ rfl rfl hl.1 rfl (lv_room (Nat.le_of_ble_eq_true rfl)) dX3_hear_80 ⟨Nat.zero_le _, Nat.zero_le _⟩) hS (fun q _ h => hFc q h) hFc (fun s9 t H1 locs ht hvm hw hB hz1 hk1 hS => ?_)
      obtain ⟨hP1, hK1, hD1⟩ := hB
      rw [ht] at hP1
      obtain ⟨hP, hD⟩ := va_join (wr := []) (w1 := (tm_wModem cI cZ a s9)) hP hD [0, 1, 2, 3, 4, 5, 6, 7, 8, 9, 10, 11, 12, 13, 14, 15, 16, 17, 18] [] rfl rfl (by decide) (by decide) hk1 hFc hP1 hD1
      generalize H1 = H at hP hS ⊢
      have hP : va_P (dC, dI) vwCl (tm_wModem cI cZ a s9) H := hP
      have hD : va_D A (tm_wModem cI cZ a s9) := hD
      refine lv_goto (tgt := 177) hx hb dX3_hear_83 (by decide) ?_
      exact W.vret hx hb hr (fun t ht hW => ⟨⟨s9, rfl, hw, by rw [ht]; exact hP, va_K.moved hW.alike hK, hD⟩, hS.F ht⟩) hS.2.2 dX3_hear_177
  have hw := hw.2 c7
  refine (Classical.em ((s2 0 6) = 2)).elim (fun c10 => ?_) (fun c10 => ?_)
  · have hw := hw.1 c10
    refine lv_tableIn (tgt := 86) hx hb dX3_hear_12 (by rw [c10]; decide) (by rw [c10]; decide) (by rw [c10]; rfl) (by decide) ?_
    refine lv_iload_n hx hb dX3_hear_86 rfl (lv_at hl 0 rfl) ?_
    refine lv_iconst (v := 3) hx hb dX3_hear_87 (by decide) ?_
    refine lv_icmp_ne (tgt := 177) hx hb dX3_hear_88 (by decide) (fun c11 => ?_) (fun c11 => ?_)
    · have hw := hw.1 c11
      exact W.vret hx hb hr (fun t ht hW => ⟨⟨s2, rfl, hw, by rw [ht]; exact hP, va_K.moved hW.alike hK, hD⟩, hS.F ht⟩) hS.2.2 dX3_hear_177
    · have hw := hw.2 c11
      refine lv_aload_n hx hb dX3_hear_91 rfl (lv_at hl 1 rfl) ?_
      refine lv_iconst (v := 3) hx hb dX3_hear_92 (by decide) ?_
      have hPc := hP
      have hDc := hD
      have hFc := va_free (wc := (tm_wModem cI cZ a s2)) hD hS hA [0, 1, 2, 3, 4, 5, 6, 7, 8, 9, 10, 11, 12, 13, 14, 15, 16, 17, 18] rfl
      refine va_callv (va_runV (As := [.int 3]) (rest := []) ⟨hx, hb, hml, hown, hts⟩ (kk_X3_come l dC dI cI cZ a s2 H.size 3 _ hw) (cwV 1 hts gX3_hear_X3_come rfl rfl rfl (by decide +kernel) ⟨Nat.le_of_ble_eq_true rfl, Nat.le_of_ble_eq_true rfl⟩) ⟨tm_blind, va_recv hK hPc (ci := 3) (q0 := 0) rfl rfl, fun U hU hW => ⟨rfl, by rw [hU], by rw [hU]; exact hPc, va_K.moved hW.alike hK, hDc.weaken (fun _ _ _ _ => trivial)⟩⟩ rfl rfl hl.1 rfl (lv_room (Nat.le_of_ble_eq_true rfl)) dX3_hear_93 ⟨Nat.zero_le _, Nat.zero_le _⟩) hS (fun q _ h => hFc q h) hFc (fun s12 t H1 locs ht hvm hw hB hz1 hk1 hS => ?_)
      obtain ⟨hP1, hK1, hD1⟩ := hB
      rw [ht] at hP1
      obtain ⟨hP, hD⟩ := va_join (wr := []) (w1 := (tm_wModem cI cZ a s12)) hP hD [0, 1, 2, 3, 4, 5, 6, 7, 8, 9, 10, 11, 12, 13, 14, 15, 16, 17, 18] [] rfl rfl (by decide) (by decide) hk1 hFc hP1 hD1
      generalize H1 = H at hP hS ⊢
      have hP : va_P (dC, dI) vwCl (tm_wModem cI cZ a s12) H := hP
      have hD : va_D A (tm_wModem cI cZ a s12) := hD
      refine lv_aload_n hx hb dX3_hear_96 rfl (lv_at hl 1 rfl) ?_
      refine lv_aload_n hx hb dX3_hear_97 rfl (lv_at hl 1 rfl) ?_
      refine va_get (D := (dC, dI)) (ci := 3) (v := .ref (a 9)) (C := RX3) (T := TX3) (N := 20) hx hb hts h_in3 hown hK hP 0 rfl rfl 1 (by decide) h_f78 (fun _ h9 => h9) rfl dX3_hear_98 ?_
      have hPc := hP.sub (ws' := (tm_wWay cI cZ (tm_pj [9, 10, 11, 12, 13] a) (tm_pj [9, 10, 11, 12, 13] s12))) [9, 10, 11, 12, 13] rfl
      have hDc := hD.sub (ws' := (tm_wWay cI cZ (tm_pj [9, 10, 11, 12, 13] a) (tm_pj [9, 10, 11, 12, 13] s12))) [9, 10, 11, 12, 13] (by decide) rfl
      have hFc := va_free (wc := (tm_wWay cI cZ (tm_pj [9, 10, 11, 12, 13] a) (tm_pj [9, 10, 11, 12, 13] s12))) hD hS hA [9, 10, 11, 12, 13] rfl
      refine va_calli (va_runV (As := []) (rest := [.ref (a 0)]) ⟨hx, hb, hml, hown, hts⟩ (kk_X7_first l dC dI cI cZ (tm_pj [9, 10, 11, 12, 13] a) (tm_pj [9, 10, 11, 12, 13] s12) H.size  _ hw) (cwV 0 hts gX3_hear_X7_first rfl rfl rfl (by decide +kernel) ⟨Nat.le_of_ble_eq_true rfl, Nat.le_of_ble_eq_true rfl⟩) ⟨tm_blind, va_recv hK hPc (ci := 5) (q0 := 0) rfl rfl, fun U hU hW => ⟨rfl, by rw [hU], by rw [hU]; exact hPc, va_K.moved hW.alike hK, hDc.weaken (fun _ _ _ _ => trivial)⟩⟩ rfl rfl hl.1 rfl (lv_room (Nat.le_of_ble_eq_true rfl)) dX3_hear_101 ⟨Nat.zero_le _, Nat.zero_le _⟩) hS (fun q _ h => hFc q h) hFc (fun r13 u t H1 locs ht hvm hw hB hz1 hk1 hS => ?_)
      obtain ⟨hP1, hK1, hD1⟩ := hB
      rw [ht] at hP1
      obtain ⟨hP, hD⟩ := va_join (wr := ([0, 1, 2, 3, 4, 5, 6, 7, 8, 14, 15, 16, 17, 18] : List Nat).filterMap (fun i => (tm_wModem cI cZ a s12)[i]?)) (w1 := (tm_wWay cI cZ (tm_pj [9, 10, 11, 12, 13] a) u)) hP hD [9, 10, 11, 12, 13] [0, 1, 2, 3, 4, 5, 6, 7, 8, 14, 15, 16, 17, 18] rfl rfl (by decide) (by decide) hk1 hFc hP1 hD1
      generalize H1 = H at hP hS ⊢
      obtain ⟨s14, es14⟩ : ∃ y : tm_St, y = tm_pk [9, 10, 11, 12, 13] s12 u := ⟨_, rfl⟩
      have hw := hw s14 es14
      have hP : va_P (dC, dI) vwCl (tm_wModem cI cZ a s14) H := by rw [es14]; exact hP.sub [0, 1, 2, 3, 4, 5, 6, 7, 8, 14, 15, 16, 17, 18, 9, 10, 11, 12, 13] rfl
      have hD : va_D A (tm_wModem cI cZ a s14) := by rw [es14]; exact hD.sub [0, 1, 2, 3, 4, 5, 6, 7, 8, 14, 15, 16, 17, 18, 9, 10, 11, 12, 13] (by decide) rfl
      have hPc := hP
      have hDc := hD
      have hFc := va_free (wc := (tm_wModem cI cZ a s14)) hD hS hA [0, 1, 2, 3, 4, 5, 6, 7, 8, 9, 10, 11, 12, 13, 14, 15, 16, 17, 18] rfl
      refine va_callv (va_runV (As := [.int r13]) (rest := []) ⟨hx, hb, hml, hown, hts⟩ (kk_X3_note l dC dI cI cZ a s14 H.size r13 _ hw) (cwV 1 hts gX3_hear_X3_note rfl rfl rfl (by decide +kernel) ⟨Nat.le_of_ble_eq_true rfl, Nat.le_of_ble_eq_true rfl⟩) ⟨tm_blind, va_recv hK hPc (ci := 3) (q0 := 0) rfl rfl, fun U hU hW => ⟨rfl, by rw [hU], by rw [hU]; exact hPc, va_K.moved hW.alike hK, hDc.weaken (fun _ _ _ _ => trivial)⟩⟩ rfl rfl hl.1 rfl (lv_room (Nat.le_of_ble_eq_true rfl)) dX3_hear_104 ⟨Nat.zero_le _, Nat.zero_le _⟩) hS (fun q _ h => hFc q h) hFc (fun s16 t H1 locs ht hvm hw hB hz1 hk1 hS => ?_)
      obtain ⟨hP1, hK1, hD1⟩ := hB
      rw [ht] at hP1
      obtain ⟨hP, hD⟩ := va_join (wr := []) (w1 := (tm_wModem cI cZ a s16)) hP hD [0, 1, 2, 3, 4, 5, 6, 7, 8, 9, 10, 11, 12, 13, 14, 15, 16, 17, 18] [] rfl rfl (by decide) (by decide) hk1 hFc hP1 hD1
      generalize H1 = H at hP hS ⊢
      have hP : va_P (dC, dI) vwCl (tm_wModem cI cZ a s16) H := hP
      have hD : va_D A (tm_wModem cI cZ a s16) := hD
      refine lv_goto (tgt := 177) hx hb dX3_hear_107 (by decide) ?_
      exact W.vret hx hb hr (fun t ht hW => ⟨⟨s16, rfl, hw, by rw [ht]; exact hP, va_K.moved hW.alike hK, hD⟩, hS.F ht⟩) hS.2.2 dX3_hear_177
  have hw := hw.2 c10
  refine (Classical.em ((s2 0 6) = 3)).elim (fun c17 => ?_) (fun c17 => ?_)
  · have hw := hw.1 c17
    refine lv_tableIn (tgt := 110) hx hb dX3_hear_12 (by rw [c17]; decide) (by rw [c17]; decide) (by rw [c17]; rfl) (by decide) ?_
    refine lv_iload_n hx hb dX3_hear_110 rfl (lv_at hl 0 rfl) ?_
    refine lv_iconst (v := 3) hx hb dX3_hear_111 (by decide) ?_
    refine lv_icmp_ne (tgt := 177) hx hb dX3_hear_112 (by decide) (fun c18 => ?_) (fun c18 => ?_)
    · have hw := hw.1 c18
      exact W.vret hx hb hr (fun t ht hW => ⟨⟨s2, rfl, hw, by rw [ht]; exact hP, va_K.moved hW.alike hK, hD⟩, hS.F ht⟩) hS.2.2 dX3_hear_177
    · have hw := hw.2 c18
      refine lv_aload_n hx hb dX3_hear_115 rfl (lv_at hl 1 rfl) ?_
      refine lv_aload_n hx hb dX3_hear_116 rfl (lv_at hl 1 rfl) ?_
      refine va_get (D := (dC, dI)) (ci := 3) (v := .ref (a 9)) (C := RX3) (T := TX3) (N := 20) hx hb hts h_in3 hown hK hP 0 rfl rfl 1 (by decide) h_f78 (fun _ h9 => h9) rfl dX3_hear_117 ?_
      have hPc := hP.sub (ws' := (tm_wWay cI cZ (tm_pj [9, 10, 11, 12, 13] a) (tm_pj [9, 10, 11, 12, 13] s2))) [9, 10, 11, 12, 13] rfl
      have hDc := hD.sub (ws' := (tm_wWay cI cZ (tm_pj [9, 10, 11, 12, 13] a) (tm_pj [9, 10, 11, 12, 13] s2))) [9, 10, 11, 12, 13] (by decide) rfl
      have hFc := va_free (wc := (tm_wWay cI cZ (tm_pj [9, 10, 11, 12, 13] a) (tm_pj [9, 10, 11, 12, 13] s2))) hD hS hA [9, 10, 11, 12, 13] rfl
      refine va_calli (va_runV (As := []) (rest := [.ref (a 0)]) ⟨hx, hb, hml, hown, hts⟩ (kk_X7_first l dC dI cI cZ (tm_pj [9, 10, 11, 12, 13] a) (tm_pj [9, 10, 11, 12, 13] s2) H.size  _ hw) (cwV 0 hts gX3_hear_X7_first rfl rfl rfl (by decide +kernel) ⟨Nat.le_of_ble_eq_true rfl, Nat.le_of_ble_eq_true rfl⟩) ⟨tm_blind, va_recv hK hPc (ci := 5) (q0 := 0) rfl rfl, fun U hU hW => ⟨rfl, by rw [hU], by rw [hU]; exact hPc, va_K.moved hW.alike hK, hDc.weaken (fun _ _ _ _ => trivial)⟩⟩ rfl rfl hl.1 rfl (lv_room (Nat.le_of_ble_eq_true rfl)) dX3_hear_120 ⟨Nat.zero_le _, Nat.zero_le _⟩) hS (fun q _ h => hFc q h) hFc (fun r19 u t H1 locs ht hvm hw hB hz1 hk1 hS => ?_)
      obtain ⟨hP1, hK1, hD1⟩ := hB
      rw [ht] at hP1
      obtain ⟨hP, hD⟩ := va_join (wr := ([0, 1, 2, 3, 4, 5, 6, 7, 8, 14, 15, 16, 17, 18] : List Nat).filterMap (fun i => (tm_wModem cI cZ a s2)[i]?)) (w1 := (tm_wWay cI cZ (tm_pj [9, 10, 11, 12, 13] a) u)) hP hD [9, 10, 11, 12, 13] [0, 1, 2, 3, 4, 5, 6, 7, 8, 14, 15, 16, 17, 18] rfl rfl (by decide) (by decide) hk1 hFc hP1 hD1
      generalize H1 = H at hP hS ⊢
      obtain ⟨s20, es20⟩ : ∃ y : tm_St, y = tm_pk [9, 10, 11, 12, 13] s2 u := ⟨_, rfl⟩
      have hw := hw s20 es20
      have hP : va_P (dC, dI) vwCl (tm_wModem cI cZ a s20) H := by rw [es20]; exact hP.sub [0, 1, 2, 3, 4, 5, 6, 7, 8, 14, 15, 16, 17, 18, 9, 10, 11, 12, 13] rfl
      have hD : va_D A (tm_wModem cI cZ a s20) := by rw [es20]; exact hD.sub [0, 1, 2, 3, 4, 5, 6, 7, 8, 14, 15, 16, 17, 18, 9, 10, 11, 12, 13] (by decide) rfl
      have hPc := hP
      have hDc := hD
      have hFc := va_free (wc := (tm_wModem cI cZ a s20)) hD hS hA [0, 1, 2, 3, 4, 5, 6, 7, 8, 9, 10, 11, 12, 13, 14, 15, 16, 17, 18] rfl
      refine va_callv (va_runV (As := [.int r19]) (rest := []) ⟨hx, hb, hml, hown, hts⟩ (kk_X3_note l dC dI cI cZ a s20 H.size r19 _ hw) (cwV 1 hts gX3_hear_X3_note rfl rfl rfl (by decide +kernel) ⟨Nat.le_of_ble_eq_true rfl, Nat.le_of_ble_eq_true rfl⟩) ⟨tm_blind, va_recv hK hPc (ci := 3) (q0 := 0) rfl rfl, fun U hU hW => ⟨rfl, by rw [hU], by rw [hU]; exact hPc, va_K.moved hW.alike hK, hDc.weaken (fun _ _ _ _ => trivial)⟩⟩ rfl rfl hl.1 rfl (lv_room (Nat.le_of_ble_eq_true rfl)) dX3_hear_123 ⟨Nat.zero_le _, Nat.zero_le _⟩) hS (fun q _ h => hFc q h) hFc (fun s22 t H1 locs ht hvm hw hB hz1 hk1 hS => ?_)
      obtain ⟨hP1, hK1, hD1⟩ := hB
      rw [ht] at hP1
      obtain ⟨hP, hD⟩ := va_join (wr := []) (w1 := (tm_wModem cI cZ a s22)) hP hD [0, 1, 2, 3, 4, 5, 6, 7, 8, 9, 10, 11, 12, 13, 14, 15, 16, 17, 18] [] rfl rfl (by decide) (by decide) hk1 hFc hP1 hD1
      generalize H1 = H at hP hS ⊢
      have hP : va_P (dC, dI) vwCl (tm_wModem cI cZ a s22) H := hP
      have hD : va_D A (tm_wModem cI cZ a s22) := hD
      refine lv_goto (tgt := 177) hx hb dX3_hear_126 (by decide) ?_
      exact W.vret hx hb hr (fun t ht hW => ⟨⟨s22, rfl, hw, by rw [ht]; exact hP, va_K.moved hW.alike hK, hD⟩, hS.F ht⟩) hS.2.2 dX3_hear_177
  have hw := hw.2 c17
  refine (Classical.em ((s2 0 6) = 4)).elim (fun c23 => ?_) (fun c23 => ?_)
  · have hw := hw.1 c23
    refine lv_tableIn (tgt := 177) hx hb dX3_hear_12 (by rw [c23]; decide) (by rw [c23]; decide) (by rw [c23]; rfl) (by decide) ?_
    exact W.vret hx hb hr (fun t ht hW => ⟨⟨s2, rfl, hw, by rw [ht]; exact hP, va_K.moved hW.alike hK, hD⟩, hS.F ht⟩) hS.2.2 dX3_hear_177
  have hw := hw.2 c23
  refine (Classical.em ((s2 0 6) = 5)).elim (fun c24 => ?_) (fun c24 => ?_)
  · have hw := hw.1 c24
    refine lv_tableIn (tgt := 129) hx hb dX3_hear_12 (by rw [c24]; decide) (by rw [c24]; decide) (by rw [c24]; rfl) (by decide) ?_
    refine lv_aload_n hx hb dX3_hear_129 rfl (lv_at hl 1 rfl) ?_
    have hPc := hP
    have hDc := hD
    have hFc := va_free (wc := (tm_wModem cI cZ a s2)) hD hS hA [0, 1, 2, 3, 4, 5, 6, 7, 8, 9, 10, 11, 12, 13, 14, 15, 16, 17, 18] rfl
    refine va_callv (va_runV (As := []) (rest := []) ⟨hx, hb, hml, hown, hts⟩ (kk_X3_hearInBargain l dC dI cI cZ a s2 H.size  _ hw) (cwV 0 hts gX3_hear_X3_hearInBargain rfl rfl rfl (by decide +kernel) ⟨Nat.le_of_ble_eq_true rfl, Nat.le_of_ble_eq_true rfl⟩) ⟨tm_blind, va_recv hK hPc (ci := 3) (q0 := 0) rfl rfl, fun U hU hW => ⟨rfl, by rw [hU], by rw [hU]; exact hPc, va_K.moved hW.alike hK, hDc.weaken (fun _ _ _ _ => trivial)⟩⟩ rfl rfl hl.1 rfl (lv_room (Nat.le_of_ble_eq_true rfl)) dX3_hear_130 ⟨Nat.zero_le _, Nat.zero_le _⟩) hS (fun q _ h => hFc q h) hFc (fun s25 t H1 locs ht hvm hw hB hz1 hk1 hS => ?_)
    obtain ⟨hP1, hK1, hD1⟩ := hB
    rw [ht] at hP1
    obtain ⟨hP, hD⟩ := va_join (wr := []) (w1 := (tm_wModem cI cZ a s25)) hP hD [0, 1, 2, 3, 4, 5, 6, 7, 8, 9, 10, 11, 12, 13, 14, 15, 16, 17, 18] [] rfl rfl (by decide) (by decide) hk1 hFc hP1 hD1
    generalize H1 = H at hP hS ⊢
    have hP : va_P (dC, dI) vwCl (tm_wModem cI cZ a s25) H := hP
    have hD : va_D A (tm_wModem cI cZ a s25) := hD
    refine lv_goto (tgt := 177) hx hb dX3_hear_133 (by decide) ?_
    exact W.vret hx hb hr (fun t ht hW => ⟨⟨s25, rfl, hw, by rw [ht]; exact hP, va_K.moved hW.alike hK, hD⟩, hS.F ht⟩) hS.2.2 dX3_hear_177
  have hw := hw.2 c24
  refine (Classical.em ((s2 0 6) = 6)).elim (fun c26 => ?_) (fun c26 => ?_)
  · have hw := hw.1 c26
    refine lv_tableIn (tgt := 136) hx hb dX3_hear_12 (by rw [c26]; decide) (by rw [c26]; decide) (by rw [c26]; rfl) (by decide) ?_
    refine lv_aload_n hx hb dX3_hear_136 rfl (lv_at hl 1 rfl) ?_
    refine lv_bipush (v := 6) hx hb dX3_hear_137 (by decide) ?_
    have hPc := hP
    have hDc := hD
    have hFc := va_free (wc := (tm_wModem cI cZ a s2)) hD hS hA [0, 1, 2, 3, 4, 5, 6, 7, 8, 9, 10, 11, 12, 13, 14, 15, 16, 17, 18] rfl
    refine va_calli (va_runV (As := [.int 6]) (rest := []) ⟨hx, hb, hml, hown, hts⟩ (kk_X3_isOfRound l dC dI cI cZ a s2 H.size 6 _ hw) (cwV 1 hts gX3_hear_X3_isOfRound rfl rfl rfl (by decide +kernel) ⟨Nat.le_of_ble_eq_true rfl, Nat.le_of_ble_eq_true rfl⟩) ⟨tm_blind, va_recv hK hPc (ci := 3) (q0 := 0) rfl rfl, fun U hU hW => ⟨rfl, by rw [hU], by rw [hU]; exact hPc, va_K.moved hW.alike hK, hDc.weaken (fun _ _ _ _ => trivial)⟩⟩ rfl rfl hl.1 rfl (lv_room (Nat.le_of_ble_eq_true rfl)) dX3_hear_139 ⟨Nat.zero_le _, Nat.zero_le _⟩) hS (fun q _ h => hFc q h) hFc (fun r27 s28 t H1 locs ht hvm hw hB hz1 hk1 hS => ?_)
    obtain ⟨hP1, hK1, hD1⟩ := hB
    rw [ht] at hP1
    have b9_r27 := hw.1
    have hw := hw.2
    obtain ⟨hP, hD⟩ := va_join (wr := []) (w1 := (tm_wModem cI cZ a s28)) hP hD [0, 1, 2, 3, 4, 5, 6, 7, 8, 9, 10, 11, 12, 13, 14, 15, 16, 17, 18] [] rfl rfl (by decide) (by decide) hk1 hFc hP1 hD1
    generalize H1 = H at hP hS ⊢
    have hP : va_P (dC, dI) vwCl (tm_wModem cI cZ a s28) H := hP
    have hD : va_D A (tm_wModem cI cZ a s28) := hD
    refine lv_if_ne (tgt := 154) hx hb dX3_hear_142 (by decide) (fun c29 => ?_) (fun c29 => ?_)
    · have hw := hw.1 c29
      refine lv_aload_n hx hb dX3_hear_154 rfl (lv_at hl 1 rfl) ?_
      refine lv_bipush (v := 7) hx hb dX3_hear_155 (by decide) ?_
      have hPc := hP
      have hDc := hD
      have hFc := va_free (wc := (tm_wModem cI cZ a s28)) hD hS hA [0, 1, 2, 3, 4, 5, 6, 7, 8, 9, 10, 11, 12, 13, 14, 15, 16, 17, 18] rfl
      refine va_callv (va_runV (As := [.int 7]) (rest := []) ⟨hx, hb, hml, hown, hts⟩ (kk_X3_come l dC dI cI cZ a s28 H.size 7 _ hw) (cwV 1 hts gX3_hear_X3_come rfl rfl rfl (by decide +kernel) ⟨Nat.le_of_ble_eq_true rfl, Nat.le_of_ble_eq_true rfl⟩) ⟨tm_blind, va_recv hK hPc (ci := 3) (q0 := 0) rfl rfl, fun U hU hW => ⟨rfl, by rw [hU], by rw [hU]; exact hPc, va_K.moved hW.alike hK, hDc.weaken (fun _ _ _ _ => trivial)⟩⟩ rfl rfl hl.1 rfl (lv_room (Nat.le_of_ble_eq_true rfl)) dX3_hear_157 ⟨Nat.zero_le _, Nat.zero_le _⟩) hS (fun q _ h => hFc q h) hFc (fun s30 t H1 locs ht hvm hw hB hz1 hk1 hS => ?_)
      obtain ⟨hP1, hK1, hD1⟩ := hB
      rw [ht] at hP1
      obtain ⟨hP, hD⟩ := va_join (wr := []) (w1 := (tm_wModem cI cZ a s30)) hP hD [0, 1, 2, 3, 4, 5, 6, 7, 8, 9, 10, 11, 12, 13, 14, 15, 16, 17, 18] [] rfl rfl (by decide) (by decide) hk1 hFc hP1 hD1
      generalize H1 = H at hP hS ⊢
      have hP : va_P (dC, dI) vwCl (tm_wModem cI cZ a s30) H := hP
      have hD : va_D A (tm_wModem cI cZ a s30) := hD
      refine lv_goto (tgt := 177) hx hb dX3_hear_160 (by decide) ?_
      exact W.vret hx hb hr (fun t ht hW => ⟨⟨s30, rfl, hw, by rw [ht]; exact hP, va_K.moved hW.alike hK, hD⟩, hS.F ht⟩) hS.2.2 dX3_hear_177
    · have hw := hw.2 c29
      refine lv_aload_n hx hb dX3_hear_145 rfl (lv_at hl 1 rfl) ?_
      refine lv_bipush (v := 7) hx hb dX3_hear_146 (by decide) ?_
      have hPc := hP
      have hDc := hD
      have hFc := va_free (wc := (tm_wModem cI cZ a s28)) hD hS hA [0, 1, 2, 3, 4, 5, 6, 7, 8, 9, 10, 11, 12, 13, 14, 15, 16, 17, 18] rfl
      refine va_calli (va_runV (As := [.int 7]) (rest := []) ⟨hx, hb, hml, hown, hts⟩ (kk_X3_isOfRound l dC dI cI cZ a s28 H.size 7 _ hw) (cwV 1 hts gX3_hear_X3_isOfRound rfl rfl rfl (by decide +kernel) ⟨Nat.le_of_ble_eq_true rfl, Nat.le_of_ble_eq_true rfl⟩) ⟨tm_blind, va_recv hK hPc (ci := 3) (q0 := 0) rfl rfl, fun U hU hW => ⟨rfl, by rw [hU], by rw [hU]; exact hPc, va_K.moved hW.alike hK, hDc.weaken (fun _ _ _ _ => trivial)⟩⟩ rfl rfl hl.1 rfl (lv_room (Nat.le_of_ble_eq_true rfl)) dX3_hear_148 ⟨Nat.zero_le _, Nat.zero_le _⟩) hS (fun q _ h => hFc q h) hFc (fun r31 s32 t H1 locs ht hvm hw hB hz1 hk1 hS => ?_)
      obtain ⟨hP1, hK1, hD1⟩ := hB
      rw [ht] at hP1
      have b9_r31 := hw.1
      have hw := hw.2
      obtain ⟨hP, hD⟩ := va_join (wr := []) (w1 := (tm_wModem cI cZ a s32)) hP hD [0, 1, 2, 3, 4, 5, 6, 7, 8, 9, 10, 11, 12, 13, 14, 15, 16, 17, 18] [] rfl rfl (by decide) (by decide) hk1 hFc hP1 hD1
      generalize H1 = H at hP hS ⊢
      have hP : va_P (dC, dI) vwCl (tm_wModem cI cZ a s32) H := hP
      have hD : va_D A (tm_wModem cI cZ a s32) := hD
      refine lv_if_eq (tgt := 163) hx hb dX3_hear_151 (by decide) (fun c33 => ?_) (fun c33 => ?_)
      · have hw := hw.1 c33
        refine lv_aload_n hx hb dX3_hear_163 rfl (lv_at hl 1 rfl) ?_
        have hPc := hP
        have hDc := hD
        have hFc := va_free (wc := (tm_wModem cI cZ a s32)) hD hS hA [0, 1, 2, 3, 4, 5, 6, 7, 8, 9, 10, 11, 12, 13, 14, 15, 16, 17, 18] rfl
        refine va_callv (va_runV (As := []) (rest := []) ⟨hx, hb, hml, hown, hts⟩ (kk_X3_hearGreaterRound l dC dI cI cZ a s32 H.size  _ hw) (cwV 0 hts gX3_hear_X3_hearGreaterRound rfl rfl rfl (by decide +kernel) ⟨Nat.le_of_ble_eq_true rfl, Nat.le_of_ble_eq_true rfl⟩) ⟨tm_blind, va_recv hK hPc (ci := 3) (q0 := 0) rfl rfl, fun U hU hW => ⟨rfl, by rw [hU], by rw [hU]; exact hPc, va_K.moved hW.alike hK, hDc.weaken (fun _ _ _ _ => trivial)⟩⟩ rfl rfl hl.1 rfl (lv_room (Nat.le_of_ble_eq_true rfl)) dX3_hear_164 ⟨Nat.zero_le _, Nat.zero_le _⟩) hS (fun q _ h => hFc q h) hFc (fun s34 t H1 locs ht hvm hw hB hz1 hk1 hS => ?_)
        obtain ⟨hP1, hK1, hD1⟩ := hB
        rw [ht] at hP1
        obtain ⟨hP, hD⟩ := va_join (wr := []) (w1 := (tm_wModem cI cZ a s34)) hP hD [0, 1, 2, 3, 4, 5, 6, 7, 8, 9, 10, 11, 12, 13, 14, 15, 16, 17, 18] [] rfl rfl (by decide) (by decide) hk1 hFc hP1 hD1
        generalize H1 = H at hP hS ⊢
        have hP : va_P (dC, dI) vwCl (tm_wModem cI cZ a s34) H := hP
        have hD : va_D A (tm_wModem cI cZ a s34) := hD
        refine lv_goto (tgt := 177) hx hb dX3_hear_167 (by decide) ?_
        exact W.vret hx hb hr (fun t ht hW => ⟨⟨s34, rfl, hw, by rw [ht]; exact hP, va_K.moved hW.alike hK, hD⟩, hS.F ht⟩) hS.2.2 dX3_hear_177
      · have hw := hw.2 c33
        refine lv_aload_n hx hb dX3_hear_154 rfl (lv_at hl 1 rfl) ?_
        refine lv_bipush (v := 7) hx hb dX3_hear_155 (by decide) ?_
        have hPc := hP
        have hDc := hD
        have hFc := va_free (wc := (tm_wModem cI cZ a s32)) hD hS hA [0, 1, 2, 3, 4, 5, 6, 7, 8, 9, 10, 11, 12, 13, 14, 15, 16, 17, 18] rfl
        refine va_callv (va_runV (As := [.int 7]) (rest := []) ⟨hx, hb, hml, hown, hts⟩ (kk_X3_come l dC dI cI cZ a s32 H.size 7 _ hw) (cwV 1 hts gX3_hear_X3_come rfl rfl rfl (by decide +kernel) ⟨Nat.le_of_ble_eq_true rfl, Nat.le_of_ble_eq_true rfl⟩) ⟨tm_blind, va_recv hK hPc (ci := 3) (q0 := 0) rfl rfl, fun U hU hW => ⟨rfl, by rw [hU], by rw [hU]; exact hPc, va_K.moved hW.alike hK, hDc.weaken (fun _ _ _ _ => trivial)⟩⟩ rfl rfl hl.1 rfl (lv_room (Nat.le_of_ble_eq_true rfl)) dX3_hear_157 ⟨Nat.zero_le _, Nat.zero_le _⟩) hS (fun q _ h => hFc q h) hFc (fun s35 t H1 locs ht hvm hw hB hz1 hk1 hS => ?_)
        obtain ⟨hP1, hK1, hD1⟩ := hB
        rw [ht] at hP1
        obtain ⟨hP, hD⟩ := va_join (wr := []) (w1 := (tm_wModem cI cZ a s35)) hP hD [0, 1, 2, 3, 4, 5, 6, 7, 8, 9, 10, 11, 12, 13, 14, 15, 16, 17, 18] [] rfl rfl (by decide) (by decide) hk1 hFc hP1 hD1
        generalize H1 = H at hP hS ⊢
        have hP : va_P (dC, dI) vwCl (tm_wModem cI cZ a s35) H := hP
        have hD : va_D A (tm_wModem cI cZ a s35) := hD
        refine lv_goto (tgt := 177) hx hb dX3_hear_160 (by decide) ?_
        exact W.vret hx hb hr (fun t ht hW => ⟨⟨s35, rfl, hw, by rw [ht]; exact hP, va_K.moved hW.alike hK, hD⟩, hS.F ht⟩) hS.2.2 dX3_hear_177
  have hw := hw.2 c26
  refine (Classical.em ((s2 0 6) = 7)).elim (fun c36 => ?_) (fun c36 => ?_)
  · have hw := hw.1 c36
    refine lv_tableIn (tgt := 170) hx hb dX3_hear_12 (by rw [c36]; decide) (by rw [c36]; decide) (by rw [c36]; rfl) (by decide) ?_
    refine lv_aload_n hx hb dX3_hear_170 rfl (lv_at hl 1 rfl) ?_
    have hPc := hP
    have hDc := hD
    have hFc := va_free (wc := (tm_wModem cI cZ a s2)) hD hS hA [0, 1, 2, 3, 4, 5, 6, 7, 8, 9, 10, 11, 12, 13, 14, 15, 16, 17, 18] rfl
    refine va_callv (va_runV (As := []) (rest := []) ⟨hx, hb, hml, hown, hts⟩ (kk_X3_hearInData l dC dI cI cZ a s2 H.size  _ hw) (cwV 0 hts gX3_hear_X3_hearInData rfl rfl rfl (by decide +kernel) ⟨Nat.le_of_ble_eq_true rfl, Nat.le_of_ble_eq_true rfl⟩) ⟨tm_blind, va_recv hK hPc (ci := 3) (q0 := 0) rfl rfl, fun U hU hW => ⟨rfl, by rw [hU], by rw [hU]; exact hPc, va_K.moved hW.alike hK, hDc.weaken (fun _ _ _ _ => trivial)⟩⟩ rfl rfl hl.1 rfl (lv_room (Nat.le_of_ble_eq_true rfl)) dX3_hear_171 ⟨Nat.zero_le _, Nat.zero_le _⟩) hS (fun q _ h => hFc q h) hFc (fun s37 t H1 locs ht hvm hw hB hz1 hk1 hS => ?_)
    obtain ⟨hP1, hK1, hD1⟩ := hB
    rw [ht] at hP1
    obtain ⟨hP, hD⟩ := va_join (wr := []) (w1 := (tm_wModem cI cZ a s37)) hP hD [0, 1, 2, 3, 4, 5, 6, 7, 8, 9, 10, 11, 12, 13, 14, 15, 16, 17, 18] [] rfl rfl (by decide) (by decide) hk1 hFc hP1 hD1
    generalize H1 = H at hP hS ⊢
    have hP : va_P (dC, dI) vwCl (tm_wModem cI cZ a s37) H := hP
    have hD : va_D A (tm_wModem cI cZ a s37) := hD
    refine lv_goto (tgt := 177) hx hb dX3_hear_174 (by decide) ?_
    exact W.vret hx hb hr (fun t ht hW => ⟨⟨s37, rfl, hw, by rw [ht]; exact hP, va_K.moved hW.alike hK, hD⟩, hS.F ht⟩) hS.2.2 dX3_hear_177
  have hw := hw.2 c36
  have nc4 := lv_neT (a := 0) c4 rfl
  have nc7 := lv_neT (a := 1) c7 rfl
  have nc10 := lv_neT (a := 2) c10 rfl
  have nc17 := lv_neT (a := 3) c17 rfl
  have nc23 := lv_neT (a := 4) c23 rfl
  have nc24 := lv_neT (a := 5) c24 rfl
  have nc26 := lv_neT (a := 6) c26 rfl
  have nc36 := lv_neT (a := 7) c36 rfl
  refine lv_tableOut (tgt := 177) hx hb dX3_hear_12 (by omega) (by decide) ?_
  exact W.vret hx hb hr (fun t ht hW => ⟨⟨s2, rfl, hw, by rw [ht]; exact hP, va_K.moved hW.alike hK, hD⟩, hS.F ht⟩) hS.2.2 dX3_hear_177
def wp_X3_live_82 (K : tm_St → Prop) (v1 : Int32) (v2 : Int32) (s : tm_St) : Prop := ((v2 = 0 → (∀ s10 : tm_St, s10 = tm_s s 0 (tm_u (s 0) 9 0) → (wp_X3_speak (v1 + (s10 8 2)) s10 (fun s11 => (∀ s12 : tm_St, s12 = tm_s s11 0 (tm_u (s11 0) 8 ((s11 0 8) + 1)) → K s12))))) ∧ (¬ v2 = 0 → (wp_X7_sort  (tm_pj [9, 10, 11, 12, 13] s) (fun r13 u15 => ∀ s14 : tm_St, s14 = tm_pk [9, 10, 11, 12, 13] s u15 → ((¬ r13 = 0 → (∀ s17 : tm_St, s17 = tm_s s14 0 (tm_u (s14 0) 9 0) → (wp_X3_speak (v1 + (s17 8 2)) s17 (fun s18 => (∀ s19 : tm_St, s19 = tm_s s18 0 (tm_u (s18 0) 8 ((s18 0 8) + 1)) → K s19))))) ∧ (r13 = 0 → (∀ s20 : tm_St, s20 = tm_s s14 0 (tm_u (s14 0) 9 ((s14 0 9) + 1)) → (wp_X3_speak (v1 + (s20 8 2)) s20 (fun s21 => (∀ s22 : tm_St, s22 = tm_s s21 0 (tm_u (s21 0) 8 ((s21 0 8) + 1)) → K s22))))))))))
def wp_X3_live_14 (K : tm_St → Prop) (v1 : Int32) (t0 : Int32) (s : tm_St) : Prop := (∀ x2 : Int32, x2 = (s 0 7) → (∀ x3 : Int32, x3 = (s 4 4) → (wp_X7_bring v1 (tm_pj [9, 10, 11, 12, 13] s) (fun u5 => ∀ s4 : tm_St, s4 = tm_pk [9, 10, 11, 12, 13] s u5 → (wp_X3_surrender  s4 (fun s6 => ((¬ (s6 0 7) = x2 → ((¬ (s6 0 7) = x2 → wp_X3_live_82 K v1 t0 s6) ∧ ((s6 0 7) = x2 → (((s6 4 4) ≤ x3 → (wp_X3_look 0 s6 (fun s24 => wp_X3_live_82 K v1 t0 s24))) ∧ (¬ (s6 4 4) ≤ x3 → (wp_X3_look 1 s6 (fun s25 => wp_X3_live_82 K v1 t0 s25))))))) ∧ ((s6 0 7) = x2 → (wp_X3_hear  s6 (fun s26 => ((¬ (s26 0 7) = x2 → wp_X3_live_82 K v1 t0 s26) ∧ ((s26 0 7) = x2 → (((s26 4 4) ≤ x3 → (wp_X3_look 0 s26 (fun s29 => wp_X3_live_82 K v1 t0 s29))) ∧ (¬ (s26 4 4) ≤ x3 → (wp_X3_look 1 s26 (fun s30 => wp_X3_live_82 K v1 t0 s30))))))))))))))))
def wp_X3_live (p0 : Int32) (s0 : tm_St) (K : tm_St → Prop) : Prop := ((¬ (s0 0 6) = 7 → wp_X3_live_14 K p0 0 s0) ∧ ((s0 0 6) = 7 → wp_X3_live_14 K p0 1 s0))
set_option maxRecDepth 100000 in
set_option maxHeartbeats 4000000 in
theorem kk_X3_live (l : Launch) (dC : Nat → ClassId) (dI : Nat → Nat → Nat) (cI cZ : ClassId) (a : Nat → Nat) (s0 : tm_St) (sz : Nat) (p0 : Int32) (K : tm_St → Prop) (hw : wp_X3_live p0 s0 K) : Met l yX3_live wsX3_live ({ frames := 5, cells := 0, slots := 0, locals := 105 }) (va_Pc [.ref (a 0), .int p0] (tm_Pre dC dI cI cZ (tm_wModem cI cZ a s0) sz)) (va_Qv (fun (u : tm_St) => K u) (fun (u : tm_St) t => tm_At dC dI cI cZ (va_A (tm_wModem cI cZ a s0) sz) (tm_wModem cI cZ a u) t) (va_A (tm_wModem cI cZ a s0) sz)) 0 0 (va_A (tm_wModem cI cZ a s0) sz) := by
  refine Met.ofW (cc := cX3_live) (maxL := 5) (ret := none) (by decide +kernel) rfl ?_
  intro p e z m args below meth c z₁ B hml hv
  obtain ⟨rfl, hsz, hP, hK, hD0⟩ := hv
  have hx := B.exec
  have hb := B.bytes
  have hr := B.returns
  have hts := atoms_spec (ws := wsX3_live) B.pre
  have hown : z.vm.findClass RX3 = some m.cls := findClass_of_methodNamed B.named
  have hlocks := B.notSynchronized
  subst hsz
  have hD := hD0.self (sz := z.heap.size)
  generalize hAe : va_A (tm_wModem cI cZ a s0) z.heap.size = A at hD ⊢
  have hA : ∀ q : Nat, z.heap.size ≤ q → A q := fun q h => by rw [← hAe]; exact Or.inr h
  have hS : va_S A z.heap z.heap [] := va_S.rf
  have h_f31 := hts (.fieldLink RX3 31 "TwoModems$Modem" "phase" "I") (by decide +kernel)
  have h_in3 : ∀ w ∈ u_ws RX3 TX3 20, w ∈ wsX3_live := by decide +kernel
  have h_f35 := hts (.fieldLink RX3 35 "TwoModems$Modem" "changes" "I") (by decide +kernel)
  have h_f21 := hts (.fieldLink RX3 21 "TwoModems$Modem" "mail" "LTwoModems$Mail;") (by decide +kernel)
  have h_f91 := hts (.fieldLink RX3 91 "TwoModems$Mail" "told" "I") (by decide +kernel)
  have h_in2 : ∀ w ∈ u_ws RX2 TX2 8, w ∈ wsX3_live := by decide +kernel
  have h_f78 := hts (.fieldLink RX3 78 "TwoModems$Modem" "in" "LTwoModems$Way;") (by decide +kernel)
  have h_f41 := hts (.fieldLink RX3 41 "TwoModems$Modem" "silences" "I") (by decide +kernel)
  have h_f74 := hts (.fieldLink RX3 74 "TwoModems$Modem" "line" "LTwoModems$Line;") (by decide +kernel)
  have h_f117 := hts (.fieldLink RX3 117 "TwoModems$Line" "delay" "I") (by decide +kernel)
  have h_in1 : ∀ w ∈ u_ws RX1 TX1 4, w ∈ wsX3_live := by decide +kernel
  have h_f38 := hts (.fieldLink RX3 38 "TwoModems$Modem" "lasted" "I") (by decide +kernel)
  have b82 : ∀ (v1 : Int32) (v2 : Int32) (s : tm_St) (H : Heap) (locs : List Loc) (ls : Array Slot), wp_X3_live_82 K v1 v2 s → va_P (dC, dI) vwCl (tm_wModem cI cZ a s) H → va_D A (tm_wModem cI cZ a s) → va_S A z.heap H locs → lv_has ls 5 [(0, .ref (a 0)), (1, .int v1), (2, .int v2)] → W p l e (headSpec wsX3_live ({ frames := 5, cells := 0, slots := 0, locals := 105 })).room z m (([.ref (a 0), .int p0] : List Value).toArray) below meth c H locs 0 0 (MQ below (va_Qv (fun (u : tm_St) => K u) (fun (u : tm_St) t => tm_At dC dI cI cZ A (tm_wModem cI cZ a u) t) A) (([.ref (a 0), .int p0] : List Value).toArray) z 0 0 A) (F0 m 82 ls []) := by
    intro v1 v2 s H locs ls hw hP hD hS hl
    unfold wp_X3_live_82 at hw
    refine lv_aload_n hx hb dX3_live_82 rfl (lv_at hl 0 rfl) ?_
    refine lv_iload_n hx hb dX3_live_83 rfl (lv_at hl 2 rfl) ?_
    refine lv_if_eq (tgt := 106) hx hb dX3_live_84 (by decide) (fun c9 => ?_) (fun c9 => ?_)
    · have hw := hw.1 c9
      refine lv_iconst (v := 0) hx hb dX3_live_106 (by decide) ?_
      refine va_put (D := (dC, dI)) (ci := 3) (v := .int 0) (ty := .int) (C := RX3) (T := TX3) (N := 20) hx hb hts h_in3 tyX3 tyX3_ok nmX3 hown hK hP hD hS 0 rfl rfl 9 (by decide) h_f41 (fun _ h9 => h9) rfl (by decide +kernel) rfl rfl (Nat.le_of_ble_eq_true rfl) dX3_live_107 (fun H locs hP hD hS => ?_)
      obtain ⟨s10, es10⟩ : ∃ y : tm_St, y = tm_s s 0 (tm_u (s 0) 9 0) := ⟨_, rfl⟩
      have hw := hw s10 es10
      have hP : va_P (dC, dI) vwCl (tm_wModem cI cZ a s10) H := by rw [es10]; exact hP
      have hD : va_D A (tm_wModem cI cZ a s10) := by rw [es10]; exact hD
      refine lv_aload_n hx hb dX3_live_110 rfl (lv_at hl 0 rfl) ?_
      refine lv_iload_n hx hb dX3_live_111 rfl (lv_at hl 1 rfl) ?_
      refine lv_aload_n hx hb dX3_live_112 rfl (lv_at hl 0 rfl) ?_
      refine va_get (D := (dC, dI)) (ci := 3) (v := .ref (a 8)) (C := RX3) (T := TX3) (N := 20) hx hb hts h_in3 hown hK hP 0 rfl rfl 0 (by decide) h_f74 (fun _ h9 => h9) rfl dX3_live_113 ?_
      refine va_get (D := (dC, dI)) (ci := 1) (v := .int (s10 8 2)) (C := RX1) (T := TX1) (N := 4) hx hb hts h_in1 hown hK hP 8 rfl rfl 2 (by decide) h_f117 (fun _ h9 => h9) rfl dX3_live_116 ?_
      refine lv_iadd hx hb dX3_live_119 ?_
      have hPc := hP
      have hDc := hD
      have hFc := va_free (wc := (tm_wModem cI cZ a s10)) hD hS hA [0, 1, 2, 3, 4, 5, 6, 7, 8, 9, 10, 11, 12, 13, 14, 15, 16, 17, 18] rfl
      refine va_callv (va_runV (As := [.int (v1 + (s10 8 2))]) (rest := []) ⟨hx, hb, hml, hown, hts⟩ (kk_X3_speak l dC dI cI cZ a s10 H.size (v1 + (s10 8 2)) _ hw) (cwV 1 hts gX3_live_X3_speak rfl rfl rfl (by decide +kernel) ⟨Nat.le_of_ble_eq_true rfl, Nat.le_of_ble_eq_true rfl⟩) ⟨tm_blind, va_recv hK hPc (ci := 3) (q0 := 0) rfl rfl, fun U hU hW => ⟨rfl, by rw [hU], by rw [hU]; exact hPc, va_K.moved hW.alike hK, hDc.weaken (fun _ _ _ _ => trivial)⟩⟩ rfl rfl hl.1 rfl (lv_room (Nat.le_of_ble_eq_true rfl)) dX3_live_120 ⟨Nat.zero_le _, Nat.zero_le _⟩) hS (fun q _ h => hFc q h) hFc (fun s11 t H1 locs ht hvm hw hB hz1 hk1 hS => ?_)
      obtain ⟨hP1, hK1, hD1⟩ := hB
      rw [ht] at hP1
      obtain ⟨hP, hD⟩ := va_join (wr := []) (w1 := (tm_wModem cI cZ a s11)) hP hD [0, 1, 2, 3, 4, 5, 6, 7, 8, 9, 10, 11, 12, 13, 14, 15, 16, 17, 18] [] rfl rfl (by decide) (by decide) hk1 hFc hP1 hD1
      generalize H1 = H at hP hS ⊢
      have hP : va_P (dC, dI) vwCl (tm_wModem cI cZ a s11) H := hP
      have hD : va_D A (tm_wModem cI cZ a s11) := hD
      refine lv_aload_n hx hb dX3_live_123 rfl (lv_at hl 0 rfl) ?_
      refine lv_dup hx hb dX3_live_124 rfl ?_
      refine va_get (D := (dC, dI)) (ci := 3) (v := .int (s11 0 8)) (C := RX3) (T := TX3) (N := 20) hx hb hts h_in3 hown hK hP 0 rfl rfl 8 (by decide) h_f38 (fun _ h9 => h9) rfl dX3_live_125 ?_
      refine lv_iconst (v := 1) hx hb dX3_live_128 (by decide) ?_
      refine lv_iadd hx hb dX3_live_129 ?_
      refine va_put (D := (dC, dI)) (ci := 3) (v := .int ((s11 0 8) + 1)) (ty := .int) (C := RX3) (T := TX3) (N := 20) hx hb hts h_in3 tyX3 tyX3_ok nmX3 hown hK hP hD hS 0 rfl rfl 8 (by decide) h_f38 (fun _ h9 => h9) rfl (by decide +kernel) rfl rfl (Nat.le_of_ble_eq_true rfl) dX3_live_130 (fun H locs hP hD hS => ?_)
      obtain ⟨s12, es12⟩ : ∃ y : tm_St, y = tm_s s11 0 (tm_u (s11 0) 8 ((s11 0 8) + 1)) := ⟨_, rfl⟩
      have hw := hw s12 es12
      have hP : va_P (dC, dI) vwCl (tm_wModem cI cZ a s12) H := by rw [es12]; exact hP
      have hD : va_D A (tm_wModem cI cZ a s12) := by rw [es12]; exact hD
      exact W.vret hx hb hr (fun t ht hW => ⟨⟨s12, rfl, hw, by rw [ht]; exact hP, va_K.moved hW.alike hK, hD⟩, hS.F ht⟩) hS.2.2 dX3_live_133
    · have hw := hw.2 c9
      refine lv_aload_n hx hb dX3_live_87 rfl (lv_at hl 0 rfl) ?_
      refine va_get (D := (dC, dI)) (ci := 3) (v := .ref (a 9)) (C := RX3) (T := TX3) (N := 20) hx hb hts h_in3 hown hK hP 0 rfl rfl 1 (by decide) h_f78 (fun _ h9 => h9) rfl dX3_live_88 ?_
      have hPc := hP.sub (ws' := (tm_wWay cI cZ (tm_pj [9, 10, 11, 12, 13] a) (tm_pj [9, 10, 11, 12, 13] s))) [9, 10, 11, 12, 13] rfl
      have hDc := hD.sub (ws' := (tm_wWay cI cZ (tm_pj [9, 10, 11, 12, 13] a) (tm_pj [9, 10, 11, 12, 13] s))) [9, 10, 11, 12, 13] (by decide) rfl
      have hFc := va_free (wc := (tm_wWay cI cZ (tm_pj [9, 10, 11, 12, 13] a) (tm_pj [9, 10, 11, 12, 13] s))) hD hS hA [9, 10, 11, 12, 13] rfl
      refine va_calli (va_runV (As := []) (rest := [.ref (a 0)]) ⟨hx, hb, hml, hown, hts⟩ (kk_X7_sort l dC dI cI cZ (tm_pj [9, 10, 11, 12, 13] a) (tm_pj [9, 10, 11, 12, 13] s) H.size  _ hw) (cwV 0 hts gX3_live_X7_sort rfl rfl rfl (by decide +kernel) ⟨Nat.le_of_ble_eq_true rfl, Nat.le_of_ble_eq_true rfl⟩) ⟨tm_blind, va_recv hK hPc (ci := 5) (q0 := 0) rfl rfl, fun U hU hW => ⟨rfl, by rw [hU], by rw [hU]; exact hPc, va_K.moved hW.alike hK, hDc.weaken (fun _ _ _ _ => trivial)⟩⟩ rfl rfl hl.1 rfl (lv_room (Nat.le_of_ble_eq_true rfl)) dX3_live_91 ⟨Nat.zero_le _, Nat.zero_le _⟩) hS (fun q _ h => hFc q h) hFc (fun r13 u t H1 locs ht hvm hw hB hz1 hk1 hS => ?_)
      obtain ⟨hP1, hK1, hD1⟩ := hB
      rw [ht] at hP1
      obtain ⟨hP, hD⟩ := va_join (wr := ([0, 1, 2, 3, 4, 5, 6, 7, 8, 14, 15, 16, 17, 18] : List Nat).filterMap (fun i => (tm_wModem cI cZ a s)[i]?)) (w1 := (tm_wWay cI cZ (tm_pj [9, 10, 11, 12, 13] a) u)) hP hD [9, 10, 11, 12, 13] [0, 1, 2, 3, 4, 5, 6, 7, 8, 14, 15, 16, 17, 18] rfl rfl (by decide) (by decide) hk1 hFc hP1 hD1
      generalize H1 = H at hP hS ⊢
      obtain ⟨s14, es14⟩ : ∃ y : tm_St, y = tm_pk [9, 10, 11, 12, 13] s u := ⟨_, rfl⟩
      have hw := hw s14 es14
      have hP : va_P (dC, dI) vwCl (tm_wModem cI cZ a s14) H := by rw [es14]; exact hP.sub [0, 1, 2, 3, 4, 5, 6, 7, 8, 14, 15, 16, 17, 18, 9, 10, 11, 12, 13] rfl
      have hD : va_D A (tm_wModem cI cZ a s14) := by rw [es14]; exact hD.sub [0, 1, 2, 3, 4, 5, 6, 7, 8, 14, 15, 16, 17, 18, 9, 10, 11, 12, 13] (by decide) rfl
      refine lv_if_ne (tgt := 106) hx hb dX3_live_94 (by decide) (fun c16 => ?_) (fun c16 => ?_)
      · have hw := hw.1 c16
        refine lv_iconst (v := 0) hx hb dX3_live_106 (by decide) ?_
        refine va_put (D := (dC, dI)) (ci := 3) (v := .int 0) (ty := .int) (C := RX3) (T := TX3) (N := 20) hx hb hts h_in3 tyX3 tyX3_ok nmX3 hown hK hP hD hS 0 rfl rfl 9 (by decide) h_f41 (fun _ h9 => h9) rfl (by decide +kernel) rfl rfl (Nat.le_of_ble_eq_true rfl) dX3_live_107 (fun H locs hP hD hS => ?_)
        obtain ⟨s17, es17⟩ : ∃ y : tm_St, y = tm_s s14 0 (tm_u (s14 0) 9 0) := ⟨_, rfl⟩
        have hw := hw s17 es17
        have hP : va_P (dC, dI) vwCl (tm_wModem cI cZ a s17) H := by rw [es17]; exact hP
        have hD : va_D A (tm_wModem cI cZ a s17) := by rw [es17]; exact hD
        refine lv_aload_n hx hb dX3_live_110 rfl (lv_at hl 0 rfl) ?_
        refine lv_iload_n hx hb dX3_live_111 rfl (lv_at hl 1 rfl) ?_
        refine lv_aload_n hx hb dX3_live_112 rfl (lv_at hl 0 rfl) ?_
        refine va_get (D := (dC, dI)) (ci := 3) (v := .ref (a 8)) (C := RX3) (T := TX3) (N := 20) hx hb hts h_in3 hown hK hP 0 rfl rfl 0 (by decide) h_f74 (fun _ h9 => h9) rfl dX3_live_113 ?_
        refine va_get (D := (dC, dI)) (ci := 1) (v := .int (s17 8 2)) (C := RX1) (T := TX1) (N := 4) hx hb hts h_in1 hown hK hP 8 rfl rfl 2 (by decide) h_f117 (fun _ h9 => h9) rfl dX3_live_116 ?_
        refine lv_iadd hx hb dX3_live_119 ?_
        have hPc := hP
        have hDc := hD
        have hFc := va_free (wc := (tm_wModem cI cZ a s17)) hD hS hA [0, 1, 2, 3, 4, 5, 6, 7, 8, 9, 10, 11, 12, 13, 14, 15, 16, 17, 18] rfl
        refine va_callv (va_runV (As := [.int (v1 + (s17 8 2))]) (rest := []) ⟨hx, hb, hml, hown, hts⟩ (kk_X3_speak l dC dI cI cZ a s17 H.size (v1 + (s17 8 2)) _ hw) (cwV 1 hts gX3_live_X3_speak rfl rfl rfl (by decide +kernel) ⟨Nat.le_of_ble_eq_true rfl, Nat.le_of_ble_eq_true rfl⟩) ⟨tm_blind, va_recv hK hPc (ci := 3) (q0 := 0) rfl rfl, fun U hU hW => ⟨rfl, by rw [hU], by rw [hU]; exact hPc, va_K.moved hW.alike hK, hDc.weaken (fun _ _ _ _ => trivial)⟩⟩ rfl rfl hl.1 rfl (lv_room (Nat.le_of_ble_eq_true rfl)) dX3_live_120 ⟨Nat.zero_le _, Nat.zero_le _⟩) hS (fun q _ h => hFc q h) hFc (fun s18 t H1 locs ht hvm hw hB hz1 hk1 hS => ?_)
        obtain ⟨hP1, hK1, hD1⟩ := hB
        rw [ht] at hP1
        obtain ⟨hP, hD⟩ := va_join (wr := []) (w1 := (tm_wModem cI cZ a s18)) hP hD [0, 1, 2, 3, 4, 5, 6, 7, 8, 9, 10, 11, 12, 13, 14, 15, 16, 17, 18] [] rfl rfl (by decide) (by decide) hk1 hFc hP1 hD1
        generalize H1 = H at hP hS ⊢
        have hP : va_P (dC, dI) vwCl (tm_wModem cI cZ a s18) H := hP
        have hD : va_D A (tm_wModem cI cZ a s18) := hD
        refine lv_aload_n hx hb dX3_live_123 rfl (lv_at hl 0 rfl) ?_
        refine lv_dup hx hb dX3_live_124 rfl ?_
        refine va_get (D := (dC, dI)) (ci := 3) (v := .int (s18 0 8)) (C := RX3) (T := TX3) (N := 20) hx hb hts h_in3 hown hK hP 0 rfl rfl 8 (by decide) h_f38 (fun _ h9 => h9) rfl dX3_live_125 ?_
        refine lv_iconst (v := 1) hx hb dX3_live_128 (by decide) ?_
        refine lv_iadd hx hb dX3_live_129 ?_
        refine va_put (D := (dC, dI)) (ci := 3) (v := .int ((s18 0 8) + 1)) (ty := .int) (C := RX3) (T := TX3) (N := 20) hx hb hts h_in3 tyX3 tyX3_ok nmX3 hown hK hP hD hS 0 rfl rfl 8 (by decide) h_f38 (fun _ h9 => h9) rfl (by decide +kernel) rfl rfl (Nat.le_of_ble_eq_true rfl) dX3_live_130 (fun H locs hP hD hS => ?_)
        obtain ⟨s19, es19⟩ : ∃ y : tm_St, y = tm_s s18 0 (tm_u (s18 0) 8 ((s18 0 8) + 1)) := ⟨_, rfl⟩
        have hw := hw s19 es19
        have hP : va_P (dC, dI) vwCl (tm_wModem cI cZ a s19) H := by rw [es19]; exact hP
        have hD : va_D A (tm_wModem cI cZ a s19) := by rw [es19]; exact hD
        exact W.vret hx hb hr (fun t ht hW => ⟨⟨s19, rfl, hw, by rw [ht]; exact hP, va_K.moved hW.alike hK, hD⟩, hS.F ht⟩) hS.2.2 dX3_live_133
      · have hw := hw.2 c16
        refine lv_aload_n hx hb dX3_live_97 rfl (lv_at hl 0 rfl) ?_
        refine va_get (D := (dC, dI)) (ci := 3) (v := .int (s14 0 9)) (C := RX3) (T := TX3) (N := 20) hx hb hts h_in3 hown hK hP 0 rfl rfl 9 (by decide) h_f41 (fun _ h9 => h9) rfl dX3_live_98 ?_
        refine lv_iconst (v := 1) hx hb dX3_live_101 (by decide) ?_
        refine lv_iadd hx hb dX3_live_102 ?_
        refine lv_goto (tgt := 107) hx hb dX3_live_103 (by decide) ?_
        refine va_put (D := (dC, dI)) (ci := 3) (v := .int ((s14 0 9) + 1)) (ty := .int) (C := RX3) (T := TX3) (N := 20) hx hb hts h_in3 tyX3 tyX3_ok nmX3 hown hK hP hD hS 0 rfl rfl 9 (by decide) h_f41 (fun _ h9 => h9) rfl (by decide +kernel) rfl rfl (Nat.le_of_ble_eq_true rfl) dX3_live_107 (fun H locs hP hD hS => ?_)
        obtain ⟨s20, es20⟩ : ∃ y : tm_St, y = tm_s s14 0 (tm_u (s14 0) 9 ((s14 0 9) + 1)) := ⟨_, rfl⟩
        have hw := hw s20 es20
        have hP : va_P (dC, dI) vwCl (tm_wModem cI cZ a s20) H := by rw [es20]; exact hP
        have hD : va_D A (tm_wModem cI cZ a s20) := by rw [es20]; exact hD
        refine lv_aload_n hx hb dX3_live_110 rfl (lv_at hl 0 rfl) ?_
        refine lv_iload_n hx hb dX3_live_111 rfl (lv_at hl 1 rfl) ?_
        refine lv_aload_n hx hb dX3_live_112 rfl (lv_at hl 0 rfl) ?_
        refine va_get (D := (dC, dI)) (ci := 3) (v := .ref (a 8)) (C := RX3) (T := TX3) (N := 20) hx hb hts h_in3 hown hK hP 0 rfl rfl 0 (by decide) h_f74 (fun _ h9 => h9) rfl dX3_live_113 ?_
        refine va_get (D := (dC, dI)) (ci := 1) (v := .int (s20 8 2)) (C := RX1) (T := TX1) (N := 4) hx hb hts h_in1 hown hK hP 8 rfl rfl 2 (by decide) h_f117 (fun _ h9 => h9) rfl dX3_live_116 ?_
        refine lv_iadd hx hb dX3_live_119 ?_
        have hPc := hP
        have hDc := hD
        have hFc := va_free (wc := (tm_wModem cI cZ a s20)) hD hS hA [0, 1, 2, 3, 4, 5, 6, 7, 8, 9, 10, 11, 12, 13, 14, 15, 16, 17, 18] rfl
        refine va_callv (va_runV (As := [.int (v1 + (s20 8 2))]) (rest := []) ⟨hx, hb, hml, hown, hts⟩ (kk_X3_speak l dC dI cI cZ a s20 H.size (v1 + (s20 8 2)) _ hw) (cwV 1 hts gX3_live_X3_speak rfl rfl rfl (by decide +kernel) ⟨Nat.le_of_ble_eq_true rfl, Nat.le_of_ble_eq_true rfl⟩) ⟨tm_blind, va_recv hK hPc (ci := 3) (q0 := 0) rfl rfl, fun U hU hW => ⟨rfl, by rw [hU], by rw [hU]; exact hPc, va_K.moved hW.alike hK, hDc.weaken (fun _ _ _ _ => trivial)⟩⟩ rfl rfl hl.1 rfl (lv_room (Nat.le_of_ble_eq_true rfl)) dX3_live_120 ⟨Nat.zero_le _, Nat.zero_le _⟩) hS (fun q _ h => hFc q h) hFc (fun s21 t H1 locs ht hvm hw hB hz1 hk1 hS => ?_)
        obtain ⟨hP1, hK1, hD1⟩ := hB
        rw [ht] at hP1
        obtain ⟨hP, hD⟩ := va_join (wr := []) (w1 := (tm_wModem cI cZ a s21)) hP hD [0, 1, 2, 3, 4, 5, 6, 7, 8, 9, 10, 11, 12, 13, 14, 15, 16, 17, 18] [] rfl rfl (by decide) (by decide) hk1 hFc hP1 hD1
        generalize H1 = H at hP hS ⊢
        have hP : va_P (dC, dI) vwCl (tm_wModem cI cZ a s21) H := hP
        have hD : va_D A (tm_wModem cI cZ a s21) := hD
        refine lv_aload_n hx hb dX3_live_123 rfl (lv_at hl 0 rfl) ?_
        refine lv_dup hx hb dX3_live_124 rfl ?_
        refine va_get (D := (dC, dI)) (ci := 3) (v := .int (s21 0 8)) (C := RX3) (T := TX3) (N := 20) hx hb hts h_in3 hown hK hP 0 rfl rfl 8 (by decide) h_f38 (fun _ h9 => h9) rfl dX3_live_125 ?_
        refine lv_iconst (v := 1) hx hb dX3_live_128 (by decide) ?_
        refine lv_iadd hx hb dX3_live_129 ?_
        refine va_put (D := (dC, dI)) (ci := 3) (v := .int ((s21 0 8) + 1)) (ty := .int) (C := RX3) (T := TX3) (N := 20) hx hb hts h_in3 tyX3 tyX3_ok nmX3 hown hK hP hD hS 0 rfl rfl 8 (by decide) h_f38 (fun _ h9 => h9) rfl (by decide +kernel) rfl rfl (Nat.le_of_ble_eq_true rfl) dX3_live_130 (fun H locs hP hD hS => ?_)
        obtain ⟨s22, es22⟩ : ∃ y : tm_St, y = tm_s s21 0 (tm_u (s21 0) 8 ((s21 0 8) + 1)) := ⟨_, rfl⟩
        have hw := hw s22 es22
        have hP : va_P (dC, dI) vwCl (tm_wModem cI cZ a s22) H := by rw [es22]; exact hP
        have hD : va_D A (tm_wModem cI cZ a s22) := by rw [es22]; exact hD
        exact W.vret hx hb hr (fun t ht hW => ⟨⟨s22, rfl, hw, by rw [ht]; exact hP, va_K.moved hW.alike hK, hD⟩, hS.F ht⟩) hS.2.2 dX3_live_133
  have b14 : ∀ (v1 : Int32) (t0 : Int32) (s : tm_St) (H : Heap) (locs : List Loc) (ls : Array Slot), wp_X3_live_14 K v1 t0 s → va_P (dC, dI) vwCl (tm_wModem cI cZ a s) H → va_D A (tm_wModem cI cZ a s) → va_S A z.heap H locs → lv_has ls 5 [(0, .ref (a 0)), (1, .int v1)] → W p l e (headSpec wsX3_live ({ frames := 5, cells := 0, slots := 0, locals := 105 })).room z m (([.ref (a 0), .int p0] : List Value).toArray) below meth c H locs 0 0 (MQ below (va_Qv (fun (u : tm_St) => K u) (fun (u : tm_St) t => tm_At dC dI cI cZ A (tm_wModem cI cZ a u) t) A) (([.ref (a 0), .int p0] : List Value).toArray) z 0 0 A) (F0 m 14 ls [.int t0]) := by
    intro v1 t0 s H locs ls hw hP hD hS hl
    unfold wp_X3_live_14 at hw
    refine lv_istore_n (lv' := [(2, .int t0), (0, .ref (a 0)), (1, .int v1)]) hx hb dX3_live_14 rfl hl (by decide) rfl (fun ls hl => ?_)
    refine lv_aload_n hx hb dX3_live_15 rfl (lv_at hl 1 rfl) ?_
    refine va_get (D := (dC, dI)) (ci := 3) (v := .int (s 0 7)) (C := RX3) (T := TX3) (N := 20) hx hb hts h_in3 hown hK hP 0 rfl rfl 7 (by decide) h_f35 (fun _ h9 => h9) rfl dX3_live_16 ?_
    refine lv_topi (fun x2 ex2 => ?_)
    have hw := hw x2 ex2
    refine lv_istore_n (lv' := [(3, .int x2), (2, .int t0), (0, .ref (a 0)), (1, .int v1)]) hx hb dX3_live_19 rfl hl (by decide) rfl (fun ls hl => ?_)
    refine lv_aload_n hx hb dX3_live_20 rfl (lv_at hl 2 rfl) ?_
    refine va_get (D := (dC, dI)) (ci := 3) (v := .ref (a 4)) (C := RX3) (T := TX3) (N := 20) hx hb hts h_in3 hown hK hP 0 rfl rfl 4 (by decide) h_f21 (fun _ h9 => h9) rfl dX3_live_21 ?_
    refine va_get (D := (dC, dI)) (ci := 2) (v := .int (s 4 4)) (C := RX2) (T := TX2) (N := 8) hx hb hts h_in2 hown hK hP 4 rfl rfl 4 (by decide) h_f91 (fun _ h9 => h9) rfl dX3_live_24 ?_
    refine lv_topi (fun x3 ex3 => ?_)
    have hw := hw x3 ex3
    refine lv_istore (lv' := [(4, .int x3), (3, .int x2), (2, .int t0), (0, .ref (a 0)), (1, .int v1)]) hx hb dX3_live_27 hl (by decide) rfl (fun ls hl => ?_)
    refine lv_aload_n hx hb dX3_live_29 rfl (lv_at hl 3 rfl) ?_
    refine va_get (D := (dC, dI)) (ci := 3) (v := .ref (a 9)) (C := RX3) (T := TX3) (N := 20) hx hb hts h_in3 hown hK hP 0 rfl rfl 1 (by decide) h_f78 (fun _ h9 => h9) rfl dX3_live_30 ?_
    refine lv_iload_n hx hb dX3_live_33 rfl (lv_at hl 4 rfl) ?_
    have hPc := hP.sub (ws' := (tm_wWay cI cZ (tm_pj [9, 10, 11, 12, 13] a) (tm_pj [9, 10, 11, 12, 13] s))) [9, 10, 11, 12, 13] rfl
    have hDc := hD.sub (ws' := (tm_wWay cI cZ (tm_pj [9, 10, 11, 12, 13] a) (tm_pj [9, 10, 11, 12, 13] s))) [9, 10, 11, 12, 13] (by decide) rfl
    have hFc := va_free (wc := (tm_wWay cI cZ (tm_pj [9, 10, 11, 12, 13] a) (tm_pj [9, 10, 11, 12, 13] s))) hD hS hA [9, 10, 11, 12, 13] rfl
    refine va_callv (va_runV (As := [.int v1]) (rest := []) ⟨hx, hb, hml, hown, hts⟩ (kk_X7_bring l dC dI cI cZ (tm_pj [9, 10, 11, 12, 13] a) (tm_pj [9, 10, 11, 12, 13] s) H.size v1 _ hw) (cwV 1 hts gX3_live_X7_bring rfl rfl rfl (by decide +kernel) ⟨Nat.le_of_ble_eq_true rfl, Nat.le_of_ble_eq_true rfl⟩) ⟨tm_blind, va_recv hK hPc (ci := 5) (q0 := 0) rfl rfl, fun U hU hW => ⟨rfl, by rw [hU], by rw [hU]; exact hPc, va_K.moved hW.alike hK, hDc.weaken (fun _ _ _ _ => trivial)⟩⟩ rfl rfl hl.1 rfl (lv_room (Nat.le_of_ble_eq_true rfl)) dX3_live_34 ⟨Nat.zero_le _, Nat.zero_le _⟩) hS (fun q _ h => hFc q h) hFc (fun u t H1 locs ht hvm hw hB hz1 hk1 hS => ?_)
    obtain ⟨hP1, hK1, hD1⟩ := hB
    rw [ht] at hP1
    obtain ⟨hP, hD⟩ := va_join (wr := ([0, 1, 2, 3, 4, 5, 6, 7, 8, 14, 15, 16, 17, 18] : List Nat).filterMap (fun i => (tm_wModem cI cZ a s)[i]?)) (w1 := (tm_wWay cI cZ (tm_pj [9, 10, 11, 12, 13] a) u)) hP hD [9, 10, 11, 12, 13] [0, 1, 2, 3, 4, 5, 6, 7, 8, 14, 15, 16, 17, 18] rfl rfl (by decide) (by decide) hk1 hFc hP1 hD1
    generalize H1 = H at hP hS ⊢
    obtain ⟨s4, es4⟩ : ∃ y : tm_St, y = tm_pk [9, 10, 11, 12, 13] s u := ⟨_, rfl⟩
    have hw := hw s4 es4
    have hP : va_P (dC, dI) vwCl (tm_wModem cI cZ a s4) H := by rw [es4]; exact hP.sub [0, 1, 2, 3, 4, 5, 6, 7, 8, 14, 15, 16, 17, 18, 9, 10, 11, 12, 13] rfl
    have hD : va_D A (tm_wModem cI cZ a s4) := by rw [es4]; exact hD.sub [0, 1, 2, 3, 4, 5, 6, 7, 8, 14, 15, 16, 17, 18, 9, 10, 11, 12, 13] (by decide) rfl
    refine lv_aload_n hx hb dX3_live_37 rfl (lv_at hl 3 rfl) ?_
    have hPc := hP
    have hDc := hD
    have hFc := va_free (wc := (tm_wModem cI cZ a s4)) hD hS hA [0, 1, 2, 3, 4, 5, 6, 7, 8, 9, 10, 11, 12, 13, 14, 15, 16, 17, 18] rfl
    refine va_callv (va_runV (As := []) (rest := []) ⟨hx, hb, hml, hown, hts⟩ (kk_X3_surrender l dC dI cI cZ a s4 H.size  _ hw) (cwV 0 hts gX3_live_X3_surrender rfl rfl rfl (by decide +kernel) ⟨Nat.le_of_ble_eq_true rfl, Nat.le_of_ble_eq_true rfl⟩) ⟨tm_blind, va_recv hK hPc (ci := 3) (q0 := 0) rfl rfl, fun U hU hW => ⟨rfl, by rw [hU], by rw [hU]; exact hPc, va_K.moved hW.alike hK, hDc.weaken (fun _ _ _ _ => trivial)⟩⟩ rfl rfl hl.1 rfl (lv_room (Nat.le_of_ble_eq_true rfl)) dX3_live_38 ⟨Nat.zero_le _, Nat.zero_le _⟩) hS (fun q _ h => hFc q h) hFc (fun s6 t H1 locs ht hvm hw hB hz1 hk1 hS => ?_)
    obtain ⟨hP1, hK1, hD1⟩ := hB
    rw [ht] at hP1
    obtain ⟨hP, hD⟩ := va_join (wr := []) (w1 := (tm_wModem cI cZ a s6)) hP hD [0, 1, 2, 3, 4, 5, 6, 7, 8, 9, 10, 11, 12, 13, 14, 15, 16, 17, 18] [] rfl rfl (by decide) (by decide) hk1 hFc hP1 hD1
    generalize H1 = H at hP hS ⊢
    have hP : va_P (dC, dI) vwCl (tm_wModem cI cZ a s6) H := hP
    have hD : va_D A (tm_wModem cI cZ a s6) := hD
    refine lv_aload_n hx hb dX3_live_41 rfl (lv_at hl 3 rfl) ?_
    refine va_get (D := (dC, dI)) (ci := 3) (v := .int (s6 0 7)) (C := RX3) (T := TX3) (N := 20) hx hb hts h_in3 hown hK hP 0 rfl rfl 7 (by decide) h_f35 (fun _ h9 => h9) rfl dX3_live_42 ?_
    refine lv_iload_n hx hb dX3_live_45 rfl (lv_at hl 1 rfl) ?_
    refine lv_icmp_ne (tgt := 53) hx hb dX3_live_46 (by decide) (fun c7 => ?_) (fun c7 => ?_)
    · have hw := hw.1 c7
      refine lv_aload_n hx hb dX3_live_53 rfl (lv_at hl 3 rfl) ?_
      refine va_get (D := (dC, dI)) (ci := 3) (v := .int (s6 0 7)) (C := RX3) (T := TX3) (N := 20) hx hb hts h_in3 hown hK hP 0 rfl rfl 7 (by decide) h_f35 (fun _ h9 => h9) rfl dX3_live_54 ?_
      refine lv_iload_n hx hb dX3_live_57 rfl (lv_at hl 1 rfl) ?_
      refine lv_icmp_ne (tgt := 82) hx hb dX3_live_58 (by decide) (fun c8 => ?_) (fun c8 => ?_)
      · have hw := hw.1 c8
        exact b82 v1 t0 s6 _ _ _ hw hP hD hS (lv_sub hl [3, 4, 2] rfl)
      · have hw := hw.2 c8
        refine lv_aload_n hx hb dX3_live_61 rfl (lv_at hl 3 rfl) ?_
        refine lv_aload_n hx hb dX3_live_62 rfl (lv_at hl 3 rfl) ?_
        refine va_get (D := (dC, dI)) (ci := 3) (v := .ref (a 4)) (C := RX3) (T := TX3) (N := 20) hx hb hts h_in3 hown hK hP 0 rfl rfl 4 (by decide) h_f21 (fun _ h9 => h9) rfl dX3_live_63 ?_
        refine va_get (D := (dC, dI)) (ci := 2) (v := .int (s6 4 4)) (C := RX2) (T := TX2) (N := 8) hx hb hts h_in2 hown hK hP 4 rfl rfl 4 (by decide) h_f91 (fun _ h9 => h9) rfl dX3_live_66 ?_
        refine lv_iload hx hb dX3_live_69 (lv_at hl 0 rfl) ?_
        refine lv_icmp_le (tgt := 78) hx hb dX3_live_71 (by decide) (fun c23 => ?_) (fun c23 => ?_)
        · have hw := hw.1 c23
          refine lv_iconst (v := 0) hx hb dX3_live_78 (by decide) ?_
          have hPc := hP
          have hDc := hD
          have hFc := va_free (wc := (tm_wModem cI cZ a s6)) hD hS hA [0, 1, 2, 3, 4, 5, 6, 7, 8, 9, 10, 11, 12, 13, 14, 15, 16, 17, 18] rfl
          refine va_callv (va_runV (As := [.int 0]) (rest := []) ⟨hx, hb, hml, hown, hts⟩ (kk_X3_look l dC dI cI cZ a s6 H.size 0 _ hw) (cwV 1 hts gX3_live_X3_look rfl rfl rfl (by decide +kernel) ⟨Nat.le_of_ble_eq_true rfl, Nat.le_of_ble_eq_true rfl⟩) ⟨tm_blind, va_recv hK hPc (ci := 3) (q0 := 0) rfl rfl, fun U hU hW => ⟨rfl, by rw [hU], by rw [hU]; exact hPc, va_K.moved hW.alike hK, hDc.weaken (fun _ _ _ _ => trivial)⟩⟩ rfl rfl hl.1 rfl (lv_room (Nat.le_of_ble_eq_true rfl)) dX3_live_79 ⟨Nat.zero_le _, Nat.zero_le _⟩) hS (fun q _ h => hFc q h) hFc (fun s24 t H1 locs ht hvm hw hB hz1 hk1 hS => ?_)
          obtain ⟨hP1, hK1, hD1⟩ := hB
          rw [ht] at hP1
          obtain ⟨hP, hD⟩ := va_join (wr := []) (w1 := (tm_wModem cI cZ a s24)) hP hD [0, 1, 2, 3, 4, 5, 6, 7, 8, 9, 10, 11, 12, 13, 14, 15, 16, 17, 18] [] rfl rfl (by decide) (by decide) hk1 hFc hP1 hD1
          generalize H1 = H at hP hS ⊢
          have hP : va_P (dC, dI) vwCl (tm_wModem cI cZ a s24) H := hP
          have hD : va_D A (tm_wModem cI cZ a s24) := hD
          exact b82 v1 t0 s24 _ _ _ hw hP hD hS (lv_sub hl [3, 4, 2] rfl)
        · have hw := hw.2 c23
          refine lv_iconst (v := 1) hx hb dX3_live_74 (by decide) ?_
          refine lv_goto (tgt := 79) hx hb dX3_live_75 (by decide) ?_
          have hPc := hP
          have hDc := hD
          have hFc := va_free (wc := (tm_wModem cI cZ a s6)) hD hS hA [0, 1, 2, 3, 4, 5, 6, 7, 8, 9, 10, 11, 12, 13, 14, 15, 16, 17, 18] rfl
          refine va_callv (va_runV (As := [.int 1]) (rest := []) ⟨hx, hb, hml, hown, hts⟩ (kk_X3_look l dC dI cI cZ a s6 H.size 1 _ hw) (cwV 1 hts gX3_live_X3_look rfl rfl rfl (by decide +kernel) ⟨Nat.le_of_ble_eq_true rfl, Nat.le_of_ble_eq_true rfl⟩) ⟨tm_blind, va_recv hK hPc (ci := 3) (q0 := 0) rfl rfl, fun U hU hW => ⟨rfl, by rw [hU], by rw [hU]; exact hPc, va_K.moved hW.alike hK, hDc.weaken (fun _ _ _ _ => trivial)⟩⟩ rfl rfl hl.1 rfl (lv_room (Nat.le_of_ble_eq_true rfl)) dX3_live_79 ⟨Nat.zero_le _, Nat.zero_le _⟩) hS (fun q _ h => hFc q h) hFc (fun s25 t H1 locs ht hvm hw hB hz1 hk1 hS => ?_)
          obtain ⟨hP1, hK1, hD1⟩ := hB
          rw [ht] at hP1
          obtain ⟨hP, hD⟩ := va_join (wr := []) (w1 := (tm_wModem cI cZ a s25)) hP hD [0, 1, 2, 3, 4, 5, 6, 7, 8, 9, 10, 11, 12, 13, 14, 15, 16, 17, 18] [] rfl rfl (by decide) (by decide) hk1 hFc hP1 hD1
          generalize H1 = H at hP hS ⊢
          have hP : va_P (dC, dI) vwCl (tm_wModem cI cZ a s25) H := hP
          have hD : va_D A (tm_wModem cI cZ a s25) := hD
          exact b82 v1 t0 s25 _ _ _ hw hP hD hS (lv_sub hl [3, 4, 2] rfl)
    · have hw := hw.2 c7
      refine lv_aload_n hx hb dX3_live_49 rfl (lv_at hl 3 rfl) ?_
      have hPc := hP
      have hDc := hD
      have hFc := va_free (wc := (tm_wModem cI cZ a s6)) hD hS hA [0, 1, 2, 3, 4, 5, 6, 7, 8, 9, 10, 11, 12, 13, 14, 15, 16, 17, 18] rfl
      refine va_callv (va_runV (As := []) (rest := []) ⟨hx, hb, hml, hown, hts⟩ (kk_X3_hear l dC dI cI cZ a s6 H.size  _ hw) (cwV 0 hts gX3_live_X3_hear rfl rfl rfl (by decide +kernel) ⟨Nat.le_of_ble_eq_true rfl, Nat.le_of_ble_eq_true rfl⟩) ⟨tm_blind, va_recv hK hPc (ci := 3) (q0 := 0) rfl rfl, fun U hU hW => ⟨rfl, by rw [hU], by rw [hU]; exact hPc, va_K.moved hW.alike hK, hDc.weaken (fun _ _ _ _ => trivial)⟩⟩ rfl rfl hl.1 rfl (lv_room (Nat.le_of_ble_eq_true rfl)) dX3_live_50 ⟨Nat.zero_le _, Nat.zero_le _⟩) hS (fun q _ h => hFc q h) hFc (fun s26 t H1 locs ht hvm hw hB hz1 hk1 hS => ?_)
      obtain ⟨hP1, hK1, hD1⟩ := hB
      rw [ht] at hP1
      obtain ⟨hP, hD⟩ := va_join (wr := []) (w1 := (tm_wModem cI cZ a s26)) hP hD [0, 1, 2, 3, 4, 5, 6, 7, 8, 9, 10, 11, 12, 13, 14, 15, 16, 17, 18] [] rfl rfl (by decide) (by decide) hk1 hFc hP1 hD1
      generalize H1 = H at hP hS ⊢
      have hP : va_P (dC, dI) vwCl (tm_wModem cI cZ a s26) H := hP
      have hD : va_D A (tm_wModem cI cZ a s26) := hD
      refine lv_aload_n hx hb dX3_live_53 rfl (lv_at hl 3 rfl) ?_
      refine va_get (D := (dC, dI)) (ci := 3) (v := .int (s26 0 7)) (C := RX3) (T := TX3) (N := 20) hx hb hts h_in3 hown hK hP 0 rfl rfl 7 (by decide) h_f35 (fun _ h9 => h9) rfl dX3_live_54 ?_
      refine lv_iload_n hx hb dX3_live_57 rfl (lv_at hl 1 rfl) ?_
      refine lv_icmp_ne (tgt := 82) hx hb dX3_live_58 (by decide) (fun c27 => ?_) (fun c27 => ?_)
      · have hw := hw.1 c27
        exact b82 v1 t0 s26 _ _ _ hw hP hD hS (lv_sub hl [3, 4, 2] rfl)
      · have hw := hw.2 c27
        refine lv_aload_n hx hb dX3_live_61 rfl (lv_at hl 3 rfl) ?_
        refine lv_aload_n hx hb dX3_live_62 rfl (lv_at hl 3 rfl) ?_
        refine va_get (D := (dC, dI)) (ci := 3) (v := .ref (a 4)) (C := RX3) (T := TX3) (N := 20) hx hb hts h_in3 hown hK hP 0 rfl rfl 4 (by decide) h_f21 (fun _ h9 => h9) rfl dX3_live_63 ?_
        refine va_get (D := (dC, dI)) (ci := 2) (v := .int (s26 4 4)) (C := RX2) (T := TX2) (N := 8) hx hb hts h_in2 hown hK hP 4 rfl rfl 4 (by decide) h_f91 (fun _ h9 => h9) rfl dX3_live_66 ?_
        refine lv_iload hx hb dX3_live_69 (lv_at hl 0 rfl) ?_
        refine lv_icmp_le (tgt := 78) hx hb dX3_live_71 (by decide) (fun c28 => ?_) (fun c28 => ?_)
        · have hw := hw.1 c28
          refine lv_iconst (v := 0) hx hb dX3_live_78 (by decide) ?_
          have hPc := hP
          have hDc := hD
          have hFc := va_free (wc := (tm_wModem cI cZ a s26)) hD hS hA [0, 1, 2, 3, 4, 5, 6, 7, 8, 9, 10, 11, 12, 13, 14, 15, 16, 17, 18] rfl
          refine va_callv (va_runV (As := [.int 0]) (rest := []) ⟨hx, hb, hml, hown, hts⟩ (kk_X3_look l dC dI cI cZ a s26 H.size 0 _ hw) (cwV 1 hts gX3_live_X3_look rfl rfl rfl (by decide +kernel) ⟨Nat.le_of_ble_eq_true rfl, Nat.le_of_ble_eq_true rfl⟩) ⟨tm_blind, va_recv hK hPc (ci := 3) (q0 := 0) rfl rfl, fun U hU hW => ⟨rfl, by rw [hU], by rw [hU]; exact hPc, va_K.moved hW.alike hK, hDc.weaken (fun _ _ _ _ => trivial)⟩⟩ rfl rfl hl.1 rfl (lv_room (Nat.le_of_ble_eq_true rfl)) dX3_live_79 ⟨Nat.zero_le _, Nat.zero_le _⟩) hS (fun q _ h => hFc q h) hFc (fun s29 t H1 locs ht hvm hw hB hz1 hk1 hS => ?_)
          obtain ⟨hP1, hK1, hD1⟩ := hB
          rw [ht] at hP1
          obtain ⟨hP, hD⟩ := va_join (wr := []) (w1 := (tm_wModem cI cZ a s29)) hP hD [0, 1, 2, 3, 4, 5, 6, 7, 8, 9, 10, 11, 12, 13, 14, 15, 16, 17, 18] [] rfl rfl (by decide) (by decide) hk1 hFc hP1 hD1
          generalize H1 = H at hP hS ⊢
          have hP : va_P (dC, dI) vwCl (tm_wModem cI cZ a s29) H := hP
          have hD : va_D A (tm_wModem cI cZ a s29) := hD
          exact b82 v1 t0 s29 _ _ _ hw hP hD hS (lv_sub hl [3, 4, 2] rfl)
        · have hw := hw.2 c28
          refine lv_iconst (v := 1) hx hb dX3_live_74 (by decide) ?_
          refine lv_goto (tgt := 79) hx hb dX3_live_75 (by decide) ?_
          have hPc := hP
          have hDc := hD
          have hFc := va_free (wc := (tm_wModem cI cZ a s26)) hD hS hA [0, 1, 2, 3, 4, 5, 6, 7, 8, 9, 10, 11, 12, 13, 14, 15, 16, 17, 18] rfl
          refine va_callv (va_runV (As := [.int 1]) (rest := []) ⟨hx, hb, hml, hown, hts⟩ (kk_X3_look l dC dI cI cZ a s26 H.size 1 _ hw) (cwV 1 hts gX3_live_X3_look rfl rfl rfl (by decide +kernel) ⟨Nat.le_of_ble_eq_true rfl, Nat.le_of_ble_eq_true rfl⟩) ⟨tm_blind, va_recv hK hPc (ci := 3) (q0 := 0) rfl rfl, fun U hU hW => ⟨rfl, by rw [hU], by rw [hU]; exact hPc, va_K.moved hW.alike hK, hDc.weaken (fun _ _ _ _ => trivial)⟩⟩ rfl rfl hl.1 rfl (lv_room (Nat.le_of_ble_eq_true rfl)) dX3_live_79 ⟨Nat.zero_le _, Nat.zero_le _⟩) hS (fun q _ h => hFc q h) hFc (fun s30 t H1 locs ht hvm hw hB hz1 hk1 hS => ?_)
          obtain ⟨hP1, hK1, hD1⟩ := hB
          rw [ht] at hP1
          obtain ⟨hP, hD⟩ := va_join (wr := []) (w1 := (tm_wModem cI cZ a s30)) hP hD [0, 1, 2, 3, 4, 5, 6, 7, 8, 9, 10, 11, 12, 13, 14, 15, 16, 17, 18] [] rfl rfl (by decide) (by decide) hk1 hFc hP1 hD1
          generalize H1 = H at hP hS ⊢
          have hP : va_P (dC, dI) vwCl (tm_wModem cI cZ a s30) H := hP
          have hD : va_D A (tm_wModem cI cZ a s30) := hD
          exact b82 v1 t0 s30 _ _ _ hw hP hD hS (lv_sub hl [3, 4, 2] rfl)
  have hl := lv_entry ([.ref (a 0), .int p0]) (n := 5) (Nat.le_of_ble_eq_true rfl)
  rw [lg_entry_eq]
  generalize (lg_sl ([.ref (a 0), .int p0]) ++ List.replicate (5 - (lg_sl ([.ref (a 0), .int p0])).length) Slot.unset).toArray = ls at hl ⊢
  have hl : lv_has ls 5 [(0, .ref (a 0)), (1, .int p0)] := hl
  unfold wp_X3_live at hw
  refine lv_aload_n hx hb dX3_live_0 rfl (lv_at hl 0 rfl) ?_
  refine va_get (D := (dC, dI)) (ci := 3) (v := .int (s0 0 6)) (C := RX3) (T := TX3) (N := 20) hx hb hts h_in3 hown hK hP 0 rfl rfl 6 (by decide) h_f31 (fun _ h9 => h9) rfl dX3_live_1 ?_
  refine lv_bipush (v := 7) hx hb dX3_live_4 (by decide) ?_
  refine lv_icmp_ne (tgt := 13) hx hb dX3_live_6 (by decide) (fun c1 => ?_) (fun c1 => ?_)
  · have hw := hw.1 c1
    refine lv_iconst (v := 0) hx hb dX3_live_13 (by decide) ?_
    exact b14 p0 0 s0 _ _ _ hw hP hD hS (lv_sub hl [0, 1] rfl)
  · have hw := hw.2 c1
    refine lv_iconst (v := 1) hx hb dX3_live_9 (by decide) ?_
    refine lv_goto (tgt := 14) hx hb dX3_live_10 (by decide) ?_
    exact b14 p0 1 s0 _ _ _ hw hP hD hS (lv_sub hl [0, 1] rfl)
def wp_X3_fact (p0 : Int32) (s0 : tm_St) (K : Int32 → tm_St → Prop) : Prop := ((p0 = 0 → K (s0 0 6) s0) ∧ (¬ p0 = 0 → ((p0 = 1 → K (s0 0 8) s0) ∧ (¬ p0 = 1 → ((p0 = 2 → K (s0 0 10) s0) ∧ (¬ p0 = 2 → ((p0 = 3 → K (s0 0 11) s0) ∧ (¬ p0 = 3 → ((p0 = 4 → K (s0 0 12) s0) ∧ (¬ p0 = 4 → ((p0 = 5 → K (s0 0 13) s0) ∧ (¬ p0 = 5 → ((p0 = 6 → K (s0 4 2) s0) ∧ (¬ p0 = 6 → ((p0 = 7 → K (s0 4 5) s0) ∧ (¬ p0 = 7 → ((p0 = 8 → K (s0 4 4) s0) ∧ (¬ p0 = 8 → ((p0 = 9 → K (s0 4 3) s0) ∧ (¬ p0 = 9 → ((p0 = 10 → K (s0 0 14) s0) ∧ (¬ p0 = 10 → ((p0 = 11 → K (s0 0 15) s0) ∧ (¬ p0 = 11 → ((p0 = 12 → K (s0 0 17) s0) ∧ (¬ p0 = 12 → ((p0 = 13 → K (s0 0 18) s0) ∧ (¬ p0 = 13 → ((p0 = 14 → K (s0 0 19) s0) ∧ (¬ p0 = 14 → ((p0 = 15 → K (s0 0 16) s0) ∧ (¬ p0 = 15 → K (-1002) s0))))))))))))))))))))))))))))))))
set_option maxRecDepth 100000 in
set_option maxHeartbeats 4000000 in
theorem kk_X3_fact (l : Launch) (dC : Nat → ClassId) (dI : Nat → Nat → Nat) (cI cZ : ClassId) (a : Nat → Nat) (s0 : tm_St) (sz : Nat) (p0 : Int32) (K : Int32 → tm_St → Prop) (hw : wp_X3_fact p0 s0 K) : Met l yX3_fact wsX3_fact ({ frames := 0, cells := 0, slots := 0, locals := 0 }) (va_Pc [.ref (a 0), .int p0] (tm_Pre dC dI cI cZ (tm_wModem cI cZ a s0) sz)) (va_Qi (fun (r : Int32) (u : tm_St) => K r u) (fun (u : tm_St) t => tm_At dC dI cI cZ (va_A (tm_wModem cI cZ a s0) sz) (tm_wModem cI cZ a u) t) (va_A (tm_wModem cI cZ a s0) sz)) 0 0 (va_A (tm_wModem cI cZ a s0) sz) := by
  refine Met.ofW (cc := cX3_fact) (maxL := 2) (ret := (some .int)) (by decide +kernel) rfl ?_
  intro p e z m args below meth c z₁ B hml hv
  obtain ⟨rfl, hsz, hP, hK, hD0⟩ := hv
  have hx := B.exec
  have hb := B.bytes
  have hr := B.returns
  have hts := atoms_spec (ws := wsX3_fact) B.pre
  have hown : z.vm.findClass RX3 = some m.cls := findClass_of_methodNamed B.named
  have hlocks := B.notSynchronized
  subst hsz
  have hD := hD0.self (sz := z.heap.size)
  generalize hAe : va_A (tm_wModem cI cZ a s0) z.heap.size = A at hD ⊢
  have hA : ∀ q : Nat, z.heap.size ≤ q → A q := fun q h => by rw [← hAe]; exact Or.inr h
  have hS : va_S A z.heap z.heap [] := va_S.rf
  have h_f31 := hts (.fieldLink RX3 31 "TwoModems$Modem" "phase" "I") (by decide +kernel)
  have h_in3 : ∀ w ∈ u_ws RX3 TX3 20, w ∈ wsX3_fact := by decide +kernel
  have h_f38 := hts (.fieldLink RX3 38 "TwoModems$Modem" "lasted" "I") (by decide +kernel)
  have h_f44 := hts (.fieldLink RX3 44 "TwoModems$Modem" "round" "I") (by decide +kernel)
  have h_f47 := hts (.fieldLink RX3 47 "TwoModems$Modem" "offer" "I") (by decide +kernel)
  have h_f50 := hts (.fieldLink RX3 50 "TwoModems$Modem" "rate" "I") (by decide +kernel)
  have h_f53 := hts (.fieldLink RX3 53 "TwoModems$Modem" "credit" "I") (by decide +kernel)
  have h_f21 := hts (.fieldLink RX3 21 "TwoModems$Modem" "mail" "LTwoModems$Mail;") (by decide +kernel)
  have h_f85 := hts (.fieldLink RX3 85 "TwoModems$Mail" "said" "I") (by decide +kernel)
  have h_in2 : ∀ w ∈ u_ws RX2 TX2 8, w ∈ wsX3_fact := by decide +kernel
  have h_f88 := hts (.fieldLink RX3 88 "TwoModems$Mail" "next" "I") (by decide +kernel)
  have h_f91 := hts (.fieldLink RX3 91 "TwoModems$Mail" "told" "I") (by decide +kernel)
  have h_f94 := hts (.fieldLink RX3 94 "TwoModems$Mail" "taken" "I") (by decide +kernel)
  have h_f56 := hts (.fieldLink RX3 56 "TwoModems$Modem" "waited" "I") (by decide +kernel)
  have h_f59 := hts (.fieldLink RX3 59 "TwoModems$Modem" "remains" "I") (by decide +kernel)
  have h_f65 := hts (.fieldLink RX3 65 "TwoModems$Modem" "surrenders" "I") (by decide +kernel)
  have h_f68 := hts (.fieldLink RX3 68 "TwoModems$Modem" "agains" "I") (by decide +kernel)
  have h_f71 := hts (.fieldLink RX3 71 "TwoModems$Modem" "datas" "I") (by decide +kernel)
  have h_f62 := hts (.fieldLink RX3 62 "TwoModems$Modem" "losses" "I") (by decide +kernel)
  have hl := lv_entry ([.ref (a 0), .int p0]) (n := 2) (Nat.le_of_ble_eq_true rfl)
  rw [lg_entry_eq]
  generalize (lg_sl ([.ref (a 0), .int p0]) ++ List.replicate (2 - (lg_sl ([.ref (a 0), .int p0])).length) Slot.unset).toArray = ls at hl ⊢
  have hl : lv_has ls 2 [(0, .ref (a 0)), (1, .int p0)] := hl
  unfold wp_X3_fact at hw
  refine lv_iload_n hx hb dX3_fact_0 rfl (lv_at hl 1 rfl) ?_
  refine (Classical.em (p0 = 0)).elim (fun c1 => ?_) (fun c1 => ?_)
  · have hw := hw.1 c1
    refine lv_tableIn (tgt := 80) hx hb dX3_fact_1 (by rw [c1]; decide) (by rw [c1]; decide) (by rw [c1]; rfl) (by decide) ?_
    refine lv_aload_n hx hb dX3_fact_80 rfl (lv_at hl 0 rfl) ?_
    refine va_get (D := (dC, dI)) (ci := 3) (v := .int (s0 0 6)) (C := RX3) (T := TX3) (N := 20) hx hb hts h_in3 hown hK hP 0 rfl rfl 6 (by decide) h_f31 (fun _ h9 => h9) rfl dX3_fact_81 ?_
    exact W.iret (v := (s0 0 6)) hx hb hr (fun t ht hW => ⟨⟨(s0 0 6), s0, rfl, hw, by rw [ht]; exact hP, va_K.moved hW.alike hK, hD⟩, hS.F ht⟩) hS.2.2 dX3_fact_84
  have hw := hw.2 c1
  refine (Classical.em (p0 = 1)).elim (fun c2 => ?_) (fun c2 => ?_)
  · have hw := hw.1 c2
    refine lv_tableIn (tgt := 85) hx hb dX3_fact_1 (by rw [c2]; decide) (by rw [c2]; decide) (by rw [c2]; rfl) (by decide) ?_
    refine lv_aload_n hx hb dX3_fact_85 rfl (lv_at hl 0 rfl) ?_
    refine va_get (D := (dC, dI)) (ci := 3) (v := .int (s0 0 8)) (C := RX3) (T := TX3) (N := 20) hx hb hts h_in3 hown hK hP 0 rfl rfl 8 (by decide) h_f38 (fun _ h9 => h9) rfl dX3_fact_86 ?_
    exact W.iret (v := (s0 0 8)) hx hb hr (fun t ht hW => ⟨⟨(s0 0 8), s0, rfl, hw, by rw [ht]; exact hP, va_K.moved hW.alike hK, hD⟩, hS.F ht⟩) hS.2.2 dX3_fact_89
  have hw := hw.2 c2
  refine (Classical.em (p0 = 2)).elim (fun c3 => ?_) (fun c3 => ?_)
  · have hw := hw.1 c3
    refine lv_tableIn (tgt := 90) hx hb dX3_fact_1 (by rw [c3]; decide) (by rw [c3]; decide) (by rw [c3]; rfl) (by decide) ?_
    refine lv_aload_n hx hb dX3_fact_90 rfl (lv_at hl 0 rfl) ?_
    refine va_get (D := (dC, dI)) (ci := 3) (v := .int (s0 0 10)) (C := RX3) (T := TX3) (N := 20) hx hb hts h_in3 hown hK hP 0 rfl rfl 10 (by decide) h_f44 (fun _ h9 => h9) rfl dX3_fact_91 ?_
    exact W.iret (v := (s0 0 10)) hx hb hr (fun t ht hW => ⟨⟨(s0 0 10), s0, rfl, hw, by rw [ht]; exact hP, va_K.moved hW.alike hK, hD⟩, hS.F ht⟩) hS.2.2 dX3_fact_94
  have hw := hw.2 c3
  refine (Classical.em (p0 = 3)).elim (fun c4 => ?_) (fun c4 => ?_)
  · have hw := hw.1 c4
    refine lv_tableIn (tgt := 95) hx hb dX3_fact_1 (by rw [c4]; decide) (by rw [c4]; decide) (by rw [c4]; rfl) (by decide) ?_
    refine lv_aload_n hx hb dX3_fact_95 rfl (lv_at hl 0 rfl) ?_
    refine va_get (D := (dC, dI)) (ci := 3) (v := .int (s0 0 11)) (C := RX3) (T := TX3) (N := 20) hx hb hts h_in3 hown hK hP 0 rfl rfl 11 (by decide) h_f47 (fun _ h9 => h9) rfl dX3_fact_96 ?_
    exact W.iret (v := (s0 0 11)) hx hb hr (fun t ht hW => ⟨⟨(s0 0 11), s0, rfl, hw, by rw [ht]; exact hP, va_K.moved hW.alike hK, hD⟩, hS.F ht⟩) hS.2.2 dX3_fact_99
  have hw := hw.2 c4
  refine (Classical.em (p0 = 4)).elim (fun c5 => ?_) (fun c5 => ?_)
  · have hw := hw.1 c5
    refine lv_tableIn (tgt := 100) hx hb dX3_fact_1 (by rw [c5]; decide) (by rw [c5]; decide) (by rw [c5]; rfl) (by decide) ?_
    refine lv_aload_n hx hb dX3_fact_100 rfl (lv_at hl 0 rfl) ?_
    refine va_get (D := (dC, dI)) (ci := 3) (v := .int (s0 0 12)) (C := RX3) (T := TX3) (N := 20) hx hb hts h_in3 hown hK hP 0 rfl rfl 12 (by decide) h_f50 (fun _ h9 => h9) rfl dX3_fact_101 ?_
    exact W.iret (v := (s0 0 12)) hx hb hr (fun t ht hW => ⟨⟨(s0 0 12), s0, rfl, hw, by rw [ht]; exact hP, va_K.moved hW.alike hK, hD⟩, hS.F ht⟩) hS.2.2 dX3_fact_104
  have hw := hw.2 c5
  refine (Classical.em (p0 = 5)).elim (fun c6 => ?_) (fun c6 => ?_)
  · have hw := hw.1 c6
    refine lv_tableIn (tgt := 105) hx hb dX3_fact_1 (by rw [c6]; decide) (by rw [c6]; decide) (by rw [c6]; rfl) (by decide) ?_
    refine lv_aload_n hx hb dX3_fact_105 rfl (lv_at hl 0 rfl) ?_
    refine va_get (D := (dC, dI)) (ci := 3) (v := .int (s0 0 13)) (C := RX3) (T := TX3) (N := 20) hx hb hts h_in3 hown hK hP 0 rfl rfl 13 (by decide) h_f53 (fun _ h9 => h9) rfl dX3_fact_106 ?_
    exact W.iret (v := (s0 0 13)) hx hb hr (fun t ht hW => ⟨⟨(s0 0 13), s0, rfl, hw, by rw [ht]; exact hP, va_K.moved hW.alike hK, hD⟩, hS.F ht⟩) hS.2.2 dX3_fact_109
  have hw := hw.2 c6
  refine (Classical.em (p0 = 6)).elim (fun c7 => ?_) (fun c7 => ?_)
  · have hw := hw.1 c7
    refine lv_tableIn (tgt := 110) hx hb dX3_fact_1 (by rw [c7]; decide) (by rw [c7]; decide) (by rw [c7]; rfl) (by decide) ?_
    refine lv_aload_n hx hb dX3_fact_110 rfl (lv_at hl 0 rfl) ?_
    refine va_get (D := (dC, dI)) (ci := 3) (v := .ref (a 4)) (C := RX3) (T := TX3) (N := 20) hx hb hts h_in3 hown hK hP 0 rfl rfl 4 (by decide) h_f21 (fun _ h9 => h9) rfl dX3_fact_111 ?_
    refine va_get (D := (dC, dI)) (ci := 2) (v := .int (s0 4 2)) (C := RX2) (T := TX2) (N := 8) hx hb hts h_in2 hown hK hP 4 rfl rfl 2 (by decide) h_f85 (fun _ h9 => h9) rfl dX3_fact_114 ?_
    exact W.iret (v := (s0 4 2)) hx hb hr (fun t ht hW => ⟨⟨(s0 4 2), s0, rfl, hw, by rw [ht]; exact hP, va_K.moved hW.alike hK, hD⟩, hS.F ht⟩) hS.2.2 dX3_fact_117
  have hw := hw.2 c7
  refine (Classical.em (p0 = 7)).elim (fun c8 => ?_) (fun c8 => ?_)
  · have hw := hw.1 c8
    refine lv_tableIn (tgt := 118) hx hb dX3_fact_1 (by rw [c8]; decide) (by rw [c8]; decide) (by rw [c8]; rfl) (by decide) ?_
    refine lv_aload_n hx hb dX3_fact_118 rfl (lv_at hl 0 rfl) ?_
    refine va_get (D := (dC, dI)) (ci := 3) (v := .ref (a 4)) (C := RX3) (T := TX3) (N := 20) hx hb hts h_in3 hown hK hP 0 rfl rfl 4 (by decide) h_f21 (fun _ h9 => h9) rfl dX3_fact_119 ?_
    refine va_get (D := (dC, dI)) (ci := 2) (v := .int (s0 4 5)) (C := RX2) (T := TX2) (N := 8) hx hb hts h_in2 hown hK hP 4 rfl rfl 5 (by decide) h_f88 (fun _ h9 => h9) rfl dX3_fact_122 ?_
    exact W.iret (v := (s0 4 5)) hx hb hr (fun t ht hW => ⟨⟨(s0 4 5), s0, rfl, hw, by rw [ht]; exact hP, va_K.moved hW.alike hK, hD⟩, hS.F ht⟩) hS.2.2 dX3_fact_125
  have hw := hw.2 c8
  refine (Classical.em (p0 = 8)).elim (fun c9 => ?_) (fun c9 => ?_)
  · have hw := hw.1 c9
    refine lv_tableIn (tgt := 126) hx hb dX3_fact_1 (by rw [c9]; decide) (by rw [c9]; decide) (by rw [c9]; rfl) (by decide) ?_
    refine lv_aload_n hx hb dX3_fact_126 rfl (lv_at hl 0 rfl) ?_
    refine va_get (D := (dC, dI)) (ci := 3) (v := .ref (a 4)) (C := RX3) (T := TX3) (N := 20) hx hb hts h_in3 hown hK hP 0 rfl rfl 4 (by decide) h_f21 (fun _ h9 => h9) rfl dX3_fact_127 ?_
    refine va_get (D := (dC, dI)) (ci := 2) (v := .int (s0 4 4)) (C := RX2) (T := TX2) (N := 8) hx hb hts h_in2 hown hK hP 4 rfl rfl 4 (by decide) h_f91 (fun _ h9 => h9) rfl dX3_fact_130 ?_
    exact W.iret (v := (s0 4 4)) hx hb hr (fun t ht hW => ⟨⟨(s0 4 4), s0, rfl, hw, by rw [ht]; exact hP, va_K.moved hW.alike hK, hD⟩, hS.F ht⟩) hS.2.2 dX3_fact_133
  have hw := hw.2 c9
  refine (Classical.em (p0 = 9)).elim (fun c10 => ?_) (fun c10 => ?_)
  · have hw := hw.1 c10
    refine lv_tableIn (tgt := 134) hx hb dX3_fact_1 (by rw [c10]; decide) (by rw [c10]; decide) (by rw [c10]; rfl) (by decide) ?_
    refine lv_aload_n hx hb dX3_fact_134 rfl (lv_at hl 0 rfl) ?_
    refine va_get (D := (dC, dI)) (ci := 3) (v := .ref (a 4)) (C := RX3) (T := TX3) (N := 20) hx hb hts h_in3 hown hK hP 0 rfl rfl 4 (by decide) h_f21 (fun _ h9 => h9) rfl dX3_fact_135 ?_
    refine va_get (D := (dC, dI)) (ci := 2) (v := .int (s0 4 3)) (C := RX2) (T := TX2) (N := 8) hx hb hts h_in2 hown hK hP 4 rfl rfl 3 (by decide) h_f94 (fun _ h9 => h9) rfl dX3_fact_138 ?_
    exact W.iret (v := (s0 4 3)) hx hb hr (fun t ht hW => ⟨⟨(s0 4 3), s0, rfl, hw, by rw [ht]; exact hP, va_K.moved hW.alike hK, hD⟩, hS.F ht⟩) hS.2.2 dX3_fact_141
  have hw := hw.2 c10
  refine (Classical.em (p0 = 10)).elim (fun c11 => ?_) (fun c11 => ?_)
  · have hw := hw.1 c11
    refine lv_tableIn (tgt := 142) hx hb dX3_fact_1 (by rw [c11]; decide) (by rw [c11]; decide) (by rw [c11]; rfl) (by decide) ?_
    refine lv_aload_n hx hb dX3_fact_142 rfl (lv_at hl 0 rfl) ?_
    refine va_get (D := (dC, dI)) (ci := 3) (v := .int (s0 0 14)) (C := RX3) (T := TX3) (N := 20) hx hb hts h_in3 hown hK hP 0 rfl rfl 14 (by decide) h_f56 (fun _ h9 => h9) rfl dX3_fact_143 ?_
    exact W.iret (v := (s0 0 14)) hx hb hr (fun t ht hW => ⟨⟨(s0 0 14), s0, rfl, hw, by rw [ht]; exact hP, va_K.moved hW.alike hK, hD⟩, hS.F ht⟩) hS.2.2 dX3_fact_146
  have hw := hw.2 c11
  refine (Classical.em (p0 = 11)).elim (fun c12 => ?_) (fun c12 => ?_)
  · have hw := hw.1 c12
    refine lv_tableIn (tgt := 147) hx hb dX3_fact_1 (by rw [c12]; decide) (by rw [c12]; decide) (by rw [c12]; rfl) (by decide) ?_
    refine lv_aload_n hx hb dX3_fact_147 rfl (lv_at hl 0 rfl) ?_
    refine va_get (D := (dC, dI)) (ci := 3) (v := .int (s0 0 15)) (C := RX3) (T := TX3) (N := 20) hx hb hts h_in3 hown hK hP 0 rfl rfl 15 (by decide) h_f59 (fun _ h9 => h9) rfl dX3_fact_148 ?_
    exact W.iret (v := (s0 0 15)) hx hb hr (fun t ht hW => ⟨⟨(s0 0 15), s0, rfl, hw, by rw [ht]; exact hP, va_K.moved hW.alike hK, hD⟩, hS.F ht⟩) hS.2.2 dX3_fact_151
  have hw := hw.2 c12
  refine (Classical.em (p0 = 12)).elim (fun c13 => ?_) (fun c13 => ?_)
  · have hw := hw.1 c13
    refine lv_tableIn (tgt := 152) hx hb dX3_fact_1 (by rw [c13]; decide) (by rw [c13]; decide) (by rw [c13]; rfl) (by decide) ?_
    refine lv_aload_n hx hb dX3_fact_152 rfl (lv_at hl 0 rfl) ?_
    refine va_get (D := (dC, dI)) (ci := 3) (v := .int (s0 0 17)) (C := RX3) (T := TX3) (N := 20) hx hb hts h_in3 hown hK hP 0 rfl rfl 17 (by decide) h_f65 (fun _ h9 => h9) rfl dX3_fact_153 ?_
    exact W.iret (v := (s0 0 17)) hx hb hr (fun t ht hW => ⟨⟨(s0 0 17), s0, rfl, hw, by rw [ht]; exact hP, va_K.moved hW.alike hK, hD⟩, hS.F ht⟩) hS.2.2 dX3_fact_156
  have hw := hw.2 c13
  refine (Classical.em (p0 = 13)).elim (fun c14 => ?_) (fun c14 => ?_)
  · have hw := hw.1 c14
    refine lv_tableIn (tgt := 157) hx hb dX3_fact_1 (by rw [c14]; decide) (by rw [c14]; decide) (by rw [c14]; rfl) (by decide) ?_
    refine lv_aload_n hx hb dX3_fact_157 rfl (lv_at hl 0 rfl) ?_
    refine va_get (D := (dC, dI)) (ci := 3) (v := .int (s0 0 18)) (C := RX3) (T := TX3) (N := 20) hx hb hts h_in3 hown hK hP 0 rfl rfl 18 (by decide) h_f68 (fun _ h9 => h9) rfl dX3_fact_158 ?_
    exact W.iret (v := (s0 0 18)) hx hb hr (fun t ht hW => ⟨⟨(s0 0 18), s0, rfl, hw, by rw [ht]; exact hP, va_K.moved hW.alike hK, hD⟩, hS.F ht⟩) hS.2.2 dX3_fact_161
  have hw := hw.2 c14
  refine (Classical.em (p0 = 14)).elim (fun c15 => ?_) (fun c15 => ?_)
  · have hw := hw.1 c15
    refine lv_tableIn (tgt := 162) hx hb dX3_fact_1 (by rw [c15]; decide) (by rw [c15]; decide) (by rw [c15]; rfl) (by decide) ?_
    refine lv_aload_n hx hb dX3_fact_162 rfl (lv_at hl 0 rfl) ?_
    refine va_get (D := (dC, dI)) (ci := 3) (v := .int (s0 0 19)) (C := RX3) (T := TX3) (N := 20) hx hb hts h_in3 hown hK hP 0 rfl rfl 19 (by decide) h_f71 (fun _ h9 => h9) rfl dX3_fact_163 ?_
    exact W.iret (v := (s0 0 19)) hx hb hr (fun t ht hW => ⟨⟨(s0 0 19), s0, rfl, hw, by rw [ht]; exact hP, va_K.moved hW.alike hK, hD⟩, hS.F ht⟩) hS.2.2 dX3_fact_166
  have hw := hw.2 c15
  refine (Classical.em (p0 = 15)).elim (fun c16 => ?_) (fun c16 => ?_)
  · have hw := hw.1 c16
    refine lv_tableIn (tgt := 167) hx hb dX3_fact_1 (by rw [c16]; decide) (by rw [c16]; decide) (by rw [c16]; rfl) (by decide) ?_
    refine lv_aload_n hx hb dX3_fact_167 rfl (lv_at hl 0 rfl) ?_
    refine va_get (D := (dC, dI)) (ci := 3) (v := .int (s0 0 16)) (C := RX3) (T := TX3) (N := 20) hx hb hts h_in3 hown hK hP 0 rfl rfl 16 (by decide) h_f62 (fun _ h9 => h9) rfl dX3_fact_168 ?_
    exact W.iret (v := (s0 0 16)) hx hb hr (fun t ht hW => ⟨⟨(s0 0 16), s0, rfl, hw, by rw [ht]; exact hP, va_K.moved hW.alike hK, hD⟩, hS.F ht⟩) hS.2.2 dX3_fact_171
  have hw := hw.2 c16
  have nc1 := lv_neT (a := 0) c1 rfl
  have nc2 := lv_neT (a := 1) c2 rfl
  have nc3 := lv_neT (a := 2) c3 rfl
  have nc4 := lv_neT (a := 3) c4 rfl
  have nc5 := lv_neT (a := 4) c5 rfl
  have nc6 := lv_neT (a := 5) c6 rfl
  have nc7 := lv_neT (a := 6) c7 rfl
  have nc8 := lv_neT (a := 7) c8 rfl
  have nc9 := lv_neT (a := 8) c9 rfl
  have nc10 := lv_neT (a := 9) c10 rfl
  have nc11 := lv_neT (a := 10) c11 rfl
  have nc12 := lv_neT (a := 11) c12 rfl
  have nc13 := lv_neT (a := 12) c13 rfl
  have nc14 := lv_neT (a := 13) c14 rfl
  have nc15 := lv_neT (a := 14) c15 rfl
  have nc16 := lv_neT (a := 15) c16 rfl
  refine lv_tableOut (tgt := 172) hx hb dX3_fact_1 (by omega) (by decide) ?_
  refine lv_sipush (v := (-1002)) hx hb dX3_fact_172 (by decide) ?_
  exact W.iret (v := (-1002)) hx hb hr (fun t ht hW => ⟨⟨(-1002), s0, rfl, hw, by rw [ht]; exact hP, va_K.moved hW.alike hK, hD⟩, hS.F ht⟩) hS.2.2 dX3_fact_175
