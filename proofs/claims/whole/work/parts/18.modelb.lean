def wp_X9_echo (p0 : Int32) (p1 : Int32) (p2 : Int32) (s0 : tm_St) (K : Int32 → tm_St → Prop) : Prop := (wp_X9_isEnd p0 (fun r1 => ((r1 = 0 → K (-1001) s0) ∧ (¬ r1 = 0 → (wp_X9_within p1 0 3 (fun r4 => ((¬ r4 = 0 → (wp_X9_within p2 (-100) 100 (fun r7 => ((¬ r7 = 0 → (vp_in ((4 * p0) + p1) 8 ∧ (∀ x11 : Int32, x11 = (s0 4 (((4 * p0) + p1) : Int32).toNatClampNeg) → (vp_in ((4 * p0) + p1) 8 ∧ (∀ s13 : tm_St, s13 = tm_s s0 4 (upd (s0 4) (((4 * p0) + p1) : Int32).toNatClampNeg p2) → K x11 s13))))) ∧ (r7 = 0 → K (-1002) s0))))) ∧ (r4 = 0 → K (-1001) s0))))))))
set_option maxRecDepth 100000 in
set_option maxHeartbeats 4000000 in
theorem kk_X9_echo (l : Launch) (dC : Nat → ClassId) (dI : Nat → Nat → Nat) (cI cZ : ClassId) (a : Nat → Nat) (s0 : tm_St) (hh : Int64) (sz : Nat) (p0 : Int32) (p1 : Int32) (p2 : Int32) (K : Int32 → tm_St → Prop) (hw : wp_X9_echo p0 p1 p2 s0 K) : Met l yX9_echo wsX9_echo ({ frames := 2, cells := 0, slots := 0, locals := 42 }) (va_Pc [.ref (a 0), .int p0, .int p1, .int p2] (tm_Pre dC dI cI cZ (tm_wModel cI cZ a s0 hh) sz)) (va_Qi (fun (r : Int32) (u : tm_St) => K r u) (fun (u : tm_St) t => tm_At dC dI cI cZ (va_A (tm_wModel cI cZ a s0 hh) sz) (tm_wModel cI cZ a u hh) t) (va_A (tm_wModel cI cZ a s0 hh) sz)) 0 0 (va_A (tm_wModel cI cZ a s0 hh) sz) := by
  refine Met.ofW (cc := cX9_echo) (maxL := 5) (ret := (some .int)) (by decide +kernel) rfl ?_
  intro p e z m args below meth c z₁ B hml hv
  obtain ⟨rfl, hsz, hP, hK, hD0⟩ := hv
  have hx := B.exec
  have hb := B.bytes
  have hr := B.returns
  have hts := atoms_spec (ws := wsX9_echo) B.pre
  have hown : z.vm.findClass RX9 = some m.cls := findClass_of_methodNamed B.named
  have hlocks := B.notSynchronized
  subst hsz
  have hD := hD0.self (sz := z.heap.size)
  generalize hAe : va_A (tm_wModel cI cZ a s0 hh) z.heap.size = A at hD ⊢
  have hA : ∀ q : Nat, z.heap.size ≤ q → A q := fun q h => by rw [← hAe]; exact Or.inr h
  have hS : va_S A z.heap z.heap [] := va_S.rf
  have h_f19 := hts (.fieldLink RX9 19 "TwoModemsModel" "taps" "[I") (by decide +kernel)
  have h_in9 : ∀ w ∈ u_ws RX9 TX9 30, w ∈ wsX9_echo := by decide +kernel
  have hl := lv_entry ([.ref (a 0), .int p0, .int p1, .int p2]) (n := 5) (Nat.le_of_ble_eq_true rfl)
  rw [lg_entry_eq]
  generalize (lg_sl ([.ref (a 0), .int p0, .int p1, .int p2]) ++ List.replicate (5 - (lg_sl ([.ref (a 0), .int p0, .int p1, .int p2])).length) Slot.unset).toArray = ls at hl ⊢
  have hl : lv_has ls 5 [(0, .ref (a 0)), (1, .int p0), (2, .int p1), (3, .int p2)] := hl
  unfold wp_X9_echo at hw
  refine lv_iload_n hx hb dX9_echo_0 rfl (lv_at hl 1 rfl) ?_
  have hPc := hP.sub (ws' := ([] : va_W)) [] rfl
  have hDc := hD.sub (ws' := ([] : va_W)) [] (by decide) rfl
  have hFc := va_free (wc := ([] : va_W)) hD hS hA [] rfl
  refine va_calli (va_runS (As := [.int p0]) (rest := []) ⟨hx, hb, hml, hown, hts⟩ (kk_X9_isEnd l dC dI cI cZ z.heap.size p0 _ hw) (va_cwS 1 hts gX9_echo_X9_isEnd rfl rfl rfl (by decide +kernel) ⟨Nat.le_of_ble_eq_true rfl, Nat.le_of_ble_eq_true rfl⟩) ⟨tm_blind, fun U hU hW => ⟨rfl, by rw [hU], by rw [hU]; exact hPc, va_K.moved hW.alike hK, hDc.weaken (fun _ _ _ _ => trivial)⟩⟩ rfl rfl hl.1 rfl (lv_room (Nat.le_of_ble_eq_true rfl)) dX9_echo_1 ⟨Nat.zero_le _, Nat.zero_le _⟩) hS (fun q _ h => hFc q h) hFc (fun r1 u t H1 locs ht hvm hw hB hz1 hk1 hS => ?_)
  obtain ⟨hP1, hK1, hD1⟩ := hB
  rw [ht] at hP1
  have b9_r1 := hw.1
  have hw := hw.2
  obtain ⟨hP, hD⟩ := va_join (wr := (tm_wModel cI cZ a s0 hh)) (w1 := ([] : va_W)) hP hD [] [0, 1, 2, 3, 4, 5, 6, 7, 8, 9, 10, 11, 12, 13, 14, 15, 16, 17] rfl rfl (by decide) (by decide) hk1 hFc hP1 hD1
  rw [List.append_nil] at hP hD
  generalize H1 = H at hP hS ⊢
  refine lv_if_eq (tgt := 16) hx hb dX9_echo_4 (by decide) (fun c3 => ?_) (fun c3 => ?_)
  · have hw := hw.1 c3
    refine lv_sipush (v := (-1001)) hx hb dX9_echo_16 (by decide) ?_
    exact W.iret (v := (-1001)) hx hb hr (fun t ht hW => ⟨⟨(-1001), s0, rfl, hw, by rw [ht]; exact hP, va_K.moved hW.alike hK, hD⟩, hS.F ht⟩) hS.2.2 dX9_echo_19
  · have hw := hw.2 c3
    refine lv_iload_n hx hb dX9_echo_7 rfl (lv_at hl 2 rfl) ?_
    refine lv_iconst (v := 0) hx hb dX9_echo_8 (by decide) ?_
    refine lv_iconst (v := 3) hx hb dX9_echo_9 (by decide) ?_
    have hPc := hP.sub (ws' := ([] : va_W)) [] rfl
    have hDc := hD.sub (ws' := ([] : va_W)) [] (by decide) rfl
    have hFc := va_free (wc := ([] : va_W)) hD hS hA [] rfl
    refine va_calli (va_runS (As := [.int p1, .int 0, .int 3]) (rest := []) ⟨hx, hb, hml, hown, hts⟩ (kk_X9_within l dC dI cI cZ H.size p1 0 3 _ hw) (va_cwS 3 hts gX9_echo_X9_within rfl rfl rfl (by decide +kernel) ⟨Nat.le_of_ble_eq_true rfl, Nat.le_of_ble_eq_true rfl⟩) ⟨tm_blind, fun U hU hW => ⟨rfl, by rw [hU], by rw [hU]; exact hPc, va_K.moved hW.alike hK, hDc.weaken (fun _ _ _ _ => trivial)⟩⟩ rfl rfl hl.1 rfl (lv_room (Nat.le_of_ble_eq_true rfl)) dX9_echo_10 ⟨Nat.zero_le _, Nat.zero_le _⟩) hS (fun q _ h => hFc q h) hFc (fun r4 u t H1 locs ht hvm hw hB hz1 hk1 hS => ?_)
    obtain ⟨hP1, hK1, hD1⟩ := hB
    rw [ht] at hP1
    have b9_r4 := hw.1
    have hw := hw.2
    obtain ⟨hP, hD⟩ := va_join (wr := (tm_wModel cI cZ a s0 hh)) (w1 := ([] : va_W)) hP hD [] [0, 1, 2, 3, 4, 5, 6, 7, 8, 9, 10, 11, 12, 13, 14, 15, 16, 17] rfl rfl (by decide) (by decide) hk1 hFc hP1 hD1
    rw [List.append_nil] at hP hD
    generalize H1 = H at hP hS ⊢
    refine lv_if_ne (tgt := 20) hx hb dX9_echo_13 (by decide) (fun c6 => ?_) (fun c6 => ?_)
    · have hw := hw.1 c6
      refine lv_iload_n hx hb dX9_echo_20 rfl (lv_at hl 3 rfl) ?_
      refine lv_bipush (v := (-100)) hx hb dX9_echo_21 (by decide) ?_
      refine lv_bipush (v := 100) hx hb dX9_echo_23 (by decide) ?_
      have hPc := hP.sub (ws' := ([] : va_W)) [] rfl
      have hDc := hD.sub (ws' := ([] : va_W)) [] (by decide) rfl
      have hFc := va_free (wc := ([] : va_W)) hD hS hA [] rfl
      refine va_calli (va_runS (As := [.int p2, .int (-100), .int 100]) (rest := []) ⟨hx, hb, hml, hown, hts⟩ (kk_X9_within l dC dI cI cZ H.size p2 (-100) 100 _ hw) (va_cwS 3 hts gX9_echo_X9_within rfl rfl rfl (by decide +kernel) ⟨Nat.le_of_ble_eq_true rfl, Nat.le_of_ble_eq_true rfl⟩) ⟨tm_blind, fun U hU hW => ⟨rfl, by rw [hU], by rw [hU]; exact hPc, va_K.moved hW.alike hK, hDc.weaken (fun _ _ _ _ => trivial)⟩⟩ rfl rfl hl.1 rfl (lv_room (Nat.le_of_ble_eq_true rfl)) dX9_echo_25 ⟨Nat.zero_le _, Nat.zero_le _⟩) hS (fun q _ h => hFc q h) hFc (fun r7 u t H1 locs ht hvm hw hB hz1 hk1 hS => ?_)
      obtain ⟨hP1, hK1, hD1⟩ := hB
      rw [ht] at hP1
      have b9_r7 := hw.1
      have hw := hw.2
      obtain ⟨hP, hD⟩ := va_join (wr := (tm_wModel cI cZ a s0 hh)) (w1 := ([] : va_W)) hP hD [] [0, 1, 2, 3, 4, 5, 6, 7, 8, 9, 10, 11, 12, 13, 14, 15, 16, 17] rfl rfl (by decide) (by decide) hk1 hFc hP1 hD1
      rw [List.append_nil] at hP hD
      generalize H1 = H at hP hS ⊢
      refine lv_if_ne (tgt := 35) hx hb dX9_echo_28 (by decide) (fun c9 => ?_) (fun c9 => ?_)
      · have hw := hw.1 c9
        refine lv_aload_n hx hb dX9_echo_35 rfl (lv_at hl 0 rfl) ?_
        refine va_get (D := (dC, dI)) (ci := 7) (v := .ref (a 4)) (C := RX9) (T := TX9) (N := 30) hx hb hts h_in9 hown hK hP 0 rfl rfl 3 (by decide) h_f19 (fun _ h9 => h9) rfl dX9_echo_36 ?_
        refine lv_iconst (v := 4) hx hb dX9_echo_39 (by decide) ?_
        refine lv_iload_n hx hb dX9_echo_40 rfl (lv_at hl 1 rfl) ?_
        refine lv_imul hx hb dX9_echo_41 ?_
        refine lv_iload_n hx hb dX9_echo_42 rfl (lv_at hl 2 rfl) ?_
        refine lv_iadd hx hb dX9_echo_43 ?_
        have c10 := hw.1
        have hw := hw.2
        refine va_iald hx hb hK hP 4 0 rfl rfl c10 dX9_echo_44 ?_
        refine lv_topi (fun x11 ex11 => ?_)
        have hw := hw x11 ex11
        refine lv_istore (lv' := [(4, .int x11), (0, .ref (a 0)), (1, .int p0), (2, .int p1), (3, .int p2)]) hx hb dX9_echo_45 hl (by decide) rfl (fun ls hl => ?_)
        refine lv_aload_n hx hb dX9_echo_47 rfl (lv_at hl 1 rfl) ?_
        refine va_get (D := (dC, dI)) (ci := 7) (v := .ref (a 4)) (C := RX9) (T := TX9) (N := 30) hx hb hts h_in9 hown hK hP 0 rfl rfl 3 (by decide) h_f19 (fun _ h9 => h9) rfl dX9_echo_48 ?_
        refine lv_iconst (v := 4) hx hb dX9_echo_51 (by decide) ?_
        refine lv_iload_n hx hb dX9_echo_52 rfl (lv_at hl 2 rfl) ?_
        refine lv_imul hx hb dX9_echo_53 ?_
        refine lv_iload_n hx hb dX9_echo_54 rfl (lv_at hl 3 rfl) ?_
        refine lv_iadd hx hb dX9_echo_55 ?_
        refine lv_iload_n hx hb dX9_echo_56 rfl (lv_at hl 4 rfl) ?_
        have c12 := hw.1
        have hw := hw.2
        refine va_iast hx hb hK hP hD hS 4 0 rfl rfl c12 dX9_echo_57 (fun H locs hP hD hS => ?_)
        obtain ⟨s13, es13⟩ : ∃ y : tm_St, y = tm_s s0 4 (upd (s0 4) (((4 * p0) + p1) : Int32).toNatClampNeg p2) := ⟨_, rfl⟩
        have hw := hw s13 es13
        have hP : va_P (dC, dI) vwCl (tm_wModel cI cZ a s13 hh) H := by rw [es13]; exact hP
        have hD : va_D A (tm_wModel cI cZ a s13 hh) := by rw [es13]; exact hD
        refine lv_iload hx hb dX9_echo_58 (lv_at hl 0 rfl) ?_
        exact W.iret (v := x11) hx hb hr (fun t ht hW => ⟨⟨x11, s13, rfl, hw, by rw [ht]; exact hP, va_K.moved hW.alike hK, hD⟩, hS.F ht⟩) hS.2.2 dX9_echo_60
      · have hw := hw.2 c9
        refine lv_sipush (v := (-1002)) hx hb dX9_echo_31 (by decide) ?_
        exact W.iret (v := (-1002)) hx hb hr (fun t ht hW => ⟨⟨(-1002), s0, rfl, hw, by rw [ht]; exact hP, va_K.moved hW.alike hK, hD⟩, hS.F ht⟩) hS.2.2 dX9_echo_34
    · have hw := hw.2 c6
      refine lv_sipush (v := (-1001)) hx hb dX9_echo_16 (by decide) ?_
      exact W.iret (v := (-1001)) hx hb hr (fun t ht hW => ⟨⟨(-1001), s0, rfl, hw, by rw [ht]; exact hP, va_K.moved hW.alike hK, hD⟩, hS.F ht⟩) hS.2.2 dX9_echo_19
def wp_X9_put (p0 : Int32) (p1 : Int32) (p2 : Int32) (s0 : tm_St) (K : tm_St → Prop) : Prop := (vp_in ((24 * p0) + p1) 48 ∧ (∀ s2 : tm_St, s2 = tm_s s0 1 (upd (s0 1) (((24 * p0) + p1) : Int32).toNatClampNeg p2) → K s2))
set_option maxRecDepth 100000 in
set_option maxHeartbeats 4000000 in
theorem kk_X9_put (l : Launch) (dC : Nat → ClassId) (dI : Nat → Nat → Nat) (cI cZ : ClassId) (a : Nat → Nat) (s0 : tm_St) (hh : Int64) (sz : Nat) (p0 : Int32) (p1 : Int32) (p2 : Int32) (K : tm_St → Prop) (hw : wp_X9_put p0 p1 p2 s0 K) : Met l yX9_put wsX9_put ({ frames := 0, cells := 0, slots := 0, locals := 0 }) (va_Pc [.ref (a 0), .int p0, .int p1, .int p2] (tm_Pre dC dI cI cZ (tm_wModel cI cZ a s0 hh) sz)) (va_Qv (fun (u : tm_St) => K u) (fun (u : tm_St) t => tm_At dC dI cI cZ (va_A (tm_wModel cI cZ a s0 hh) sz) (tm_wModel cI cZ a u hh) t) (va_A (tm_wModel cI cZ a s0 hh) sz)) 0 0 (va_A (tm_wModel cI cZ a s0 hh) sz) := by
  refine Met.ofW (cc := cX9_put) (maxL := 4) (ret := none) (by decide +kernel) rfl ?_
  intro p e z m args below meth c z₁ B hml hv
  obtain ⟨rfl, hsz, hP, hK, hD0⟩ := hv
  have hx := B.exec
  have hb := B.bytes
  have hr := B.returns
  have hts := atoms_spec (ws := wsX9_put) B.pre
  have hown : z.vm.findClass RX9 = some m.cls := findClass_of_methodNamed B.named
  have hlocks := B.notSynchronized
  subst hsz
  have hD := hD0.self (sz := z.heap.size)
  generalize hAe : va_A (tm_wModel cI cZ a s0 hh) z.heap.size = A at hD ⊢
  have hA : ∀ q : Nat, z.heap.size ≤ q → A q := fun q h => by rw [← hAe]; exact Or.inr h
  have hS : va_S A z.heap z.heap [] := va_S.rf
  have h_f7 := hts (.fieldLink RX9 7 "TwoModemsModel" "ends" "[I") (by decide +kernel)
  have h_in9 : ∀ w ∈ u_ws RX9 TX9 30, w ∈ wsX9_put := by decide +kernel
  have hl := lv_entry ([.ref (a 0), .int p0, .int p1, .int p2]) (n := 4) (Nat.le_of_ble_eq_true rfl)
  rw [lg_entry_eq]
  generalize (lg_sl ([.ref (a 0), .int p0, .int p1, .int p2]) ++ List.replicate (4 - (lg_sl ([.ref (a 0), .int p0, .int p1, .int p2])).length) Slot.unset).toArray = ls at hl ⊢
  have hl : lv_has ls 4 [(0, .ref (a 0)), (1, .int p0), (2, .int p1), (3, .int p2)] := hl
  unfold wp_X9_put at hw
  refine lv_aload_n hx hb dX9_put_0 rfl (lv_at hl 0 rfl) ?_
  refine va_get (D := (dC, dI)) (ci := 7) (v := .ref (a 1)) (C := RX9) (T := TX9) (N := 30) hx hb hts h_in9 hown hK hP 0 rfl rfl 0 (by decide) h_f7 (fun _ h9 => h9) rfl dX9_put_1 ?_
  refine lv_bipush (v := 24) hx hb dX9_put_4 (by decide) ?_
  refine lv_iload_n hx hb dX9_put_6 rfl (lv_at hl 1 rfl) ?_
  refine lv_imul hx hb dX9_put_7 ?_
  refine lv_iload_n hx hb dX9_put_8 rfl (lv_at hl 2 rfl) ?_
  refine lv_iadd hx hb dX9_put_9 ?_
  refine lv_iload_n hx hb dX9_put_10 rfl (lv_at hl 3 rfl) ?_
  have c1 := hw.1
  have hw := hw.2
  refine va_iast hx hb hK hP hD hS 1 0 rfl rfl c1 dX9_put_11 (fun H locs hP hD hS => ?_)
  obtain ⟨s2, es2⟩ : ∃ y : tm_St, y = tm_s s0 1 (upd (s0 1) (((24 * p0) + p1) : Int32).toNatClampNeg p2) := ⟨_, rfl⟩
  have hw := hw s2 es2
  have hP : va_P (dC, dI) vwCl (tm_wModel cI cZ a s2 hh) H := by rw [es2]; exact hP
  have hD : va_D A (tm_wModel cI cZ a s2 hh) := by rw [es2]; exact hD
  exact W.vret hx hb hr (fun t ht hW => ⟨⟨s2, rfl, hw, by rw [ht]; exact hP, va_K.moved hW.alike hK, hD⟩, hS.F ht⟩) hS.2.2 dX9_put_12
def wp_X9_goesTo (p0 : Int32) (p1 : Int32) (s0 : tm_St) (K : tm_St → Prop) : Prop := (wp_X9_put p0 0 p1 s0 (fun s1 => (wp_X9_put p0 1 0 s1 (fun s2 => K s2))))
set_option maxRecDepth 100000 in
set_option maxHeartbeats 4000000 in
theorem kk_X9_goesTo (l : Launch) (dC : Nat → ClassId) (dI : Nat → Nat → Nat) (cI cZ : ClassId) (a : Nat → Nat) (s0 : tm_St) (hh : Int64) (sz : Nat) (p0 : Int32) (p1 : Int32) (K : tm_St → Prop) (hw : wp_X9_goesTo p0 p1 s0 K) : Met l yX9_goesTo wsX9_goesTo ({ frames := 1, cells := 0, slots := 0, locals := 23 }) (va_Pc [.ref (a 0), .int p0, .int p1] (tm_Pre dC dI cI cZ (tm_wModel cI cZ a s0 hh) sz)) (va_Qv (fun (u : tm_St) => K u) (fun (u : tm_St) t => tm_At dC dI cI cZ (va_A (tm_wModel cI cZ a s0 hh) sz) (tm_wModel cI cZ a u hh) t) (va_A (tm_wModel cI cZ a s0 hh) sz)) 0 0 (va_A (tm_wModel cI cZ a s0 hh) sz) := by
  refine Met.ofW (cc := cX9_goesTo) (maxL := 3) (ret := none) (by decide +kernel) rfl ?_
  intro p e z m args below meth c z₁ B hml hv
  obtain ⟨rfl, hsz, hP, hK, hD0⟩ := hv
  have hx := B.exec
  have hb := B.bytes
  have hr := B.returns
  have hts := atoms_spec (ws := wsX9_goesTo) B.pre
  have hown : z.vm.findClass RX9 = some m.cls := findClass_of_methodNamed B.named
  have hlocks := B.notSynchronized
  subst hsz
  have hD := hD0.self (sz := z.heap.size)
  generalize hAe : va_A (tm_wModel cI cZ a s0 hh) z.heap.size = A at hD ⊢
  have hA : ∀ q : Nat, z.heap.size ≤ q → A q := fun q h => by rw [← hAe]; exact Or.inr h
  have hS : va_S A z.heap z.heap [] := va_S.rf
  have hl := lv_entry ([.ref (a 0), .int p0, .int p1]) (n := 3) (Nat.le_of_ble_eq_true rfl)
  rw [lg_entry_eq]
  generalize (lg_sl ([.ref (a 0), .int p0, .int p1]) ++ List.replicate (3 - (lg_sl ([.ref (a 0), .int p0, .int p1])).length) Slot.unset).toArray = ls at hl ⊢
  have hl : lv_has ls 3 [(0, .ref (a 0)), (1, .int p0), (2, .int p1)] := hl
  unfold wp_X9_goesTo at hw
  refine lv_aload_n hx hb dX9_goesTo_0 rfl (lv_at hl 0 rfl) ?_
  refine lv_iload_n hx hb dX9_goesTo_1 rfl (lv_at hl 1 rfl) ?_
  refine lv_iconst (v := 0) hx hb dX9_goesTo_2 (by decide) ?_
  refine lv_iload_n hx hb dX9_goesTo_3 rfl (lv_at hl 2 rfl) ?_
  have hPc := hP
  have hDc := hD
  have hFc := va_free (wc := (tm_wModel cI cZ a s0 hh)) hD hS hA [0, 1, 2, 3, 4, 5, 6, 7, 8, 9, 10, 11, 12, 13, 14, 15, 16, 17] rfl
  refine va_callv (va_runV (As := [.int p0, .int 0, .int p1]) (rest := []) ⟨hx, hb, hml, hown, hts⟩ (kk_X9_put l dC dI cI cZ a s0 hh z.heap.size p0 0 p1 _ hw) (cwV 3 hts gX9_goesTo_X9_put rfl rfl rfl (by decide +kernel) ⟨Nat.le_of_ble_eq_true rfl, Nat.le_of_ble_eq_true rfl⟩) ⟨tm_blind, va_recv hK hPc (ci := 7) (q0 := 0) rfl rfl, fun U hU hW => ⟨rfl, by rw [hU], by rw [hU]; exact hPc, va_K.moved hW.alike hK, hDc.weaken (fun _ _ _ _ => trivial)⟩⟩ rfl rfl hl.1 rfl (lv_room (Nat.le_of_ble_eq_true rfl)) dX9_goesTo_4 ⟨Nat.zero_le _, Nat.zero_le _⟩) hS (fun q _ h => hFc q h) hFc (fun s1 t H1 locs ht hvm hw hB hz1 hk1 hS => ?_)
  obtain ⟨hP1, hK1, hD1⟩ := hB
  rw [ht] at hP1
  obtain ⟨hP, hD⟩ := va_join (wr := []) (w1 := (tm_wModel cI cZ a s1 hh)) hP hD [0, 1, 2, 3, 4, 5, 6, 7, 8, 9, 10, 11, 12, 13, 14, 15, 16, 17] [] rfl rfl (by decide) (by decide) hk1 hFc hP1 hD1
  generalize H1 = H at hP hS ⊢
  have hP : va_P (dC, dI) vwCl (tm_wModel cI cZ a s1 hh) H := hP
  have hD : va_D A (tm_wModel cI cZ a s1 hh) := hD
  refine lv_aload_n hx hb dX9_goesTo_7 rfl (lv_at hl 0 rfl) ?_
  refine lv_iload_n hx hb dX9_goesTo_8 rfl (lv_at hl 1 rfl) ?_
  refine lv_iconst (v := 1) hx hb dX9_goesTo_9 (by decide) ?_
  refine lv_iconst (v := 0) hx hb dX9_goesTo_10 (by decide) ?_
  have hPc := hP
  have hDc := hD
  have hFc := va_free (wc := (tm_wModel cI cZ a s1 hh)) hD hS hA [0, 1, 2, 3, 4, 5, 6, 7, 8, 9, 10, 11, 12, 13, 14, 15, 16, 17] rfl
  refine va_callv (va_runV (As := [.int p0, .int 1, .int 0]) (rest := []) ⟨hx, hb, hml, hown, hts⟩ (kk_X9_put l dC dI cI cZ a s1 hh H.size p0 1 0 _ hw) (cwV 3 hts gX9_goesTo_X9_put rfl rfl rfl (by decide +kernel) ⟨Nat.le_of_ble_eq_true rfl, Nat.le_of_ble_eq_true rfl⟩) ⟨tm_blind, va_recv hK hPc (ci := 7) (q0 := 0) rfl rfl, fun U hU hW => ⟨rfl, by rw [hU], by rw [hU]; exact hPc, va_K.moved hW.alike hK, hDc.weaken (fun _ _ _ _ => trivial)⟩⟩ rfl rfl hl.1 rfl (lv_room (Nat.le_of_ble_eq_true rfl)) dX9_goesTo_11 ⟨Nat.zero_le _, Nat.zero_le _⟩) hS (fun q _ h => hFc q h) hFc (fun s2 t H1 locs ht hvm hw hB hz1 hk1 hS => ?_)
  obtain ⟨hP1, hK1, hD1⟩ := hB
  rw [ht] at hP1
  obtain ⟨hP, hD⟩ := va_join (wr := []) (w1 := (tm_wModel cI cZ a s2 hh)) hP hD [0, 1, 2, 3, 4, 5, 6, 7, 8, 9, 10, 11, 12, 13, 14, 15, 16, 17] [] rfl rfl (by decide) (by decide) hk1 hFc hP1 hD1
  generalize H1 = H at hP hS ⊢
  have hP : va_P (dC, dI) vwCl (tm_wModel cI cZ a s2 hh) H := hP
  have hD : va_D A (tm_wModel cI cZ a s2 hh) := hD
  exact W.vret hx hb hr (fun t ht hW => ⟨⟨s2, rfl, hw, by rw [ht]; exact hP, va_K.moved hW.alike hK, hD⟩, hS.F ht⟩) hS.2.2 dX9_goesTo_14
def wp_X9_call (p0 : Int32) (s0 : tm_St) (K : Int32 → tm_St → Prop) : Prop := (wp_X9_isEnd p0 (fun r1 => ((¬ r1 = 0 → (wp_X9_of p0 0 s0 (fun r4 s5 => ((r4 = 0 → (wp_X9_goesTo p0 1 s5 (fun s7 => K 1 s7))) ∧ (¬ r4 = 0 → K (-1003) s5))))) ∧ (r1 = 0 → K (-1001) s0))))
set_option maxRecDepth 100000 in
set_option maxHeartbeats 4000000 in
theorem kk_X9_call (l : Launch) (dC : Nat → ClassId) (dI : Nat → Nat → Nat) (cI cZ : ClassId) (a : Nat → Nat) (s0 : tm_St) (hh : Int64) (sz : Nat) (p0 : Int32) (K : Int32 → tm_St → Prop) (hw : wp_X9_call p0 s0 K) : Met l yX9_call wsX9_call ({ frames := 2, cells := 0, slots := 0, locals := 45 }) (va_Pc [.ref (a 0), .int p0] (tm_Pre dC dI cI cZ (tm_wModel cI cZ a s0 hh) sz)) (va_Qi (fun (r : Int32) (u : tm_St) => K r u) (fun (u : tm_St) t => tm_At dC dI cI cZ (va_A (tm_wModel cI cZ a s0 hh) sz) (tm_wModel cI cZ a u hh) t) (va_A (tm_wModel cI cZ a s0 hh) sz)) 0 0 (va_A (tm_wModel cI cZ a s0 hh) sz) := by
  refine Met.ofW (cc := cX9_call) (maxL := 2) (ret := (some .int)) (by decide +kernel) rfl ?_
  intro p e z m args below meth c z₁ B hml hv
  obtain ⟨rfl, hsz, hP, hK, hD0⟩ := hv
  have hx := B.exec
  have hb := B.bytes
  have hr := B.returns
  have hts := atoms_spec (ws := wsX9_call) B.pre
  have hown : z.vm.findClass RX9 = some m.cls := findClass_of_methodNamed B.named
  have hlocks := B.notSynchronized
  subst hsz
  have hD := hD0.self (sz := z.heap.size)
  generalize hAe : va_A (tm_wModel cI cZ a s0 hh) z.heap.size = A at hD ⊢
  have hA : ∀ q : Nat, z.heap.size ≤ q → A q := fun q h => by rw [← hAe]; exact Or.inr h
  have hS : va_S A z.heap z.heap [] := va_S.rf
  have hl := lv_entry ([.ref (a 0), .int p0]) (n := 2) (Nat.le_of_ble_eq_true rfl)
  rw [lg_entry_eq]
  generalize (lg_sl ([.ref (a 0), .int p0]) ++ List.replicate (2 - (lg_sl ([.ref (a 0), .int p0])).length) Slot.unset).toArray = ls at hl ⊢
  have hl : lv_has ls 2 [(0, .ref (a 0)), (1, .int p0)] := hl
  unfold wp_X9_call at hw
  refine lv_iload_n hx hb dX9_call_0 rfl (lv_at hl 1 rfl) ?_
  have hPc := hP.sub (ws' := ([] : va_W)) [] rfl
  have hDc := hD.sub (ws' := ([] : va_W)) [] (by decide) rfl
  have hFc := va_free (wc := ([] : va_W)) hD hS hA [] rfl
  refine va_calli (va_runS (As := [.int p0]) (rest := []) ⟨hx, hb, hml, hown, hts⟩ (kk_X9_isEnd l dC dI cI cZ z.heap.size p0 _ hw) (va_cwS 1 hts gX9_call_X9_isEnd rfl rfl rfl (by decide +kernel) ⟨Nat.le_of_ble_eq_true rfl, Nat.le_of_ble_eq_true rfl⟩) ⟨tm_blind, fun U hU hW => ⟨rfl, by rw [hU], by rw [hU]; exact hPc, va_K.moved hW.alike hK, hDc.weaken (fun _ _ _ _ => trivial)⟩⟩ rfl rfl hl.1 rfl (lv_room (Nat.le_of_ble_eq_true rfl)) dX9_call_1 ⟨Nat.zero_le _, Nat.zero_le _⟩) hS (fun q _ h => hFc q h) hFc (fun r1 u t H1 locs ht hvm hw hB hz1 hk1 hS => ?_)
  obtain ⟨hP1, hK1, hD1⟩ := hB
  rw [ht] at hP1
  have b9_r1 := hw.1
  have hw := hw.2
  obtain ⟨hP, hD⟩ := va_join (wr := (tm_wModel cI cZ a s0 hh)) (w1 := ([] : va_W)) hP hD [] [0, 1, 2, 3, 4, 5, 6, 7, 8, 9, 10, 11, 12, 13, 14, 15, 16, 17] rfl rfl (by decide) (by decide) hk1 hFc hP1 hD1
  rw [List.append_nil] at hP hD
  generalize H1 = H at hP hS ⊢
  refine lv_if_ne (tgt := 11) hx hb dX9_call_4 (by decide) (fun c3 => ?_) (fun c3 => ?_)
  · have hw := hw.1 c3
    refine lv_aload_n hx hb dX9_call_11 rfl (lv_at hl 0 rfl) ?_
    refine lv_iload_n hx hb dX9_call_12 rfl (lv_at hl 1 rfl) ?_
    refine lv_iconst (v := 0) hx hb dX9_call_13 (by decide) ?_
    have hPc := hP
    have hDc := hD
    have hFc := va_free (wc := (tm_wModel cI cZ a s0 hh)) hD hS hA [0, 1, 2, 3, 4, 5, 6, 7, 8, 9, 10, 11, 12, 13, 14, 15, 16, 17] rfl
    refine va_calli (va_runV (As := [.int p0, .int 0]) (rest := []) ⟨hx, hb, hml, hown, hts⟩ (kk_X9_of l dC dI cI cZ a s0 hh H.size p0 0 _ hw) (cwV 2 hts gX9_call_X9_of rfl rfl rfl (by decide +kernel) ⟨Nat.le_of_ble_eq_true rfl, Nat.le_of_ble_eq_true rfl⟩) ⟨tm_blind, va_recv hK hPc (ci := 7) (q0 := 0) rfl rfl, fun U hU hW => ⟨rfl, by rw [hU], by rw [hU]; exact hPc, va_K.moved hW.alike hK, hDc.weaken (fun _ _ _ _ => trivial)⟩⟩ rfl rfl hl.1 rfl (lv_room (Nat.le_of_ble_eq_true rfl)) dX9_call_14 ⟨Nat.zero_le _, Nat.zero_le _⟩) hS (fun q _ h => hFc q h) hFc (fun r4 s5 t H1 locs ht hvm hw hB hz1 hk1 hS => ?_)
    obtain ⟨hP1, hK1, hD1⟩ := hB
    rw [ht] at hP1
    obtain ⟨hP, hD⟩ := va_join (wr := []) (w1 := (tm_wModel cI cZ a s5 hh)) hP hD [0, 1, 2, 3, 4, 5, 6, 7, 8, 9, 10, 11, 12, 13, 14, 15, 16, 17] [] rfl rfl (by decide) (by decide) hk1 hFc hP1 hD1
    generalize H1 = H at hP hS ⊢
    have hP : va_P (dC, dI) vwCl (tm_wModel cI cZ a s5 hh) H := hP
    have hD : va_D A (tm_wModel cI cZ a s5 hh) := hD
    refine lv_if_eq (tgt := 24) hx hb dX9_call_17 (by decide) (fun c6 => ?_) (fun c6 => ?_)
    · have hw := hw.1 c6
      refine lv_aload_n hx hb dX9_call_24 rfl (lv_at hl 0 rfl) ?_
      refine lv_iload_n hx hb dX9_call_25 rfl (lv_at hl 1 rfl) ?_
      refine lv_iconst (v := 1) hx hb dX9_call_26 (by decide) ?_
      have hPc := hP
      have hDc := hD
      have hFc := va_free (wc := (tm_wModel cI cZ a s5 hh)) hD hS hA [0, 1, 2, 3, 4, 5, 6, 7, 8, 9, 10, 11, 12, 13, 14, 15, 16, 17] rfl
      refine va_callv (va_runV (As := [.int p0, .int 1]) (rest := []) ⟨hx, hb, hml, hown, hts⟩ (kk_X9_goesTo l dC dI cI cZ a s5 hh H.size p0 1 _ hw) (cwV 2 hts gX9_call_X9_goesTo rfl rfl rfl (by decide +kernel) ⟨Nat.le_of_ble_eq_true rfl, Nat.le_of_ble_eq_true rfl⟩) ⟨tm_blind, va_recv hK hPc (ci := 7) (q0 := 0) rfl rfl, fun U hU hW => ⟨rfl, by rw [hU], by rw [hU]; exact hPc, va_K.moved hW.alike hK, hDc.weaken (fun _ _ _ _ => trivial)⟩⟩ rfl rfl hl.1 rfl (lv_room (Nat.le_of_ble_eq_true rfl)) dX9_call_27 ⟨Nat.zero_le _, Nat.zero_le _⟩) hS (fun q _ h => hFc q h) hFc (fun s7 t H1 locs ht hvm hw hB hz1 hk1 hS => ?_)
      obtain ⟨hP1, hK1, hD1⟩ := hB
      rw [ht] at hP1
      obtain ⟨hP, hD⟩ := va_join (wr := []) (w1 := (tm_wModel cI cZ a s7 hh)) hP hD [0, 1, 2, 3, 4, 5, 6, 7, 8, 9, 10, 11, 12, 13, 14, 15, 16, 17] [] rfl rfl (by decide) (by decide) hk1 hFc hP1 hD1
      generalize H1 = H at hP hS ⊢
      have hP : va_P (dC, dI) vwCl (tm_wModel cI cZ a s7 hh) H := hP
      have hD : va_D A (tm_wModel cI cZ a s7 hh) := hD
      refine lv_iconst (v := 1) hx hb dX9_call_30 (by decide) ?_
      exact W.iret (v := 1) hx hb hr (fun t ht hW => ⟨⟨1, s7, rfl, hw, by rw [ht]; exact hP, va_K.moved hW.alike hK, hD⟩, hS.F ht⟩) hS.2.2 dX9_call_31
    · have hw := hw.2 c6
      refine lv_sipush (v := (-1003)) hx hb dX9_call_20 (by decide) ?_
      exact W.iret (v := (-1003)) hx hb hr (fun t ht hW => ⟨⟨(-1003), s5, rfl, hw, by rw [ht]; exact hP, va_K.moved hW.alike hK, hD⟩, hS.F ht⟩) hS.2.2 dX9_call_23
  · have hw := hw.2 c3
    refine lv_sipush (v := (-1001)) hx hb dX9_call_7 (by decide) ?_
    exact W.iret (v := (-1001)) hx hb hr (fun t ht hW => ⟨⟨(-1001), s0, rfl, hw, by rw [ht]; exact hP, va_K.moved hW.alike hK, hD⟩, hS.F ht⟩) hS.2.2 dX9_call_10
def wp_X9_hang (p0 : Int32) (s0 : tm_St) (K : Int32 → tm_St → Prop) : Prop := (wp_X9_isEnd p0 (fun r1 => ((¬ r1 = 0 → (wp_X9_of p0 0 s0 (fun r4 s5 => ((¬ r4 = 0 → (wp_X9_goesTo p0 0 s5 (fun s7 => K r4 s7))) ∧ (r4 = 0 → K (-1003) s5))))) ∧ (r1 = 0 → K (-1001) s0))))
set_option maxRecDepth 100000 in
set_option maxHeartbeats 4000000 in
theorem kk_X9_hang (l : Launch) (dC : Nat → ClassId) (dI : Nat → Nat → Nat) (cI cZ : ClassId) (a : Nat → Nat) (s0 : tm_St) (hh : Int64) (sz : Nat) (p0 : Int32) (K : Int32 → tm_St → Prop) (hw : wp_X9_hang p0 s0 K) : Met l yX9_hang wsX9_hang ({ frames := 2, cells := 0, slots := 0, locals := 45 }) (va_Pc [.ref (a 0), .int p0] (tm_Pre dC dI cI cZ (tm_wModel cI cZ a s0 hh) sz)) (va_Qi (fun (r : Int32) (u : tm_St) => K r u) (fun (u : tm_St) t => tm_At dC dI cI cZ (va_A (tm_wModel cI cZ a s0 hh) sz) (tm_wModel cI cZ a u hh) t) (va_A (tm_wModel cI cZ a s0 hh) sz)) 0 0 (va_A (tm_wModel cI cZ a s0 hh) sz) := by
  refine Met.ofW (cc := cX9_hang) (maxL := 3) (ret := (some .int)) (by decide +kernel) rfl ?_
  intro p e z m args below meth c z₁ B hml hv
  obtain ⟨rfl, hsz, hP, hK, hD0⟩ := hv
  have hx := B.exec
  have hb := B.bytes
  have hr := B.returns
  have hts := atoms_spec (ws := wsX9_hang) B.pre
  have hown : z.vm.findClass RX9 = some m.cls := findClass_of_methodNamed B.named
  have hlocks := B.notSynchronized
  subst hsz
  have hD := hD0.self (sz := z.heap.size)
  generalize hAe : va_A (tm_wModel cI cZ a s0 hh) z.heap.size = A at hD ⊢
  have hA : ∀ q : Nat, z.heap.size ≤ q → A q := fun q h => by rw [← hAe]; exact Or.inr h
  have hS : va_S A z.heap z.heap [] := va_S.rf
  have hl := lv_entry ([.ref (a 0), .int p0]) (n := 3) (Nat.le_of_ble_eq_true rfl)
  rw [lg_entry_eq]
  generalize (lg_sl ([.ref (a 0), .int p0]) ++ List.replicate (3 - (lg_sl ([.ref (a 0), .int p0])).length) Slot.unset).toArray = ls at hl ⊢
  have hl : lv_has ls 3 [(0, .ref (a 0)), (1, .int p0)] := hl
  unfold wp_X9_hang at hw
  refine lv_iload_n hx hb dX9_hang_0 rfl (lv_at hl 1 rfl) ?_
  have hPc := hP.sub (ws' := ([] : va_W)) [] rfl
  have hDc := hD.sub (ws' := ([] : va_W)) [] (by decide) rfl
  have hFc := va_free (wc := ([] : va_W)) hD hS hA [] rfl
  refine va_calli (va_runS (As := [.int p0]) (rest := []) ⟨hx, hb, hml, hown, hts⟩ (kk_X9_isEnd l dC dI cI cZ z.heap.size p0 _ hw) (va_cwS 1 hts gX9_hang_X9_isEnd rfl rfl rfl (by decide +kernel) ⟨Nat.le_of_ble_eq_true rfl, Nat.le_of_ble_eq_true rfl⟩) ⟨tm_blind, fun U hU hW => ⟨rfl, by rw [hU], by rw [hU]; exact hPc, va_K.moved hW.alike hK, hDc.weaken (fun _ _ _ _ => trivial)⟩⟩ rfl rfl hl.1 rfl (lv_room (Nat.le_of_ble_eq_true rfl)) dX9_hang_1 ⟨Nat.zero_le _, Nat.zero_le _⟩) hS (fun q _ h => hFc q h) hFc (fun r1 u t H1 locs ht hvm hw hB hz1 hk1 hS => ?_)
  obtain ⟨hP1, hK1, hD1⟩ := hB
  rw [ht] at hP1
  have b9_r1 := hw.1
  have hw := hw.2
  obtain ⟨hP, hD⟩ := va_join (wr := (tm_wModel cI cZ a s0 hh)) (w1 := ([] : va_W)) hP hD [] [0, 1, 2, 3, 4, 5, 6, 7, 8, 9, 10, 11, 12, 13, 14, 15, 16, 17] rfl rfl (by decide) (by decide) hk1 hFc hP1 hD1
  rw [List.append_nil] at hP hD
  generalize H1 = H at hP hS ⊢
  refine lv_if_ne (tgt := 11) hx hb dX9_hang_4 (by decide) (fun c3 => ?_) (fun c3 => ?_)
  · have hw := hw.1 c3
    refine lv_aload_n hx hb dX9_hang_11 rfl (lv_at hl 0 rfl) ?_
    refine lv_iload_n hx hb dX9_hang_12 rfl (lv_at hl 1 rfl) ?_
    refine lv_iconst (v := 0) hx hb dX9_hang_13 (by decide) ?_
    have hPc := hP
    have hDc := hD
    have hFc := va_free (wc := (tm_wModel cI cZ a s0 hh)) hD hS hA [0, 1, 2, 3, 4, 5, 6, 7, 8, 9, 10, 11, 12, 13, 14, 15, 16, 17] rfl
    refine va_calli (va_runV (As := [.int p0, .int 0]) (rest := []) ⟨hx, hb, hml, hown, hts⟩ (kk_X9_of l dC dI cI cZ a s0 hh H.size p0 0 _ hw) (cwV 2 hts gX9_hang_X9_of rfl rfl rfl (by decide +kernel) ⟨Nat.le_of_ble_eq_true rfl, Nat.le_of_ble_eq_true rfl⟩) ⟨tm_blind, va_recv hK hPc (ci := 7) (q0 := 0) rfl rfl, fun U hU hW => ⟨rfl, by rw [hU], by rw [hU]; exact hPc, va_K.moved hW.alike hK, hDc.weaken (fun _ _ _ _ => trivial)⟩⟩ rfl rfl hl.1 rfl (lv_room (Nat.le_of_ble_eq_true rfl)) dX9_hang_14 ⟨Nat.zero_le _, Nat.zero_le _⟩) hS (fun q _ h => hFc q h) hFc (fun r4 s5 t H1 locs ht hvm hw hB hz1 hk1 hS => ?_)
    obtain ⟨hP1, hK1, hD1⟩ := hB
    rw [ht] at hP1
    obtain ⟨hP, hD⟩ := va_join (wr := []) (w1 := (tm_wModel cI cZ a s5 hh)) hP hD [0, 1, 2, 3, 4, 5, 6, 7, 8, 9, 10, 11, 12, 13, 14, 15, 16, 17] [] rfl rfl (by decide) (by decide) hk1 hFc hP1 hD1
    generalize H1 = H at hP hS ⊢
    have hP : va_P (dC, dI) vwCl (tm_wModel cI cZ a s5 hh) H := hP
    have hD : va_D A (tm_wModel cI cZ a s5 hh) := hD
    refine lv_istore_n (lv' := [(2, .int r4), (0, .ref (a 0)), (1, .int p0)]) hx hb dX9_hang_17 rfl hl (by decide) rfl (fun ls hl => ?_)
    refine lv_iload_n hx hb dX9_hang_18 rfl (lv_at hl 0 rfl) ?_
    refine lv_if_ne (tgt := 26) hx hb dX9_hang_19 (by decide) (fun c6 => ?_) (fun c6 => ?_)
    · have hw := hw.1 c6
      refine lv_aload_n hx hb dX9_hang_26 rfl (lv_at hl 1 rfl) ?_
      refine lv_iload_n hx hb dX9_hang_27 rfl (lv_at hl 2 rfl) ?_
      refine lv_iconst (v := 0) hx hb dX9_hang_28 (by decide) ?_
      have hPc := hP
      have hDc := hD
      have hFc := va_free (wc := (tm_wModel cI cZ a s5 hh)) hD hS hA [0, 1, 2, 3, 4, 5, 6, 7, 8, 9, 10, 11, 12, 13, 14, 15, 16, 17] rfl
      refine va_callv (va_runV (As := [.int p0, .int 0]) (rest := []) ⟨hx, hb, hml, hown, hts⟩ (kk_X9_goesTo l dC dI cI cZ a s5 hh H.size p0 0 _ hw) (cwV 2 hts gX9_hang_X9_goesTo rfl rfl rfl (by decide +kernel) ⟨Nat.le_of_ble_eq_true rfl, Nat.le_of_ble_eq_true rfl⟩) ⟨tm_blind, va_recv hK hPc (ci := 7) (q0 := 0) rfl rfl, fun U hU hW => ⟨rfl, by rw [hU], by rw [hU]; exact hPc, va_K.moved hW.alike hK, hDc.weaken (fun _ _ _ _ => trivial)⟩⟩ rfl rfl hl.1 rfl (lv_room (Nat.le_of_ble_eq_true rfl)) dX9_hang_29 ⟨Nat.zero_le _, Nat.zero_le _⟩) hS (fun q _ h => hFc q h) hFc (fun s7 t H1 locs ht hvm hw hB hz1 hk1 hS => ?_)
      obtain ⟨hP1, hK1, hD1⟩ := hB
      rw [ht] at hP1
      obtain ⟨hP, hD⟩ := va_join (wr := []) (w1 := (tm_wModel cI cZ a s7 hh)) hP hD [0, 1, 2, 3, 4, 5, 6, 7, 8, 9, 10, 11, 12, 13, 14, 15, 16, 17] [] rfl rfl (by decide) (by decide) hk1 hFc hP1 hD1
      generalize H1 = H at hP hS ⊢
      have hP : va_P (dC, dI) vwCl (tm_wModel cI cZ a s7 hh) H := hP
      have hD : va_D A (tm_wModel cI cZ a s7 hh) := hD
      refine lv_iload_n hx hb dX9_hang_32 rfl (lv_at hl 0 rfl) ?_
      exact W.iret (v := r4) hx hb hr (fun t ht hW => ⟨⟨r4, s7, rfl, hw, by rw [ht]; exact hP, va_K.moved hW.alike hK, hD⟩, hS.F ht⟩) hS.2.2 dX9_hang_33
    · have hw := hw.2 c6
      refine lv_sipush (v := (-1003)) hx hb dX9_hang_22 (by decide) ?_
      exact W.iret (v := (-1003)) hx hb hr (fun t ht hW => ⟨⟨(-1003), s5, rfl, hw, by rw [ht]; exact hP, va_K.moved hW.alike hK, hD⟩, hS.F ht⟩) hS.2.2 dX9_hang_25
  · have hw := hw.2 c3
    refine lv_sipush (v := (-1001)) hx hb dX9_hang_7 (by decide) ?_
    exact W.iret (v := (-1001)) hx hb hr (fun t ht hW => ⟨⟨(-1001), s0, rfl, hw, by rw [ht]; exact hP, va_K.moved hW.alike hK, hD⟩, hS.F ht⟩) hS.2.2 dX9_hang_10
def wp_X9_slot (p0 : Int32) (p1 : Int32) (s0 : tm_St) (K : Int32 → tm_St → Prop) : Prop := K (8 * ((16 * p0) + (p1 - p1 / 16 * 16))) s0
set_option maxRecDepth 100000 in
set_option maxHeartbeats 4000000 in
theorem kk_X9_slot (l : Launch) (dC : Nat → ClassId) (dI : Nat → Nat → Nat) (cI cZ : ClassId) (a : Nat → Nat) (s0 : tm_St) (hh : Int64) (sz : Nat) (p0 : Int32) (p1 : Int32) (K : Int32 → tm_St → Prop) (hw : wp_X9_slot p0 p1 s0 K) : Met l yX9_slot wsX9_slot ({ frames := 0, cells := 0, slots := 0, locals := 0 }) (va_Pc [.ref (a 0), .int p0, .int p1] (tm_Pre dC dI cI cZ (tm_wModel cI cZ a s0 hh) sz)) (va_Qi (fun (r : Int32) (u : tm_St) => K r u) (fun (u : tm_St) t => tm_At dC dI cI cZ (va_A (tm_wModel cI cZ a s0 hh) sz) (tm_wModel cI cZ a u hh) t) (va_A (tm_wModel cI cZ a s0 hh) sz)) 0 0 (va_A (tm_wModel cI cZ a s0 hh) sz) := by
  refine Met.ofW (cc := cX9_slot) (maxL := 3) (ret := (some .int)) (by decide +kernel) rfl ?_
  intro p e z m args below meth c z₁ B hml hv
  obtain ⟨rfl, hsz, hP, hK, hD0⟩ := hv
  have hx := B.exec
  have hb := B.bytes
  have hr := B.returns
  have hts := atoms_spec (ws := wsX9_slot) B.pre
  have hown : z.vm.findClass RX9 = some m.cls := findClass_of_methodNamed B.named
  have hlocks := B.notSynchronized
  subst hsz
  have hD := hD0.self (sz := z.heap.size)
  generalize hAe : va_A (tm_wModel cI cZ a s0 hh) z.heap.size = A at hD ⊢
  have hA : ∀ q : Nat, z.heap.size ≤ q → A q := fun q h => by rw [← hAe]; exact Or.inr h
  have hS : va_S A z.heap z.heap [] := va_S.rf
  have hl := lv_entry ([.ref (a 0), .int p0, .int p1]) (n := 3) (Nat.le_of_ble_eq_true rfl)
  rw [lg_entry_eq]
  generalize (lg_sl ([.ref (a 0), .int p0, .int p1]) ++ List.replicate (3 - (lg_sl ([.ref (a 0), .int p0, .int p1])).length) Slot.unset).toArray = ls at hl ⊢
  have hl : lv_has ls 3 [(0, .ref (a 0)), (1, .int p0), (2, .int p1)] := hl
  unfold wp_X9_slot at hw
  refine lv_bipush (v := 8) hx hb dX9_slot_0 (by decide) ?_
  refine lv_bipush (v := 16) hx hb dX9_slot_2 (by decide) ?_
  refine lv_iload_n hx hb dX9_slot_4 rfl (lv_at hl 1 rfl) ?_
  refine lv_imul hx hb dX9_slot_5 ?_
  refine lv_iload_n hx hb dX9_slot_6 rfl (lv_at hl 2 rfl) ?_
  refine lv_bipush (v := 16) hx hb dX9_slot_7 (by decide) ?_
  refine lv_irem hx hb dX9_slot_9 (by decide) ?_
  refine lv_iadd hx hb dX9_slot_10 ?_
  refine lv_imul hx hb dX9_slot_11 ?_
  exact W.iret (v := (8 * ((16 * p0) + (p1 - p1 / 16 * 16)))) hx hb hr (fun t ht hW => ⟨⟨(8 * ((16 * p0) + (p1 - p1 / 16 * 16))), s0, rfl, hw, by rw [ht]; exact hP, va_K.moved hW.alike hK, hD⟩, hS.F ht⟩) hS.2.2 dX9_slot_12
def wp_X9_hear_193 (K : tm_St → Prop) : Nat → Int32 → Int32 → Int32 → tm_St → Prop
  | 0, _, _, _, _ => False
  | n + 1, v1, v3, v6, s => (((3 : Int32) ≤ v6 → (vp_in v3 256 ∧ (∀ s19 : tm_St, s19 = tm_s s 10 (upd (s 10) (v3 : Int32).toNatClampNeg 0) → K s19))) ∧ (¬ (3 : Int32) ≤ v6 → (vp_in ((v3 + 5) + v6) 256 ∧ (vp_in ((3 * v1) + v6) 6 ∧ (∀ s22 : tm_St, s22 = tm_s s 17 (upd (s 17) (((3 * v1) + v6) : Int32).toNatClampNeg (s 10 (((v3 + 5) + v6) : Int32).toNatClampNeg)) → (∀ x23 : Int32, x23 = v6 + 1 → wp_X9_hear_193 K n v1 v3 x23 s22))))))
def wp_X9_hear_109 (K : tm_St → Prop) : Nat → Int32 → Int32 → Int32 → Int32 → Int32 → tm_St → Prop
  | 0, _, _, _, _, _, _ => False
  | n + 1, v1, v3, v4, v5, v6, s => (((4 : Int32) ≤ v6 → ((v4 = 0 → (vp_in ((5 * v1) + 4) 10 ∧ (∀ s16 : tm_St, s16 = tm_s s 7 (upd (s 7) (((5 * v1) + 4) : Int32).toNatClampNeg 0) → ∃ nf : Nat, wp_X9_hear_193 K nf v1 v3 0 s16))) ∧ (¬ v4 = 0 → ((¬ v5 = 0 → (vp_in ((5 * v1) + 4) 10 ∧ (∀ s26 : tm_St, s26 = tm_s s 7 (upd (s 7) (((5 * v1) + 4) : Int32).toNatClampNeg 0) → ∃ nf : Nat, wp_X9_hear_193 K nf v1 v3 0 s26))) ∧ (v5 = 0 → (vp_in (v3 / 8) 32 ∧ (vp_in ((5 * v1) + 4) 10 ∧ (∀ s29 : tm_St, s29 = tm_s s 7 (upd (s 7) (((5 * v1) + 4) : Int32).toNatClampNeg (s 11 ((v3 / 8) : Int32).toNatClampNeg)) → ∃ nf : Nat, wp_X9_hear_193 K nf v1 v3 0 s29)))))))) ∧ (¬ (4 : Int32) ≤ v6 → ((v4 = 0 → (vp_in ((5 * v1) + v6) 10 ∧ (∀ s32 : tm_St, s32 = tm_s s 7 (upd (s 7) (((5 * v1) + v6) : Int32).toNatClampNeg 0) → (∀ x33 : Int32, x33 = v6 + 1 → wp_X9_hear_109 K n v1 v3 v4 v5 x33 s32)))) ∧ (¬ v4 = 0 → ((¬ v5 = 0 → (vp_in ((5 * v1) + v6) 10 ∧ (∀ s36 : tm_St, s36 = tm_s s 7 (upd (s 7) (((5 * v1) + v6) : Int32).toNatClampNeg 0) → (∀ x37 : Int32, x37 = v6 + 1 → wp_X9_hear_109 K n v1 v3 v4 v5 x37 s36)))) ∧ (v5 = 0 → (vp_in ((v3 + 1) + v6) 256 ∧ (vp_in ((5 * v1) + v6) 10 ∧ (∀ s40 : tm_St, s40 = tm_s s 7 (upd (s 7) (((5 * v1) + v6) : Int32).toNatClampNeg (s 10 (((v3 + 1) + v6) : Int32).toNatClampNeg)) → (∀ x41 : Int32, x41 = v6 + 1 → wp_X9_hear_109 K n v1 v3 v4 v5 x41 s40))))))))))
def wp_X9_hear_84 (K : tm_St → Prop) (v1 : Int32) (v2 : Int32) (v3 : Int32) (v4 : Int32) (s : tm_St) : Prop := (vp_in v2 2 ∧ (vp_in v2 2 ∧ (∀ s12 : tm_St, s12 = tm_s s 13 (upd (s 13) (v2 : Int32).toNatClampNeg ((s 13 (v2 : Int32).toNatClampNeg) + 0)) → ∃ nf : Nat, wp_X9_hear_109 K nf v1 v3 v4 0 0 s12)))
def wp_X9_hear_48 (K : tm_St → Prop) (v1 : Int32) (v2 : Int32) (v3 : Int32) (v4 : Int32) (t1 : Int32) (t2 : Int32) (t3 : Int32) (s : tm_St) : Prop := (vp_in t1 2 ∧ (∀ s8 : tm_St, s8 = tm_s s 12 (upd (s 12) (t1 : Int32).toNatClampNeg (t2 + t3)) → ((v4 = 0 → wp_X9_hear_84 K v1 v2 v3 v4 s8) ∧ (¬ v4 = 0 → (vp_in v2 2 ∧ (((s8 9 (v2 : Int32).toNatClampNeg) ≤ 0 → wp_X9_hear_84 K v1 v2 v3 v4 s8) ∧ (¬ (s8 9 (v2 : Int32).toNatClampNeg) ≤ 0 → (vp_in v2 2 ∧ (vp_in v2 2 ∧ (¬ (s8 9 (v2 : Int32).toNatClampNeg) = 0 ∧ ((¬ ((s8 12 (v2 : Int32).toNatClampNeg) - (s8 12 (v2 : Int32).toNatClampNeg) / (s8 9 (v2 : Int32).toNatClampNeg) * (s8 9 (v2 : Int32).toNatClampNeg)) = 0 → wp_X9_hear_84 K v1 v2 v3 v4 s8) ∧ (((s8 12 (v2 : Int32).toNatClampNeg) - (s8 12 (v2 : Int32).toNatClampNeg) / (s8 9 (v2 : Int32).toNatClampNeg) * (s8 9 (v2 : Int32).toNatClampNeg)) = 0 → (vp_in v2 2 ∧ (vp_in v2 2 ∧ (∀ s50 : tm_St, s50 = tm_s s8 13 (upd (s8 13) (v2 : Int32).toNatClampNeg ((s8 13 (v2 : Int32).toNatClampNeg) + 1)) → ∃ nf : Nat, wp_X9_hear_109 K nf v1 v3 v4 1 0 s50)))))))))))))))
def wp_X9_hear (p0 : Int32) (s0 : tm_St) (K : tm_St → Prop) : Prop := (∀ x1 : Int32, x1 = (1 - p0) → (wp_X9_slot x1 (s0 0 12) s0 (fun r2 s3 => (vp_in r2 256 ∧ ((¬ (s3 10 (r2 : Int32).toNatClampNeg) = 1 → (vp_in x1 2 ∧ wp_X9_hear_48 K p0 x1 r2 0 x1 (s3 12 (x1 : Int32).toNatClampNeg) 0 s3)) ∧ ((s3 10 (r2 : Int32).toNatClampNeg) = 1 → (vp_in x1 2 ∧ wp_X9_hear_48 K p0 x1 r2 1 x1 (s3 12 (x1 : Int32).toNatClampNeg) 1 s3)))))))
set_option maxRecDepth 100000 in
set_option maxHeartbeats 4000000 in
theorem kk_X9_hear (l : Launch) (dC : Nat → ClassId) (dI : Nat → Nat → Nat) (cI cZ : ClassId) (a : Nat → Nat) (s0 : tm_St) (hh : Int64) (sz : Nat) (p0 : Int32) (K : tm_St → Prop) (hw : wp_X9_hear p0 s0 K) : Met l yX9_hear wsX9_hear ({ frames := 1, cells := 0, slots := 0, locals := 22 }) (va_Pc [.ref (a 0), .int p0] (tm_Pre dC dI cI cZ (tm_wModel cI cZ a s0 hh) sz)) (va_Qv (fun (u : tm_St) => K u) (fun (u : tm_St) t => tm_At dC dI cI cZ (va_A (tm_wModel cI cZ a s0 hh) sz) (tm_wModel cI cZ a u hh) t) (va_A (tm_wModel cI cZ a s0 hh) sz)) 0 0 (va_A (tm_wModel cI cZ a s0 hh) sz) := by
  refine Met.ofW (cc := cX9_hear) (maxL := 7) (ret := none) (by decide +kernel) rfl ?_
  intro p e z m args below meth c z₁ B hml hv
  obtain ⟨rfl, hsz, hP, hK, hD0⟩ := hv
  have hx := B.exec
  have hb := B.bytes
  have hr := B.returns
  have hts := atoms_spec (ws := wsX9_hear) B.pre
  have hown : z.vm.findClass RX9 = some m.cls := findClass_of_methodNamed B.named
  have hlocks := B.notSynchronized
  subst hsz
  have hD := hD0.self (sz := z.heap.size)
  generalize hAe : va_A (tm_wModel cI cZ a s0 hh) z.heap.size = A at hD ⊢
  have hA : ∀ q : Nat, z.heap.size ≤ q → A q := fun q h => by rw [← hAe]; exact Or.inr h
  have hS : va_S A z.heap z.heap [] := va_S.rf
  have h_f121 := hts (.fieldLink RX9 121 "TwoModemsModel" "tick" "I") (by decide +kernel)
  have h_in9 : ∀ w ∈ u_ws RX9 TX9 30, w ∈ wsX9_hear := by decide +kernel
  have h_f41 := hts (.fieldLink RX9 41 "TwoModemsModel" "comes" "[I") (by decide +kernel)
  have h_f47 := hts (.fieldLink RX9 47 "TwoModemsModel" "came" "[I") (by decide +kernel)
  have h_f50 := hts (.fieldLink RX9 50 "TwoModemsModel" "wereHurt" "[I") (by decide +kernel)
  have h_f28 := hts (.fieldLink RX9 28 "TwoModemsModel" "hears" "[I") (by decide +kernel)
  have h_f62 := hts (.fieldLink RX9 62 "TwoModemsModel" "letters" "[I") (by decide +kernel)
  have h_f44 := hts (.fieldLink RX9 44 "TwoModemsModel" "acks" "[I") (by decide +kernel)
  have h_f38 := hts (.fieldLink RX9 38 "TwoModemsModel" "hurts" "[I") (by decide +kernel)
  have b193 : ∀ (n : Nat) (v1 : Int32) (v3 : Int32) (v6 : Int32) (s : tm_St) (H : Heap) (locs : List Loc) (ls : Array Slot), wp_X9_hear_193 K n v1 v3 v6 s → va_P (dC, dI) vwCl (tm_wModel cI cZ a s hh) H → va_D A (tm_wModel cI cZ a s hh) → va_S A z.heap H locs → lv_has ls 7 [(0, .ref (a 0)), (1, .int v1), (3, .int v3), (6, .int v6)] → W p l e (headSpec wsX9_hear ({ frames := 1, cells := 0, slots := 0, locals := 22 })).room z m (([.ref (a 0), .int p0] : List Value).toArray) below meth c H locs 0 0 (MQ below (va_Qv (fun (u : tm_St) => K u) (fun (u : tm_St) t => tm_At dC dI cI cZ A (tm_wModel cI cZ a u hh) t) A) (([.ref (a 0), .int p0] : List Value).toArray) z 0 0 A) (F0 m 193 ls []) := by
    intro n
    induction n with
    | zero => intro v1 v3 v6 s H locs ls hw hP hD hS hl; unfold wp_X9_hear_193 at hw; exact hw.elim
    | succ n ih =>
      intro v1 v3 v6 s H locs ls hw hP hD hS hl
      unfold wp_X9_hear_193 at hw
      refine lv_iload hx hb dX9_hear_193 (lv_at hl 3 rfl) ?_
      refine lv_iconst (v := 3) hx hb dX9_hear_195 (by decide) ?_
      refine lv_icmp_ge (tgt := 227) hx hb dX9_hear_196 (by decide) (fun c17 => ?_) (fun c17 => ?_)
      · have hw := hw.1 c17
        refine lv_aload_n hx hb dX9_hear_227 rfl (lv_at hl 0 rfl) ?_
        refine va_get (D := (dC, dI)) (ci := 7) (v := .ref (a 10)) (C := RX9) (T := TX9) (N := 30) hx hb hts h_in9 hown hK hP 0 rfl rfl 10 (by decide) h_f41 (fun _ h9 => h9) rfl dX9_hear_228 ?_
        refine lv_iload_n hx hb dX9_hear_231 rfl (lv_at hl 2 rfl) ?_
        refine lv_iconst (v := 0) hx hb dX9_hear_232 (by decide) ?_
        have c18 := hw.1
        have hw := hw.2
        refine va_iast hx hb hK hP hD hS 10 0 rfl rfl c18 dX9_hear_233 (fun H locs hP hD hS => ?_)
        obtain ⟨s19, es19⟩ : ∃ y : tm_St, y = tm_s s 10 (upd (s 10) (v3 : Int32).toNatClampNeg 0) := ⟨_, rfl⟩
        have hw := hw s19 es19
        have hP : va_P (dC, dI) vwCl (tm_wModel cI cZ a s19 hh) H := by rw [es19]; exact hP
        have hD : va_D A (tm_wModel cI cZ a s19 hh) := by rw [es19]; exact hD
        exact W.vret hx hb hr (fun t ht hW => ⟨⟨s19, rfl, hw, by rw [ht]; exact hP, va_K.moved hW.alike hK, hD⟩, hS.F ht⟩) hS.2.2 dX9_hear_234
      · have hw := hw.2 c17
        refine lv_aload_n hx hb dX9_hear_199 rfl (lv_at hl 0 rfl) ?_
        refine va_get (D := (dC, dI)) (ci := 7) (v := .ref (a 17)) (C := RX9) (T := TX9) (N := 30) hx hb hts h_in9 hown hK hP 0 rfl rfl 25 (by decide) h_f62 (fun _ h9 => h9) rfl dX9_hear_200 ?_
        refine lv_iconst (v := 3) hx hb dX9_hear_203 (by decide) ?_
        refine lv_iload_n hx hb dX9_hear_204 rfl (lv_at hl 1 rfl) ?_
        refine lv_imul hx hb dX9_hear_205 ?_
        refine lv_iload hx hb dX9_hear_206 (lv_at hl 3 rfl) ?_
        refine lv_iadd hx hb dX9_hear_208 ?_
        refine lv_aload_n hx hb dX9_hear_209 rfl (lv_at hl 0 rfl) ?_
        refine va_get (D := (dC, dI)) (ci := 7) (v := .ref (a 10)) (C := RX9) (T := TX9) (N := 30) hx hb hts h_in9 hown hK hP 0 rfl rfl 10 (by decide) h_f41 (fun _ h9 => h9) rfl dX9_hear_210 ?_
        refine lv_iload_n hx hb dX9_hear_213 rfl (lv_at hl 2 rfl) ?_
        refine lv_iconst (v := 5) hx hb dX9_hear_214 (by decide) ?_
        refine lv_iadd hx hb dX9_hear_215 ?_
        refine lv_iload hx hb dX9_hear_216 (lv_at hl 3 rfl) ?_
        refine lv_iadd hx hb dX9_hear_218 ?_
        have c20 := hw.1
        have hw := hw.2
        refine va_iald hx hb hK hP 10 0 rfl rfl c20 dX9_hear_219 ?_
        have c21 := hw.1
        have hw := hw.2
        refine va_iast hx hb hK hP hD hS 17 0 rfl rfl c21 dX9_hear_220 (fun H locs hP hD hS => ?_)
        obtain ⟨s22, es22⟩ : ∃ y : tm_St, y = tm_s s 17 (upd (s 17) (((3 * v1) + v6) : Int32).toNatClampNeg (s 10 (((v3 + 5) + v6) : Int32).toNatClampNeg)) := ⟨_, rfl⟩
        have hw := hw s22 es22
        have hP : va_P (dC, dI) vwCl (tm_wModel cI cZ a s22 hh) H := by rw [es22]; exact hP
        have hD : va_D A (tm_wModel cI cZ a s22 hh) := by rw [es22]; exact hD
        obtain ⟨x23, ex23⟩ : ∃ y : Int32, y = v6 + 1 := ⟨_, rfl⟩
        have hw := hw x23 ex23
        refine lv_iinc (v := x23) (lv' := [(6, .int x23), (0, .ref (a 0)), (1, .int v1), (3, .int v3)]) hx hb dX9_hear_221 hl (k := 3) rfl (by rw [ex23]; rfl) (by decide) rfl (fun ls hl => ?_)
        refine lv_goto (tgt := 193) hx hb dX9_hear_224 (by decide) ?_
        exact ih v1 v3 x23 s22 _ _ _ hw hP hD hS (lv_sub hl [1, 2, 3, 0] rfl)
  have b109 : ∀ (n : Nat) (v1 : Int32) (v3 : Int32) (v4 : Int32) (v5 : Int32) (v6 : Int32) (s : tm_St) (H : Heap) (locs : List Loc) (ls : Array Slot), wp_X9_hear_109 K n v1 v3 v4 v5 v6 s → va_P (dC, dI) vwCl (tm_wModel cI cZ a s hh) H → va_D A (tm_wModel cI cZ a s hh) → va_S A z.heap H locs → lv_has ls 7 [(0, .ref (a 0)), (1, .int v1), (3, .int v3), (4, .int v4), (5, .int v5), (6, .int v6)] → W p l e (headSpec wsX9_hear ({ frames := 1, cells := 0, slots := 0, locals := 22 })).room z m (([.ref (a 0), .int p0] : List Value).toArray) below meth c H locs 0 0 (MQ below (va_Qv (fun (u : tm_St) => K u) (fun (u : tm_St) t => tm_At dC dI cI cZ A (tm_wModel cI cZ a u hh) t) A) (([.ref (a 0), .int p0] : List Value).toArray) z 0 0 A) (F0 m 109 ls []) := by
    intro n
    induction n with
    | zero => intro v1 v3 v4 v5 v6 s H locs ls hw hP hD hS hl; unfold wp_X9_hear_109 at hw; exact hw.elim
    | succ n ih =>
      intro v1 v3 v4 v5 v6 s H locs ls hw hP hD hS hl
      unfold wp_X9_hear_109 at hw
      refine lv_iload hx hb dX9_hear_109 (lv_at hl 5 rfl) ?_
      refine lv_iconst (v := 4) hx hb dX9_hear_111 (by decide) ?_
      refine lv_icmp_ge (tgt := 157) hx hb dX9_hear_112 (by decide) (fun c13 => ?_) (fun c13 => ?_)
      · have hw := hw.1 c13
        refine lv_aload_n hx hb dX9_hear_157 rfl (lv_at hl 0 rfl) ?_
        refine va_get (D := (dC, dI)) (ci := 7) (v := .ref (a 7)) (C := RX9) (T := TX9) (N := 30) hx hb hts h_in9 hown hK hP 0 rfl rfl 6 (by decide) h_f28 (fun _ h9 => h9) rfl dX9_hear_158 ?_
        refine lv_iconst (v := 5) hx hb dX9_hear_161 (by decide) ?_
        refine lv_iload_n hx hb dX9_hear_162 rfl (lv_at hl 1 rfl) ?_
        refine lv_imul hx hb dX9_hear_163 ?_
        refine lv_iconst (v := 4) hx hb dX9_hear_164 (by decide) ?_
        refine lv_iadd hx hb dX9_hear_165 ?_
        refine lv_iload hx hb dX9_hear_166 (lv_at hl 3 rfl) ?_
        refine lv_if_eq (tgt := 188) hx hb dX9_hear_168 (by decide) (fun c14 => ?_) (fun c14 => ?_)
        · have hw := hw.1 c14
          refine lv_iconst (v := 0) hx hb dX9_hear_188 (by decide) ?_
          have c15 := hw.1
          have hw := hw.2
          refine va_iast hx hb hK hP hD hS 7 0 rfl rfl c15 dX9_hear_189 (fun H locs hP hD hS => ?_)
          obtain ⟨s16, es16⟩ : ∃ y : tm_St, y = tm_s s 7 (upd (s 7) (((5 * v1) + 4) : Int32).toNatClampNeg 0) := ⟨_, rfl⟩
          have hw := hw s16 es16
          have hP : va_P (dC, dI) vwCl (tm_wModel cI cZ a s16 hh) H := by rw [es16]; exact hP
          have hD : va_D A (tm_wModel cI cZ a s16 hh) := by rw [es16]; exact hD
          refine lv_iconst (v := 0) hx hb dX9_hear_190 (by decide) ?_
          refine lv_istore (lv' := [(6, .int 0), (0, .ref (a 0)), (1, .int v1), (3, .int v3), (4, .int v4), (5, .int v5)]) hx hb dX9_hear_191 hl (by decide) rfl (fun ls hl => ?_)
          obtain ⟨nf, hw⟩ := hw
          exact b193 nf v1 v3 0 s16 _ _ _ hw hP hD hS (lv_sub hl [1, 2, 3, 0] rfl)
        · have hw := hw.2 c14
          refine lv_iload hx hb dX9_hear_171 (lv_at hl 4 rfl) ?_
          refine lv_if_ne (tgt := 188) hx hb dX9_hear_173 (by decide) (fun c24 => ?_) (fun c24 => ?_)
          · have hw := hw.1 c24
            refine lv_iconst (v := 0) hx hb dX9_hear_188 (by decide) ?_
            have c25 := hw.1
            have hw := hw.2
            refine va_iast hx hb hK hP hD hS 7 0 rfl rfl c25 dX9_hear_189 (fun H locs hP hD hS => ?_)
            obtain ⟨s26, es26⟩ : ∃ y : tm_St, y = tm_s s 7 (upd (s 7) (((5 * v1) + 4) : Int32).toNatClampNeg 0) := ⟨_, rfl⟩
            have hw := hw s26 es26
            have hP : va_P (dC, dI) vwCl (tm_wModel cI cZ a s26 hh) H := by rw [es26]; exact hP
            have hD : va_D A (tm_wModel cI cZ a s26 hh) := by rw [es26]; exact hD
            refine lv_iconst (v := 0) hx hb dX9_hear_190 (by decide) ?_
            refine lv_istore (lv' := [(6, .int 0), (0, .ref (a 0)), (1, .int v1), (3, .int v3), (4, .int v4), (5, .int v5)]) hx hb dX9_hear_191 hl (by decide) rfl (fun ls hl => ?_)
            obtain ⟨nf, hw⟩ := hw
            exact b193 nf v1 v3 0 s26 _ _ _ hw hP hD hS (lv_sub hl [1, 2, 3, 0] rfl)
          · have hw := hw.2 c24
            refine lv_aload_n hx hb dX9_hear_176 rfl (lv_at hl 0 rfl) ?_
            refine va_get (D := (dC, dI)) (ci := 7) (v := .ref (a 11)) (C := RX9) (T := TX9) (N := 30) hx hb hts h_in9 hown hK hP 0 rfl rfl 11 (by decide) h_f44 (fun _ h9 => h9) rfl dX9_hear_177 ?_
            refine lv_iload_n hx hb dX9_hear_180 rfl (lv_at hl 2 rfl) ?_
            refine lv_bipush (v := 8) hx hb dX9_hear_181 (by decide) ?_
            refine lv_idiv hx hb dX9_hear_183 (by decide) ?_
            have c27 := hw.1
            have hw := hw.2
            refine va_iald hx hb hK hP 11 0 rfl rfl c27 dX9_hear_184 ?_
            refine lv_goto (tgt := 189) hx hb dX9_hear_185 (by decide) ?_
            have c28 := hw.1
            have hw := hw.2
            refine va_iast hx hb hK hP hD hS 7 0 rfl rfl c28 dX9_hear_189 (fun H locs hP hD hS => ?_)
            obtain ⟨s29, es29⟩ : ∃ y : tm_St, y = tm_s s 7 (upd (s 7) (((5 * v1) + 4) : Int32).toNatClampNeg (s 11 ((v3 / 8) : Int32).toNatClampNeg)) := ⟨_, rfl⟩
            have hw := hw s29 es29
            have hP : va_P (dC, dI) vwCl (tm_wModel cI cZ a s29 hh) H := by rw [es29]; exact hP
            have hD : va_D A (tm_wModel cI cZ a s29 hh) := by rw [es29]; exact hD
            refine lv_iconst (v := 0) hx hb dX9_hear_190 (by decide) ?_
            refine lv_istore (lv' := [(6, .int 0), (0, .ref (a 0)), (1, .int v1), (3, .int v3), (4, .int v4), (5, .int v5)]) hx hb dX9_hear_191 hl (by decide) rfl (fun ls hl => ?_)
            obtain ⟨nf, hw⟩ := hw
            exact b193 nf v1 v3 0 s29 _ _ _ hw hP hD hS (lv_sub hl [1, 2, 3, 0] rfl)
      · have hw := hw.2 c13
        refine lv_aload_n hx hb dX9_hear_115 rfl (lv_at hl 0 rfl) ?_
        refine va_get (D := (dC, dI)) (ci := 7) (v := .ref (a 7)) (C := RX9) (T := TX9) (N := 30) hx hb hts h_in9 hown hK hP 0 rfl rfl 6 (by decide) h_f28 (fun _ h9 => h9) rfl dX9_hear_116 ?_
        refine lv_iconst (v := 5) hx hb dX9_hear_119 (by decide) ?_
        refine lv_iload_n hx hb dX9_hear_120 rfl (lv_at hl 1 rfl) ?_
        refine lv_imul hx hb dX9_hear_121 ?_
        refine lv_iload hx hb dX9_hear_122 (lv_at hl 5 rfl) ?_
        refine lv_iadd hx hb dX9_hear_124 ?_
        refine lv_iload hx hb dX9_hear_125 (lv_at hl 3 rfl) ?_
        refine lv_if_eq (tgt := 149) hx hb dX9_hear_127 (by decide) (fun c30 => ?_) (fun c30 => ?_)
        · have hw := hw.1 c30
          refine lv_iconst (v := 0) hx hb dX9_hear_149 (by decide) ?_
          have c31 := hw.1
          have hw := hw.2
          refine va_iast hx hb hK hP hD hS 7 0 rfl rfl c31 dX9_hear_150 (fun H locs hP hD hS => ?_)
          obtain ⟨s32, es32⟩ : ∃ y : tm_St, y = tm_s s 7 (upd (s 7) (((5 * v1) + v6) : Int32).toNatClampNeg 0) := ⟨_, rfl⟩
          have hw := hw s32 es32
          have hP : va_P (dC, dI) vwCl (tm_wModel cI cZ a s32 hh) H := by rw [es32]; exact hP
          have hD : va_D A (tm_wModel cI cZ a s32 hh) := by rw [es32]; exact hD
          obtain ⟨x33, ex33⟩ : ∃ y : Int32, y = v6 + 1 := ⟨_, rfl⟩
          have hw := hw x33 ex33
          refine lv_iinc (v := x33) (lv' := [(6, .int x33), (0, .ref (a 0)), (1, .int v1), (3, .int v3), (4, .int v4), (5, .int v5)]) hx hb dX9_hear_151 hl (k := 5) rfl (by rw [ex33]; rfl) (by decide) rfl (fun ls hl => ?_)
          refine lv_goto (tgt := 109) hx hb dX9_hear_154 (by decide) ?_
          exact ih v1 v3 v4 v5 x33 s32 _ _ _ hw hP hD hS (lv_sub hl [1, 2, 3, 4, 5, 0] rfl)
        · have hw := hw.2 c30
          refine lv_iload hx hb dX9_hear_130 (lv_at hl 4 rfl) ?_
          refine lv_if_ne (tgt := 149) hx hb dX9_hear_132 (by decide) (fun c34 => ?_) (fun c34 => ?_)
          · have hw := hw.1 c34
            refine lv_iconst (v := 0) hx hb dX9_hear_149 (by decide) ?_
            have c35 := hw.1
            have hw := hw.2
            refine va_iast hx hb hK hP hD hS 7 0 rfl rfl c35 dX9_hear_150 (fun H locs hP hD hS => ?_)
            obtain ⟨s36, es36⟩ : ∃ y : tm_St, y = tm_s s 7 (upd (s 7) (((5 * v1) + v6) : Int32).toNatClampNeg 0) := ⟨_, rfl⟩
            have hw := hw s36 es36
            have hP : va_P (dC, dI) vwCl (tm_wModel cI cZ a s36 hh) H := by rw [es36]; exact hP
            have hD : va_D A (tm_wModel cI cZ a s36 hh) := by rw [es36]; exact hD
            obtain ⟨x37, ex37⟩ : ∃ y : Int32, y = v6 + 1 := ⟨_, rfl⟩
            have hw := hw x37 ex37
            refine lv_iinc (v := x37) (lv' := [(6, .int x37), (0, .ref (a 0)), (1, .int v1), (3, .int v3), (4, .int v4), (5, .int v5)]) hx hb dX9_hear_151 hl (k := 5) rfl (by rw [ex37]; rfl) (by decide) rfl (fun ls hl => ?_)
            refine lv_goto (tgt := 109) hx hb dX9_hear_154 (by decide) ?_
            exact ih v1 v3 v4 v5 x37 s36 _ _ _ hw hP hD hS (lv_sub hl [1, 2, 3, 4, 5, 0] rfl)
          · have hw := hw.2 c34
            refine lv_aload_n hx hb dX9_hear_135 rfl (lv_at hl 0 rfl) ?_
            refine va_get (D := (dC, dI)) (ci := 7) (v := .ref (a 10)) (C := RX9) (T := TX9) (N := 30) hx hb hts h_in9 hown hK hP 0 rfl rfl 10 (by decide) h_f41 (fun _ h9 => h9) rfl dX9_hear_136 ?_
            refine lv_iload_n hx hb dX9_hear_139 rfl (lv_at hl 2 rfl) ?_
            refine lv_iconst (v := 1) hx hb dX9_hear_140 (by decide) ?_
            refine lv_iadd hx hb dX9_hear_141 ?_
            refine lv_iload hx hb dX9_hear_142 (lv_at hl 5 rfl) ?_
            refine lv_iadd hx hb dX9_hear_144 ?_
            have c38 := hw.1
            have hw := hw.2
            refine va_iald hx hb hK hP 10 0 rfl rfl c38 dX9_hear_145 ?_
            refine lv_goto (tgt := 150) hx hb dX9_hear_146 (by decide) ?_
            have c39 := hw.1
            have hw := hw.2
            refine va_iast hx hb hK hP hD hS 7 0 rfl rfl c39 dX9_hear_150 (fun H locs hP hD hS => ?_)
            obtain ⟨s40, es40⟩ : ∃ y : tm_St, y = tm_s s 7 (upd (s 7) (((5 * v1) + v6) : Int32).toNatClampNeg (s 10 (((v3 + 1) + v6) : Int32).toNatClampNeg)) := ⟨_, rfl⟩
            have hw := hw s40 es40
            have hP : va_P (dC, dI) vwCl (tm_wModel cI cZ a s40 hh) H := by rw [es40]; exact hP
            have hD : va_D A (tm_wModel cI cZ a s40 hh) := by rw [es40]; exact hD
            obtain ⟨x41, ex41⟩ : ∃ y : Int32, y = v6 + 1 := ⟨_, rfl⟩
            have hw := hw x41 ex41
            refine lv_iinc (v := x41) (lv' := [(6, .int x41), (0, .ref (a 0)), (1, .int v1), (3, .int v3), (4, .int v4), (5, .int v5)]) hx hb dX9_hear_151 hl (k := 5) rfl (by rw [ex41]; rfl) (by decide) rfl (fun ls hl => ?_)
            refine lv_goto (tgt := 109) hx hb dX9_hear_154 (by decide) ?_
            exact ih v1 v3 v4 v5 x41 s40 _ _ _ hw hP hD hS (lv_sub hl [1, 2, 3, 4, 5, 0] rfl)
  have b84 : ∀ (v1 : Int32) (v2 : Int32) (v3 : Int32) (v4 : Int32) (s : tm_St) (H : Heap) (locs : List Loc) (ls : Array Slot), wp_X9_hear_84 K v1 v2 v3 v4 s → va_P (dC, dI) vwCl (tm_wModel cI cZ a s hh) H → va_D A (tm_wModel cI cZ a s hh) → va_S A z.heap H locs → lv_has ls 7 [(0, .ref (a 0)), (1, .int v1), (2, .int v2), (3, .int v3), (4, .int v4)] → W p l e (headSpec wsX9_hear ({ frames := 1, cells := 0, slots := 0, locals := 22 })).room z m (([.ref (a 0), .int p0] : List Value).toArray) below meth c H locs 0 0 (MQ below (va_Qv (fun (u : tm_St) => K u) (fun (u : tm_St) t => tm_At dC dI cI cZ A (tm_wModel cI cZ a u hh) t) A) (([.ref (a 0), .int p0] : List Value).toArray) z 0 0 A) (F0 m 84 ls []) := by
    intro v1 v2 v3 v4 s H locs ls hw hP hD hS hl
    unfold wp_X9_hear_84 at hw
    refine lv_iconst (v := 0) hx hb dX9_hear_84 (by decide) ?_
    refine lv_istore (lv' := [(5, .int 0), (0, .ref (a 0)), (1, .int v1), (2, .int v2), (3, .int v3), (4, .int v4)]) hx hb dX9_hear_85 hl (by decide) rfl (fun ls hl => ?_)
    refine lv_aload_n hx hb dX9_hear_87 rfl (lv_at hl 1 rfl) ?_
    refine va_get (D := (dC, dI)) (ci := 7) (v := .ref (a 13)) (C := RX9) (T := TX9) (N := 30) hx hb hts h_in9 hown hK hP 0 rfl rfl 14 (by decide) h_f50 (fun _ h9 => h9) rfl dX9_hear_88 ?_
    refine lv_iload_n hx hb dX9_hear_91 rfl (lv_at hl 3 rfl) ?_
    refine lv_dup2_11 hx hb dX9_hear_92 rfl rfl ?_
    have c10 := hw.1
    have hw := hw.2
    refine va_iald hx hb hK hP 13 0 rfl rfl c10 dX9_hear_93 ?_
    refine lv_iload hx hb dX9_hear_94 (lv_at hl 0 rfl) ?_
    refine lv_if_eq (tgt := 103) hx hb dX9_hear_96 (by decide) (fun _ => ?_) (fun c9 => absurd (by decide) c9)
    refine lv_iconst (v := 0) hx hb dX9_hear_103 (by decide) ?_
    refine lv_iadd hx hb dX9_hear_104 ?_
    have c11 := hw.1
    have hw := hw.2
    refine va_iast hx hb hK hP hD hS 13 0 rfl rfl c11 dX9_hear_105 (fun H locs hP hD hS => ?_)
    obtain ⟨s12, es12⟩ : ∃ y : tm_St, y = tm_s s 13 (upd (s 13) (v2 : Int32).toNatClampNeg ((s 13 (v2 : Int32).toNatClampNeg) + 0)) := ⟨_, rfl⟩
    have hw := hw s12 es12
    have hP : va_P (dC, dI) vwCl (tm_wModel cI cZ a s12 hh) H := by rw [es12]; exact hP
    have hD : va_D A (tm_wModel cI cZ a s12 hh) := by rw [es12]; exact hD
    refine lv_iconst (v := 0) hx hb dX9_hear_106 (by decide) ?_
    refine lv_istore (lv' := [(6, .int 0), (5, .int 0), (0, .ref (a 0)), (1, .int v1), (2, .int v2), (3, .int v3), (4, .int v4)]) hx hb dX9_hear_107 hl (by decide) rfl (fun ls hl => ?_)
    obtain ⟨nf, hw⟩ := hw
    exact b109 nf v1 v3 v4 0 0 s12 _ _ _ hw hP hD hS (lv_sub hl [2, 3, 5, 6, 1, 0] rfl)
  have b48 : ∀ (v1 : Int32) (v2 : Int32) (v3 : Int32) (v4 : Int32) (t1 : Int32) (t2 : Int32) (t3 : Int32) (s : tm_St) (H : Heap) (locs : List Loc) (ls : Array Slot), wp_X9_hear_48 K v1 v2 v3 v4 t1 t2 t3 s → va_P (dC, dI) vwCl (tm_wModel cI cZ a s hh) H → va_D A (tm_wModel cI cZ a s hh) → va_S A z.heap H locs → lv_has ls 7 [(0, .ref (a 0)), (1, .int v1), (2, .int v2), (3, .int v3), (4, .int v4)] → W p l e (headSpec wsX9_hear ({ frames := 1, cells := 0, slots := 0, locals := 22 })).room z m (([.ref (a 0), .int p0] : List Value).toArray) below meth c H locs 0 0 (MQ below (va_Qv (fun (u : tm_St) => K u) (fun (u : tm_St) t => tm_At dC dI cI cZ A (tm_wModel cI cZ a u hh) t) A) (([.ref (a 0), .int p0] : List Value).toArray) z 0 0 A) (F0 m 48 ls [.int t3, .int t2, .int t1, .ref (a 12)]) := by
    intro v1 v2 v3 v4 t1 t2 t3 s H locs ls hw hP hD hS hl
    unfold wp_X9_hear_48 at hw
    refine lv_iadd hx hb dX9_hear_48 ?_
    have c7 := hw.1
    have hw := hw.2
    refine va_iast hx hb hK hP hD hS 12 0 rfl rfl c7 dX9_hear_49 (fun H locs hP hD hS => ?_)
    obtain ⟨s8, es8⟩ : ∃ y : tm_St, y = tm_s s 12 (upd (s 12) (t1 : Int32).toNatClampNeg (t2 + t3)) := ⟨_, rfl⟩
    have hw := hw s8 es8
    have hP : va_P (dC, dI) vwCl (tm_wModel cI cZ a s8 hh) H := by rw [es8]; exact hP
    have hD : va_D A (tm_wModel cI cZ a s8 hh) := by rw [es8]; exact hD
    refine lv_iload hx hb dX9_hear_50 (lv_at hl 4 rfl) ?_
    refine lv_if_eq (tgt := 84) hx hb dX9_hear_52 (by decide) (fun c9 => ?_) (fun c9 => ?_)
    · have hw := hw.1 c9
      exact b84 v1 v2 v3 v4 s8 _ _ _ hw hP hD hS (lv_sub hl [0, 1, 2, 3, 4] rfl)
    · have hw := hw.2 c9
      refine lv_aload_n hx hb dX9_hear_55 rfl (lv_at hl 0 rfl) ?_
      refine va_get (D := (dC, dI)) (ci := 7) (v := .ref (a 9)) (C := RX9) (T := TX9) (N := 30) hx hb hts h_in9 hown hK hP 0 rfl rfl 9 (by decide) h_f38 (fun _ h9 => h9) rfl dX9_hear_56 ?_
      refine lv_iload_n hx hb dX9_hear_59 rfl (lv_at hl 2 rfl) ?_
      have c42 := hw.1
      have hw := hw.2
      refine va_iald hx hb hK hP 9 0 rfl rfl c42 dX9_hear_60 ?_
      refine lv_if_le (tgt := 84) hx hb dX9_hear_61 (by decide) (fun c43 => ?_) (fun c43 => ?_)
      · have hw := hw.1 c43
        exact b84 v1 v2 v3 v4 s8 _ _ _ hw hP hD hS (lv_sub hl [0, 1, 2, 3, 4] rfl)
      · have hw := hw.2 c43
        refine lv_aload_n hx hb dX9_hear_64 rfl (lv_at hl 0 rfl) ?_
        refine va_get (D := (dC, dI)) (ci := 7) (v := .ref (a 12)) (C := RX9) (T := TX9) (N := 30) hx hb hts h_in9 hown hK hP 0 rfl rfl 13 (by decide) h_f47 (fun _ h9 => h9) rfl dX9_hear_65 ?_
        refine lv_iload_n hx hb dX9_hear_68 rfl (lv_at hl 2 rfl) ?_
        have c44 := hw.1
        have hw := hw.2
        refine va_iald hx hb hK hP 12 0 rfl rfl c44 dX9_hear_69 ?_
        refine lv_aload_n hx hb dX9_hear_70 rfl (lv_at hl 0 rfl) ?_
        refine va_get (D := (dC, dI)) (ci := 7) (v := .ref (a 9)) (C := RX9) (T := TX9) (N := 30) hx hb hts h_in9 hown hK hP 0 rfl rfl 9 (by decide) h_f38 (fun _ h9 => h9) rfl dX9_hear_71 ?_
        refine lv_iload_n hx hb dX9_hear_74 rfl (lv_at hl 2 rfl) ?_
        have c45 := hw.1
        have hw := hw.2
        refine va_iald hx hb hK hP 9 0 rfl rfl c45 dX9_hear_75 ?_
        have c46 := hw.1
        have hw := hw.2
        refine lv_irem hx hb dX9_hear_76 c46 ?_
        refine lv_if_ne (tgt := 84) hx hb dX9_hear_77 (by decide) (fun c47 => ?_) (fun c47 => ?_)
        · have hw := hw.1 c47
          exact b84 v1 v2 v3 v4 s8 _ _ _ hw hP hD hS (lv_sub hl [0, 1, 2, 3, 4] rfl)
        · have hw := hw.2 c47
          refine lv_iconst (v := 1) hx hb dX9_hear_80 (by decide) ?_
          refine lv_goto (tgt := 85) hx hb dX9_hear_81 (by decide) ?_
          refine lv_istore (lv' := [(5, .int 1), (0, .ref (a 0)), (1, .int v1), (2, .int v2), (3, .int v3), (4, .int v4)]) hx hb dX9_hear_85 hl (by decide) rfl (fun ls hl => ?_)
          refine lv_aload_n hx hb dX9_hear_87 rfl (lv_at hl 1 rfl) ?_
          refine va_get (D := (dC, dI)) (ci := 7) (v := .ref (a 13)) (C := RX9) (T := TX9) (N := 30) hx hb hts h_in9 hown hK hP 0 rfl rfl 14 (by decide) h_f50 (fun _ h9 => h9) rfl dX9_hear_88 ?_
          refine lv_iload_n hx hb dX9_hear_91 rfl (lv_at hl 3 rfl) ?_
          refine lv_dup2_11 hx hb dX9_hear_92 rfl rfl ?_
          have c48 := hw.1
          have hw := hw.2
          refine va_iald hx hb hK hP 13 0 rfl rfl c48 dX9_hear_93 ?_
          refine lv_iload hx hb dX9_hear_94 (lv_at hl 0 rfl) ?_
          refine lv_if_eq (tgt := 103) hx hb dX9_hear_96 (by decide) (fun c9 => absurd c9 (by decide)) (fun _ => ?_)
          refine lv_iconst (v := 1) hx hb dX9_hear_99 (by decide) ?_
          refine lv_goto (tgt := 104) hx hb dX9_hear_100 (by decide) ?_
          refine lv_iadd hx hb dX9_hear_104 ?_
          have c49 := hw.1
          have hw := hw.2
          refine va_iast hx hb hK hP hD hS 13 0 rfl rfl c49 dX9_hear_105 (fun H locs hP hD hS => ?_)
          obtain ⟨s50, es50⟩ : ∃ y : tm_St, y = tm_s s8 13 (upd (s8 13) (v2 : Int32).toNatClampNeg ((s8 13 (v2 : Int32).toNatClampNeg) + 1)) := ⟨_, rfl⟩
          have hw := hw s50 es50
          have hP : va_P (dC, dI) vwCl (tm_wModel cI cZ a s50 hh) H := by rw [es50]; exact hP
          have hD : va_D A (tm_wModel cI cZ a s50 hh) := by rw [es50]; exact hD
          refine lv_iconst (v := 0) hx hb dX9_hear_106 (by decide) ?_
          refine lv_istore (lv' := [(6, .int 0), (5, .int 1), (0, .ref (a 0)), (1, .int v1), (2, .int v2), (3, .int v3), (4, .int v4)]) hx hb dX9_hear_107 hl (by decide) rfl (fun ls hl => ?_)
          obtain ⟨nf, hw⟩ := hw
          exact b109 nf v1 v3 v4 1 0 s50 _ _ _ hw hP hD hS (lv_sub hl [2, 3, 5, 6, 1, 0] rfl)
  have hl := lv_entry ([.ref (a 0), .int p0]) (n := 7) (Nat.le_of_ble_eq_true rfl)
  rw [lg_entry_eq]
  generalize (lg_sl ([.ref (a 0), .int p0]) ++ List.replicate (7 - (lg_sl ([.ref (a 0), .int p0])).length) Slot.unset).toArray = ls at hl ⊢
  have hl : lv_has ls 7 [(0, .ref (a 0)), (1, .int p0)] := hl
  unfold wp_X9_hear at hw
  refine lv_iconst (v := 1) hx hb dX9_hear_0 (by decide) ?_
  refine lv_iload_n hx hb dX9_hear_1 rfl (lv_at hl 1 rfl) ?_
  refine lv_isub hx hb dX9_hear_2 ?_
  refine lv_topi (fun x1 ex1 => ?_)
  have hw := hw x1 ex1
  refine lv_istore_n (lv' := [(2, .int x1), (0, .ref (a 0)), (1, .int p0)]) hx hb dX9_hear_3 rfl hl (by decide) rfl (fun ls hl => ?_)
  refine lv_aload_n hx hb dX9_hear_4 rfl (lv_at hl 1 rfl) ?_
  refine lv_iload_n hx hb dX9_hear_5 rfl (lv_at hl 0 rfl) ?_
  refine lv_aload_n hx hb dX9_hear_6 rfl (lv_at hl 1 rfl) ?_
  refine va_get (D := (dC, dI)) (ci := 7) (v := .int (s0 0 12)) (C := RX9) (T := TX9) (N := 30) hx hb hts h_in9 hown hK hP 0 rfl rfl 12 (by decide) h_f121 (fun _ h9 => h9) rfl dX9_hear_7 ?_
  have hPc := hP
  have hDc := hD
  have hFc := va_free (wc := (tm_wModel cI cZ a s0 hh)) hD hS hA [0, 1, 2, 3, 4, 5, 6, 7, 8, 9, 10, 11, 12, 13, 14, 15, 16, 17] rfl
  refine va_calli (va_runV (As := [.int x1, .int (s0 0 12)]) (rest := []) ⟨hx, hb, hml, hown, hts⟩ (kk_X9_slot l dC dI cI cZ a s0 hh z.heap.size x1 (s0 0 12) _ hw) (cwV 2 hts gX9_hear_X9_slot rfl rfl rfl (by decide +kernel) ⟨Nat.le_of_ble_eq_true rfl, Nat.le_of_ble_eq_true rfl⟩) ⟨tm_blind, va_recv hK hPc (ci := 7) (q0 := 0) rfl rfl, fun U hU hW => ⟨rfl, by rw [hU], by rw [hU]; exact hPc, va_K.moved hW.alike hK, hDc.weaken (fun _ _ _ _ => trivial)⟩⟩ rfl rfl hl.1 rfl (lv_room (Nat.le_of_ble_eq_true rfl)) dX9_hear_10 ⟨Nat.zero_le _, Nat.zero_le _⟩) hS (fun q _ h => hFc q h) hFc (fun r2 s3 t H1 locs ht hvm hw hB hz1 hk1 hS => ?_)
  obtain ⟨hP1, hK1, hD1⟩ := hB
  rw [ht] at hP1
  obtain ⟨hP, hD⟩ := va_join (wr := []) (w1 := (tm_wModel cI cZ a s3 hh)) hP hD [0, 1, 2, 3, 4, 5, 6, 7, 8, 9, 10, 11, 12, 13, 14, 15, 16, 17] [] rfl rfl (by decide) (by decide) hk1 hFc hP1 hD1
  generalize H1 = H at hP hS ⊢
  have hP : va_P (dC, dI) vwCl (tm_wModel cI cZ a s3 hh) H := hP
  have hD : va_D A (tm_wModel cI cZ a s3 hh) := hD
  refine lv_istore_n (lv' := [(3, .int r2), (2, .int x1), (0, .ref (a 0)), (1, .int p0)]) hx hb dX9_hear_13 rfl hl (by decide) rfl (fun ls hl => ?_)
  refine lv_aload_n hx hb dX9_hear_14 rfl (lv_at hl 2 rfl) ?_
  refine va_get (D := (dC, dI)) (ci := 7) (v := .ref (a 10)) (C := RX9) (T := TX9) (N := 30) hx hb hts h_in9 hown hK hP 0 rfl rfl 10 (by decide) h_f41 (fun _ h9 => h9) rfl dX9_hear_15 ?_
  refine lv_iload_n hx hb dX9_hear_18 rfl (lv_at hl 0 rfl) ?_
  have c4 := hw.1
  have hw := hw.2
  refine va_iald hx hb hK hP 10 0 rfl rfl c4 dX9_hear_19 ?_
  refine lv_iconst (v := 1) hx hb dX9_hear_20 (by decide) ?_
  refine lv_icmp_ne (tgt := 28) hx hb dX9_hear_21 (by decide) (fun c5 => ?_) (fun c5 => ?_)
  · have hw := hw.1 c5
    refine lv_iconst (v := 0) hx hb dX9_hear_28 (by decide) ?_
    refine lv_istore (lv' := [(4, .int 0), (3, .int r2), (2, .int x1), (0, .ref (a 0)), (1, .int p0)]) hx hb dX9_hear_29 hl (by decide) rfl (fun ls hl => ?_)
    refine lv_aload_n hx hb dX9_hear_31 rfl (lv_at hl 3 rfl) ?_
    refine va_get (D := (dC, dI)) (ci := 7) (v := .ref (a 12)) (C := RX9) (T := TX9) (N := 30) hx hb hts h_in9 hown hK hP 0 rfl rfl 13 (by decide) h_f47 (fun _ h9 => h9) rfl dX9_hear_32 ?_
    refine lv_iload_n hx hb dX9_hear_35 rfl (lv_at hl 2 rfl) ?_
    refine lv_dup2_11 hx hb dX9_hear_36 rfl rfl ?_
    have c6 := hw.1
    have hw := hw.2
    refine va_iald hx hb hK hP 12 0 rfl rfl c6 dX9_hear_37 ?_
    refine lv_iload hx hb dX9_hear_38 (lv_at hl 0 rfl) ?_
    refine lv_if_eq (tgt := 47) hx hb dX9_hear_40 (by decide) (fun _ => ?_) (fun c9 => absurd (by decide) c9)
    refine lv_iconst (v := 0) hx hb dX9_hear_47 (by decide) ?_
    exact b48 p0 x1 r2 0 x1 (s3 12 (x1 : Int32).toNatClampNeg) 0 s3 _ _ _ hw hP hD hS (lv_sub hl [3, 4, 2, 1, 0] rfl)
  · have hw := hw.2 c5
    refine lv_iconst (v := 1) hx hb dX9_hear_24 (by decide) ?_
    refine lv_goto (tgt := 29) hx hb dX9_hear_25 (by decide) ?_
    refine lv_istore (lv' := [(4, .int 1), (3, .int r2), (2, .int x1), (0, .ref (a 0)), (1, .int p0)]) hx hb dX9_hear_29 hl (by decide) rfl (fun ls hl => ?_)
    refine lv_aload_n hx hb dX9_hear_31 rfl (lv_at hl 3 rfl) ?_
    refine va_get (D := (dC, dI)) (ci := 7) (v := .ref (a 12)) (C := RX9) (T := TX9) (N := 30) hx hb hts h_in9 hown hK hP 0 rfl rfl 13 (by decide) h_f47 (fun _ h9 => h9) rfl dX9_hear_32 ?_
    refine lv_iload_n hx hb dX9_hear_35 rfl (lv_at hl 2 rfl) ?_
    refine lv_dup2_11 hx hb dX9_hear_36 rfl rfl ?_
    have c51 := hw.1
    have hw := hw.2
    refine va_iald hx hb hK hP 12 0 rfl rfl c51 dX9_hear_37 ?_
    refine lv_iload hx hb dX9_hear_38 (lv_at hl 0 rfl) ?_
    refine lv_if_eq (tgt := 47) hx hb dX9_hear_40 (by decide) (fun c9 => absurd c9 (by decide)) (fun _ => ?_)
    refine lv_iconst (v := 1) hx hb dX9_hear_43 (by decide) ?_
    refine lv_goto (tgt := 48) hx hb dX9_hear_44 (by decide) ?_
    exact b48 p0 x1 r2 1 x1 (s3 12 (x1 : Int32).toNatClampNeg) 1 s3 _ _ _ hw hP hD hS (lv_sub hl [3, 4, 2, 1, 0] rfl)
def wp_X9_into_81 (K : tm_St → Prop) (v1 : Int32) (v2 : Int32) (s : tm_St) : Prop := ((¬ v2 = 7 → K s) ∧ (v2 = 7 → (wp_X9_put v1 5 0 s (fun s7 => (wp_X9_put v1 10 0 s7 (fun s8 => (wp_X9_put v1 15 0 s8 (fun s9 => (wp_X9_put v1 16 0 s9 (fun s10 => (wp_X9_of v1 8 s10 (fun r11 s12 => (wp_X9_put v1 7 r11 s12 (fun s13 => (wp_X9_add v1 14 1 s13 (fun s14 => K s14))))))))))))))))
def wp_X9_into_59 (K : tm_St → Prop) : Nat → Int32 → Int32 → Int32 → tm_St → Prop
  | 0, _, _, _, _ => False
  | n + 1, v1, v2, v3, s => (((4 : Int32) ≤ v3 → wp_X9_into_81 K v1 v2 s) ∧ (¬ (4 : Int32) ≤ v3 → (vp_in ((4 * v1) + v3) 8 ∧ (∀ s17 : tm_St, s17 = tm_s s 3 (upd (s 3) (((4 * v1) + v3) : Int32).toNatClampNeg 0) → (∀ x18 : Int32, x18 = v3 + 1 → wp_X9_into_59 K n v1 v2 x18 s17)))))
def wp_X9_into_28 (K : tm_St → Prop) : Nat → Int32 → Int32 → Int32 → tm_St → Prop
  | 0, _, _, _, _ => False
  | n + 1, v1, v2, v3, s => (((8 : Int32) ≤ v3 → ((¬ v2 = 4 → wp_X9_into_81 K v1 v2 s) ∧ (v2 = 4 → ∃ nf : Nat, wp_X9_into_59 K nf v1 v2 0 s))) ∧ (¬ (8 : Int32) ≤ v3 → (vp_in ((8 * v1) + v3) 16 ∧ (∀ s22 : tm_St, s22 = tm_s s 2 (upd (s 2) (((8 * v1) + v3) : Int32).toNatClampNeg 0) → (∀ x23 : Int32, x23 = v3 + 1 → wp_X9_into_28 K n v1 v2 x23 s22)))))
def wp_X9_into (p0 : Int32) (p1 : Int32) (s0 : tm_St) (K : tm_St → Prop) : Prop := (wp_X9_goesTo p0 p1 s0 (fun s1 => (∀ s2 : tm_St, s2 = tm_s s1 0 (tm_u (s1 0) 26 1) → (∀ s3 : tm_St, s3 = tm_s s2 0 (tm_u (s2 0) 15 ((s2 0 15) + 1)) → ((¬ p1 = 3 → ((¬ p1 = 4 → wp_X9_into_81 K p0 p1 s3) ∧ (p1 = 4 → ∃ nf : Nat, wp_X9_into_59 K nf p0 p1 0 s3))) ∧ (p1 = 3 → ∃ nf : Nat, wp_X9_into_28 K nf p0 p1 0 s3))))))
set_option maxRecDepth 100000 in
set_option maxHeartbeats 4000000 in
theorem kk_X9_into (l : Launch) (dC : Nat → ClassId) (dI : Nat → Nat → Nat) (cI cZ : ClassId) (a : Nat → Nat) (s0 : tm_St) (hh : Int64) (sz : Nat) (p0 : Int32) (p1 : Int32) (K : tm_St → Prop) (hw : wp_X9_into p0 p1 s0 K) : Met l yX9_into wsX9_into ({ frames := 2, cells := 0, slots := 0, locals := 45 }) (va_Pc [.ref (a 0), .int p0, .int p1] (tm_Pre dC dI cI cZ (tm_wModel cI cZ a s0 hh) sz)) (va_Qv (fun (u : tm_St) => K u) (fun (u : tm_St) t => tm_At dC dI cI cZ (va_A (tm_wModel cI cZ a s0 hh) sz) (tm_wModel cI cZ a u hh) t) (va_A (tm_wModel cI cZ a s0 hh) sz)) 0 0 (va_A (tm_wModel cI cZ a s0 hh) sz) := by
  refine Met.ofW (cc := cX9_into) (maxL := 4) (ret := none) (by decide +kernel) rfl ?_
  intro p e z m args below meth c z₁ B hml hv
  obtain ⟨rfl, hsz, hP, hK, hD0⟩ := hv
  have hx := B.exec
  have hb := B.bytes
  have hr := B.returns
  have hts := atoms_spec (ws := wsX9_into) B.pre
  have hown : z.vm.findClass RX9 = some m.cls := findClass_of_methodNamed B.named
  have hlocks := B.notSynchronized
  subst hsz
  have hD := hD0.self (sz := z.heap.size)
  generalize hAe : va_A (tm_wModel cI cZ a s0 hh) z.heap.size = A at hD ⊢
  have hA : ∀ q : Nat, z.heap.size ≤ q → A q := fun q h => by rw [← hAe]; exact Or.inr h
  have hS : va_S A z.heap z.heap [] := va_S.rf
  have h_f127 := hts (.fieldLink RX9 127 "TwoModemsModel" "isChanged" "Z") (by decide +kernel)
  have h_in9 : ∀ w ∈ u_ws RX9 TX9 30, w ∈ wsX9_into := by decide +kernel
  have h_f131 := hts (.fieldLink RX9 131 "TwoModemsModel" "changes" "I") (by decide +kernel)
  have h_f16 := hts (.fieldLink RX9 16 "TwoModemsModel" "learnts" "[I") (by decide +kernel)
  have h_f13 := hts (.fieldLink RX9 13 "TwoModemsModel" "noted" "[I") (by decide +kernel)
  have b81 : ∀ (v1 : Int32) (v2 : Int32) (s : tm_St) (H : Heap) (locs : List Loc) (ls : Array Slot), wp_X9_into_81 K v1 v2 s → va_P (dC, dI) vwCl (tm_wModel cI cZ a s hh) H → va_D A (tm_wModel cI cZ a s hh) → va_S A z.heap H locs → lv_has ls 4 [(0, .ref (a 0)), (1, .int v1), (2, .int v2)] → W p l e (headSpec wsX9_into ({ frames := 2, cells := 0, slots := 0, locals := 45 })).room z m (([.ref (a 0), .int p0, .int p1] : List Value).toArray) below meth c H locs 0 0 (MQ below (va_Qv (fun (u : tm_St) => K u) (fun (u : tm_St) t => tm_At dC dI cI cZ A (tm_wModel cI cZ a u hh) t) A) (([.ref (a 0), .int p0, .int p1] : List Value).toArray) z 0 0 A) (F0 m 81 ls []) := by
    intro v1 v2 s H locs ls hw hP hD hS hl
    unfold wp_X9_into_81 at hw
    refine lv_iload_n hx hb dX9_into_81 rfl (lv_at hl 2 rfl) ?_
    refine lv_bipush (v := 7) hx hb dX9_into_82 (by decide) ?_
    refine lv_icmp_ne (tgt := 140) hx hb dX9_into_84 (by decide) (fun c6 => ?_) (fun c6 => ?_)
    · have hw := hw.1 c6
      exact W.vret hx hb hr (fun t ht hW => ⟨⟨s, rfl, hw, by rw [ht]; exact hP, va_K.moved hW.alike hK, hD⟩, hS.F ht⟩) hS.2.2 dX9_into_140
    · have hw := hw.2 c6
      refine lv_aload_n hx hb dX9_into_87 rfl (lv_at hl 0 rfl) ?_
      refine lv_iload_n hx hb dX9_into_88 rfl (lv_at hl 1 rfl) ?_
      refine lv_iconst (v := 5) hx hb dX9_into_89 (by decide) ?_
      refine lv_iconst (v := 0) hx hb dX9_into_90 (by decide) ?_
      have hPc := hP
      have hDc := hD
      have hFc := va_free (wc := (tm_wModel cI cZ a s hh)) hD hS hA [0, 1, 2, 3, 4, 5, 6, 7, 8, 9, 10, 11, 12, 13, 14, 15, 16, 17] rfl
      refine va_callv (va_runV (As := [.int v1, .int 5, .int 0]) (rest := []) ⟨hx, hb, hml, hown, hts⟩ (kk_X9_put l dC dI cI cZ a s hh H.size v1 5 0 _ hw) (cwV 3 hts gX9_into_X9_put rfl rfl rfl (by decide +kernel) ⟨Nat.le_of_ble_eq_true rfl, Nat.le_of_ble_eq_true rfl⟩) ⟨tm_blind, va_recv hK hPc (ci := 7) (q0 := 0) rfl rfl, fun U hU hW => ⟨rfl, by rw [hU], by rw [hU]; exact hPc, va_K.moved hW.alike hK, hDc.weaken (fun _ _ _ _ => trivial)⟩⟩ rfl rfl hl.1 rfl (lv_room (Nat.le_of_ble_eq_true rfl)) dX9_into_91 ⟨Nat.zero_le _, Nat.zero_le _⟩) hS (fun q _ h => hFc q h) hFc (fun s7 t H1 locs ht hvm hw hB hz1 hk1 hS => ?_)
      obtain ⟨hP1, hK1, hD1⟩ := hB
      rw [ht] at hP1
      obtain ⟨hP, hD⟩ := va_join (wr := []) (w1 := (tm_wModel cI cZ a s7 hh)) hP hD [0, 1, 2, 3, 4, 5, 6, 7, 8, 9, 10, 11, 12, 13, 14, 15, 16, 17] [] rfl rfl (by decide) (by decide) hk1 hFc hP1 hD1
      generalize H1 = H at hP hS ⊢
      have hP : va_P (dC, dI) vwCl (tm_wModel cI cZ a s7 hh) H := hP
      have hD : va_D A (tm_wModel cI cZ a s7 hh) := hD
      refine lv_aload_n hx hb dX9_into_94 rfl (lv_at hl 0 rfl) ?_
      refine lv_iload_n hx hb dX9_into_95 rfl (lv_at hl 1 rfl) ?_
      refine lv_bipush (v := 10) hx hb dX9_into_96 (by decide) ?_
      refine lv_iconst (v := 0) hx hb dX9_into_98 (by decide) ?_
      have hPc := hP
      have hDc := hD
      have hFc := va_free (wc := (tm_wModel cI cZ a s7 hh)) hD hS hA [0, 1, 2, 3, 4, 5, 6, 7, 8, 9, 10, 11, 12, 13, 14, 15, 16, 17] rfl
      refine va_callv (va_runV (As := [.int v1, .int 10, .int 0]) (rest := []) ⟨hx, hb, hml, hown, hts⟩ (kk_X9_put l dC dI cI cZ a s7 hh H.size v1 10 0 _ hw) (cwV 3 hts gX9_into_X9_put rfl rfl rfl (by decide +kernel) ⟨Nat.le_of_ble_eq_true rfl, Nat.le_of_ble_eq_true rfl⟩) ⟨tm_blind, va_recv hK hPc (ci := 7) (q0 := 0) rfl rfl, fun U hU hW => ⟨rfl, by rw [hU], by rw [hU]; exact hPc, va_K.moved hW.alike hK, hDc.weaken (fun _ _ _ _ => trivial)⟩⟩ rfl rfl hl.1 rfl (lv_room (Nat.le_of_ble_eq_true rfl)) dX9_into_99 ⟨Nat.zero_le _, Nat.zero_le _⟩) hS (fun q _ h => hFc q h) hFc (fun s8 t H1 locs ht hvm hw hB hz1 hk1 hS => ?_)
      obtain ⟨hP1, hK1, hD1⟩ := hB
      rw [ht] at hP1
      obtain ⟨hP, hD⟩ := va_join (wr := []) (w1 := (tm_wModel cI cZ a s8 hh)) hP hD [0, 1, 2, 3, 4, 5, 6, 7, 8, 9, 10, 11, 12, 13, 14, 15, 16, 17] [] rfl rfl (by decide) (by decide) hk1 hFc hP1 hD1
      generalize H1 = H at hP hS ⊢
      have hP : va_P (dC, dI) vwCl (tm_wModel cI cZ a s8 hh) H := hP
      have hD : va_D A (tm_wModel cI cZ a s8 hh) := hD
      refine lv_aload_n hx hb dX9_into_102 rfl (lv_at hl 0 rfl) ?_
      refine lv_iload_n hx hb dX9_into_103 rfl (lv_at hl 1 rfl) ?_
      refine lv_bipush (v := 15) hx hb dX9_into_104 (by decide) ?_
      refine lv_iconst (v := 0) hx hb dX9_into_106 (by decide) ?_
      have hPc := hP
      have hDc := hD
      have hFc := va_free (wc := (tm_wModel cI cZ a s8 hh)) hD hS hA [0, 1, 2, 3, 4, 5, 6, 7, 8, 9, 10, 11, 12, 13, 14, 15, 16, 17] rfl
      refine va_callv (va_runV (As := [.int v1, .int 15, .int 0]) (rest := []) ⟨hx, hb, hml, hown, hts⟩ (kk_X9_put l dC dI cI cZ a s8 hh H.size v1 15 0 _ hw) (cwV 3 hts gX9_into_X9_put rfl rfl rfl (by decide +kernel) ⟨Nat.le_of_ble_eq_true rfl, Nat.le_of_ble_eq_true rfl⟩) ⟨tm_blind, va_recv hK hPc (ci := 7) (q0 := 0) rfl rfl, fun U hU hW => ⟨rfl, by rw [hU], by rw [hU]; exact hPc, va_K.moved hW.alike hK, hDc.weaken (fun _ _ _ _ => trivial)⟩⟩ rfl rfl hl.1 rfl (lv_room (Nat.le_of_ble_eq_true rfl)) dX9_into_107 ⟨Nat.zero_le _, Nat.zero_le _⟩) hS (fun q _ h => hFc q h) hFc (fun s9 t H1 locs ht hvm hw hB hz1 hk1 hS => ?_)
      obtain ⟨hP1, hK1, hD1⟩ := hB
      rw [ht] at hP1
      obtain ⟨hP, hD⟩ := va_join (wr := []) (w1 := (tm_wModel cI cZ a s9 hh)) hP hD [0, 1, 2, 3, 4, 5, 6, 7, 8, 9, 10, 11, 12, 13, 14, 15, 16, 17] [] rfl rfl (by decide) (by decide) hk1 hFc hP1 hD1
      generalize H1 = H at hP hS ⊢
      have hP : va_P (dC, dI) vwCl (tm_wModel cI cZ a s9 hh) H := hP
      have hD : va_D A (tm_wModel cI cZ a s9 hh) := hD
      refine lv_aload_n hx hb dX9_into_110 rfl (lv_at hl 0 rfl) ?_
      refine lv_iload_n hx hb dX9_into_111 rfl (lv_at hl 1 rfl) ?_
      refine lv_bipush (v := 16) hx hb dX9_into_112 (by decide) ?_
      refine lv_iconst (v := 0) hx hb dX9_into_114 (by decide) ?_
      have hPc := hP
      have hDc := hD
      have hFc := va_free (wc := (tm_wModel cI cZ a s9 hh)) hD hS hA [0, 1, 2, 3, 4, 5, 6, 7, 8, 9, 10, 11, 12, 13, 14, 15, 16, 17] rfl
      refine va_callv (va_runV (As := [.int v1, .int 16, .int 0]) (rest := []) ⟨hx, hb, hml, hown, hts⟩ (kk_X9_put l dC dI cI cZ a s9 hh H.size v1 16 0 _ hw) (cwV 3 hts gX9_into_X9_put rfl rfl rfl (by decide +kernel) ⟨Nat.le_of_ble_eq_true rfl, Nat.le_of_ble_eq_true rfl⟩) ⟨tm_blind, va_recv hK hPc (ci := 7) (q0 := 0) rfl rfl, fun U hU hW => ⟨rfl, by rw [hU], by rw [hU]; exact hPc, va_K.moved hW.alike hK, hDc.weaken (fun _ _ _ _ => trivial)⟩⟩ rfl rfl hl.1 rfl (lv_room (Nat.le_of_ble_eq_true rfl)) dX9_into_115 ⟨Nat.zero_le _, Nat.zero_le _⟩) hS (fun q _ h => hFc q h) hFc (fun s10 t H1 locs ht hvm hw hB hz1 hk1 hS => ?_)
      obtain ⟨hP1, hK1, hD1⟩ := hB
      rw [ht] at hP1
      obtain ⟨hP, hD⟩ := va_join (wr := []) (w1 := (tm_wModel cI cZ a s10 hh)) hP hD [0, 1, 2, 3, 4, 5, 6, 7, 8, 9, 10, 11, 12, 13, 14, 15, 16, 17] [] rfl rfl (by decide) (by decide) hk1 hFc hP1 hD1
      generalize H1 = H at hP hS ⊢
      have hP : va_P (dC, dI) vwCl (tm_wModel cI cZ a s10 hh) H := hP
      have hD : va_D A (tm_wModel cI cZ a s10 hh) := hD
      refine lv_aload_n hx hb dX9_into_118 rfl (lv_at hl 0 rfl) ?_
      refine lv_iload_n hx hb dX9_into_119 rfl (lv_at hl 1 rfl) ?_
      refine lv_bipush (v := 7) hx hb dX9_into_120 (by decide) ?_
      refine lv_aload_n hx hb dX9_into_122 rfl (lv_at hl 0 rfl) ?_
      refine lv_iload_n hx hb dX9_into_123 rfl (lv_at hl 1 rfl) ?_
      refine lv_bipush (v := 8) hx hb dX9_into_124 (by decide) ?_
      have hPc := hP
      have hDc := hD
      have hFc := va_free (wc := (tm_wModel cI cZ a s10 hh)) hD hS hA [0, 1, 2, 3, 4, 5, 6, 7, 8, 9, 10, 11, 12, 13, 14, 15, 16, 17] rfl
      refine va_calli (va_runV (As := [.int v1, .int 8]) (rest := [.int 7, .int v1, .ref (a 0)]) ⟨hx, hb, hml, hown, hts⟩ (kk_X9_of l dC dI cI cZ a s10 hh H.size v1 8 _ hw) (cwV 2 hts gX9_into_X9_of rfl rfl rfl (by decide +kernel) ⟨Nat.le_of_ble_eq_true rfl, Nat.le_of_ble_eq_true rfl⟩) ⟨tm_blind, va_recv hK hPc (ci := 7) (q0 := 0) rfl rfl, fun U hU hW => ⟨rfl, by rw [hU], by rw [hU]; exact hPc, va_K.moved hW.alike hK, hDc.weaken (fun _ _ _ _ => trivial)⟩⟩ rfl rfl hl.1 rfl (lv_room (Nat.le_of_ble_eq_true rfl)) dX9_into_126 ⟨Nat.zero_le _, Nat.zero_le _⟩) hS (fun q _ h => hFc q h) hFc (fun r11 s12 t H1 locs ht hvm hw hB hz1 hk1 hS => ?_)
      obtain ⟨hP1, hK1, hD1⟩ := hB
      rw [ht] at hP1
      obtain ⟨hP, hD⟩ := va_join (wr := []) (w1 := (tm_wModel cI cZ a s12 hh)) hP hD [0, 1, 2, 3, 4, 5, 6, 7, 8, 9, 10, 11, 12, 13, 14, 15, 16, 17] [] rfl rfl (by decide) (by decide) hk1 hFc hP1 hD1
      generalize H1 = H at hP hS ⊢
      have hP : va_P (dC, dI) vwCl (tm_wModel cI cZ a s12 hh) H := hP
      have hD : va_D A (tm_wModel cI cZ a s12 hh) := hD
      have hPc := hP
      have hDc := hD
      have hFc := va_free (wc := (tm_wModel cI cZ a s12 hh)) hD hS hA [0, 1, 2, 3, 4, 5, 6, 7, 8, 9, 10, 11, 12, 13, 14, 15, 16, 17] rfl
      refine va_callv (va_runV (As := [.int v1, .int 7, .int r11]) (rest := []) ⟨hx, hb, hml, hown, hts⟩ (kk_X9_put l dC dI cI cZ a s12 hh H.size v1 7 r11 _ hw) (cwV 3 hts gX9_into_X9_put rfl rfl rfl (by decide +kernel) ⟨Nat.le_of_ble_eq_true rfl, Nat.le_of_ble_eq_true rfl⟩) ⟨tm_blind, va_recv hK hPc (ci := 7) (q0 := 0) rfl rfl, fun U hU hW => ⟨rfl, by rw [hU], by rw [hU]; exact hPc, va_K.moved hW.alike hK, hDc.weaken (fun _ _ _ _ => trivial)⟩⟩ rfl rfl hl.1 rfl (lv_room (Nat.le_of_ble_eq_true rfl)) dX9_into_129 ⟨Nat.zero_le _, Nat.zero_le _⟩) hS (fun q _ h => hFc q h) hFc (fun s13 t H1 locs ht hvm hw hB hz1 hk1 hS => ?_)
      obtain ⟨hP1, hK1, hD1⟩ := hB
      rw [ht] at hP1
      obtain ⟨hP, hD⟩ := va_join (wr := []) (w1 := (tm_wModel cI cZ a s13 hh)) hP hD [0, 1, 2, 3, 4, 5, 6, 7, 8, 9, 10, 11, 12, 13, 14, 15, 16, 17] [] rfl rfl (by decide) (by decide) hk1 hFc hP1 hD1
      generalize H1 = H at hP hS ⊢
      have hP : va_P (dC, dI) vwCl (tm_wModel cI cZ a s13 hh) H := hP
      have hD : va_D A (tm_wModel cI cZ a s13 hh) := hD
      refine lv_aload_n hx hb dX9_into_132 rfl (lv_at hl 0 rfl) ?_
      refine lv_iload_n hx hb dX9_into_133 rfl (lv_at hl 1 rfl) ?_
      refine lv_bipush (v := 14) hx hb dX9_into_134 (by decide) ?_
      refine lv_iconst (v := 1) hx hb dX9_into_136 (by decide) ?_
      have hPc := hP
      have hDc := hD
      have hFc := va_free (wc := (tm_wModel cI cZ a s13 hh)) hD hS hA [0, 1, 2, 3, 4, 5, 6, 7, 8, 9, 10, 11, 12, 13, 14, 15, 16, 17] rfl
      refine va_callv (va_runV (As := [.int v1, .int 14, .int 1]) (rest := []) ⟨hx, hb, hml, hown, hts⟩ (kk_X9_add l dC dI cI cZ a s13 hh H.size v1 14 1 _ hw) (cwV 3 hts gX9_into_X9_add rfl rfl rfl (by decide +kernel) ⟨Nat.le_of_ble_eq_true rfl, Nat.le_of_ble_eq_true rfl⟩) ⟨tm_blind, va_recv hK hPc (ci := 7) (q0 := 0) rfl rfl, fun U hU hW => ⟨rfl, by rw [hU], by rw [hU]; exact hPc, va_K.moved hW.alike hK, hDc.weaken (fun _ _ _ _ => trivial)⟩⟩ rfl rfl hl.1 rfl (lv_room (Nat.le_of_ble_eq_true rfl)) dX9_into_137 ⟨Nat.zero_le _, Nat.zero_le _⟩) hS (fun q _ h => hFc q h) hFc (fun s14 t H1 locs ht hvm hw hB hz1 hk1 hS => ?_)
      obtain ⟨hP1, hK1, hD1⟩ := hB
      rw [ht] at hP1
      obtain ⟨hP, hD⟩ := va_join (wr := []) (w1 := (tm_wModel cI cZ a s14 hh)) hP hD [0, 1, 2, 3, 4, 5, 6, 7, 8, 9, 10, 11, 12, 13, 14, 15, 16, 17] [] rfl rfl (by decide) (by decide) hk1 hFc hP1 hD1
      generalize H1 = H at hP hS ⊢
      have hP : va_P (dC, dI) vwCl (tm_wModel cI cZ a s14 hh) H := hP
      have hD : va_D A (tm_wModel cI cZ a s14 hh) := hD
      exact W.vret hx hb hr (fun t ht hW => ⟨⟨s14, rfl, hw, by rw [ht]; exact hP, va_K.moved hW.alike hK, hD⟩, hS.F ht⟩) hS.2.2 dX9_into_140
  have b59 : ∀ (n : Nat) (v1 : Int32) (v2 : Int32) (v3 : Int32) (s : tm_St) (H : Heap) (locs : List Loc) (ls : Array Slot), wp_X9_into_59 K n v1 v2 v3 s → va_P (dC, dI) vwCl (tm_wModel cI cZ a s hh) H → va_D A (tm_wModel cI cZ a s hh) → va_S A z.heap H locs → lv_has ls 4 [(0, .ref (a 0)), (1, .int v1), (2, .int v2), (3, .int v3)] → W p l e (headSpec wsX9_into ({ frames := 2, cells := 0, slots := 0, locals := 45 })).room z m (([.ref (a 0), .int p0, .int p1] : List Value).toArray) below meth c H locs 0 0 (MQ below (va_Qv (fun (u : tm_St) => K u) (fun (u : tm_St) t => tm_At dC dI cI cZ A (tm_wModel cI cZ a u hh) t) A) (([.ref (a 0), .int p0, .int p1] : List Value).toArray) z 0 0 A) (F0 m 59 ls []) := by
    intro n
    induction n with
    | zero => intro v1 v2 v3 s H locs ls hw hP hD hS hl; unfold wp_X9_into_59 at hw; exact hw.elim
    | succ n ih =>
      intro v1 v2 v3 s H locs ls hw hP hD hS hl
      unfold wp_X9_into_59 at hw
      refine lv_iload_n hx hb dX9_into_59 rfl (lv_at hl 3 rfl) ?_
      refine lv_iconst (v := 4) hx hb dX9_into_60 (by decide) ?_
      refine lv_icmp_ge (tgt := 81) hx hb dX9_into_61 (by decide) (fun c15 => ?_) (fun c15 => ?_)
      · have hw := hw.1 c15
        exact b81 v1 v2 s _ _ _ hw hP hD hS (lv_sub hl [0, 1, 2] rfl)
      · have hw := hw.2 c15
        refine lv_aload_n hx hb dX9_into_64 rfl (lv_at hl 0 rfl) ?_
        refine va_get (D := (dC, dI)) (ci := 7) (v := .ref (a 3)) (C := RX9) (T := TX9) (N := 30) hx hb hts h_in9 hown hK hP 0 rfl rfl 2 (by decide) h_f16 (fun _ h9 => h9) rfl dX9_into_65 ?_
        refine lv_iconst (v := 4) hx hb dX9_into_68 (by decide) ?_
        refine lv_iload_n hx hb dX9_into_69 rfl (lv_at hl 1 rfl) ?_
        refine lv_imul hx hb dX9_into_70 ?_
        refine lv_iload_n hx hb dX9_into_71 rfl (lv_at hl 3 rfl) ?_
        refine lv_iadd hx hb dX9_into_72 ?_
        refine lv_iconst (v := 0) hx hb dX9_into_73 (by decide) ?_
        have c16 := hw.1
        have hw := hw.2
        refine va_iast hx hb hK hP hD hS 3 0 rfl rfl c16 dX9_into_74 (fun H locs hP hD hS => ?_)
        obtain ⟨s17, es17⟩ : ∃ y : tm_St, y = tm_s s 3 (upd (s 3) (((4 * v1) + v3) : Int32).toNatClampNeg 0) := ⟨_, rfl⟩
        have hw := hw s17 es17
        have hP : va_P (dC, dI) vwCl (tm_wModel cI cZ a s17 hh) H := by rw [es17]; exact hP
        have hD : va_D A (tm_wModel cI cZ a s17 hh) := by rw [es17]; exact hD
        obtain ⟨x18, ex18⟩ : ∃ y : Int32, y = v3 + 1 := ⟨_, rfl⟩
        have hw := hw x18 ex18
        refine lv_iinc (v := x18) (lv' := [(3, .int x18), (0, .ref (a 0)), (1, .int v1), (2, .int v2)]) hx hb dX9_into_75 hl (k := 3) rfl (by rw [ex18]; rfl) (by decide) rfl (fun ls hl => ?_)
        refine lv_goto (tgt := 59) hx hb dX9_into_78 (by decide) ?_
        exact ih v1 v2 x18 s17 _ _ _ hw hP hD hS (lv_sub hl [1, 2, 3, 0] rfl)
  have b28 : ∀ (n : Nat) (v1 : Int32) (v2 : Int32) (v3 : Int32) (s : tm_St) (H : Heap) (locs : List Loc) (ls : Array Slot), wp_X9_into_28 K n v1 v2 v3 s → va_P (dC, dI) vwCl (tm_wModel cI cZ a s hh) H → va_D A (tm_wModel cI cZ a s hh) → va_S A z.heap H locs → lv_has ls 4 [(0, .ref (a 0)), (1, .int v1), (2, .int v2), (3, .int v3)] → W p l e (headSpec wsX9_into ({ frames := 2, cells := 0, slots := 0, locals := 45 })).room z m (([.ref (a 0), .int p0, .int p1] : List Value).toArray) below meth c H locs 0 0 (MQ below (va_Qv (fun (u : tm_St) => K u) (fun (u : tm_St) t => tm_At dC dI cI cZ A (tm_wModel cI cZ a u hh) t) A) (([.ref (a 0), .int p0, .int p1] : List Value).toArray) z 0 0 A) (F0 m 28 ls []) := by
    intro n
    induction n with
    | zero => intro v1 v2 v3 s H locs ls hw hP hD hS hl; unfold wp_X9_into_28 at hw; exact hw.elim
    | succ n ih =>
      intro v1 v2 v3 s H locs ls hw hP hD hS hl
      unfold wp_X9_into_28 at hw
      refine lv_iload_n hx hb dX9_into_28 rfl (lv_at hl 3 rfl) ?_
      refine lv_bipush (v := 8) hx hb dX9_into_29 (by decide) ?_
      refine lv_icmp_ge (tgt := 52) hx hb dX9_into_31 (by decide) (fun c19 => ?_) (fun c19 => ?_)
      · have hw := hw.1 c19
        refine lv_iload_n hx hb dX9_into_52 rfl (lv_at hl 2 rfl) ?_
        refine lv_iconst (v := 4) hx hb dX9_into_53 (by decide) ?_
        refine lv_icmp_ne (tgt := 81) hx hb dX9_into_54 (by decide) (fun c20 => ?_) (fun c20 => ?_)
        · have hw := hw.1 c20
          exact b81 v1 v2 s _ _ _ hw hP hD hS (lv_sub hl [0, 1, 2] rfl)
        · have hw := hw.2 c20
          refine lv_iconst (v := 0) hx hb dX9_into_57 (by decide) ?_
          refine lv_istore_n (lv' := [(3, .int 0), (0, .ref (a 0)), (1, .int v1), (2, .int v2)]) hx hb dX9_into_58 rfl hl (by decide) rfl (fun ls hl => ?_)
          obtain ⟨nf, hw⟩ := hw
          exact b59 nf v1 v2 0 s _ _ _ hw hP hD hS (lv_sub hl [1, 2, 3, 0] rfl)
      · have hw := hw.2 c19
        refine lv_aload_n hx hb dX9_into_34 rfl (lv_at hl 0 rfl) ?_
        refine va_get (D := (dC, dI)) (ci := 7) (v := .ref (a 2)) (C := RX9) (T := TX9) (N := 30) hx hb hts h_in9 hown hK hP 0 rfl rfl 1 (by decide) h_f13 (fun _ h9 => h9) rfl dX9_into_35 ?_
        refine lv_bipush (v := 8) hx hb dX9_into_38 (by decide) ?_
        refine lv_iload_n hx hb dX9_into_40 rfl (lv_at hl 1 rfl) ?_
        refine lv_imul hx hb dX9_into_41 ?_
        refine lv_iload_n hx hb dX9_into_42 rfl (lv_at hl 3 rfl) ?_
        refine lv_iadd hx hb dX9_into_43 ?_
        refine lv_iconst (v := 0) hx hb dX9_into_44 (by decide) ?_
        have c21 := hw.1
        have hw := hw.2
        refine va_iast hx hb hK hP hD hS 2 0 rfl rfl c21 dX9_into_45 (fun H locs hP hD hS => ?_)
        obtain ⟨s22, es22⟩ : ∃ y : tm_St, y = tm_s s 2 (upd (s 2) (((8 * v1) + v3) : Int32).toNatClampNeg 0) := ⟨_, rfl⟩
        have hw := hw s22 es22
        have hP : va_P (dC, dI) vwCl (tm_wModel cI cZ a s22 hh) H := by rw [es22]; exact hP
        have hD : va_D A (tm_wModel cI cZ a s22 hh) := by rw [es22]; exact hD
        obtain ⟨x23, ex23⟩ : ∃ y : Int32, y = v3 + 1 := ⟨_, rfl⟩
        have hw := hw x23 ex23
        refine lv_iinc (v := x23) (lv' := [(3, .int x23), (0, .ref (a 0)), (1, .int v1), (2, .int v2)]) hx hb dX9_into_46 hl (k := 3) rfl (by rw [ex23]; rfl) (by decide) rfl (fun ls hl => ?_)
        refine lv_goto (tgt := 28) hx hb dX9_into_49 (by decide) ?_
        exact ih v1 v2 x23 s22 _ _ _ hw hP hD hS (lv_sub hl [1, 2, 3, 0] rfl)
  have hl := lv_entry ([.ref (a 0), .int p0, .int p1]) (n := 4) (Nat.le_of_ble_eq_true rfl)
  rw [lg_entry_eq]
  generalize (lg_sl ([.ref (a 0), .int p0, .int p1]) ++ List.replicate (4 - (lg_sl ([.ref (a 0), .int p0, .int p1])).length) Slot.unset).toArray = ls at hl ⊢
  have hl : lv_has ls 4 [(0, .ref (a 0)), (1, .int p0), (2, .int p1)] := hl
  unfold wp_X9_into at hw
  refine lv_aload_n hx hb dX9_into_0 rfl (lv_at hl 0 rfl) ?_
  refine lv_iload_n hx hb dX9_into_1 rfl (lv_at hl 1 rfl) ?_
  refine lv_iload_n hx hb dX9_into_2 rfl (lv_at hl 2 rfl) ?_
  have hPc := hP
  have hDc := hD
  have hFc := va_free (wc := (tm_wModel cI cZ a s0 hh)) hD hS hA [0, 1, 2, 3, 4, 5, 6, 7, 8, 9, 10, 11, 12, 13, 14, 15, 16, 17] rfl
  refine va_callv (va_runV (As := [.int p0, .int p1]) (rest := []) ⟨hx, hb, hml, hown, hts⟩ (kk_X9_goesTo l dC dI cI cZ a s0 hh z.heap.size p0 p1 _ hw) (cwV 2 hts gX9_into_X9_goesTo rfl rfl rfl (by decide +kernel) ⟨Nat.le_of_ble_eq_true rfl, Nat.le_of_ble_eq_true rfl⟩) ⟨tm_blind, va_recv hK hPc (ci := 7) (q0 := 0) rfl rfl, fun U hU hW => ⟨rfl, by rw [hU], by rw [hU]; exact hPc, va_K.moved hW.alike hK, hDc.weaken (fun _ _ _ _ => trivial)⟩⟩ rfl rfl hl.1 rfl (lv_room (Nat.le_of_ble_eq_true rfl)) dX9_into_3 ⟨Nat.zero_le _, Nat.zero_le _⟩) hS (fun q _ h => hFc q h) hFc (fun s1 t H1 locs ht hvm hw hB hz1 hk1 hS => ?_)
  obtain ⟨hP1, hK1, hD1⟩ := hB
  rw [ht] at hP1
  obtain ⟨hP, hD⟩ := va_join (wr := []) (w1 := (tm_wModel cI cZ a s1 hh)) hP hD [0, 1, 2, 3, 4, 5, 6, 7, 8, 9, 10, 11, 12, 13, 14, 15, 16, 17] [] rfl rfl (by decide) (by decide) hk1 hFc hP1 hD1
  generalize H1 = H at hP hS ⊢
  have hP : va_P (dC, dI) vwCl (tm_wModel cI cZ a s1 hh) H := hP
  have hD : va_D A (tm_wModel cI cZ a s1 hh) := hD
  refine lv_aload_n hx hb dX9_into_6 rfl (lv_at hl 0 rfl) ?_
  refine lv_iconst (v := 1) hx hb dX9_into_7 (by decide) ?_
  refine va_put (D := (dC, dI)) (ci := 7) (v := .int 1) (ty := .boolean) (C := RX9) (T := TX9) (N := 30) hx hb hts h_in9 tyX9 tyX9_ok nmX9 hown hK hP hD hS 0 rfl rfl 26 (by decide) h_f127 (fun _ h9 => h9) rfl (by decide +kernel) rfl rfl (Nat.le_of_ble_eq_true rfl) dX9_into_8 (fun H locs hP hD hS => ?_)
  obtain ⟨s2, es2⟩ : ∃ y : tm_St, y = tm_s s1 0 (tm_u (s1 0) 26 1) := ⟨_, rfl⟩
  have hw := hw s2 es2
  have hP : va_P (dC, dI) vwCl (tm_wModel cI cZ a s2 hh) H := by rw [es2]; exact hP
  have hD : va_D A (tm_wModel cI cZ a s2 hh) := by rw [es2]; exact hD
  refine lv_aload_n hx hb dX9_into_11 rfl (lv_at hl 0 rfl) ?_
  refine lv_dup hx hb dX9_into_12 rfl ?_
  refine va_get (D := (dC, dI)) (ci := 7) (v := .int (s2 0 15)) (C := RX9) (T := TX9) (N := 30) hx hb hts h_in9 hown hK hP 0 rfl rfl 15 (by decide) h_f131 (fun _ h9 => h9) rfl dX9_into_13 ?_
  refine lv_iconst (v := 1) hx hb dX9_into_16 (by decide) ?_
  refine lv_iadd hx hb dX9_into_17 ?_
  refine va_put (D := (dC, dI)) (ci := 7) (v := .int ((s2 0 15) + 1)) (ty := .int) (C := RX9) (T := TX9) (N := 30) hx hb hts h_in9 tyX9 tyX9_ok nmX9 hown hK hP hD hS 0 rfl rfl 15 (by decide) h_f131 (fun _ h9 => h9) rfl (by decide +kernel) rfl rfl (Nat.le_of_ble_eq_true rfl) dX9_into_18 (fun H locs hP hD hS => ?_)
  obtain ⟨s3, es3⟩ : ∃ y : tm_St, y = tm_s s2 0 (tm_u (s2 0) 15 ((s2 0 15) + 1)) := ⟨_, rfl⟩
  have hw := hw s3 es3
  have hP : va_P (dC, dI) vwCl (tm_wModel cI cZ a s3 hh) H := by rw [es3]; exact hP
  have hD : va_D A (tm_wModel cI cZ a s3 hh) := by rw [es3]; exact hD
  refine lv_iload_n hx hb dX9_into_21 rfl (lv_at hl 2 rfl) ?_
  refine lv_iconst (v := 3) hx hb dX9_into_22 (by decide) ?_
  refine lv_icmp_ne (tgt := 52) hx hb dX9_into_23 (by decide) (fun c4 => ?_) (fun c4 => ?_)
  · have hw := hw.1 c4
    refine lv_iload_n hx hb dX9_into_52 rfl (lv_at hl 2 rfl) ?_
    refine lv_iconst (v := 4) hx hb dX9_into_53 (by decide) ?_
    refine lv_icmp_ne (tgt := 81) hx hb dX9_into_54 (by decide) (fun c5 => ?_) (fun c5 => ?_)
    · have hw := hw.1 c5
      exact b81 p0 p1 s3 _ _ _ hw hP hD hS (lv_sub hl [0, 1, 2] rfl)
    · have hw := hw.2 c5
      refine lv_iconst (v := 0) hx hb dX9_into_57 (by decide) ?_
      refine lv_istore_n (lv' := [(3, .int 0), (0, .ref (a 0)), (1, .int p0), (2, .int p1)]) hx hb dX9_into_58 rfl hl (by decide) rfl (fun ls hl => ?_)
      obtain ⟨nf, hw⟩ := hw
      exact b59 nf p0 p1 0 s3 _ _ _ hw hP hD hS (lv_sub hl [1, 2, 3, 0] rfl)
  · have hw := hw.2 c4
    refine lv_iconst (v := 0) hx hb dX9_into_26 (by decide) ?_
    refine lv_istore_n (lv' := [(3, .int 0), (0, .ref (a 0)), (1, .int p0), (2, .int p1)]) hx hb dX9_into_27 rfl hl (by decide) rfl (fun ls hl => ?_)
    obtain ⟨nf, hw⟩ := hw
    exact b28 nf p0 p1 0 s3 _ _ _ hw hP hD hS (lv_sub hl [1, 2, 3, 0] rfl)
def wp_X9_mayGiveUp_53 (K : tm_St → Prop) (v1 : Int32) (t0 : Int32) (s : tm_St) : Prop := ((t0 = 0 → K s) ∧ (¬ t0 = 0 → (wp_X9_add v1 12 1 s (fun s6 => (wp_X9_into v1 0 s6 (fun s7 => K s7))))))
def wp_X9_mayGiveUp (p0 : Int32) (s0 : tm_St) (K : tm_St → Prop) : Prop := (wp_X9_of p0 0 s0 (fun r1 s2 => ((¬ r1 = 7 → ((r1 = 0 → wp_X9_mayGiveUp_53 K p0 0 s2) ∧ (¬ r1 = 0 → (wp_X9_of p0 1 s2 (fun r8 s9 => ((r8 < 60 → wp_X9_mayGiveUp_53 K p0 0 s9) ∧ (¬ r8 < 60 → wp_X9_mayGiveUp_53 K p0 1 s9))))))) ∧ (r1 = 7 → (wp_X9_of p0 16 s2 (fun r11 s12 => ((r11 < 16 → wp_X9_mayGiveUp_53 K p0 0 s12) ∧ (¬ r11 < 16 → wp_X9_mayGiveUp_53 K p0 1 s12))))))))
set_option maxRecDepth 100000 in
set_option maxHeartbeats 4000000 in
theorem kk_X9_mayGiveUp (l : Launch) (dC : Nat → ClassId) (dI : Nat → Nat → Nat) (cI cZ : ClassId) (a : Nat → Nat) (s0 : tm_St) (hh : Int64) (sz : Nat) (p0 : Int32) (K : tm_St → Prop) (hw : wp_X9_mayGiveUp p0 s0 K) : Met l yX9_mayGiveUp wsX9_mayGiveUp ({ frames := 3, cells := 0, slots := 0, locals := 68 }) (va_Pc [.ref (a 0), .int p0] (tm_Pre dC dI cI cZ (tm_wModel cI cZ a s0 hh) sz)) (va_Qv (fun (u : tm_St) => K u) (fun (u : tm_St) t => tm_At dC dI cI cZ (va_A (tm_wModel cI cZ a s0 hh) sz) (tm_wModel cI cZ a u hh) t) (va_A (tm_wModel cI cZ a s0 hh) sz)) 0 0 (va_A (tm_wModel cI cZ a s0 hh) sz) := by
  refine Met.ofW (cc := cX9_mayGiveUp) (maxL := 4) (ret := none) (by decide +kernel) rfl ?_
  intro p e z m args below meth c z₁ B hml hv
  obtain ⟨rfl, hsz, hP, hK, hD0⟩ := hv
  have hx := B.exec
  have hb := B.bytes
  have hr := B.returns
  have hts := atoms_spec (ws := wsX9_mayGiveUp) B.pre
  have hown : z.vm.findClass RX9 = some m.cls := findClass_of_methodNamed B.named
  have hlocks := B.notSynchronized
  subst hsz
  have hD := hD0.self (sz := z.heap.size)
  generalize hAe : va_A (tm_wModel cI cZ a s0 hh) z.heap.size = A at hD ⊢
  have hA : ∀ q : Nat, z.heap.size ≤ q → A q := fun q h => by rw [← hAe]; exact Or.inr h
  have hS : va_S A z.heap z.heap [] := va_S.rf
  have b53 : ∀ (v1 : Int32) (t0 : Int32) (s : tm_St) (H : Heap) (locs : List Loc) (ls : Array Slot), wp_X9_mayGiveUp_53 K v1 t0 s → va_P (dC, dI) vwCl (tm_wModel cI cZ a s hh) H → va_D A (tm_wModel cI cZ a s hh) → va_S A z.heap H locs → lv_has ls 4 [(0, .ref (a 0)), (1, .int v1)] → W p l e (headSpec wsX9_mayGiveUp ({ frames := 3, cells := 0, slots := 0, locals := 68 })).room z m (([.ref (a 0), .int p0] : List Value).toArray) below meth c H locs 0 0 (MQ below (va_Qv (fun (u : tm_St) => K u) (fun (u : tm_St) t => tm_At dC dI cI cZ A (tm_wModel cI cZ a u hh) t) A) (([.ref (a 0), .int p0] : List Value).toArray) z 0 0 A) (F0 m 53 ls [.int t0]) := by
    intro v1 t0 s H locs ls hw hP hD hS hl
    unfold wp_X9_mayGiveUp_53 at hw
    refine lv_istore_n (lv' := [(3, .int t0), (0, .ref (a 0)), (1, .int v1)]) hx hb dX9_mayGiveUp_53 rfl hl (by decide) rfl (fun ls hl => ?_)
    refine lv_iload_n hx hb dX9_mayGiveUp_54 rfl (lv_at hl 0 rfl) ?_
    refine lv_if_eq (tgt := 72) hx hb dX9_mayGiveUp_55 (by decide) (fun c5 => ?_) (fun c5 => ?_)
    · have hw := hw.1 c5
      exact W.vret hx hb hr (fun t ht hW => ⟨⟨s, rfl, hw, by rw [ht]; exact hP, va_K.moved hW.alike hK, hD⟩, hS.F ht⟩) hS.2.2 dX9_mayGiveUp_72
    · have hw := hw.2 c5
      refine lv_aload_n hx hb dX9_mayGiveUp_58 rfl (lv_at hl 1 rfl) ?_
      refine lv_iload_n hx hb dX9_mayGiveUp_59 rfl (lv_at hl 2 rfl) ?_
      refine lv_bipush (v := 12) hx hb dX9_mayGiveUp_60 (by decide) ?_
      refine lv_iconst (v := 1) hx hb dX9_mayGiveUp_62 (by decide) ?_
      have hPc := hP
      have hDc := hD
      have hFc := va_free (wc := (tm_wModel cI cZ a s hh)) hD hS hA [0, 1, 2, 3, 4, 5, 6, 7, 8, 9, 10, 11, 12, 13, 14, 15, 16, 17] rfl
      refine va_callv (va_runV (As := [.int v1, .int 12, .int 1]) (rest := []) ⟨hx, hb, hml, hown, hts⟩ (kk_X9_add l dC dI cI cZ a s hh H.size v1 12 1 _ hw) (cwV 3 hts gX9_mayGiveUp_X9_add rfl rfl rfl (by decide +kernel) ⟨Nat.le_of_ble_eq_true rfl, Nat.le_of_ble_eq_true rfl⟩) ⟨tm_blind, va_recv hK hPc (ci := 7) (q0 := 0) rfl rfl, fun U hU hW => ⟨rfl, by rw [hU], by rw [hU]; exact hPc, va_K.moved hW.alike hK, hDc.weaken (fun _ _ _ _ => trivial)⟩⟩ rfl rfl hl.1 rfl (lv_room (Nat.le_of_ble_eq_true rfl)) dX9_mayGiveUp_63 ⟨Nat.zero_le _, Nat.zero_le _⟩) hS (fun q _ h => hFc q h) hFc (fun s6 t H1 locs ht hvm hw hB hz1 hk1 hS => ?_)
      obtain ⟨hP1, hK1, hD1⟩ := hB
      rw [ht] at hP1
      obtain ⟨hP, hD⟩ := va_join (wr := []) (w1 := (tm_wModel cI cZ a s6 hh)) hP hD [0, 1, 2, 3, 4, 5, 6, 7, 8, 9, 10, 11, 12, 13, 14, 15, 16, 17] [] rfl rfl (by decide) (by decide) hk1 hFc hP1 hD1
      generalize H1 = H at hP hS ⊢
      have hP : va_P (dC, dI) vwCl (tm_wModel cI cZ a s6 hh) H := hP
      have hD : va_D A (tm_wModel cI cZ a s6 hh) := hD
      refine lv_aload_n hx hb dX9_mayGiveUp_66 rfl (lv_at hl 1 rfl) ?_
      refine lv_iload_n hx hb dX9_mayGiveUp_67 rfl (lv_at hl 2 rfl) ?_
      refine lv_iconst (v := 0) hx hb dX9_mayGiveUp_68 (by decide) ?_
      have hPc := hP
      have hDc := hD
      have hFc := va_free (wc := (tm_wModel cI cZ a s6 hh)) hD hS hA [0, 1, 2, 3, 4, 5, 6, 7, 8, 9, 10, 11, 12, 13, 14, 15, 16, 17] rfl
      refine va_callv (va_runV (As := [.int v1, .int 0]) (rest := []) ⟨hx, hb, hml, hown, hts⟩ (kk_X9_into l dC dI cI cZ a s6 hh H.size v1 0 _ hw) (cwV 2 hts gX9_mayGiveUp_X9_into rfl rfl rfl (by decide +kernel) ⟨Nat.le_of_ble_eq_true rfl, Nat.le_of_ble_eq_true rfl⟩) ⟨tm_blind, va_recv hK hPc (ci := 7) (q0 := 0) rfl rfl, fun U hU hW => ⟨rfl, by rw [hU], by rw [hU]; exact hPc, va_K.moved hW.alike hK, hDc.weaken (fun _ _ _ _ => trivial)⟩⟩ rfl rfl hl.1 rfl (lv_room (Nat.le_of_ble_eq_true rfl)) dX9_mayGiveUp_69 ⟨Nat.zero_le _, Nat.zero_le _⟩) hS (fun q _ h => hFc q h) hFc (fun s7 t H1 locs ht hvm hw hB hz1 hk1 hS => ?_)
      obtain ⟨hP1, hK1, hD1⟩ := hB
      rw [ht] at hP1
      obtain ⟨hP, hD⟩ := va_join (wr := []) (w1 := (tm_wModel cI cZ a s7 hh)) hP hD [0, 1, 2, 3, 4, 5, 6, 7, 8, 9, 10, 11, 12, 13, 14, 15, 16, 17] [] rfl rfl (by decide) (by decide) hk1 hFc hP1 hD1
      generalize H1 = H at hP hS ⊢
      have hP : va_P (dC, dI) vwCl (tm_wModel cI cZ a s7 hh) H := hP
      have hD : va_D A (tm_wModel cI cZ a s7 hh) := hD
      exact W.vret hx hb hr (fun t ht hW => ⟨⟨s7, rfl, hw, by rw [ht]; exact hP, va_K.moved hW.alike hK, hD⟩, hS.F ht⟩) hS.2.2 dX9_mayGiveUp_72
  have hl := lv_entry ([.ref (a 0), .int p0]) (n := 4) (Nat.le_of_ble_eq_true rfl)
  rw [lg_entry_eq]
  generalize (lg_sl ([.ref (a 0), .int p0]) ++ List.replicate (4 - (lg_sl ([.ref (a 0), .int p0])).length) Slot.unset).toArray = ls at hl ⊢
  have hl : lv_has ls 4 [(0, .ref (a 0)), (1, .int p0)] := hl
  unfold wp_X9_mayGiveUp at hw
  refine lv_aload_n hx hb dX9_mayGiveUp_0 rfl (lv_at hl 0 rfl) ?_
  refine lv_iload_n hx hb dX9_mayGiveUp_1 rfl (lv_at hl 1 rfl) ?_
  refine lv_iconst (v := 0) hx hb dX9_mayGiveUp_2 (by decide) ?_
  have hPc := hP
  have hDc := hD
  have hFc := va_free (wc := (tm_wModel cI cZ a s0 hh)) hD hS hA [0, 1, 2, 3, 4, 5, 6, 7, 8, 9, 10, 11, 12, 13, 14, 15, 16, 17] rfl
  refine va_calli (va_runV (As := [.int p0, .int 0]) (rest := []) ⟨hx, hb, hml, hown, hts⟩ (kk_X9_of l dC dI cI cZ a s0 hh z.heap.size p0 0 _ hw) (cwV 2 hts gX9_mayGiveUp_X9_of rfl rfl rfl (by decide +kernel) ⟨Nat.le_of_ble_eq_true rfl, Nat.le_of_ble_eq_true rfl⟩) ⟨tm_blind, va_recv hK hPc (ci := 7) (q0 := 0) rfl rfl, fun U hU hW => ⟨rfl, by rw [hU], by rw [hU]; exact hPc, va_K.moved hW.alike hK, hDc.weaken (fun _ _ _ _ => trivial)⟩⟩ rfl rfl hl.1 rfl (lv_room (Nat.le_of_ble_eq_true rfl)) dX9_mayGiveUp_3 ⟨Nat.zero_le _, Nat.zero_le _⟩) hS (fun q _ h => hFc q h) hFc (fun r1 s2 t H1 locs ht hvm hw hB hz1 hk1 hS => ?_)
  obtain ⟨hP1, hK1, hD1⟩ := hB
  rw [ht] at hP1
  obtain ⟨hP, hD⟩ := va_join (wr := []) (w1 := (tm_wModel cI cZ a s2 hh)) hP hD [0, 1, 2, 3, 4, 5, 6, 7, 8, 9, 10, 11, 12, 13, 14, 15, 16, 17] [] rfl rfl (by decide) (by decide) hk1 hFc hP1 hD1
  generalize H1 = H at hP hS ⊢
  have hP : va_P (dC, dI) vwCl (tm_wModel cI cZ a s2 hh) H := hP
  have hD : va_D A (tm_wModel cI cZ a s2 hh) := hD
  refine lv_istore_n (lv' := [(2, .int r1), (0, .ref (a 0)), (1, .int p0)]) hx hb dX9_mayGiveUp_6 rfl hl (by decide) rfl (fun ls hl => ?_)
  refine lv_iload_n hx hb dX9_mayGiveUp_7 rfl (lv_at hl 0 rfl) ?_
  refine lv_bipush (v := 7) hx hb dX9_mayGiveUp_8 (by decide) ?_
  refine lv_icmp_ne (tgt := 33) hx hb dX9_mayGiveUp_10 (by decide) (fun c3 => ?_) (fun c3 => ?_)
  · have hw := hw.1 c3
    refine lv_iload_n hx hb dX9_mayGiveUp_33 rfl (lv_at hl 0 rfl) ?_
    refine lv_if_eq (tgt := 52) hx hb dX9_mayGiveUp_34 (by decide) (fun c4 => ?_) (fun c4 => ?_)
    · have hw := hw.1 c4
      refine lv_iconst (v := 0) hx hb dX9_mayGiveUp_52 (by decide) ?_
      exact b53 p0 0 s2 _ _ _ hw hP hD hS (lv_sub hl [1, 2] rfl)
    · have hw := hw.2 c4
      refine lv_aload_n hx hb dX9_mayGiveUp_37 rfl (lv_at hl 1 rfl) ?_
      refine lv_iload_n hx hb dX9_mayGiveUp_38 rfl (lv_at hl 2 rfl) ?_
      refine lv_iconst (v := 1) hx hb dX9_mayGiveUp_39 (by decide) ?_
      have hPc := hP
      have hDc := hD
      have hFc := va_free (wc := (tm_wModel cI cZ a s2 hh)) hD hS hA [0, 1, 2, 3, 4, 5, 6, 7, 8, 9, 10, 11, 12, 13, 14, 15, 16, 17] rfl
      refine va_calli (va_runV (As := [.int p0, .int 1]) (rest := []) ⟨hx, hb, hml, hown, hts⟩ (kk_X9_of l dC dI cI cZ a s2 hh H.size p0 1 _ hw) (cwV 2 hts gX9_mayGiveUp_X9_of rfl rfl rfl (by decide +kernel) ⟨Nat.le_of_ble_eq_true rfl, Nat.le_of_ble_eq_true rfl⟩) ⟨tm_blind, va_recv hK hPc (ci := 7) (q0 := 0) rfl rfl, fun U hU hW => ⟨rfl, by rw [hU], by rw [hU]; exact hPc, va_K.moved hW.alike hK, hDc.weaken (fun _ _ _ _ => trivial)⟩⟩ rfl rfl hl.1 rfl (lv_room (Nat.le_of_ble_eq_true rfl)) dX9_mayGiveUp_40 ⟨Nat.zero_le _, Nat.zero_le _⟩) hS (fun q _ h => hFc q h) hFc (fun r8 s9 t H1 locs ht hvm hw hB hz1 hk1 hS => ?_)
      obtain ⟨hP1, hK1, hD1⟩ := hB
      rw [ht] at hP1
      obtain ⟨hP, hD⟩ := va_join (wr := []) (w1 := (tm_wModel cI cZ a s9 hh)) hP hD [0, 1, 2, 3, 4, 5, 6, 7, 8, 9, 10, 11, 12, 13, 14, 15, 16, 17] [] rfl rfl (by decide) (by decide) hk1 hFc hP1 hD1
      generalize H1 = H at hP hS ⊢
      have hP : va_P (dC, dI) vwCl (tm_wModel cI cZ a s9 hh) H := hP
      have hD : va_D A (tm_wModel cI cZ a s9 hh) := hD
      refine lv_bipush (v := 60) hx hb dX9_mayGiveUp_43 (by decide) ?_
      refine lv_icmp_lt (tgt := 52) hx hb dX9_mayGiveUp_45 (by decide) (fun c10 => ?_) (fun c10 => ?_)
      · have hw := hw.1 c10
        refine lv_iconst (v := 0) hx hb dX9_mayGiveUp_52 (by decide) ?_
        exact b53 p0 0 s9 _ _ _ hw hP hD hS (lv_sub hl [1, 2] rfl)
      · have hw := hw.2 c10
        refine lv_iconst (v := 1) hx hb dX9_mayGiveUp_48 (by decide) ?_
        refine lv_goto (tgt := 53) hx hb dX9_mayGiveUp_49 (by decide) ?_
        exact b53 p0 1 s9 _ _ _ hw hP hD hS (lv_sub hl [1, 2] rfl)
  · have hw := hw.2 c3
    refine lv_aload_n hx hb dX9_mayGiveUp_13 rfl (lv_at hl 1 rfl) ?_
    refine lv_iload_n hx hb dX9_mayGiveUp_14 rfl (lv_at hl 2 rfl) ?_
    refine lv_bipush (v := 16) hx hb dX9_mayGiveUp_15 (by decide) ?_
    have hPc := hP
    have hDc := hD
    have hFc := va_free (wc := (tm_wModel cI cZ a s2 hh)) hD hS hA [0, 1, 2, 3, 4, 5, 6, 7, 8, 9, 10, 11, 12, 13, 14, 15, 16, 17] rfl
    refine va_calli (va_runV (As := [.int p0, .int 16]) (rest := []) ⟨hx, hb, hml, hown, hts⟩ (kk_X9_of l dC dI cI cZ a s2 hh H.size p0 16 _ hw) (cwV 2 hts gX9_mayGiveUp_X9_of rfl rfl rfl (by decide +kernel) ⟨Nat.le_of_ble_eq_true rfl, Nat.le_of_ble_eq_true rfl⟩) ⟨tm_blind, va_recv hK hPc (ci := 7) (q0 := 0) rfl rfl, fun U hU hW => ⟨rfl, by rw [hU], by rw [hU]; exact hPc, va_K.moved hW.alike hK, hDc.weaken (fun _ _ _ _ => trivial)⟩⟩ rfl rfl hl.1 rfl (lv_room (Nat.le_of_ble_eq_true rfl)) dX9_mayGiveUp_17 ⟨Nat.zero_le _, Nat.zero_le _⟩) hS (fun q _ h => hFc q h) hFc (fun r11 s12 t H1 locs ht hvm hw hB hz1 hk1 hS => ?_)
    obtain ⟨hP1, hK1, hD1⟩ := hB
    rw [ht] at hP1
    obtain ⟨hP, hD⟩ := va_join (wr := []) (w1 := (tm_wModel cI cZ a s12 hh)) hP hD [0, 1, 2, 3, 4, 5, 6, 7, 8, 9, 10, 11, 12, 13, 14, 15, 16, 17] [] rfl rfl (by decide) (by decide) hk1 hFc hP1 hD1
    generalize H1 = H at hP hS ⊢
    have hP : va_P (dC, dI) vwCl (tm_wModel cI cZ a s12 hh) H := hP
    have hD : va_D A (tm_wModel cI cZ a s12 hh) := hD
    refine lv_bipush (v := 16) hx hb dX9_mayGiveUp_20 (by decide) ?_
    refine lv_icmp_lt (tgt := 29) hx hb dX9_mayGiveUp_22 (by decide) (fun c13 => ?_) (fun c13 => ?_)
    · have hw := hw.1 c13
      refine lv_iconst (v := 0) hx hb dX9_mayGiveUp_29 (by decide) ?_
      refine lv_goto (tgt := 53) hx hb dX9_mayGiveUp_30 (by decide) ?_
      exact b53 p0 0 s12 _ _ _ hw hP hD hS (lv_sub hl [1, 2] rfl)
    · have hw := hw.2 c13
      refine lv_iconst (v := 1) hx hb dX9_mayGiveUp_25 (by decide) ?_
      refine lv_goto (tgt := 53) hx hb dX9_mayGiveUp_26 (by decide) ?_
      exact b53 p0 1 s12 _ _ _ hw hP hD hS (lv_sub hl [1, 2] rfl)
def wp_X9_send (p0 : Int32) (p1 : Int32) (p2 : Int32) (p3 : Int32) (p4 : Int32) (p5 : Int32) (s0 : tm_St) (K : tm_St → Prop) : Prop := (wp_X9_slot p0 ((s0 0 12) + (s0 0 8)) s0 (fun r1 s2 => (∀ s3 : tm_St, s3 = tm_s s2 0 (tm_u (s2 0) 28 r1) → (vp_in (s3 0 28) 256 ∧ (∀ s5 : tm_St, s5 = tm_s s3 10 (upd (s3 10) ((s3 0 28) : Int32).toNatClampNeg 1) → (vp_in ((s5 0 28) + 1) 256 ∧ (∀ s7 : tm_St, s7 = tm_s s5 10 (upd (s5 10) (((s5 0 28) + 1) : Int32).toNatClampNeg p1) → (vp_in ((s7 0 28) + 2) 256 ∧ (∀ s9 : tm_St, s9 = tm_s s7 10 (upd (s7 10) (((s7 0 28) + 2) : Int32).toNatClampNeg p2) → (vp_in ((s9 0 28) + 3) 256 ∧ (∀ s11 : tm_St, s11 = tm_s s9 10 (upd (s9 10) (((s9 0 28) + 3) : Int32).toNatClampNeg p3) → (vp_in ((s11 0 28) + 4) 256 ∧ (∀ s13 : tm_St, s13 = tm_s s11 10 (upd (s11 10) (((s11 0 28) + 4) : Int32).toNatClampNeg p4) → (vp_in ((s13 0 28) / 8) 32 ∧ (∀ s15 : tm_St, s15 = tm_s s13 11 (upd (s13 11) (((s13 0 28) / 8) : Int32).toNatClampNeg p5) → K s15)))))))))))))))
set_option maxRecDepth 100000 in
set_option maxHeartbeats 4000000 in
theorem kk_X9_send (l : Launch) (dC : Nat → ClassId) (dI : Nat → Nat → Nat) (cI cZ : ClassId) (a : Nat → Nat) (s0 : tm_St) (hh : Int64) (sz : Nat) (p0 : Int32) (p1 : Int32) (p2 : Int32) (p3 : Int32) (p4 : Int32) (p5 : Int32) (K : tm_St → Prop) (hw : wp_X9_send p0 p1 p2 p3 p4 p5 s0 K) : Met l yX9_send wsX9_send ({ frames := 1, cells := 0, slots := 0, locals := 22 }) (va_Pc [.ref (a 0), .int p0, .int p1, .int p2, .int p3, .int p4, .int p5] (tm_Pre dC dI cI cZ (tm_wModel cI cZ a s0 hh) sz)) (va_Qv (fun (u : tm_St) => K u) (fun (u : tm_St) t => tm_At dC dI cI cZ (va_A (tm_wModel cI cZ a s0 hh) sz) (tm_wModel cI cZ a u hh) t) (va_A (tm_wModel cI cZ a s0 hh) sz)) 0 0 (va_A (tm_wModel cI cZ a s0 hh) sz) := by
  refine Met.ofW (cc := cX9_send) (maxL := 7) (ret := none) (by decide +kernel) rfl ?_
  intro p e z m args below meth c z₁ B hml hv
  obtain ⟨rfl, hsz, hP, hK, hD0⟩ := hv
  have hx := B.exec
  have hb := B.bytes
  have hr := B.returns
  have hts := atoms_spec (ws := wsX9_send) B.pre
  have hown : z.vm.findClass RX9 = some m.cls := findClass_of_methodNamed B.named
  have hlocks := B.notSynchronized
  subst hsz
  have hD := hD0.self (sz := z.heap.size)
  generalize hAe : va_A (tm_wModel cI cZ a s0 hh) z.heap.size = A at hD ⊢
  have hA : ∀ q : Nat, z.heap.size ≤ q → A q := fun q h => by rw [← hAe]; exact Or.inr h
  have hS : va_S A z.heap z.heap [] := va_S.rf
  have h_f121 := hts (.fieldLink RX9 121 "TwoModemsModel" "tick" "I") (by decide +kernel)
  have h_in9 : ∀ w ∈ u_ws RX9 TX9 30, w ∈ wsX9_send := by decide +kernel
  have h_f34 := hts (.fieldLink RX9 34 "TwoModemsModel" "delay" "I") (by decide +kernel)
  have h_f180 := hts (.fieldLink RX9 180 "TwoModemsModel" "sends" "I") (by decide +kernel)
  have h_f41 := hts (.fieldLink RX9 41 "TwoModemsModel" "comes" "[I") (by decide +kernel)
  have h_f44 := hts (.fieldLink RX9 44 "TwoModemsModel" "acks" "[I") (by decide +kernel)
  have hl := lv_entry ([.ref (a 0), .int p0, .int p1, .int p2, .int p3, .int p4, .int p5]) (n := 7) (Nat.le_of_ble_eq_true rfl)
  rw [lg_entry_eq]
  generalize (lg_sl ([.ref (a 0), .int p0, .int p1, .int p2, .int p3, .int p4, .int p5]) ++ List.replicate (7 - (lg_sl ([.ref (a 0), .int p0, .int p1, .int p2, .int p3, .int p4, .int p5])).length) Slot.unset).toArray = ls at hl ⊢
  have hl : lv_has ls 7 [(0, .ref (a 0)), (1, .int p0), (2, .int p1), (3, .int p2), (4, .int p3), (5, .int p4), (6, .int p5)] := hl
  unfold wp_X9_send at hw
  refine lv_aload_n hx hb dX9_send_0 rfl (lv_at hl 0 rfl) ?_
  refine lv_aload_n hx hb dX9_send_1 rfl (lv_at hl 0 rfl) ?_
  refine lv_iload_n hx hb dX9_send_2 rfl (lv_at hl 1 rfl) ?_
  refine lv_aload_n hx hb dX9_send_3 rfl (lv_at hl 0 rfl) ?_
  refine va_get (D := (dC, dI)) (ci := 7) (v := .int (s0 0 12)) (C := RX9) (T := TX9) (N := 30) hx hb hts h_in9 hown hK hP 0 rfl rfl 12 (by decide) h_f121 (fun _ h9 => h9) rfl dX9_send_4 ?_
  refine lv_aload_n hx hb dX9_send_7 rfl (lv_at hl 0 rfl) ?_
  refine va_get (D := (dC, dI)) (ci := 7) (v := .int (s0 0 8)) (C := RX9) (T := TX9) (N := 30) hx hb hts h_in9 hown hK hP 0 rfl rfl 8 (by decide) h_f34 (fun _ h9 => h9) rfl dX9_send_8 ?_
  refine lv_iadd hx hb dX9_send_11 ?_
  have hPc := hP
  have hDc := hD
  have hFc := va_free (wc := (tm_wModel cI cZ a s0 hh)) hD hS hA [0, 1, 2, 3, 4, 5, 6, 7, 8, 9, 10, 11, 12, 13, 14, 15, 16, 17] rfl
  refine va_calli (va_runV (As := [.int p0, .int ((s0 0 12) + (s0 0 8))]) (rest := [.ref (a 0)]) ⟨hx, hb, hml, hown, hts⟩ (kk_X9_slot l dC dI cI cZ a s0 hh z.heap.size p0 ((s0 0 12) + (s0 0 8)) _ hw) (cwV 2 hts gX9_send_X9_slot rfl rfl rfl (by decide +kernel) ⟨Nat.le_of_ble_eq_true rfl, Nat.le_of_ble_eq_true rfl⟩) ⟨tm_blind, va_recv hK hPc (ci := 7) (q0 := 0) rfl rfl, fun U hU hW => ⟨rfl, by rw [hU], by rw [hU]; exact hPc, va_K.moved hW.alike hK, hDc.weaken (fun _ _ _ _ => trivial)⟩⟩ rfl rfl hl.1 rfl (lv_room (Nat.le_of_ble_eq_true rfl)) dX9_send_12 ⟨Nat.zero_le _, Nat.zero_le _⟩) hS (fun q _ h => hFc q h) hFc (fun r1 s2 t H1 locs ht hvm hw hB hz1 hk1 hS => ?_)
  obtain ⟨hP1, hK1, hD1⟩ := hB
  rw [ht] at hP1
  obtain ⟨hP, hD⟩ := va_join (wr := []) (w1 := (tm_wModel cI cZ a s2 hh)) hP hD [0, 1, 2, 3, 4, 5, 6, 7, 8, 9, 10, 11, 12, 13, 14, 15, 16, 17] [] rfl rfl (by decide) (by decide) hk1 hFc hP1 hD1
  generalize H1 = H at hP hS ⊢
  have hP : va_P (dC, dI) vwCl (tm_wModel cI cZ a s2 hh) H := hP
  have hD : va_D A (tm_wModel cI cZ a s2 hh) := hD
  refine va_put (D := (dC, dI)) (ci := 7) (v := .int r1) (ty := .int) (C := RX9) (T := TX9) (N := 30) hx hb hts h_in9 tyX9 tyX9_ok nmX9 hown hK hP hD hS 0 rfl rfl 28 (by decide) h_f180 (fun _ h9 => h9) rfl (by decide +kernel) rfl rfl (Nat.le_of_ble_eq_true rfl) dX9_send_15 (fun H locs hP hD hS => ?_)
  obtain ⟨s3, es3⟩ : ∃ y : tm_St, y = tm_s s2 0 (tm_u (s2 0) 28 r1) := ⟨_, rfl⟩
  have hw := hw s3 es3
  have hP : va_P (dC, dI) vwCl (tm_wModel cI cZ a s3 hh) H := by rw [es3]; exact hP
  have hD : va_D A (tm_wModel cI cZ a s3 hh) := by rw [es3]; exact hD
  refine lv_aload_n hx hb dX9_send_18 rfl (lv_at hl 0 rfl) ?_
  refine va_get (D := (dC, dI)) (ci := 7) (v := .ref (a 10)) (C := RX9) (T := TX9) (N := 30) hx hb hts h_in9 hown hK hP 0 rfl rfl 10 (by decide) h_f41 (fun _ h9 => h9) rfl dX9_send_19 ?_
  refine lv_aload_n hx hb dX9_send_22 rfl (lv_at hl 0 rfl) ?_
  refine va_get (D := (dC, dI)) (ci := 7) (v := .int (s3 0 28)) (C := RX9) (T := TX9) (N := 30) hx hb hts h_in9 hown hK hP 0 rfl rfl 28 (by decide) h_f180 (fun _ h9 => h9) rfl dX9_send_23 ?_
  refine lv_iconst (v := 1) hx hb dX9_send_26 (by decide) ?_
  have c4 := hw.1
  have hw := hw.2
  refine va_iast hx hb hK hP hD hS 10 0 rfl rfl c4 dX9_send_27 (fun H locs hP hD hS => ?_)
  obtain ⟨s5, es5⟩ : ∃ y : tm_St, y = tm_s s3 10 (upd (s3 10) ((s3 0 28) : Int32).toNatClampNeg 1) := ⟨_, rfl⟩
  have hw := hw s5 es5
  have hP : va_P (dC, dI) vwCl (tm_wModel cI cZ a s5 hh) H := by rw [es5]; exact hP
  have hD : va_D A (tm_wModel cI cZ a s5 hh) := by rw [es5]; exact hD
  refine lv_aload_n hx hb dX9_send_28 rfl (lv_at hl 0 rfl) ?_
  refine va_get (D := (dC, dI)) (ci := 7) (v := .ref (a 10)) (C := RX9) (T := TX9) (N := 30) hx hb hts h_in9 hown hK hP 0 rfl rfl 10 (by decide) h_f41 (fun _ h9 => h9) rfl dX9_send_29 ?_
  refine lv_aload_n hx hb dX9_send_32 rfl (lv_at hl 0 rfl) ?_
  refine va_get (D := (dC, dI)) (ci := 7) (v := .int (s5 0 28)) (C := RX9) (T := TX9) (N := 30) hx hb hts h_in9 hown hK hP 0 rfl rfl 28 (by decide) h_f180 (fun _ h9 => h9) rfl dX9_send_33 ?_
  refine lv_iconst (v := 1) hx hb dX9_send_36 (by decide) ?_
  refine lv_iadd hx hb dX9_send_37 ?_
  refine lv_iload_n hx hb dX9_send_38 rfl (lv_at hl 2 rfl) ?_
  have c6 := hw.1
  have hw := hw.2
  refine va_iast hx hb hK hP hD hS 10 0 rfl rfl c6 dX9_send_39 (fun H locs hP hD hS => ?_)
  obtain ⟨s7, es7⟩ : ∃ y : tm_St, y = tm_s s5 10 (upd (s5 10) (((s5 0 28) + 1) : Int32).toNatClampNeg p1) := ⟨_, rfl⟩
  have hw := hw s7 es7
  have hP : va_P (dC, dI) vwCl (tm_wModel cI cZ a s7 hh) H := by rw [es7]; exact hP
  have hD : va_D A (tm_wModel cI cZ a s7 hh) := by rw [es7]; exact hD
  refine lv_aload_n hx hb dX9_send_40 rfl (lv_at hl 0 rfl) ?_
  refine va_get (D := (dC, dI)) (ci := 7) (v := .ref (a 10)) (C := RX9) (T := TX9) (N := 30) hx hb hts h_in9 hown hK hP 0 rfl rfl 10 (by decide) h_f41 (fun _ h9 => h9) rfl dX9_send_41 ?_
  refine lv_aload_n hx hb dX9_send_44 rfl (lv_at hl 0 rfl) ?_
  refine va_get (D := (dC, dI)) (ci := 7) (v := .int (s7 0 28)) (C := RX9) (T := TX9) (N := 30) hx hb hts h_in9 hown hK hP 0 rfl rfl 28 (by decide) h_f180 (fun _ h9 => h9) rfl dX9_send_45 ?_
  refine lv_iconst (v := 2) hx hb dX9_send_48 (by decide) ?_
  refine lv_iadd hx hb dX9_send_49 ?_
  refine lv_iload_n hx hb dX9_send_50 rfl (lv_at hl 3 rfl) ?_
  have c8 := hw.1
  have hw := hw.2
  refine va_iast hx hb hK hP hD hS 10 0 rfl rfl c8 dX9_send_51 (fun H locs hP hD hS => ?_)
  obtain ⟨s9, es9⟩ : ∃ y : tm_St, y = tm_s s7 10 (upd (s7 10) (((s7 0 28) + 2) : Int32).toNatClampNeg p2) := ⟨_, rfl⟩
  have hw := hw s9 es9
  have hP : va_P (dC, dI) vwCl (tm_wModel cI cZ a s9 hh) H := by rw [es9]; exact hP
  have hD : va_D A (tm_wModel cI cZ a s9 hh) := by rw [es9]; exact hD
  refine lv_aload_n hx hb dX9_send_52 rfl (lv_at hl 0 rfl) ?_
  refine va_get (D := (dC, dI)) (ci := 7) (v := .ref (a 10)) (C := RX9) (T := TX9) (N := 30) hx hb hts h_in9 hown hK hP 0 rfl rfl 10 (by decide) h_f41 (fun _ h9 => h9) rfl dX9_send_53 ?_
  refine lv_aload_n hx hb dX9_send_56 rfl (lv_at hl 0 rfl) ?_
  refine va_get (D := (dC, dI)) (ci := 7) (v := .int (s9 0 28)) (C := RX9) (T := TX9) (N := 30) hx hb hts h_in9 hown hK hP 0 rfl rfl 28 (by decide) h_f180 (fun _ h9 => h9) rfl dX9_send_57 ?_
  refine lv_iconst (v := 3) hx hb dX9_send_60 (by decide) ?_
  refine lv_iadd hx hb dX9_send_61 ?_
  refine lv_iload hx hb dX9_send_62 (lv_at hl 4 rfl) ?_
  have c10 := hw.1
  have hw := hw.2
  refine va_iast hx hb hK hP hD hS 10 0 rfl rfl c10 dX9_send_64 (fun H locs hP hD hS => ?_)
  obtain ⟨s11, es11⟩ : ∃ y : tm_St, y = tm_s s9 10 (upd (s9 10) (((s9 0 28) + 3) : Int32).toNatClampNeg p3) := ⟨_, rfl⟩
  have hw := hw s11 es11
  have hP : va_P (dC, dI) vwCl (tm_wModel cI cZ a s11 hh) H := by rw [es11]; exact hP
  have hD : va_D A (tm_wModel cI cZ a s11 hh) := by rw [es11]; exact hD
  refine lv_aload_n hx hb dX9_send_65 rfl (lv_at hl 0 rfl) ?_
  refine va_get (D := (dC, dI)) (ci := 7) (v := .ref (a 10)) (C := RX9) (T := TX9) (N := 30) hx hb hts h_in9 hown hK hP 0 rfl rfl 10 (by decide) h_f41 (fun _ h9 => h9) rfl dX9_send_66 ?_
  refine lv_aload_n hx hb dX9_send_69 rfl (lv_at hl 0 rfl) ?_
  refine va_get (D := (dC, dI)) (ci := 7) (v := .int (s11 0 28)) (C := RX9) (T := TX9) (N := 30) hx hb hts h_in9 hown hK hP 0 rfl rfl 28 (by decide) h_f180 (fun _ h9 => h9) rfl dX9_send_70 ?_
  refine lv_iconst (v := 4) hx hb dX9_send_73 (by decide) ?_
  refine lv_iadd hx hb dX9_send_74 ?_
  refine lv_iload hx hb dX9_send_75 (lv_at hl 5 rfl) ?_
  have c12 := hw.1
  have hw := hw.2
  refine va_iast hx hb hK hP hD hS 10 0 rfl rfl c12 dX9_send_77 (fun H locs hP hD hS => ?_)
  obtain ⟨s13, es13⟩ : ∃ y : tm_St, y = tm_s s11 10 (upd (s11 10) (((s11 0 28) + 4) : Int32).toNatClampNeg p4) := ⟨_, rfl⟩
  have hw := hw s13 es13
  have hP : va_P (dC, dI) vwCl (tm_wModel cI cZ a s13 hh) H := by rw [es13]; exact hP
  have hD : va_D A (tm_wModel cI cZ a s13 hh) := by rw [es13]; exact hD
  refine lv_aload_n hx hb dX9_send_78 rfl (lv_at hl 0 rfl) ?_
  refine va_get (D := (dC, dI)) (ci := 7) (v := .ref (a 11)) (C := RX9) (T := TX9) (N := 30) hx hb hts h_in9 hown hK hP 0 rfl rfl 11 (by decide) h_f44 (fun _ h9 => h9) rfl dX9_send_79 ?_
  refine lv_aload_n hx hb dX9_send_82 rfl (lv_at hl 0 rfl) ?_
  refine va_get (D := (dC, dI)) (ci := 7) (v := .int (s13 0 28)) (C := RX9) (T := TX9) (N := 30) hx hb hts h_in9 hown hK hP 0 rfl rfl 28 (by decide) h_f180 (fun _ h9 => h9) rfl dX9_send_83 ?_
  refine lv_bipush (v := 8) hx hb dX9_send_86 (by decide) ?_
  refine lv_idiv hx hb dX9_send_88 (by decide) ?_
  refine lv_iload hx hb dX9_send_89 (lv_at hl 6 rfl) ?_
  have c14 := hw.1
  have hw := hw.2
  refine va_iast hx hb hK hP hD hS 11 0 rfl rfl c14 dX9_send_91 (fun H locs hP hD hS => ?_)
  obtain ⟨s15, es15⟩ : ∃ y : tm_St, y = tm_s s13 11 (upd (s13 11) (((s13 0 28) / 8) : Int32).toNatClampNeg p5) := ⟨_, rfl⟩
  have hw := hw s15 es15
  have hP : va_P (dC, dI) vwCl (tm_wModel cI cZ a s15 hh) H := by rw [es15]; exact hP
  have hD : va_D A (tm_wModel cI cZ a s15 hh) := by rw [es15]; exact hD
  exact W.vret hx hb hr (fun t ht hW => ⟨⟨s15, rfl, hw, by rw [ht]; exact hP, va_K.moved hW.alike hK, hD⟩, hS.F ht⟩) hS.2.2 dX9_send_92
def wp_X9_signOf (p0 : Int32) (K : Int32 → Prop) : Prop := (((0 : Int32) ≤ p0 → (((p0 - p0 / 3 * 3) = 0 → K 1) ∧ (¬ (p0 - p0 / 3 * 3) = 0 → ((¬ (p0 - p0 / 5 * 5) = 0 → K (-1)) ∧ ((p0 - p0 / 5 * 5) = 0 → K 1))))) ∧ (¬ (0 : Int32) ≤ p0 → K 0))
set_option maxRecDepth 100000 in
set_option maxHeartbeats 4000000 in
theorem kk_X9_signOf (l : Launch) (dC : Nat → ClassId) (dI : Nat → Nat → Nat) (cI cZ : ClassId) (sz : Nat) (p0 : Int32) (K : Int32 → Prop) (hw : wp_X9_signOf p0 K) : Met l yX9_signOf wsX9_signOf ({ frames := 0, cells := 0, slots := 0, locals := 0 }) (va_Pc [.int p0] (tm_Pre dC dI cI cZ ([] : va_W) sz)) (va_Qi (fun (r : Int32) (_ : Unit) => K r) (fun (_ : Unit) t => tm_At dC dI cI cZ (va_A ([] : va_W) sz) ([] : va_W) t) (va_A ([] : va_W) sz)) 0 0 (va_A ([] : va_W) sz) := by
  refine Met.ofW (cc := cX9_signOf) (maxL := 1) (ret := (some .int)) (by decide +kernel) rfl ?_
  intro p e z m args below meth c z₁ B hml hv
  obtain ⟨rfl, hsz, hP, hK, hD0⟩ := hv
  have hx := B.exec
  have hb := B.bytes
  have hr := B.returns
  have hts := atoms_spec (ws := wsX9_signOf) B.pre
  have hown : z.vm.findClass RX9 = some m.cls := findClass_of_methodNamed B.named
  have hlocks := B.notSynchronized
  subst hsz
  have hD := hD0.self (sz := z.heap.size)
  generalize hAe : va_A ([] : va_W) z.heap.size = A at hD ⊢
  have hA : ∀ q : Nat, z.heap.size ≤ q → A q := fun q h => by rw [← hAe]; exact Or.inr h
  have hS : va_S A z.heap z.heap [] := va_S.rf
  have hl := lv_entry ([.int p0]) (n := 1) (Nat.le_of_ble_eq_true rfl)
  rw [lg_entry_eq]
  generalize (lg_sl ([.int p0]) ++ List.replicate (1 - (lg_sl ([.int p0])).length) Slot.unset).toArray = ls at hl ⊢
  have hl : lv_has ls 1 [(0, .int p0)] := hl
  unfold wp_X9_signOf at hw
  refine lv_iload_n hx hb dX9_signOf_0 rfl (lv_at hl 0 rfl) ?_
  refine lv_if_ge (tgt := 8) hx hb dX9_signOf_1 (by decide) (fun c1 => ?_) (fun c1 => ?_)
  · have hw := hw.1 c1
    refine lv_iload_n hx hb dX9_signOf_8 rfl (lv_at hl 0 rfl) ?_
    refine lv_iconst (v := 3) hx hb dX9_signOf_9 (by decide) ?_
    refine lv_irem hx hb dX9_signOf_10 (by decide) ?_
    refine lv_if_eq (tgt := 20) hx hb dX9_signOf_11 (by decide) (fun c2 => ?_) (fun c2 => ?_)
    · have hw := hw.1 c2
      refine lv_iconst (v := 1) hx hb dX9_signOf_20 (by decide) ?_
      refine lv_goto (tgt := 25) hx hb dX9_signOf_21 (by decide) ?_
      exact W.iret (v := 1) hx hb hr (fun t ht hW => ⟨⟨1, (), rfl, hw, by rw [ht]; exact hP, va_K.moved hW.alike hK, hD⟩, hS.F ht⟩) hS.2.2 dX9_signOf_25
    · have hw := hw.2 c2
      refine lv_iload_n hx hb dX9_signOf_14 rfl (lv_at hl 0 rfl) ?_
      refine lv_iconst (v := 5) hx hb dX9_signOf_15 (by decide) ?_
      refine lv_irem hx hb dX9_signOf_16 (by decide) ?_
      refine lv_if_ne (tgt := 24) hx hb dX9_signOf_17 (by decide) (fun c3 => ?_) (fun c3 => ?_)
      · have hw := hw.1 c3
        refine lv_iconst (v := (-1)) hx hb dX9_signOf_24 (by decide) ?_
        exact W.iret (v := (-1)) hx hb hr (fun t ht hW => ⟨⟨(-1), (), rfl, hw, by rw [ht]; exact hP, va_K.moved hW.alike hK, hD⟩, hS.F ht⟩) hS.2.2 dX9_signOf_25
      · have hw := hw.2 c3
        refine lv_iconst (v := 1) hx hb dX9_signOf_20 (by decide) ?_
        refine lv_goto (tgt := 25) hx hb dX9_signOf_21 (by decide) ?_
        exact W.iret (v := 1) hx hb hr (fun t ht hW => ⟨⟨1, (), rfl, hw, by rw [ht]; exact hP, va_K.moved hW.alike hK, hD⟩, hS.F ht⟩) hS.2.2 dX9_signOf_25
  · have hw := hw.2 c1
    refine lv_iconst (v := 0) hx hb dX9_signOf_4 (by decide) ?_
    refine lv_goto (tgt := 25) hx hb dX9_signOf_5 (by decide) ?_
    exact W.iret (v := 0) hx hb hr (fun t ht hW => ⟨⟨0, (), rfl, hw, by rw [ht]; exact hP, va_K.moved hW.alike hK, hD⟩, hS.F ht⟩) hS.2.2 dX9_signOf_25
def wp_X9_trains_64 (K : tm_St → Prop) : Nat → Int32 → Int32 → Int32 → Int32 → tm_St → Prop
  | 0, _, _, _, _, _ => False
  | n + 1, v1, v2, v3, v4, s => (((4 : Int32) ≤ v4 → K s) ∧ (¬ (4 : Int32) ≤ v4 → (vp_in ((4 * v1) + v4) 8 ∧ (wp_X9_signOf (v2 - v4) (fun r6 => (vp_in ((4 * v1) + v4) 8 ∧ (∀ s9 : tm_St, s9 = tm_s s 3 (upd (s 3) (((4 * v1) + v4) : Int32).toNatClampNeg ((s 3 (((4 * v1) + v4) : Int32).toNatClampNeg) + ((v3 * r6) / 8))) → (∀ x10 : Int32, x10 = v4 + 1 → wp_X9_trains_64 K n v1 v2 v3 x10 s9))))))))
def wp_X9_trains_12 (K : tm_St → Prop) : Nat → Int32 → Int32 → Int32 → Int32 → tm_St → Prop
  | 0, _, _, _, _, _ => False
  | n + 1, v1, v2, v3, v4, s => (((4 : Int32) ≤ v4 → ∃ nf : Nat, wp_X9_trains_64 K nf v1 v2 v3 0 s) ∧ (¬ (4 : Int32) ≤ v4 → (vp_in ((4 * v1) + v4) 8 ∧ (vp_in ((4 * v1) + v4) 8 ∧ (wp_X9_signOf (v2 - v4) (fun r13 => (∀ x15 : Int32, x15 = (v3 + (((16 * (s 4 (((4 * v1) + v4) : Int32).toNatClampNeg)) - (s 3 (((4 * v1) + v4) : Int32).toNatClampNeg)) * r13)) → (∀ x16 : Int32, x16 = v4 + 1 → wp_X9_trains_12 K n v1 v2 x15 x16 s))))))))
def wp_X9_trains (p0 : Int32) (s0 : tm_St) (K : tm_St → Prop) : Prop := (wp_X9_of p0 1 s0 (fun r1 s2 => ∃ nf : Nat, wp_X9_trains_12 K nf p0 r1 0 0 s2))
set_option maxRecDepth 100000 in
set_option maxHeartbeats 4000000 in
theorem kk_X9_trains (l : Launch) (dC : Nat → ClassId) (dI : Nat → Nat → Nat) (cI cZ : ClassId) (a : Nat → Nat) (s0 : tm_St) (hh : Int64) (sz : Nat) (p0 : Int32) (K : tm_St → Prop) (hw : wp_X9_trains p0 s0 K) : Met l yX9_trains wsX9_trains ({ frames := 1, cells := 0, slots := 0, locals := 22 }) (va_Pc [.ref (a 0), .int p0] (tm_Pre dC dI cI cZ (tm_wModel cI cZ a s0 hh) sz)) (va_Qv (fun (u : tm_St) => K u) (fun (u : tm_St) t => tm_At dC dI cI cZ (va_A (tm_wModel cI cZ a s0 hh) sz) (tm_wModel cI cZ a u hh) t) (va_A (tm_wModel cI cZ a s0 hh) sz)) 0 0 (va_A (tm_wModel cI cZ a s0 hh) sz) := by
  refine Met.ofW (cc := cX9_trains) (maxL := 5) (ret := none) (by decide +kernel) rfl ?_
  intro p e z m args below meth c z₁ B hml hv
  obtain ⟨rfl, hsz, hP, hK, hD0⟩ := hv
  have hx := B.exec
  have hb := B.bytes
  have hr := B.returns
  have hts := atoms_spec (ws := wsX9_trains) B.pre
  have hown : z.vm.findClass RX9 = some m.cls := findClass_of_methodNamed B.named
  have hlocks := B.notSynchronized
  subst hsz
  have hD := hD0.self (sz := z.heap.size)
  generalize hAe : va_A (tm_wModel cI cZ a s0 hh) z.heap.size = A at hD ⊢
  have hA : ∀ q : Nat, z.heap.size ≤ q → A q := fun q h => by rw [← hAe]; exact Or.inr h
  have hS : va_S A z.heap z.heap [] := va_S.rf
  have h_f16 := hts (.fieldLink RX9 16 "TwoModemsModel" "learnts" "[I") (by decide +kernel)
  have h_in9 : ∀ w ∈ u_ws RX9 TX9 30, w ∈ wsX9_trains := by decide +kernel
  have h_f19 := hts (.fieldLink RX9 19 "TwoModemsModel" "taps" "[I") (by decide +kernel)
  have b64 : ∀ (n : Nat) (v1 : Int32) (v2 : Int32) (v3 : Int32) (v4 : Int32) (s : tm_St) (H : Heap) (locs : List Loc) (ls : Array Slot), wp_X9_trains_64 K n v1 v2 v3 v4 s → va_P (dC, dI) vwCl (tm_wModel cI cZ a s hh) H → va_D A (tm_wModel cI cZ a s hh) → va_S A z.heap H locs → lv_has ls 5 [(0, .ref (a 0)), (1, .int v1), (2, .int v2), (3, .int v3), (4, .int v4)] → W p l e (headSpec wsX9_trains ({ frames := 1, cells := 0, slots := 0, locals := 22 })).room z m (([.ref (a 0), .int p0] : List Value).toArray) below meth c H locs 0 0 (MQ below (va_Qv (fun (u : tm_St) => K u) (fun (u : tm_St) t => tm_At dC dI cI cZ A (tm_wModel cI cZ a u hh) t) A) (([.ref (a 0), .int p0] : List Value).toArray) z 0 0 A) (F0 m 64 ls []) := by
    intro n
    induction n with
    | zero => intro v1 v2 v3 v4 s H locs ls hw hP hD hS hl; unfold wp_X9_trains_64 at hw; exact hw.elim
    | succ n ih =>
      intro v1 v2 v3 v4 s H locs ls hw hP hD hS hl
      unfold wp_X9_trains_64 at hw
      refine lv_iload hx hb dX9_trains_64 (lv_at hl 4 rfl) ?_
      refine lv_iconst (v := 4) hx hb dX9_trains_66 (by decide) ?_
      refine lv_icmp_ge (tgt := 102) hx hb dX9_trains_67 (by decide) (fun c4 => ?_) (fun c4 => ?_)
      · have hw := hw.1 c4
        exact W.vret hx hb hr (fun t ht hW => ⟨⟨s, rfl, hw, by rw [ht]; exact hP, va_K.moved hW.alike hK, hD⟩, hS.F ht⟩) hS.2.2 dX9_trains_102
      · have hw := hw.2 c4
        refine lv_aload_n hx hb dX9_trains_70 rfl (lv_at hl 0 rfl) ?_
        refine va_get (D := (dC, dI)) (ci := 7) (v := .ref (a 3)) (C := RX9) (T := TX9) (N := 30) hx hb hts h_in9 hown hK hP 0 rfl rfl 2 (by decide) h_f16 (fun _ h9 => h9) rfl dX9_trains_71 ?_
        refine lv_iconst (v := 4) hx hb dX9_trains_74 (by decide) ?_
        refine lv_iload_n hx hb dX9_trains_75 rfl (lv_at hl 1 rfl) ?_
        refine lv_imul hx hb dX9_trains_76 ?_
        refine lv_iload hx hb dX9_trains_77 (lv_at hl 4 rfl) ?_
        refine lv_iadd hx hb dX9_trains_79 ?_
        refine lv_dup2_11 hx hb dX9_trains_80 rfl rfl ?_
        have c5 := hw.1
        have hw := hw.2
        refine va_iald hx hb hK hP 3 0 rfl rfl c5 dX9_trains_81 ?_
        refine lv_iload_n hx hb dX9_trains_82 rfl (lv_at hl 3 rfl) ?_
        refine lv_iload_n hx hb dX9_trains_83 rfl (lv_at hl 2 rfl) ?_
        refine lv_iload hx hb dX9_trains_84 (lv_at hl 4 rfl) ?_
        refine lv_isub hx hb dX9_trains_86 ?_
        have hPc := hP.sub (ws' := ([] : va_W)) [] rfl
        have hDc := hD.sub (ws' := ([] : va_W)) [] (by decide) rfl
        have hFc := va_free (wc := ([] : va_W)) hD hS hA [] rfl
        refine va_calli (va_runS (As := [.int (v2 - v4)]) (rest := [.int v3, .int (s 3 (((4 * v1) + v4) : Int32).toNatClampNeg), .int ((4 * v1) + v4), .ref (a 3)]) ⟨hx, hb, hml, hown, hts⟩ (kk_X9_signOf l dC dI cI cZ H.size (v2 - v4) _ hw) (va_cwS 1 hts gX9_trains_X9_signOf rfl rfl rfl (by decide +kernel) ⟨Nat.le_of_ble_eq_true rfl, Nat.le_of_ble_eq_true rfl⟩) ⟨tm_blind, fun U hU hW => ⟨rfl, by rw [hU], by rw [hU]; exact hPc, va_K.moved hW.alike hK, hDc.weaken (fun _ _ _ _ => trivial)⟩⟩ rfl rfl hl.1 rfl (lv_room (Nat.le_of_ble_eq_true rfl)) dX9_trains_87 ⟨Nat.zero_le _, Nat.zero_le _⟩) hS (fun q _ h => hFc q h) hFc (fun r6 u t H1 locs ht hvm hw hB hz1 hk1 hS => ?_)
        obtain ⟨hP1, hK1, hD1⟩ := hB
        rw [ht] at hP1
        obtain ⟨hP, hD⟩ := va_join (wr := (tm_wModel cI cZ a s hh)) (w1 := ([] : va_W)) hP hD [] [0, 1, 2, 3, 4, 5, 6, 7, 8, 9, 10, 11, 12, 13, 14, 15, 16, 17] rfl rfl (by decide) (by decide) hk1 hFc hP1 hD1
        rw [List.append_nil] at hP hD
        generalize H1 = H at hP hS ⊢
        refine lv_imul hx hb dX9_trains_90 ?_
        refine lv_bipush (v := 8) hx hb dX9_trains_91 (by decide) ?_
        refine lv_idiv hx hb dX9_trains_93 (by decide) ?_
        refine lv_iadd hx hb dX9_trains_94 ?_
        have c8 := hw.1
        have hw := hw.2
        refine va_iast hx hb hK hP hD hS 3 0 rfl rfl c8 dX9_trains_95 (fun H locs hP hD hS => ?_)
        obtain ⟨s9, es9⟩ : ∃ y : tm_St, y = tm_s s 3 (upd (s 3) (((4 * v1) + v4) : Int32).toNatClampNeg ((s 3 (((4 * v1) + v4) : Int32).toNatClampNeg) + ((v3 * r6) / 8))) := ⟨_, rfl⟩
        have hw := hw s9 es9
        have hP : va_P (dC, dI) vwCl (tm_wModel cI cZ a s9 hh) H := by rw [es9]; exact hP
        have hD : va_D A (tm_wModel cI cZ a s9 hh) := by rw [es9]; exact hD
        obtain ⟨x10, ex10⟩ : ∃ y : Int32, y = v4 + 1 := ⟨_, rfl⟩
        have hw := hw x10 ex10
        refine lv_iinc (v := x10) (lv' := [(4, .int x10), (0, .ref (a 0)), (1, .int v1), (2, .int v2), (3, .int v3)]) hx hb dX9_trains_96 hl (k := 4) rfl (by rw [ex10]; rfl) (by decide) rfl (fun ls hl => ?_)
        refine lv_goto (tgt := 64) hx hb dX9_trains_99 (by decide) ?_
        exact ih v1 v2 v3 x10 s9 _ _ _ hw hP hD hS (lv_sub hl [1, 2, 3, 4, 0] rfl)
  have b12 : ∀ (n : Nat) (v1 : Int32) (v2 : Int32) (v3 : Int32) (v4 : Int32) (s : tm_St) (H : Heap) (locs : List Loc) (ls : Array Slot), wp_X9_trains_12 K n v1 v2 v3 v4 s → va_P (dC, dI) vwCl (tm_wModel cI cZ a s hh) H → va_D A (tm_wModel cI cZ a s hh) → va_S A z.heap H locs → lv_has ls 5 [(0, .ref (a 0)), (1, .int v1), (2, .int v2), (3, .int v3), (4, .int v4)] → W p l e (headSpec wsX9_trains ({ frames := 1, cells := 0, slots := 0, locals := 22 })).room z m (([.ref (a 0), .int p0] : List Value).toArray) below meth c H locs 0 0 (MQ below (va_Qv (fun (u : tm_St) => K u) (fun (u : tm_St) t => tm_At dC dI cI cZ A (tm_wModel cI cZ a u hh) t) A) (([.ref (a 0), .int p0] : List Value).toArray) z 0 0 A) (F0 m 12 ls []) := by
    intro n
    induction n with
    | zero => intro v1 v2 v3 v4 s H locs ls hw hP hD hS hl; unfold wp_X9_trains_12 at hw; exact hw.elim
    | succ n ih =>
      intro v1 v2 v3 v4 s H locs ls hw hP hD hS hl
      unfold wp_X9_trains_12 at hw
      refine lv_iload hx hb dX9_trains_12 (lv_at hl 4 rfl) ?_
      refine lv_iconst (v := 4) hx hb dX9_trains_14 (by decide) ?_
      refine lv_icmp_ge (tgt := 61) hx hb dX9_trains_15 (by decide) (fun c3 => ?_) (fun c3 => ?_)
      · have hw := hw.1 c3
        refine lv_iconst (v := 0) hx hb dX9_trains_61 (by decide) ?_
        refine lv_istore (lv' := [(4, .int 0), (0, .ref (a 0)), (1, .int v1), (2, .int v2), (3, .int v3)]) hx hb dX9_trains_62 hl (by decide) rfl (fun ls hl => ?_)
        obtain ⟨nf, hw⟩ := hw
        exact b64 nf v1 v2 v3 0 s _ _ _ hw hP hD hS (lv_sub hl [1, 2, 3, 4, 0] rfl)
      · have hw := hw.2 c3
        refine lv_iload_n hx hb dX9_trains_18 rfl (lv_at hl 3 rfl) ?_
        refine lv_bipush (v := 16) hx hb dX9_trains_19 (by decide) ?_
        refine lv_aload_n hx hb dX9_trains_21 rfl (lv_at hl 0 rfl) ?_
        refine va_get (D := (dC, dI)) (ci := 7) (v := .ref (a 4)) (C := RX9) (T := TX9) (N := 30) hx hb hts h_in9 hown hK hP 0 rfl rfl 3 (by decide) h_f19 (fun _ h9 => h9) rfl dX9_trains_22 ?_
        refine lv_iconst (v := 4) hx hb dX9_trains_25 (by decide) ?_
        refine lv_iload_n hx hb dX9_trains_26 rfl (lv_at hl 1 rfl) ?_
        refine lv_imul hx hb dX9_trains_27 ?_
        refine lv_iload hx hb dX9_trains_28 (lv_at hl 4 rfl) ?_
        refine lv_iadd hx hb dX9_trains_30 ?_
        have c11 := hw.1
        have hw := hw.2
        refine va_iald hx hb hK hP 4 0 rfl rfl c11 dX9_trains_31 ?_
        refine lv_imul hx hb dX9_trains_32 ?_
        refine lv_aload_n hx hb dX9_trains_33 rfl (lv_at hl 0 rfl) ?_
        refine va_get (D := (dC, dI)) (ci := 7) (v := .ref (a 3)) (C := RX9) (T := TX9) (N := 30) hx hb hts h_in9 hown hK hP 0 rfl rfl 2 (by decide) h_f16 (fun _ h9 => h9) rfl dX9_trains_34 ?_
        refine lv_iconst (v := 4) hx hb dX9_trains_37 (by decide) ?_
        refine lv_iload_n hx hb dX9_trains_38 rfl (lv_at hl 1 rfl) ?_
        refine lv_imul hx hb dX9_trains_39 ?_
        refine lv_iload hx hb dX9_trains_40 (lv_at hl 4 rfl) ?_
        refine lv_iadd hx hb dX9_trains_42 ?_
        have c12 := hw.1
        have hw := hw.2
        refine va_iald hx hb hK hP 3 0 rfl rfl c12 dX9_trains_43 ?_
        refine lv_isub hx hb dX9_trains_44 ?_
        refine lv_iload_n hx hb dX9_trains_45 rfl (lv_at hl 2 rfl) ?_
        refine lv_iload hx hb dX9_trains_46 (lv_at hl 4 rfl) ?_
        refine lv_isub hx hb dX9_trains_48 ?_
        have hPc := hP.sub (ws' := ([] : va_W)) [] rfl
        have hDc := hD.sub (ws' := ([] : va_W)) [] (by decide) rfl
        have hFc := va_free (wc := ([] : va_W)) hD hS hA [] rfl
        refine va_calli (va_runS (As := [.int (v2 - v4)]) (rest := [.int ((16 * (s 4 (((4 * v1) + v4) : Int32).toNatClampNeg)) - (s 3 (((4 * v1) + v4) : Int32).toNatClampNeg)), .int v3]) ⟨hx, hb, hml, hown, hts⟩ (kk_X9_signOf l dC dI cI cZ H.size (v2 - v4) _ hw) (va_cwS 1 hts gX9_trains_X9_signOf rfl rfl rfl (by decide +kernel) ⟨Nat.le_of_ble_eq_true rfl, Nat.le_of_ble_eq_true rfl⟩) ⟨tm_blind, fun U hU hW => ⟨rfl, by rw [hU], by rw [hU]; exact hPc, va_K.moved hW.alike hK, hDc.weaken (fun _ _ _ _ => trivial)⟩⟩ rfl rfl hl.1 rfl (lv_room (Nat.le_of_ble_eq_true rfl)) dX9_trains_49 ⟨Nat.zero_le _, Nat.zero_le _⟩) hS (fun q _ h => hFc q h) hFc (fun r13 u t H1 locs ht hvm hw hB hz1 hk1 hS => ?_)
        obtain ⟨hP1, hK1, hD1⟩ := hB
        rw [ht] at hP1
        obtain ⟨hP, hD⟩ := va_join (wr := (tm_wModel cI cZ a s hh)) (w1 := ([] : va_W)) hP hD [] [0, 1, 2, 3, 4, 5, 6, 7, 8, 9, 10, 11, 12, 13, 14, 15, 16, 17] rfl rfl (by decide) (by decide) hk1 hFc hP1 hD1
        rw [List.append_nil] at hP hD
        generalize H1 = H at hP hS ⊢
        refine lv_imul hx hb dX9_trains_52 ?_
        refine lv_iadd hx hb dX9_trains_53 ?_
        refine lv_topi (fun x15 ex15 => ?_)
        have hw := hw x15 ex15
        refine lv_istore_n (lv' := [(3, .int x15), (0, .ref (a 0)), (1, .int v1), (2, .int v2), (4, .int v4)]) hx hb dX9_trains_54 rfl hl (by decide) rfl (fun ls hl => ?_)
        obtain ⟨x16, ex16⟩ : ∃ y : Int32, y = v4 + 1 := ⟨_, rfl⟩
        have hw := hw x16 ex16
        refine lv_iinc (v := x16) (lv' := [(4, .int x16), (3, .int x15), (0, .ref (a 0)), (1, .int v1), (2, .int v2)]) hx hb dX9_trains_55 hl (k := 4) rfl (by rw [ex16]; rfl) (by decide) rfl (fun ls hl => ?_)
        refine lv_goto (tgt := 12) hx hb dX9_trains_58 (by decide) ?_
        exact ih v1 v2 x15 x16 s _ _ _ hw hP hD hS (lv_sub hl [2, 3, 4, 1, 0] rfl)
  have hl := lv_entry ([.ref (a 0), .int p0]) (n := 5) (Nat.le_of_ble_eq_true rfl)
  rw [lg_entry_eq]
  generalize (lg_sl ([.ref (a 0), .int p0]) ++ List.replicate (5 - (lg_sl ([.ref (a 0), .int p0])).length) Slot.unset).toArray = ls at hl ⊢
  have hl : lv_has ls 5 [(0, .ref (a 0)), (1, .int p0)] := hl
  unfold wp_X9_trains at hw
  refine lv_aload_n hx hb dX9_trains_0 rfl (lv_at hl 0 rfl) ?_
  refine lv_iload_n hx hb dX9_trains_1 rfl (lv_at hl 1 rfl) ?_
  refine lv_iconst (v := 1) hx hb dX9_trains_2 (by decide) ?_
  have hPc := hP
  have hDc := hD
  have hFc := va_free (wc := (tm_wModel cI cZ a s0 hh)) hD hS hA [0, 1, 2, 3, 4, 5, 6, 7, 8, 9, 10, 11, 12, 13, 14, 15, 16, 17] rfl
  refine va_calli (va_runV (As := [.int p0, .int 1]) (rest := []) ⟨hx, hb, hml, hown, hts⟩ (kk_X9_of l dC dI cI cZ a s0 hh z.heap.size p0 1 _ hw) (cwV 2 hts gX9_trains_X9_of rfl rfl rfl (by decide +kernel) ⟨Nat.le_of_ble_eq_true rfl, Nat.le_of_ble_eq_true rfl⟩) ⟨tm_blind, va_recv hK hPc (ci := 7) (q0 := 0) rfl rfl, fun U hU hW => ⟨rfl, by rw [hU], by rw [hU]; exact hPc, va_K.moved hW.alike hK, hDc.weaken (fun _ _ _ _ => trivial)⟩⟩ rfl rfl hl.1 rfl (lv_room (Nat.le_of_ble_eq_true rfl)) dX9_trains_3 ⟨Nat.zero_le _, Nat.zero_le _⟩) hS (fun q _ h => hFc q h) hFc (fun r1 s2 t H1 locs ht hvm hw hB hz1 hk1 hS => ?_)
  obtain ⟨hP1, hK1, hD1⟩ := hB
  rw [ht] at hP1
  obtain ⟨hP, hD⟩ := va_join (wr := []) (w1 := (tm_wModel cI cZ a s2 hh)) hP hD [0, 1, 2, 3, 4, 5, 6, 7, 8, 9, 10, 11, 12, 13, 14, 15, 16, 17] [] rfl rfl (by decide) (by decide) hk1 hFc hP1 hD1
  generalize H1 = H at hP hS ⊢
  have hP : va_P (dC, dI) vwCl (tm_wModel cI cZ a s2 hh) H := hP
  have hD : va_D A (tm_wModel cI cZ a s2 hh) := hD
  refine lv_istore_n (lv' := [(2, .int r1), (0, .ref (a 0)), (1, .int p0)]) hx hb dX9_trains_6 rfl hl (by decide) rfl (fun ls hl => ?_)
  refine lv_iconst (v := 0) hx hb dX9_trains_7 (by decide) ?_
  refine lv_istore_n (lv' := [(3, .int 0), (2, .int r1), (0, .ref (a 0)), (1, .int p0)]) hx hb dX9_trains_8 rfl hl (by decide) rfl (fun ls hl => ?_)
  refine lv_iconst (v := 0) hx hb dX9_trains_9 (by decide) ?_
  refine lv_istore (lv' := [(4, .int 0), (3, .int 0), (2, .int r1), (0, .ref (a 0)), (1, .int p0)]) hx hb dX9_trains_10 hl (by decide) rfl (fun ls hl => ?_)
  obtain ⟨nf, hw⟩ := hw
  exact b12 nf p0 r1 0 0 s2 _ _ _ hw hP hD hS (lv_sub hl [3, 4, 2, 1, 0] rfl)
