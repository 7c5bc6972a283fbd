def wp_X9_within (p0 : Int32) (p1 : Int32) (p2 : Int32) (K : Int32 → Prop) : Prop := ((p0 < p1 → K 0) ∧ (¬ p0 < p1 → ((p2 < p0 → K 0) ∧ (¬ p2 < p0 → K 1))))
set_option maxRecDepth 100000 in
set_option maxHeartbeats 4000000 in
theorem kk_X9_within (l : Launch) (dC : Nat → ClassId) (dI : Nat → Nat → Nat) (cI cZ : ClassId) (sz : Nat) (p0 : Int32) (p1 : Int32) (p2 : Int32) (K : Int32 → Prop) (hw : wp_X9_within p0 p1 p2 K) : Met l yX9_within wsX9_within ({ frames := 0, cells := 0, slots := 0, locals := 0 }) (va_Pc [.int p0, .int p1, .int p2] (tm_Pre dC dI cI cZ ([] : va_W) sz)) (va_Qi (fun (r : Int32) (_ : Unit) => (r = 0 ∨ r = 1) ∧ K r) (fun (_ : Unit) t => tm_At dC dI cI cZ (va_A ([] : va_W) sz) ([] : va_W) t) (va_A ([] : va_W) sz)) 0 0 (va_A ([] : va_W) sz) := by
  refine Met.ofW (cc := cX9_within) (maxL := 3) (ret := (some .boolean)) (by decide +kernel) rfl ?_
  intro p e z m args below meth c z₁ B hml hv
  obtain ⟨rfl, hsz, hP, hK, hD0⟩ := hv
  have hx := B.exec
  have hb := B.bytes
  have hr := B.returns
  have hts := atoms_spec (ws := wsX9_within) B.pre
  have hown : z.vm.findClass RX9 = some m.cls := findClass_of_methodNamed B.named
  have hlocks := B.notSynchronized
  subst hsz
  have hD := hD0.self (sz := z.heap.size)
  generalize hAe : va_A ([] : va_W) z.heap.size = A at hD ⊢
  have hA : ∀ q : Nat, z.heap.size ≤ q → A q := fun q h => by rw [← hAe]; exact Or.inr h
  have hS : va_S A z.heap z.heap [] := va_S.rf
  have hl := lv_entry ([.int p0, .int p1, .int p2]) (n := 3) (Nat.le_of_ble_eq_true rfl)
  rw [lg_entry_eq]
  generalize (lg_sl ([.int p0, .int p1, .int p2]) ++ List.replicate (3 - (lg_sl ([.int p0, .int p1, .int p2])).length) Slot.unset).toArray = ls at hl ⊢
  have hl : lv_has ls 3 [(0, .int p0), (1, .int p1), (2, .int p2)] := hl
  unfold wp_X9_within at hw
  refine lv_iload_n hx hb dX9_within_0 rfl (lv_at hl 0 rfl) ?_
  refine lv_iload_n hx hb dX9_within_1 rfl (lv_at hl 1 rfl) ?_
  refine lv_icmp_lt (tgt := 14) hx hb dX9_within_2 (by decide) (fun c1 => ?_) (fun c1 => ?_)
  · have hw := hw.1 c1
    refine lv_iconst (v := 0) hx hb dX9_within_14 (by decide) ?_
    exact W.zret (v := 0) hx hb hr (tm_bool (by decide)) (fun t ht hW => ⟨⟨0, (), rfl, ⟨(by decide), hw⟩, by rw [ht]; exact hP, va_K.moved hW.alike hK, hD⟩, hS.F ht⟩) hS.2.2 dX9_within_15
  · have hw := hw.2 c1
    refine lv_iload_n hx hb dX9_within_5 rfl (lv_at hl 0 rfl) ?_
    refine lv_iload_n hx hb dX9_within_6 rfl (lv_at hl 2 rfl) ?_
    refine lv_icmp_gt (tgt := 14) hx hb dX9_within_7 (by decide) (fun c2 => ?_) (fun c2 => ?_)
    · have hw := hw.1 c2
      refine lv_iconst (v := 0) hx hb dX9_within_14 (by decide) ?_
      exact W.zret (v := 0) hx hb hr (tm_bool (by decide)) (fun t ht hW => ⟨⟨0, (), rfl, ⟨(by decide), hw⟩, by rw [ht]; exact hP, va_K.moved hW.alike hK, hD⟩, hS.F ht⟩) hS.2.2 dX9_within_15
    · have hw := hw.2 c2
      refine lv_iconst (v := 1) hx hb dX9_within_10 (by decide) ?_
      refine lv_goto (tgt := 15) hx hb dX9_within_11 (by decide) ?_
      exact W.zret (v := 1) hx hb hr (tm_bool (by decide)) (fun t ht hW => ⟨⟨1, (), rfl, ⟨(by decide), hw⟩, by rw [ht]; exact hP, va_K.moved hW.alike hK, hD⟩, hS.F ht⟩) hS.2.2 dX9_within_15
def wp_X9_letter (p0 : Int32) (s0 : tm_St) (K : Int32 → tm_St → Prop) : Prop := (wp_X9_within p0 32 126 (fun r1 => ((¬ r1 = 0 → ((¬ (s0 0 18) = 30 → (vp_in (s0 0 18) 30 ∧ (∀ s6 : tm_St, s6 = tm_s s0 14 (upd (s0 14) ((s0 0 18) : Int32).toNatClampNeg p0) → (∀ s7 : tm_St, s7 = tm_s s6 0 (tm_u (s6 0) 18 ((s6 0 18) + 1)) → K (s7 0 18) s7)))) ∧ ((s0 0 18) = 30 → K (-1004) s0))) ∧ (r1 = 0 → K (-1002) s0))))
set_option maxRecDepth 100000 in
set_option maxHeartbeats 4000000 in
theorem kk_X9_letter (l : Launch) (dC : Nat → ClassId) (dI : Nat → Nat → Nat) (cI cZ : ClassId) (a : Nat → Nat) (s0 : tm_St) (hh : Int64) (sz : Nat) (p0 : Int32) (K : Int32 → tm_St → Prop) (hw : wp_X9_letter p0 s0 K) : Met l yX9_letter wsX9_letter ({ frames := 1, cells := 0, slots := 0, locals := 22 }) (va_Pc [.ref (a 0), .int p0] (tm_Pre dC dI cI cZ (tm_wModel cI cZ a s0 hh) sz)) (va_Qi (fun (r : Int32) (u : tm_St) => K r u) (fun (u : tm_St) t => tm_At dC dI cI cZ (va_A (tm_wModel cI cZ a s0 hh) sz) (tm_wModel cI cZ a u hh) t) (va_A (tm_wModel cI cZ a s0 hh) sz)) 0 0 (va_A (tm_wModel cI cZ a s0 hh) sz) := by
  refine Met.ofW (cc := cX9_letter) (maxL := 2) (ret := (some .int)) (by decide +kernel) rfl ?_
  intro p e z m args below meth c z₁ B hml hv
  obtain ⟨rfl, hsz, hP, hK, hD0⟩ := hv
  have hx := B.exec
  have hb := B.bytes
  have hr := B.returns
  have hts := atoms_spec (ws := wsX9_letter) B.pre
  have hown : z.vm.findClass RX9 = some m.cls := findClass_of_methodNamed B.named
  have hlocks := B.notSynchronized
  subst hsz
  have hD := hD0.self (sz := z.heap.size)
  generalize hAe : va_A (tm_wModel cI cZ a s0 hh) z.heap.size = A at hD ⊢
  have hA : ∀ q : Nat, z.heap.size ≤ q → A q := fun q h => by rw [← hAe]; exact Or.inr h
  have hS : va_S A z.heap z.heap [] := va_S.rf
  have h_f69 := hts (.fieldLink RX9 69 "TwoModemsModel" "pageLength" "I") (by decide +kernel)
  have h_in9 : ∀ w ∈ u_ws RX9 TX9 30, w ∈ wsX9_letter := by decide +kernel
  have h_f53 := hts (.fieldLink RX9 53 "TwoModemsModel" "page" "[I") (by decide +kernel)
  have hl := lv_entry ([.ref (a 0), .int p0]) (n := 2) (Nat.le_of_ble_eq_true rfl)
  rw [lg_entry_eq]
  generalize (lg_sl ([.ref (a 0), .int p0]) ++ List.replicate (2 - (lg_sl ([.ref (a 0), .int p0])).length) Slot.unset).toArray = ls at hl ⊢
  have hl : lv_has ls 2 [(0, .ref (a 0)), (1, .int p0)] := hl
  unfold wp_X9_letter at hw
  refine lv_iload_n hx hb dX9_letter_0 rfl (lv_at hl 1 rfl) ?_
  refine lv_bipush (v := 32) hx hb dX9_letter_1 (by decide) ?_
  refine lv_bipush (v := 126) hx hb dX9_letter_3 (by decide) ?_
  have hPc := hP.sub (ws' := ([] : va_W)) [] rfl
  have hDc := hD.sub (ws' := ([] : va_W)) [] (by decide) rfl
  have hFc := va_free (wc := ([] : va_W)) hD hS hA [] rfl
  refine va_calli (va_runS (As := [.int p0, .int 32, .int 126]) (rest := []) ⟨hx, hb, hml, hown, hts⟩ (kk_X9_within l dC dI cI cZ z.heap.size p0 32 126 _ hw) (va_cwS 3 hts gX9_letter_X9_within rfl rfl rfl (by decide +kernel) ⟨Nat.le_of_ble_eq_true rfl, Nat.le_of_ble_eq_true rfl⟩) ⟨tm_blind, fun U hU hW => ⟨rfl, by rw [hU], by rw [hU]; exact hPc, va_K.moved hW.alike hK, hDc.weaken (fun _ _ _ _ => trivial)⟩⟩ rfl rfl hl.1 rfl (lv_room (Nat.le_of_ble_eq_true rfl)) dX9_letter_5 ⟨Nat.zero_le _, Nat.zero_le _⟩) hS (fun q _ h => hFc q h) hFc (fun r1 u t H1 locs ht hvm hw hB hz1 hk1 hS => ?_)
  obtain ⟨hP1, hK1, hD1⟩ := hB
  rw [ht] at hP1
  have b9_r1 := hw.1
  have hw := hw.2
  obtain ⟨hP, hD⟩ := va_join (wr := (tm_wModel cI cZ a s0 hh)) (w1 := ([] : va_W)) hP hD [] [0, 1, 2, 3, 4, 5, 6, 7, 8, 9, 10, 11, 12, 13, 14, 15, 16, 17] rfl rfl (by decide) (by decide) hk1 hFc hP1 hD1
  rw [List.append_nil] at hP hD
  generalize H1 = H at hP hS ⊢
  refine lv_if_ne (tgt := 15) hx hb dX9_letter_8 (by decide) (fun c3 => ?_) (fun c3 => ?_)
  · have hw := hw.1 c3
    refine lv_aload_n hx hb dX9_letter_15 rfl (lv_at hl 0 rfl) ?_
    refine va_get (D := (dC, dI)) (ci := 7) (v := .int (s0 0 18)) (C := RX9) (T := TX9) (N := 30) hx hb hts h_in9 hown hK hP 0 rfl rfl 18 (by decide) h_f69 (fun _ h9 => h9) rfl dX9_letter_16 ?_
    refine lv_bipush (v := 30) hx hb dX9_letter_19 (by decide) ?_
    refine lv_icmp_ne (tgt := 28) hx hb dX9_letter_21 (by decide) (fun c4 => ?_) (fun c4 => ?_)
    · have hw := hw.1 c4
      refine lv_aload_n hx hb dX9_letter_28 rfl (lv_at hl 0 rfl) ?_
      refine va_get (D := (dC, dI)) (ci := 7) (v := .ref (a 14)) (C := RX9) (T := TX9) (N := 30) hx hb hts h_in9 hown hK hP 0 rfl rfl 19 (by decide) h_f53 (fun _ h9 => h9) rfl dX9_letter_29 ?_
      refine lv_aload_n hx hb dX9_letter_32 rfl (lv_at hl 0 rfl) ?_
      refine va_get (D := (dC, dI)) (ci := 7) (v := .int (s0 0 18)) (C := RX9) (T := TX9) (N := 30) hx hb hts h_in9 hown hK hP 0 rfl rfl 18 (by decide) h_f69 (fun _ h9 => h9) rfl dX9_letter_33 ?_
      refine lv_iload_n hx hb dX9_letter_36 rfl (lv_at hl 1 rfl) ?_
      have c5 := hw.1
      have hw := hw.2
      refine va_iast hx hb hK hP hD hS 14 0 rfl rfl c5 dX9_letter_37 (fun H locs hP hD hS => ?_)
      obtain ⟨s6, es6⟩ : ∃ y : tm_St, y = tm_s s0 14 (upd (s0 14) ((s0 0 18) : Int32).toNatClampNeg p0) := ⟨_, rfl⟩
      have hw := hw s6 es6
      have hP : va_P (dC, dI) vwCl (tm_wModel cI cZ a s6 hh) H := by rw [es6]; exact hP
      have hD : va_D A (tm_wModel cI cZ a s6 hh) := by rw [es6]; exact hD
      refine lv_aload_n hx hb dX9_letter_38 rfl (lv_at hl 0 rfl) ?_
      refine lv_dup hx hb dX9_letter_39 rfl ?_
      refine va_get (D := (dC, dI)) (ci := 7) (v := .int (s6 0 18)) (C := RX9) (T := TX9) (N := 30) hx hb hts h_in9 hown hK hP 0 rfl rfl 18 (by decide) h_f69 (fun _ h9 => h9) rfl dX9_letter_40 ?_
      refine lv_iconst (v := 1) hx hb dX9_letter_43 (by decide) ?_
      refine lv_iadd hx hb dX9_letter_44 ?_
      refine va_put (D := (dC, dI)) (ci := 7) (v := .int ((s6 0 18) + 1)) (ty := .int) (C := RX9) (T := TX9) (N := 30) hx hb hts h_in9 tyX9 tyX9_ok nmX9 hown hK hP hD hS 0 rfl rfl 18 (by decide) h_f69 (fun _ h9 => h9) rfl (by decide +kernel) rfl rfl (Nat.le_of_ble_eq_true rfl) dX9_letter_45 (fun H locs hP hD hS => ?_)
      obtain ⟨s7, es7⟩ : ∃ y : tm_St, y = tm_s s6 0 (tm_u (s6 0) 18 ((s6 0 18) + 1)) := ⟨_, rfl⟩
      have hw := hw s7 es7
      have hP : va_P (dC, dI) vwCl (tm_wModel cI cZ a s7 hh) H := by rw [es7]; exact hP
      have hD : va_D A (tm_wModel cI cZ a s7 hh) := by rw [es7]; exact hD
      refine lv_aload_n hx hb dX9_letter_48 rfl (lv_at hl 0 rfl) ?_
      refine va_get (D := (dC, dI)) (ci := 7) (v := .int (s7 0 18)) (C := RX9) (T := TX9) (N := 30) hx hb hts h_in9 hown hK hP 0 rfl rfl 18 (by decide) h_f69 (fun _ h9 => h9) rfl dX9_letter_49 ?_
      exact W.iret (v := (s7 0 18)) hx hb hr (fun t ht hW => ⟨⟨(s7 0 18), s7, rfl, hw, by rw [ht]; exact hP, va_K.moved hW.alike hK, hD⟩, hS.F ht⟩) hS.2.2 dX9_letter_52
    · have hw := hw.2 c4
      refine lv_sipush (v := (-1004)) hx hb dX9_letter_24 (by decide) ?_
      exact W.iret (v := (-1004)) hx hb hr (fun t ht hW => ⟨⟨(-1004), s0, rfl, hw, by rw [ht]; exact hP, va_K.moved hW.alike hK, hD⟩, hS.F ht⟩) hS.2.2 dX9_letter_27
  · have hw := hw.2 c3
    refine lv_sipush (v := (-1002)) hx hb dX9_letter_11 (by decide) ?_
    exact W.iret (v := (-1002)) hx hb hr (fun t ht hW => ⟨⟨(-1002), s0, rfl, hw, by rw [ht]; exact hP, va_K.moved hW.alike hK, hD⟩, hS.F ht⟩) hS.2.2 dX9_letter_14
def wp_X9_blank  (s0 : tm_St) (K : Int32 → tm_St → Prop) : Prop := (∀ x1 : Int32, x1 = (s0 0 18) → (∀ s2 : tm_St, s2 = tm_s s0 0 (tm_u (s0 0) 18 0) → K x1 s2))
set_option maxRecDepth 100000 in
set_option maxHeartbeats 4000000 in
theorem kk_X9_blank (l : Launch) (dC : Nat → ClassId) (dI : Nat → Nat → Nat) (cI cZ : ClassId) (a : Nat → Nat) (s0 : tm_St) (hh : Int64) (sz : Nat)  (K : Int32 → tm_St → Prop) (hw : wp_X9_blank s0 K) : Met l yX9_blank wsX9_blank ({ frames := 0, cells := 0, slots := 0, locals := 0 }) (va_Pc [.ref (a 0)] (tm_Pre dC dI cI cZ (tm_wModel cI cZ a s0 hh) sz)) (va_Qi (fun (r : Int32) (u : tm_St) => K r u) (fun (u : tm_St) t => tm_At dC dI cI cZ (va_A (tm_wModel cI cZ a s0 hh) sz) (tm_wModel cI cZ a u hh) t) (va_A (tm_wModel cI cZ a s0 hh) sz)) 0 0 (va_A (tm_wModel cI cZ a s0 hh) sz) := by
  refine Met.ofW (cc := cX9_blank) (maxL := 2) (ret := (some .int)) (by decide +kernel) rfl ?_
  intro p e z m args below meth c z₁ B hml hv
  obtain ⟨rfl, hsz, hP, hK, hD0⟩ := hv
  have hx := B.exec
  have hb := B.bytes
  have hr := B.returns
  have hts := atoms_spec (ws := wsX9_blank) B.pre
  have hown : z.vm.findClass RX9 = some m.cls := findClass_of_methodNamed B.named
  have hlocks := B.notSynchronized
  subst hsz
  have hD := hD0.self (sz := z.heap.size)
  generalize hAe : va_A (tm_wModel cI cZ a s0 hh) z.heap.size = A at hD ⊢
  have hA : ∀ q : Nat, z.heap.size ≤ q → A q := fun q h => by rw [← hAe]; exact Or.inr h
  have hS : va_S A z.heap z.heap [] := va_S.rf
  have h_f69 := hts (.fieldLink RX9 69 "TwoModemsModel" "pageLength" "I") (by decide +kernel)
  have h_in9 : ∀ w ∈ u_ws RX9 TX9 30, w ∈ wsX9_blank := by decide +kernel
  have hl := lv_entry ([.ref (a 0)]) (n := 2) (Nat.le_of_ble_eq_true rfl)
  rw [lg_entry_eq]
  generalize (lg_sl ([.ref (a 0)]) ++ List.replicate (2 - (lg_sl ([.ref (a 0)])).length) Slot.unset).toArray = ls at hl ⊢
  have hl : lv_has ls 2 [(0, .ref (a 0))] := hl
  unfold wp_X9_blank at hw
  refine lv_aload_n hx hb dX9_blank_0 rfl (lv_at hl 0 rfl) ?_
  refine va_get (D := (dC, dI)) (ci := 7) (v := .int (s0 0 18)) (C := RX9) (T := TX9) (N := 30) hx hb hts h_in9 hown hK hP 0 rfl rfl 18 (by decide) h_f69 (fun _ h9 => h9) rfl dX9_blank_1 ?_
  refine lv_topi (fun x1 ex1 => ?_)
  have hw := hw x1 ex1
  refine lv_istore_n (lv' := [(1, .int x1), (0, .ref (a 0))]) hx hb dX9_blank_4 rfl hl (by decide) rfl (fun ls hl => ?_)
  refine lv_aload_n hx hb dX9_blank_5 rfl (lv_at hl 1 rfl) ?_
  refine lv_iconst (v := 0) hx hb dX9_blank_6 (by decide) ?_
  refine va_put (D := (dC, dI)) (ci := 7) (v := .int 0) (ty := .int) (C := RX9) (T := TX9) (N := 30) hx hb hts h_in9 tyX9 tyX9_ok nmX9 hown hK hP hD hS 0 rfl rfl 18 (by decide) h_f69 (fun _ h9 => h9) rfl (by decide +kernel) rfl rfl (Nat.le_of_ble_eq_true rfl) dX9_blank_7 (fun H locs hP hD hS => ?_)
  obtain ⟨s2, es2⟩ : ∃ y : tm_St, y = tm_s s0 0 (tm_u (s0 0) 18 0) := ⟨_, rfl⟩
  have hw := hw s2 es2
  have hP : va_P (dC, dI) vwCl (tm_wModel cI cZ a s2 hh) H := by rw [es2]; exact hP
  have hD : va_D A (tm_wModel cI cZ a s2 hh) := by rw [es2]; exact hD
  refine lv_iload_n hx hb dX9_blank_10 rfl (lv_at hl 0 rfl) ?_
  exact W.iret (v := x1) hx hb hr (fun t ht hW => ⟨⟨x1, s2, rfl, hw, by rw [ht]; exact hP, va_K.moved hW.alike hK, hD⟩, hS.F ht⟩) hS.2.2 dX9_blank_11
def wp_X9_takesHurt (p0 : Int32) (s0 : tm_St) (K : Int32 → tm_St → Prop) : Prop := (wp_X9_within p0 48 57 (fun r1 => ((r1 = 0 → ((¬ p0 = 44 → (∀ s5 : tm_St, s5 = tm_s s0 0 (tm_u (s0 0) 23 (s0 0 23)) → (∀ s6 : tm_St, s6 = tm_s s5 0 (tm_u (s5 0) 24 (s5 0 24)) → K 0 s6))) ∧ (p0 = 44 → ((¬ (s0 0 23) = 0 → (∀ s8 : tm_St, s8 = tm_s s0 0 (tm_u (s0 0) 23 (s0 0 23)) → (∀ s9 : tm_St, s9 = tm_s s8 0 (tm_u (s8 0) 24 (s8 0 24)) → K 0 s9))) ∧ ((s0 0 23) = 0 → (((s0 0 24) = (-1) → (∀ s11 : tm_St, s11 = tm_s s0 0 (tm_u (s0 0) 23 (s0 0 23)) → (∀ s12 : tm_St, s12 = tm_s s11 0 (tm_u (s11 0) 24 (s11 0 24)) → K 0 s12))) ∧ (¬ (s0 0 24) = (-1) → (∀ s13 : tm_St, s13 = tm_s s0 0 (tm_u (s0 0) 23 1) → (∀ s14 : tm_St, s14 = tm_s s13 0 (tm_u (s13 0) 24 (-1)) → K 1 s14))))))))) ∧ (¬ r1 = 0 → ((¬ (s0 0 24) = (-1) → (∀ x16 : Int32, x16 = (((10 * (s0 0 24)) + p0) - 48) → (((s0 0 24) = 0 → (∀ s18 : tm_St, s18 = tm_s s0 0 (tm_u (s0 0) 24 (s0 0 24)) → (vp_in (s18 0 23) 2 ∧ (vp_in (s18 0 23) 2 ∧ (∀ s21 : tm_St, s21 = tm_s s18 16 (upd (s18 16) ((s18 0 23) : Int32).toNatClampNeg (s18 16 ((s18 0 23) : Int32).toNatClampNeg)) → K 0 s21))))) ∧ (¬ (s0 0 24) = 0 → (((50 : Int32) < x16 → (∀ s23 : tm_St, s23 = tm_s s0 0 (tm_u (s0 0) 24 (s0 0 24)) → (vp_in (s23 0 23) 2 ∧ (vp_in (s23 0 23) 2 ∧ (∀ s26 : tm_St, s26 = tm_s s23 16 (upd (s23 16) ((s23 0 23) : Int32).toNatClampNeg (s23 16 ((s23 0 23) : Int32).toNatClampNeg)) → K 0 s26))))) ∧ (¬ (50 : Int32) < x16 → (∀ s27 : tm_St, s27 = tm_s s0 0 (tm_u (s0 0) 24 x16) → (vp_in (s27 0 23) 2 ∧ (∀ s29 : tm_St, s29 = tm_s s27 16 (upd (s27 16) ((s27 0 23) : Int32).toNatClampNeg x16) → K 1 s29))))))))) ∧ ((s0 0 24) = (-1) → (∀ x30 : Int32, x30 = (p0 - 48) → (((s0 0 24) = 0 → (∀ s32 : tm_St, s32 = tm_s s0 0 (tm_u (s0 0) 24 (s0 0 24)) → (vp_in (s32 0 23) 2 ∧ (vp_in (s32 0 23) 2 ∧ (∀ s35 : tm_St, s35 = tm_s s32 16 (upd (s32 16) ((s32 0 23) : Int32).toNatClampNeg (s32 16 ((s32 0 23) : Int32).toNatClampNeg)) → K 0 s35))))) ∧ (¬ (s0 0 24) = 0 → (((50 : Int32) < x30 → (∀ s37 : tm_St, s37 = tm_s s0 0 (tm_u (s0 0) 24 (s0 0 24)) → (vp_in (s37 0 23) 2 ∧ (vp_in (s37 0 23) 2 ∧ (∀ s40 : tm_St, s40 = tm_s s37 16 (upd (s37 16) ((s37 0 23) : Int32).toNatClampNeg (s37 16 ((s37 0 23) : Int32).toNatClampNeg)) → K 0 s40))))) ∧ (¬ (50 : Int32) < x30 → (∀ s41 : tm_St, s41 = tm_s s0 0 (tm_u (s0 0) 24 x30) → (vp_in (s41 0 23) 2 ∧ (∀ s43 : tm_St, s43 = tm_s s41 16 (upd (s41 16) ((s41 0 23) : Int32).toNatClampNeg x30) → K 1 s43))))))))))))))
set_option maxRecDepth 100000 in
set_option maxHeartbeats 4000000 in
theorem kk_X9_takesHurt (l : Launch) (dC : Nat → ClassId) (dI : Nat → Nat → Nat) (cI cZ : ClassId) (a : Nat → Nat) (s0 : tm_St) (hh : Int64) (sz : Nat) (p0 : Int32) (K : Int32 → tm_St → Prop) (hw : wp_X9_takesHurt p0 s0 K) : Met l yX9_takesHurt wsX9_takesHurt ({ frames := 1, cells := 0, slots := 0, locals := 22 }) (va_Pc [.ref (a 0), .int p0] (tm_Pre dC dI cI cZ (tm_wModel cI cZ a s0 hh) sz)) (va_Qi (fun (r : Int32) (u : tm_St) => (r = 0 ∨ r = 1) ∧ K r u) (fun (u : tm_St) t => tm_At dC dI cI cZ (va_A (tm_wModel cI cZ a s0 hh) sz) (tm_wModel cI cZ a u hh) t) (va_A (tm_wModel cI cZ a s0 hh) sz)) 0 0 (va_A (tm_wModel cI cZ a s0 hh) sz) := by
  refine Met.ofW (cc := cX9_takesHurt) (maxL := 4) (ret := (some .boolean)) (by decide +kernel) rfl ?_
  intro p e z m args below meth c z₁ B hml hv
  obtain ⟨rfl, hsz, hP, hK, hD0⟩ := hv
  have hx := B.exec
  have hb := B.bytes
  have hr := B.returns
  have hts := atoms_spec (ws := wsX9_takesHurt) B.pre
  have hown : z.vm.findClass RX9 = some m.cls := findClass_of_methodNamed B.named
  have hlocks := B.notSynchronized
  subst hsz
  have hD := hD0.self (sz := z.heap.size)
  generalize hAe : va_A (tm_wModel cI cZ a s0 hh) z.heap.size = A at hD ⊢
  have hA : ∀ q : Nat, z.heap.size ≤ q → A q := fun q h => by rw [← hAe]; exact Or.inr h
  have hS : va_S A z.heap z.heap [] := va_S.rf
  have h_f79 := hts (.fieldLink RX9 79 "TwoModemsModel" "hurtNow" "I") (by decide +kernel)
  have h_in9 : ∀ w ∈ u_ws RX9 TX9 30, w ∈ wsX9_takesHurt := by decide +kernel
  have h_f76 := hts (.fieldLink RX9 76 "TwoModemsModel" "figures" "I") (by decide +kernel)
  have h_f59 := hts (.fieldLink RX9 59 "TwoModemsModel" "newHurts" "[I") (by decide +kernel)
  have hl := lv_entry ([.ref (a 0), .int p0]) (n := 4) (Nat.le_of_ble_eq_true rfl)
  rw [lg_entry_eq]
  generalize (lg_sl ([.ref (a 0), .int p0]) ++ List.replicate (4 - (lg_sl ([.ref (a 0), .int p0])).length) Slot.unset).toArray = ls at hl ⊢
  have hl : lv_has ls 4 [(0, .ref (a 0)), (1, .int p0)] := hl
  unfold wp_X9_takesHurt at hw
  refine lv_iload_n hx hb dX9_takesHurt_0 rfl (lv_at hl 1 rfl) ?_
  refine lv_bipush (v := 48) hx hb dX9_takesHurt_1 (by decide) ?_
  refine lv_bipush (v := 57) hx hb dX9_takesHurt_3 (by decide) ?_
  have hPc := hP.sub (ws' := ([] : va_W)) [] rfl
  have hDc := hD.sub (ws' := ([] : va_W)) [] (by decide) rfl
  have hFc := va_free (wc := ([] : va_W)) hD hS hA [] rfl
  refine va_calli (va_runS (As := [.int p0, .int 48, .int 57]) (rest := []) ⟨hx, hb, hml, hown, hts⟩ (kk_X9_within l dC dI cI cZ z.heap.size p0 48 57 _ hw) (va_cwS 3 hts gX9_takesHurt_X9_within rfl rfl rfl (by decide +kernel) ⟨Nat.le_of_ble_eq_true rfl, Nat.le_of_ble_eq_true rfl⟩) ⟨tm_blind, fun U hU hW => ⟨rfl, by rw [hU], by rw [hU]; exact hPc, va_K.moved hW.alike hK, hDc.weaken (fun _ _ _ _ => trivial)⟩⟩ rfl rfl hl.1 rfl (lv_room (Nat.le_of_ble_eq_true rfl)) dX9_takesHurt_5 ⟨Nat.zero_le _, Nat.zero_le _⟩) hS (fun q _ h => hFc q h) hFc (fun r1 u t H1 locs ht hvm hw hB hz1 hk1 hS => ?_)
  obtain ⟨hP1, hK1, hD1⟩ := hB
  rw [ht] at hP1
  have b9_r1 := hw.1
  have hw := hw.2
  obtain ⟨hP, hD⟩ := va_join (wr := (tm_wModel cI cZ a s0 hh)) (w1 := ([] : va_W)) hP hD [] [0, 1, 2, 3, 4, 5, 6, 7, 8, 9, 10, 11, 12, 13, 14, 15, 16, 17] rfl rfl (by decide) (by decide) hk1 hFc hP1 hD1
  rw [List.append_nil] at hP hD
  generalize H1 = H at hP hS ⊢
  refine lv_if_eq (tgt := 102) hx hb dX9_takesHurt_8 (by decide) (fun c3 => ?_) (fun c3 => ?_)
  · have hw := hw.1 c3
    refine lv_iload_n hx hb dX9_takesHurt_102 rfl (lv_at hl 1 rfl) ?_
    refine lv_bipush (v := 44) hx hb dX9_takesHurt_103 (by decide) ?_
    refine lv_icmp_ne (tgt := 127) hx hb dX9_takesHurt_105 (by decide) (fun c4 => ?_) (fun c4 => ?_)
    · have hw := hw.1 c4
      refine lv_iconst (v := 0) hx hb dX9_takesHurt_127 (by decide) ?_
      refine lv_istore_n (lv' := [(2, .int 0), (0, .ref (a 0)), (1, .int p0)]) hx hb dX9_takesHurt_128 rfl hl (by decide) rfl (fun ls hl => ?_)
      refine lv_aload_n hx hb dX9_takesHurt_129 rfl (lv_at hl 1 rfl) ?_
      refine lv_iload_n hx hb dX9_takesHurt_130 rfl (lv_at hl 0 rfl) ?_
      refine lv_if_eq (tgt := 138) hx hb dX9_takesHurt_131 (by decide) (fun _ => ?_) (fun c9 => absurd (by decide) c9)
      refine lv_aload_n hx hb dX9_takesHurt_138 rfl (lv_at hl 1 rfl) ?_
      refine va_get (D := (dC, dI)) (ci := 7) (v := .int (s0 0 23)) (C := RX9) (T := TX9) (N := 30) hx hb hts h_in9 hown hK hP 0 rfl rfl 23 (by decide) h_f79 (fun _ h9 => h9) rfl dX9_takesHurt_139 ?_
      refine va_put (D := (dC, dI)) (ci := 7) (v := .int (s0 0 23)) (ty := .int) (C := RX9) (T := TX9) (N := 30) hx hb hts h_in9 tyX9 tyX9_ok nmX9 hown hK hP hD hS 0 rfl rfl 23 (by decide) h_f79 (fun _ h9 => h9) rfl (by decide +kernel) rfl rfl (Nat.le_of_ble_eq_true rfl) dX9_takesHurt_142 (fun H locs hP hD hS => ?_)
      obtain ⟨s5, es5⟩ : ∃ y : tm_St, y = tm_s s0 0 (tm_u (s0 0) 23 (s0 0 23)) := ⟨_, rfl⟩
      have hw := hw s5 es5
      have hP : va_P (dC, dI) vwCl (tm_wModel cI cZ a s5 hh) H := by rw [es5]; exact hP
      have hD : va_D A (tm_wModel cI cZ a s5 hh) := by rw [es5]; exact hD
      refine lv_aload_n hx hb dX9_takesHurt_145 rfl (lv_at hl 1 rfl) ?_
      refine lv_iload_n hx hb dX9_takesHurt_146 rfl (lv_at hl 0 rfl) ?_
      refine lv_if_eq (tgt := 154) hx hb dX9_takesHurt_147 (by decide) (fun _ => ?_) (fun c9 => absurd (by decide) c9)
      refine lv_aload_n hx hb dX9_takesHurt_154 rfl (lv_at hl 1 rfl) ?_
      refine va_get (D := (dC, dI)) (ci := 7) (v := .int (s5 0 24)) (C := RX9) (T := TX9) (N := 30) hx hb hts h_in9 hown hK hP 0 rfl rfl 24 (by decide) h_f76 (fun _ h9 => h9) rfl dX9_takesHurt_155 ?_
      refine va_put (D := (dC, dI)) (ci := 7) (v := .int (s5 0 24)) (ty := .int) (C := RX9) (T := TX9) (N := 30) hx hb hts h_in9 tyX9 tyX9_ok nmX9 hown hK hP hD hS 0 rfl rfl 24 (by decide) h_f76 (fun _ h9 => h9) rfl (by decide +kernel) rfl rfl (Nat.le_of_ble_eq_true rfl) dX9_takesHurt_158 (fun H locs hP hD hS => ?_)
      obtain ⟨s6, es6⟩ : ∃ y : tm_St, y = tm_s s5 0 (tm_u (s5 0) 24 (s5 0 24)) := ⟨_, rfl⟩
      have hw := hw s6 es6
      have hP : va_P (dC, dI) vwCl (tm_wModel cI cZ a s6 hh) H := by rw [es6]; exact hP
      have hD : va_D A (tm_wModel cI cZ a s6 hh) := by rw [es6]; exact hD
      refine lv_iload_n hx hb dX9_takesHurt_161 rfl (lv_at hl 0 rfl) ?_
      exact W.zret (v := 0) hx hb hr (tm_bool (by decide)) (fun t ht hW => ⟨⟨0, s6, rfl, ⟨(by decide), hw⟩, by rw [ht]; exact hP, va_K.moved hW.alike hK, hD⟩, hS.F ht⟩) hS.2.2 dX9_takesHurt_162
    · have hw := hw.2 c4
      refine lv_aload_n hx hb dX9_takesHurt_108 rfl (lv_at hl 0 rfl) ?_
      refine va_get (D := (dC, dI)) (ci := 7) (v := .int (s0 0 23)) (C := RX9) (T := TX9) (N := 30) hx hb hts h_in9 hown hK hP 0 rfl rfl 23 (by decide) h_f79 (fun _ h9 => h9) rfl dX9_takesHurt_109 ?_
      refine lv_if_ne (tgt := 127) hx hb dX9_takesHurt_112 (by decide) (fun c7 => ?_) (fun c7 => ?_)
      · have hw := hw.1 c7
        refine lv_iconst (v := 0) hx hb dX9_takesHurt_127 (by decide) ?_
        refine lv_istore_n (lv' := [(2, .int 0), (0, .ref (a 0)), (1, .int p0)]) hx hb dX9_takesHurt_128 rfl hl (by decide) rfl (fun ls hl => ?_)
        refine lv_aload_n hx hb dX9_takesHurt_129 rfl (lv_at hl 1 rfl) ?_
        refine lv_iload_n hx hb dX9_takesHurt_130 rfl (lv_at hl 0 rfl) ?_
        refine lv_if_eq (tgt := 138) hx hb dX9_takesHurt_131 (by decide) (fun _ => ?_) (fun c9 => absurd (by decide) c9)
        refine lv_aload_n hx hb dX9_takesHurt_138 rfl (lv_at hl 1 rfl) ?_
        refine va_get (D := (dC, dI)) (ci := 7) (v := .int (s0 0 23)) (C := RX9) (T := TX9) (N := 30) hx hb hts h_in9 hown hK hP 0 rfl rfl 23 (by decide) h_f79 (fun _ h9 => h9) rfl dX9_takesHurt_139 ?_
        refine va_put (D := (dC, dI)) (ci := 7) (v := .int (s0 0 23)) (ty := .int) (C := RX9) (T := TX9) (N := 30) hx hb hts h_in9 tyX9 tyX9_ok nmX9 hown hK hP hD hS 0 rfl rfl 23 (by decide) h_f79 (fun _ h9 => h9) rfl (by decide +kernel) rfl rfl (Nat.le_of_ble_eq_true rfl) dX9_takesHurt_142 (fun H locs hP hD hS => ?_)
        obtain ⟨s8, es8⟩ : ∃ y : tm_St, y = tm_s s0 0 (tm_u (s0 0) 23 (s0 0 23)) := ⟨_, rfl⟩
        have hw := hw s8 es8
        have hP : va_P (dC, dI) vwCl (tm_wModel cI cZ a s8 hh) H := by rw [es8]; exact hP
        have hD : va_D A (tm_wModel cI cZ a s8 hh) := by rw [es8]; exact hD
        refine lv_aload_n hx hb dX9_takesHurt_145 rfl (lv_at hl 1 rfl) ?_
        refine lv_iload_n hx hb dX9_takesHurt_146 rfl (lv_at hl 0 rfl) ?_
        refine lv_if_eq (tgt := 154) hx hb dX9_takesHurt_147 (by decide) (fun _ => ?_) (fun c9 => absurd (by decide) c9)
        refine lv_aload_n hx hb dX9_takesHurt_154 rfl (lv_at hl 1 rfl) ?_
        refine va_get (D := (dC, dI)) (ci := 7) (v := .int (s8 0 24)) (C := RX9) (T := TX9) (N := 30) hx hb hts h_in9 hown hK hP 0 rfl rfl 24 (by decide) h_f76 (fun _ h9 => h9) rfl dX9_takesHurt_155 ?_
        refine va_put (D := (dC, dI)) (ci := 7) (v := .int (s8 0 24)) (ty := .int) (C := RX9) (T := TX9) (N := 30) hx hb hts h_in9 tyX9 tyX9_ok nmX9 hown hK hP hD hS 0 rfl rfl 24 (by decide) h_f76 (fun _ h9 => h9) rfl (by decide +kernel) rfl rfl (Nat.le_of_ble_eq_true rfl) dX9_takesHurt_158 (fun H locs hP hD hS => ?_)
        obtain ⟨s9, es9⟩ : ∃ y : tm_St, y = tm_s s8 0 (tm_u (s8 0) 24 (s8 0 24)) := ⟨_, rfl⟩
        have hw := hw s9 es9
        have hP : va_P (dC, dI) vwCl (tm_wModel cI cZ a s9 hh) H := by rw [es9]; exact hP
        have hD : va_D A (tm_wModel cI cZ a s9 hh) := by rw [es9]; exact hD
        refine lv_iload_n hx hb dX9_takesHurt_161 rfl (lv_at hl 0 rfl) ?_
        exact W.zret (v := 0) hx hb hr (tm_bool (by decide)) (fun t ht hW => ⟨⟨0, s9, rfl, ⟨(by decide), hw⟩, by rw [ht]; exact hP, va_K.moved hW.alike hK, hD⟩, hS.F ht⟩) hS.2.2 dX9_takesHurt_162
      · have hw := hw.2 c7
        refine lv_aload_n hx hb dX9_takesHurt_115 rfl (lv_at hl 0 rfl) ?_
        refine va_get (D := (dC, dI)) (ci := 7) (v := .int (s0 0 24)) (C := RX9) (T := TX9) (N := 30) hx hb hts h_in9 hown hK hP 0 rfl rfl 24 (by decide) h_f76 (fun _ h9 => h9) rfl dX9_takesHurt_116 ?_
        refine lv_iconst (v := (-1)) hx hb dX9_takesHurt_119 (by decide) ?_
        refine lv_icmp_eq (tgt := 127) hx hb dX9_takesHurt_120 (by decide) (fun c10 => ?_) (fun c10 => ?_)
        · have hw := hw.1 c10
          refine lv_iconst (v := 0) hx hb dX9_takesHurt_127 (by decide) ?_
          refine lv_istore_n (lv' := [(2, .int 0), (0, .ref (a 0)), (1, .int p0)]) hx hb dX9_takesHurt_128 rfl hl (by decide) rfl (fun ls hl => ?_)
          refine lv_aload_n hx hb dX9_takesHurt_129 rfl (lv_at hl 1 rfl) ?_
          refine lv_iload_n hx hb dX9_takesHurt_130 rfl (lv_at hl 0 rfl) ?_
          refine lv_if_eq (tgt := 138) hx hb dX9_takesHurt_131 (by decide) (fun _ => ?_) (fun c9 => absurd (by decide) c9)
          refine lv_aload_n hx hb dX9_takesHurt_138 rfl (lv_at hl 1 rfl) ?_
          refine va_get (D := (dC, dI)) (ci := 7) (v := .int (s0 0 23)) (C := RX9) (T := TX9) (N := 30) hx hb hts h_in9 hown hK hP 0 rfl rfl 23 (by decide) h_f79 (fun _ h9 => h9) rfl dX9_takesHurt_139 ?_
          refine va_put (D := (dC, dI)) (ci := 7) (v := .int (s0 0 23)) (ty := .int) (C := RX9) (T := TX9) (N := 30) hx hb hts h_in9 tyX9 tyX9_ok nmX9 hown hK hP hD hS 0 rfl rfl 23 (by decide) h_f79 (fun _ h9 => h9) rfl (by decide +kernel) rfl rfl (Nat.le_of_ble_eq_true rfl) dX9_takesHurt_142 (fun H locs hP hD hS => ?_)
          obtain ⟨s11, es11⟩ : ∃ y : tm_St, y = tm_s s0 0 (tm_u (s0 0) 23 (s0 0 23)) := ⟨_, rfl⟩
          have hw := hw s11 es11
          have hP : va_P (dC, dI) vwCl (tm_wModel cI cZ a s11 hh) H := by rw [es11]; exact hP
          have hD : va_D A (tm_wModel cI cZ a s11 hh) := by rw [es11]; exact hD
          refine lv_aload_n hx hb dX9_takesHurt_145 rfl (lv_at hl 1 rfl) ?_
          refine lv_iload_n hx hb dX9_takesHurt_146 rfl (lv_at hl 0 rfl) ?_
          refine lv_if_eq (tgt := 154) hx hb dX9_takesHurt_147 (by decide) (fun _ => ?_) (fun c9 => absurd (by decide) c9)
          refine lv_aload_n hx hb dX9_takesHurt_154 rfl (lv_at hl 1 rfl) ?_
          refine va_get (D := (dC, dI)) (ci := 7) (v := .int (s11 0 24)) (C := RX9) (T := TX9) (N := 30) hx hb hts h_in9 hown hK hP 0 rfl rfl 24 (by decide) h_f76 (fun _ h9 => h9) rfl dX9_takesHurt_155 ?_
          refine va_put (D := (dC, dI)) (ci := 7) (v := .int (s11 0 24)) (ty := .int) (C := RX9) (T := TX9) (N := 30) hx hb hts h_in9 tyX9 tyX9_ok nmX9 hown hK hP hD hS 0 rfl rfl 24 (by decide) h_f76 (fun _ h9 => h9) rfl (by decide +kernel) rfl rfl (Nat.le_of_ble_eq_true rfl) dX9_takesHurt_158 (fun H locs hP hD hS => ?_)
          obtain ⟨s12, es12⟩ : ∃ y : tm_St, y = tm_s s11 0 (tm_u (s11 0) 24 (s11 0 24)) := ⟨_, rfl⟩
          have hw := hw s12 es12
          have hP : va_P (dC, dI) vwCl (tm_wModel cI cZ a s12 hh) H := by rw [es12]; exact hP
          have hD : va_D A (tm_wModel cI cZ a s12 hh) := by rw [es12]; exact hD
          refine lv_iload_n hx hb dX9_takesHurt_161 rfl (lv_at hl 0 rfl) ?_
          exact W.zret (v := 0) hx hb hr (tm_bool (by decide)) (fun t ht hW => ⟨⟨0, s12, rfl, ⟨(by decide), hw⟩, by rw [ht]; exact hP, va_K.moved hW.alike hK, hD⟩, hS.F ht⟩) hS.2.2 dX9_takesHurt_162
        · have hw := hw.2 c10
          refine lv_iconst (v := 1) hx hb dX9_takesHurt_123 (by decide) ?_
          refine lv_goto (tgt := 128) hx hb dX9_takesHurt_124 (by decide) ?_
          refine lv_istore_n (lv' := [(2, .int 1), (0, .ref (a 0)), (1, .int p0)]) hx hb dX9_takesHurt_128 rfl hl (by decide) rfl (fun ls hl => ?_)
          refine lv_aload_n hx hb dX9_takesHurt_129 rfl (lv_at hl 1 rfl) ?_
          refine lv_iload_n hx hb dX9_takesHurt_130 rfl (lv_at hl 0 rfl) ?_
          refine lv_if_eq (tgt := 138) hx hb dX9_takesHurt_131 (by decide) (fun c9 => absurd c9 (by decide)) (fun _ => ?_)
          refine lv_iconst (v := 1) hx hb dX9_takesHurt_134 (by decide) ?_
          refine lv_goto (tgt := 142) hx hb dX9_takesHurt_135 (by decide) ?_
          refine va_put (D := (dC, dI)) (ci := 7) (v := .int 1) (ty := .int) (C := RX9) (T := TX9) (N := 30) hx hb hts h_in9 tyX9 tyX9_ok nmX9 hown hK hP hD hS 0 rfl rfl 23 (by decide) h_f79 (fun _ h9 => h9) rfl (by decide +kernel) rfl rfl (Nat.le_of_ble_eq_true rfl) dX9_takesHurt_142 (fun H locs hP hD hS => ?_)
          obtain ⟨s13, es13⟩ : ∃ y : tm_St, y = tm_s s0 0 (tm_u (s0 0) 23 1) := ⟨_, rfl⟩
          have hw := hw s13 es13
          have hP : va_P (dC, dI) vwCl (tm_wModel cI cZ a s13 hh) H := by rw [es13]; exact hP
          have hD : va_D A (tm_wModel cI cZ a s13 hh) := by rw [es13]; exact hD
          refine lv_aload_n hx hb dX9_takesHurt_145 rfl (lv_at hl 1 rfl) ?_
          refine lv_iload_n hx hb dX9_takesHurt_146 rfl (lv_at hl 0 rfl) ?_
          refine lv_if_eq (tgt := 154) hx hb dX9_takesHurt_147 (by decide) (fun c9 => absurd c9 (by decide)) (fun _ => ?_)
          refine lv_iconst (v := (-1)) hx hb dX9_takesHurt_150 (by decide) ?_
          refine lv_goto (tgt := 158) hx hb dX9_takesHurt_151 (by decide) ?_
          refine va_put (D := (dC, dI)) (ci := 7) (v := .int (-1)) (ty := .int) (C := RX9) (T := TX9) (N := 30) hx hb hts h_in9 tyX9 tyX9_ok nmX9 hown hK hP hD hS 0 rfl rfl 24 (by decide) h_f76 (fun _ h9 => h9) rfl (by decide +kernel) rfl rfl (Nat.le_of_ble_eq_true rfl) dX9_takesHurt_158 (fun H locs hP hD hS => ?_)
          obtain ⟨s14, es14⟩ : ∃ y : tm_St, y = tm_s s13 0 (tm_u (s13 0) 24 (-1)) := ⟨_, rfl⟩
          have hw := hw s14 es14
          have hP : va_P (dC, dI) vwCl (tm_wModel cI cZ a s14 hh) H := by rw [es14]; exact hP
          have hD : va_D A (tm_wModel cI cZ a s14 hh) := by rw [es14]; exact hD
          refine lv_iload_n hx hb dX9_takesHurt_161 rfl (lv_at hl 0 rfl) ?_
          exact W.zret (v := 1) hx hb hr (tm_bool (by decide)) (fun t ht hW => ⟨⟨1, s14, rfl, ⟨(by decide), hw⟩, by rw [ht]; exact hP, va_K.moved hW.alike hK, hD⟩, hS.F ht⟩) hS.2.2 dX9_takesHurt_162
  · have hw := hw.2 c3
    refine lv_aload_n hx hb dX9_takesHurt_11 rfl (lv_at hl 0 rfl) ?_
    refine va_get (D := (dC, dI)) (ci := 7) (v := .int (s0 0 24)) (C := RX9) (T := TX9) (N := 30) hx hb hts h_in9 hown hK hP 0 rfl rfl 24 (by decide) h_f76 (fun _ h9 => h9) rfl dX9_takesHurt_12 ?_
    refine lv_iconst (v := (-1)) hx hb dX9_takesHurt_15 (by decide) ?_
    refine lv_icmp_ne (tgt := 26) hx hb dX9_takesHurt_16 (by decide) (fun c15 => ?_) (fun c15 => ?_)
    · have hw := hw.1 c15
      refine lv_bipush (v := 10) hx hb dX9_takesHurt_26 (by decide) ?_
      refine lv_aload_n hx hb dX9_takesHurt_28 rfl (lv_at hl 0 rfl) ?_
      refine va_get (D := (dC, dI)) (ci := 7) (v := .int (s0 0 24)) (C := RX9) (T := TX9) (N := 30) hx hb hts h_in9 hown hK hP 0 rfl rfl 24 (by decide) h_f76 (fun _ h9 => h9) rfl dX9_takesHurt_29 ?_
      refine lv_imul hx hb dX9_takesHurt_32 ?_
      refine lv_iload_n hx hb dX9_takesHurt_33 rfl (lv_at hl 1 rfl) ?_
      refine lv_iadd hx hb dX9_takesHurt_34 ?_
      refine lv_bipush (v := 48) hx hb dX9_takesHurt_35 (by decide) ?_
      refine lv_isub hx hb dX9_takesHurt_37 ?_
      refine lv_topi (fun x16 ex16 => ?_)
      have hw := hw x16 ex16
      refine lv_istore_n (lv' := [(2, .int x16), (0, .ref (a 0)), (1, .int p0)]) hx hb dX9_takesHurt_38 rfl hl (by decide) rfl (fun ls hl => ?_)
      refine lv_aload_n hx hb dX9_takesHurt_39 rfl (lv_at hl 1 rfl) ?_
      refine va_get (D := (dC, dI)) (ci := 7) (v := .int (s0 0 24)) (C := RX9) (T := TX9) (N := 30) hx hb hts h_in9 hown hK hP 0 rfl rfl 24 (by decide) h_f76 (fun _ h9 => h9) rfl dX9_takesHurt_40 ?_
      refine lv_if_eq (tgt := 56) hx hb dX9_takesHurt_43 (by decide) (fun c17 => ?_) (fun c17 => ?_)
      · have hw := hw.1 c17
        refine lv_iconst (v := 0) hx hb dX9_takesHurt_56 (by decide) ?_
        refine lv_istore_n (lv' := [(3, .int 0), (2, .int x16), (0, .ref (a 0)), (1, .int p0)]) hx hb dX9_takesHurt_57 rfl hl (by decide) rfl (fun ls hl => ?_)
        refine lv_aload_n hx hb dX9_takesHurt_58 rfl (lv_at hl 2 rfl) ?_
        refine lv_iload_n hx hb dX9_takesHurt_59 rfl (lv_at hl 0 rfl) ?_
        refine lv_if_eq (tgt := 67) hx hb dX9_takesHurt_60 (by decide) (fun _ => ?_) (fun c9 => absurd (by decide) c9)
        refine lv_aload_n hx hb dX9_takesHurt_67 rfl (lv_at hl 2 rfl) ?_
        refine va_get (D := (dC, dI)) (ci := 7) (v := .int (s0 0 24)) (C := RX9) (T := TX9) (N := 30) hx hb hts h_in9 hown hK hP 0 rfl rfl 24 (by decide) h_f76 (fun _ h9 => h9) rfl dX9_takesHurt_68 ?_
        refine va_put (D := (dC, dI)) (ci := 7) (v := .int (s0 0 24)) (ty := .int) (C := RX9) (T := TX9) (N := 30) hx hb hts h_in9 tyX9 tyX9_ok nmX9 hown hK hP hD hS 0 rfl rfl 24 (by decide) h_f76 (fun _ h9 => h9) rfl (by decide +kernel) rfl rfl (Nat.le_of_ble_eq_true rfl) dX9_takesHurt_71 (fun H locs hP hD hS => ?_)
        obtain ⟨s18, es18⟩ : ∃ y : tm_St, y = tm_s s0 0 (tm_u (s0 0) 24 (s0 0 24)) := ⟨_, rfl⟩
        have hw := hw s18 es18
        have hP : va_P (dC, dI) vwCl (tm_wModel cI cZ a s18 hh) H := by rw [es18]; exact hP
        have hD : va_D A (tm_wModel cI cZ a s18 hh) := by rw [es18]; exact hD
        refine lv_aload_n hx hb dX9_takesHurt_74 rfl (lv_at hl 2 rfl) ?_
        refine va_get (D := (dC, dI)) (ci := 7) (v := .ref (a 16)) (C := RX9) (T := TX9) (N := 30) hx hb hts h_in9 hown hK hP 0 rfl rfl 22 (by decide) h_f59 (fun _ h9 => h9) rfl dX9_takesHurt_75 ?_
        refine lv_aload_n hx hb dX9_takesHurt_78 rfl (lv_at hl 2 rfl) ?_
        refine va_get (D := (dC, dI)) (ci := 7) (v := .int (s18 0 23)) (C := RX9) (T := TX9) (N := 30) hx hb hts h_in9 hown hK hP 0 rfl rfl 23 (by decide) h_f79 (fun _ h9 => h9) rfl dX9_takesHurt_79 ?_
        refine lv_iload_n hx hb dX9_takesHurt_82 rfl (lv_at hl 0 rfl) ?_
        refine lv_if_eq (tgt := 90) hx hb dX9_takesHurt_83 (by decide) (fun _ => ?_) (fun c9 => absurd (by decide) c9)
        refine lv_aload_n hx hb dX9_takesHurt_90 rfl (lv_at hl 2 rfl) ?_
        refine va_get (D := (dC, dI)) (ci := 7) (v := .ref (a 16)) (C := RX9) (T := TX9) (N := 30) hx hb hts h_in9 hown hK hP 0 rfl rfl 22 (by decide) h_f59 (fun _ h9 => h9) rfl dX9_takesHurt_91 ?_
        refine lv_aload_n hx hb dX9_takesHurt_94 rfl (lv_at hl 2 rfl) ?_
        refine va_get (D := (dC, dI)) (ci := 7) (v := .int (s18 0 23)) (C := RX9) (T := TX9) (N := 30) hx hb hts h_in9 hown hK hP 0 rfl rfl 23 (by decide) h_f79 (fun _ h9 => h9) rfl dX9_takesHurt_95 ?_
        have c19 := hw.1
        have hw := hw.2
        refine va_iald hx hb hK hP 16 0 rfl rfl c19 dX9_takesHurt_98 ?_
        have c20 := hw.1
        have hw := hw.2
        refine va_iast hx hb hK hP hD hS 16 0 rfl rfl c20 dX9_takesHurt_99 (fun H locs hP hD hS => ?_)
        obtain ⟨s21, es21⟩ : ∃ y : tm_St, y = tm_s s18 16 (upd (s18 16) ((s18 0 23) : Int32).toNatClampNeg (s18 16 ((s18 0 23) : Int32).toNatClampNeg)) := ⟨_, rfl⟩
        have hw := hw s21 es21
        have hP : va_P (dC, dI) vwCl (tm_wModel cI cZ a s21 hh) H := by rw [es21]; exact hP
        have hD : va_D A (tm_wModel cI cZ a s21 hh) := by rw [es21]; exact hD
        refine lv_iload_n hx hb dX9_takesHurt_100 rfl (lv_at hl 0 rfl) ?_
        exact W.zret (v := 0) hx hb hr (tm_bool (by decide)) (fun t ht hW => ⟨⟨0, s21, rfl, ⟨(by decide), hw⟩, by rw [ht]; exact hP, va_K.moved hW.alike hK, hD⟩, hS.F ht⟩) hS.2.2 dX9_takesHurt_101
      · have hw := hw.2 c17
        refine lv_iload_n hx hb dX9_takesHurt_46 rfl (lv_at hl 0 rfl) ?_
        refine lv_bipush (v := 50) hx hb dX9_takesHurt_47 (by decide) ?_
        refine lv_icmp_gt (tgt := 56) hx hb dX9_takesHurt_49 (by decide) (fun c22 => ?_) (fun c22 => ?_)
        · have hw := hw.1 c22
          refine lv_iconst (v := 0) hx hb dX9_takesHurt_56 (by decide) ?_
          refine lv_istore_n (lv' := [(3, .int 0), (2, .int x16), (0, .ref (a 0)), (1, .int p0)]) hx hb dX9_takesHurt_57 rfl hl (by decide) rfl (fun ls hl => ?_)
          refine lv_aload_n hx hb dX9_takesHurt_58 rfl (lv_at hl 2 rfl) ?_
          refine lv_iload_n hx hb dX9_takesHurt_59 rfl (lv_at hl 0 rfl) ?_
          refine lv_if_eq (tgt := 67) hx hb dX9_takesHurt_60 (by decide) (fun _ => ?_) (fun c9 => absurd (by decide) c9)
          refine lv_aload_n hx hb dX9_takesHurt_67 rfl (lv_at hl 2 rfl) ?_
          refine va_get (D := (dC, dI)) (ci := 7) (v := .int (s0 0 24)) (C := RX9) (T := TX9) (N := 30) hx hb hts h_in9 hown hK hP 0 rfl rfl 24 (by decide) h_f76 (fun _ h9 => h9) rfl dX9_takesHurt_68 ?_
          refine va_put (D := (dC, dI)) (ci := 7) (v := .int (s0 0 24)) (ty := .int) (C := RX9) (T := TX9) (N := 30) hx hb hts h_in9 tyX9 tyX9_ok nmX9 hown hK hP hD hS 0 rfl rfl 24 (by decide) h_f76 (fun _ h9 => h9) rfl (by decide +kernel) rfl rfl (Nat.le_of_ble_eq_true rfl) dX9_takesHurt_71 (fun H locs hP hD hS => ?_)
          obtain ⟨s23, es23⟩ : ∃ y : tm_St, y = tm_s s0 0 (tm_u (s0 0) 24 (s0 0 24)) := ⟨_, rfl⟩
          have hw := hw s23 es23
          have hP : va_P (dC, dI) vwCl (tm_wModel cI cZ a s23 hh) H := by rw [es23]; exact hP
          have hD : va_D A (tm_wModel cI cZ a s23 hh) := by rw [es23]; exact hD
          refine lv_aload_n hx hb dX9_takesHurt_74 rfl (lv_at hl 2 rfl) ?_
          refine va_get (D := (dC, dI)) (ci := 7) (v := .ref (a 16)) (C := RX9) (T := TX9) (N := 30) hx hb hts h_in9 hown hK hP 0 rfl rfl 22 (by decide) h_f59 (fun _ h9 => h9) rfl dX9_takesHurt_75 ?_
          refine lv_aload_n hx hb dX9_takesHurt_78 rfl (lv_at hl 2 rfl) ?_
          refine va_get (D := (dC, dI)) (ci := 7) (v := .int (s23 0 23)) (C := RX9) (T := TX9) (N := 30) hx hb hts h_in9 hown hK hP 0 rfl rfl 23 (by decide) h_f79 (fun _ h9 => h9) rfl dX9_takesHurt_79 ?_
          refine lv_iload_n hx hb dX9_takesHurt_82 rfl (lv_at hl 0 rfl) ?_
          refine lv_if_eq (tgt := 90) hx hb dX9_takesHurt_83 (by decide) (fun _ => ?_) (fun c9 => absurd (by decide) c9)
          refine lv_aload_n hx hb dX9_takesHurt_90 rfl (lv_at hl 2 rfl) ?_
          refine va_get (D := (dC, dI)) (ci := 7) (v := .ref (a 16)) (C := RX9) (T := TX9) (N := 30) hx hb hts h_in9 hown hK hP 0 rfl rfl 22 (by decide) h_f59 (fun _ h9 => h9) rfl dX9_takesHurt_91 ?_
          refine lv_aload_n hx hb dX9_takesHurt_94 rfl (lv_at hl 2 rfl) ?_
          refine va_get (D := (dC, dI)) (ci := 7) (v := .int (s23 0 23)) (C := RX9) (T := TX9) (N := 30) hx hb hts h_in9 hown hK hP 0 rfl rfl 23 (by decide) h_f79 (fun _ h9 => h9) rfl dX9_takesHurt_95 ?_
          have c24 := hw.1
          have hw := hw.2
          refine va_iald hx hb hK hP 16 0 rfl rfl c24 dX9_takesHurt_98 ?_
          have c25 := hw.1
          have hw := hw.2
          refine va_iast hx hb hK hP hD hS 16 0 rfl rfl c25 dX9_takesHurt_99 (fun H locs hP hD hS => ?_)
          obtain ⟨s26, es26⟩ : ∃ y : tm_St, y = tm_s s23 16 (upd (s23 16) ((s23 0 23) : Int32).toNatClampNeg (s23 16 ((s23 0 23) : Int32).toNatClampNeg)) := ⟨_, rfl⟩
          have hw := hw s26 es26
          have hP : va_P (dC, dI) vwCl (tm_wModel cI cZ a s26 hh) H := by rw [es26]; exact hP
          have hD : va_D A (tm_wModel cI cZ a s26 hh) := by rw [es26]; exact hD
          refine lv_iload_n hx hb dX9_takesHurt_100 rfl (lv_at hl 0 rfl) ?_
          exact W.zret (v := 0) hx hb hr (tm_bool (by decide)) (fun t ht hW => ⟨⟨0, s26, rfl, ⟨(by decide), hw⟩, by rw [ht]; exact hP, va_K.moved hW.alike hK, hD⟩, hS.F ht⟩) hS.2.2 dX9_takesHurt_101
        · have hw := hw.2 c22
          refine lv_iconst (v := 1) hx hb dX9_takesHurt_52 (by decide) ?_
          refine lv_goto (tgt := 57) hx hb dX9_takesHurt_53 (by decide) ?_
          refine lv_istore_n (lv' := [(3, .int 1), (2, .int x16), (0, .ref (a 0)), (1, .int p0)]) hx hb dX9_takesHurt_57 rfl hl (by decide) rfl (fun ls hl => ?_)
          refine lv_aload_n hx hb dX9_takesHurt_58 rfl (lv_at hl 2 rfl) ?_
          refine lv_iload_n hx hb dX9_takesHurt_59 rfl (lv_at hl 0 rfl) ?_
          refine lv_if_eq (tgt := 67) hx hb dX9_takesHurt_60 (by decide) (fun c9 => absurd c9 (by decide)) (fun _ => ?_)
          refine lv_iload_n hx hb dX9_takesHurt_63 rfl (lv_at hl 1 rfl) ?_
          refine lv_goto (tgt := 71) hx hb dX9_takesHurt_64 (by decide) ?_
          refine va_put (D := (dC, dI)) (ci := 7) (v := .int x16) (ty := .int) (C := RX9) (T := TX9) (N := 30) hx hb hts h_in9 tyX9 tyX9_ok nmX9 hown hK hP hD hS 0 rfl rfl 24 (by decide) h_f76 (fun _ h9 => h9) rfl (by decide +kernel) rfl rfl (Nat.le_of_ble_eq_true rfl) dX9_takesHurt_71 (fun H locs hP hD hS => ?_)
          obtain ⟨s27, es27⟩ : ∃ y : tm_St, y = tm_s s0 0 (tm_u (s0 0) 24 x16) := ⟨_, rfl⟩
          have hw := hw s27 es27
          have hP : va_P (dC, dI) vwCl (tm_wModel cI cZ a s27 hh) H := by rw [es27]; exact hP
          have hD : va_D A (tm_wModel cI cZ a s27 hh) := by rw [es27]; exact hD
          refine lv_aload_n hx hb dX9_takesHurt_74 rfl (lv_at hl 2 rfl) ?_
          refine va_get (D := (dC, dI)) (ci := 7) (v := .ref (a 16)) (C := RX9) (T := TX9) (N := 30) hx hb hts h_in9 hown hK hP 0 rfl rfl 22 (by decide) h_f59 (fun _ h9 => h9) rfl dX9_takesHurt_75 ?_
          refine lv_aload_n hx hb dX9_takesHurt_78 rfl (lv_at hl 2 rfl) ?_
          refine va_get (D := (dC, dI)) (ci := 7) (v := .int (s27 0 23)) (C := RX9) (T := TX9) (N := 30) hx hb hts h_in9 hown hK hP 0 rfl rfl 23 (by decide) h_f79 (fun _ h9 => h9) rfl dX9_takesHurt_79 ?_
          refine lv_iload_n hx hb dX9_takesHurt_82 rfl (lv_at hl 0 rfl) ?_
          refine lv_if_eq (tgt := 90) hx hb dX9_takesHurt_83 (by decide) (fun c9 => absurd c9 (by decide)) (fun _ => ?_)
          refine lv_iload_n hx hb dX9_takesHurt_86 rfl (lv_at hl 1 rfl) ?_
          refine lv_goto (tgt := 99) hx hb dX9_takesHurt_87 (by decide) ?_
          have c28 := hw.1
          have hw := hw.2
          refine va_iast hx hb hK hP hD hS 16 0 rfl rfl c28 dX9_takesHurt_99 (fun H locs hP hD hS => ?_)
          obtain ⟨s29, es29⟩ : ∃ y : tm_St, y = tm_s s27 16 (upd (s27 16) ((s27 0 23) : Int32).toNatClampNeg x16) := ⟨_, rfl⟩
          have hw := hw s29 es29
          have hP : va_P (dC, dI) vwCl (tm_wModel cI cZ a s29 hh) H := by rw [es29]; exact hP
          have hD : va_D A (tm_wModel cI cZ a s29 hh) := by rw [es29]; exact hD
          refine lv_iload_n hx hb dX9_takesHurt_100 rfl (lv_at hl 0 rfl) ?_
          exact W.zret (v := 1) hx hb hr (tm_bool (by decide)) (fun t ht hW => ⟨⟨1, s29, rfl, ⟨(by decide), hw⟩, by rw [ht]; exact hP, va_K.moved hW.alike hK, hD⟩, hS.F ht⟩) hS.2.2 dX9_takesHurt_101
    · have hw := hw.2 c15
      refine lv_iload_n hx hb dX9_takesHurt_19 rfl (lv_at hl 1 rfl) ?_
      refine lv_bipush (v := 48) hx hb dX9_takesHurt_20 (by decide) ?_
      refine lv_isub hx hb dX9_takesHurt_22 ?_
      refine lv_goto (tgt := 38) hx hb dX9_takesHurt_23 (by decide) ?_
      refine lv_topi (fun x30 ex30 => ?_)
      have hw := hw x30 ex30
      refine lv_istore_n (lv' := [(2, .int x30), (0, .ref (a 0)), (1, .int p0)]) hx hb dX9_takesHurt_38 rfl hl (by decide) rfl (fun ls hl => ?_)
      refine lv_aload_n hx hb dX9_takesHurt_39 rfl (lv_at hl 1 rfl) ?_
      refine va_get (D := (dC, dI)) (ci := 7) (v := .int (s0 0 24)) (C := RX9) (T := TX9) (N := 30) hx hb hts h_in9 hown hK hP 0 rfl rfl 24 (by decide) h_f76 (fun _ h9 => h9) rfl dX9_takesHurt_40 ?_
      refine lv_if_eq (tgt := 56) hx hb dX9_takesHurt_43 (by decide) (fun c31 => ?_) (fun c31 => ?_)
      · have hw := hw.1 c31
        refine lv_iconst (v := 0) hx hb dX9_takesHurt_56 (by decide) ?_
        refine lv_istore_n (lv' := [(3, .int 0), (2, .int x30), (0, .ref (a 0)), (1, .int p0)]) hx hb dX9_takesHurt_57 rfl hl (by decide) rfl (fun ls hl => ?_)
        refine lv_aload_n hx hb dX9_takesHurt_58 rfl (lv_at hl 2 rfl) ?_
        refine lv_iload_n hx hb dX9_takesHurt_59 rfl (lv_at hl 0 rfl) ?_
        refine lv_if_eq (tgt := 67) hx hb dX9_takesHurt_60 (by decide) (fun _ => ?_) (fun c9 => absurd (by decide) c9)
        refine lv_aload_n hx hb dX9_takesHurt_67 rfl (lv_at hl 2 rfl) ?_
        refine va_get (D := (dC, dI)) (ci := 7) (v := .int (s0 0 24)) (C := RX9) (T := TX9) (N := 30) hx hb hts h_in9 hown hK hP 0 rfl rfl 24 (by decide) h_f76 (fun _ h9 => h9) rfl dX9_takesHurt_68 ?_
        refine va_put (D := (dC, dI)) (ci := 7) (v := .int (s0 0 24)) (ty := .int) (C := RX9) (T := TX9) (N := 30) hx hb hts h_in9 tyX9 tyX9_ok nmX9 hown hK hP hD hS 0 rfl rfl 24 (by decide) h_f76 (fun _ h9 => h9) rfl (by decide +kernel) rfl rfl (Nat.le_of_ble_eq_true rfl) dX9_takesHurt_71 (fun H locs hP hD hS => ?_)
        obtain ⟨s32, es32⟩ : ∃ y : tm_St, y = tm_s s0 0 (tm_u (s0 0) 24 (s0 0 24)) := ⟨_, rfl⟩
        have hw := hw s32 es32
        have hP : va_P (dC, dI) vwCl (tm_wModel cI cZ a s32 hh) H := by rw [es32]; exact hP
        have hD : va_D A (tm_wModel cI cZ a s32 hh) := by rw [es32]; exact hD
        refine lv_aload_n hx hb dX9_takesHurt_74 rfl (lv_at hl 2 rfl) ?_
        refine va_get (D := (dC, dI)) (ci := 7) (v := .ref (a 16)) (C := RX9) (T := TX9) (N := 30) hx hb hts h_in9 hown hK hP 0 rfl rfl 22 (by decide) h_f59 (fun _ h9 => h9) rfl dX9_takesHurt_75 ?_
        refine lv_aload_n hx hb dX9_takesHurt_78 rfl (lv_at hl 2 rfl) ?_
        refine va_get (D := (dC, dI)) (ci := 7) (v := .int (s32 0 23)) (C := RX9) (T := TX9) (N := 30) hx hb hts h_in9 hown hK hP 0 rfl rfl 23 (by decide) h_f79 (fun _ h9 => h9) rfl dX9_takesHurt_79 ?_
        refine lv_iload_n hx hb dX9_takesHurt_82 rfl (lv_at hl 0 rfl) ?_
        refine lv_if_eq (tgt := 90) hx hb dX9_takesHurt_83 (by decide) (fun _ => ?_) (fun c9 => absurd (by decide) c9)
        refine lv_aload_n hx hb dX9_takesHurt_90 rfl (lv_at hl 2 rfl) ?_
        refine va_get (D := (dC, dI)) (ci := 7) (v := .ref (a 16)) (C := RX9) (T := TX9) (N := 30) hx hb hts h_in9 hown hK hP 0 rfl rfl 22 (by decide) h_f59 (fun _ h9 => h9) rfl dX9_takesHurt_91 ?_
        refine lv_aload_n hx hb dX9_takesHurt_94 rfl (lv_at hl 2 rfl) ?_
        refine va_get (D := (dC, dI)) (ci := 7) (v := .int (s32 0 23)) (C := RX9) (T := TX9) (N := 30) hx hb hts h_in9 hown hK hP 0 rfl rfl 23 (by decide) h_f79 (fun _ h9 => h9) rfl dX9_takesHurt_95 ?_
        have c33 := hw.1
        have hw := hw.2
        refine va_iald hx hb hK hP 16 0 rfl rfl c33 dX9_takesHurt_98 ?_
        have c34 := hw.1
        have hw := hw.2
        refine va_iast hx hb hK hP hD hS 16 0 rfl rfl c34 dX9_takesHurt_99 (fun H locs hP hD hS => ?_)
        obtain ⟨s35, es35⟩ : ∃ y : tm_St, y = tm_s s32 16 (upd (s32 16) ((s32 0 23) : Int32).toNatClampNeg (s32 16 ((s32 0 23) : Int32).toNatClampNeg)) := ⟨_, rfl⟩
        have hw := hw s35 es35
        have hP : va_P (dC, dI) vwCl (tm_wModel cI cZ a s35 hh) H := by rw [es35]; exact hP
        have hD : va_D A (tm_wModel cI cZ a s35 hh) := by rw [es35]; exact hD
        refine lv_iload_n hx hb dX9_takesHurt_100 rfl (lv_at hl 0 rfl) ?_
        exact W.zret (v := 0) hx hb hr (tm_bool (by decide)) (fun t ht hW => ⟨⟨0, s35, rfl, ⟨(by decide), hw⟩, by rw [ht]; exact hP, va_K.moved hW.alike hK, hD⟩, hS.F ht⟩) hS.2.2 dX9_takesHurt_101
      · have hw := hw.2 c31
        refine lv_iload_n hx hb dX9_takesHurt_46 rfl (lv_at hl 0 rfl) ?_
        refine lv_bipush (v := 50) hx hb dX9_takesHurt_47 (by decide) ?_
        refine lv_icmp_gt (tgt := 56) hx hb dX9_takesHurt_49 (by decide) (fun c36 => ?_) (fun c36 => ?_)
        · have hw := hw.1 c36
          refine lv_iconst (v := 0) hx hb dX9_takesHurt_56 (by decide) ?_
          refine lv_istore_n (lv' := [(3, .int 0), (2, .int x30), (0, .ref (a 0)), (1, .int p0)]) hx hb dX9_takesHurt_57 rfl hl (by decide) rfl (fun ls hl => ?_)
          refine lv_aload_n hx hb dX9_takesHurt_58 rfl (lv_at hl 2 rfl) ?_
          refine lv_iload_n hx hb dX9_takesHurt_59 rfl (lv_at hl 0 rfl) ?_
          refine lv_if_eq (tgt := 67) hx hb dX9_takesHurt_60 (by decide) (fun _ => ?_) (fun c9 => absurd (by decide) c9)
          refine lv_aload_n hx hb dX9_takesHurt_67 rfl (lv_at hl 2 rfl) ?_
          refine va_get (D := (dC, dI)) (ci := 7) (v := .int (s0 0 24)) (C := RX9) (T := TX9) (N := 30) hx hb hts h_in9 hown hK hP 0 rfl rfl 24 (by decide) h_f76 (fun _ h9 => h9) rfl dX9_takesHurt_68 ?_
          refine va_put (D := (dC, dI)) (ci := 7) (v := .int (s0 0 24)) (ty := .int) (C := RX9) (T := TX9) (N := 30) hx hb hts h_in9 tyX9 tyX9_ok nmX9 hown hK hP hD hS 0 rfl rfl 24 (by decide) h_f76 (fun _ h9 => h9) rfl (by decide +kernel) rfl rfl (Nat.le_of_ble_eq_true rfl) dX9_takesHurt_71 (fun H locs hP hD hS => ?_)
          obtain ⟨s37, es37⟩ : ∃ y : tm_St, y = tm_s s0 0 (tm_u (s0 0) 24 (s0 0 24)) := ⟨_, rfl⟩
          have hw := hw s37 es37
          have hP : va_P (dC, dI) vwCl (tm_wModel cI cZ a s37 hh) H := by rw [es37]; exact hP
          have hD : va_D A (tm_wModel cI cZ a s37 hh) := by rw [es37]; exact hD
          refine lv_aload_n hx hb dX9_takesHurt_74 rfl (lv_at hl 2 rfl) ?_
          refine va_get (D := (dC, dI)) (ci := 7) (v := .ref (a 16)) (C := RX9) (T := TX9) (N := 30) hx hb hts h_in9 hown hK hP 0 rfl rfl 22 (by decide) h_f59 (fun _ h9 => h9) rfl dX9_takesHurt_75 ?_
          refine lv_aload_n hx hb dX9_takesHurt_78 rfl (lv_at hl 2 rfl) ?_
          refine va_get (D := (dC, dI)) (ci := 7) (v := .int (s37 0 23)) (C := RX9) (T := TX9) (N := 30) hx hb hts h_in9 hown hK hP 0 rfl rfl 23 (by decide) h_f79 (fun _ h9 => h9) rfl dX9_takesHurt_79 ?_
          refine lv_iload_n hx hb dX9_takesHurt_82 rfl (lv_at hl 0 rfl) ?_
          refine lv_if_eq (tgt := 90) hx hb dX9_takesHurt_83 (by decide) (fun _ => ?_) (fun c9 => absurd (by decide) c9)
          refine lv_aload_n hx hb dX9_takesHurt_90 rfl (lv_at hl 2 rfl) ?_
          refine va_get (D := (dC, dI)) (ci := 7) (v := .ref (a 16)) (C := RX9) (T := TX9) (N := 30) hx hb hts h_in9 hown hK hP 0 rfl rfl 22 (by decide) h_f59 (fun _ h9 => h9) rfl dX9_takesHurt_91 ?_
          refine lv_aload_n hx hb dX9_takesHurt_94 rfl (lv_at hl 2 rfl) ?_
          refine va_get (D := (dC, dI)) (ci := 7) (v := .int (s37 0 23)) (C := RX9) (T := TX9) (N := 30) hx hb hts h_in9 hown hK hP 0 rfl rfl 23 (by decide) h_f79 (fun _ h9 => h9) rfl dX9_takesHurt_95 ?_
          have c38 := hw.1
          have hw := hw.2
          refine va_iald hx hb hK hP 16 0 rfl rfl c38 dX9_takesHurt_98 ?_
          have c39 := hw.1
          have hw := hw.2
          refine va_iast hx hb hK hP hD hS 16 0 rfl rfl c39 dX9_takesHurt_99 (fun H locs hP hD hS => ?_)
          obtain ⟨s40, es40⟩ : ∃ y : tm_St, y = tm_s s37 16 (upd (s37 16) ((s37 0 23) : Int32).toNatClampNeg (s37 16 ((s37 0 23) : Int32).toNatClampNeg)) := ⟨_, rfl⟩
          have hw := hw s40 es40
          have hP : va_P (dC, dI) vwCl (tm_wModel cI cZ a s40 hh) H := by rw [es40]; exact hP
          have hD : va_D A (tm_wModel cI cZ a s40 hh) := by rw [es40]; exact hD
          refine lv_iload_n hx hb dX9_takesHurt_100 rfl (lv_at hl 0 rfl) ?_
          exact W.zret (v := 0) hx hb hr (tm_bool (by decide)) (fun t ht hW => ⟨⟨0, s40, rfl, ⟨(by decide), hw⟩, by rw [ht]; exact hP, va_K.moved hW.alike hK, hD⟩, hS.F ht⟩) hS.2.2 dX9_takesHurt_101
        · have hw := hw.2 c36
          refine lv_iconst (v := 1) hx hb dX9_takesHurt_52 (by decide) ?_
          refine lv_goto (tgt := 57) hx hb dX9_takesHurt_53 (by decide) ?_
          refine lv_istore_n (lv' := [(3, .int 1), (2, .int x30), (0, .ref (a 0)), (1, .int p0)]) hx hb dX9_takesHurt_57 rfl hl (by decide) rfl (fun ls hl => ?_)
          refine lv_aload_n hx hb dX9_takesHurt_58 rfl (lv_at hl 2 rfl) ?_
          refine lv_iload_n hx hb dX9_takesHurt_59 rfl (lv_at hl 0 rfl) ?_
          refine lv_if_eq (tgt := 67) hx hb dX9_takesHurt_60 (by decide) (fun c9 => absurd c9 (by decide)) (fun _ => ?_)
          refine lv_iload_n hx hb dX9_takesHurt_63 rfl (lv_at hl 1 rfl) ?_
          refine lv_goto (tgt := 71) hx hb dX9_takesHurt_64 (by decide) ?_
          refine va_put (D := (dC, dI)) (ci := 7) (v := .int x30) (ty := .int) (C := RX9) (T := TX9) (N := 30) hx hb hts h_in9 tyX9 tyX9_ok nmX9 hown hK hP hD hS 0 rfl rfl 24 (by decide) h_f76 (fun _ h9 => h9) rfl (by decide +kernel) rfl rfl (Nat.le_of_ble_eq_true rfl) dX9_takesHurt_71 (fun H locs hP hD hS => ?_)
          obtain ⟨s41, es41⟩ : ∃ y : tm_St, y = tm_s s0 0 (tm_u (s0 0) 24 x30) := ⟨_, rfl⟩
          have hw := hw s41 es41
          have hP : va_P (dC, dI) vwCl (tm_wModel cI cZ a s41 hh) H := by rw [es41]; exact hP
          have hD : va_D A (tm_wModel cI cZ a s41 hh) := by rw [es41]; exact hD
          refine lv_aload_n hx hb dX9_takesHurt_74 rfl (lv_at hl 2 rfl) ?_
          refine va_get (D := (dC, dI)) (ci := 7) (v := .ref (a 16)) (C := RX9) (T := TX9) (N := 30) hx hb hts h_in9 hown hK hP 0 rfl rfl 22 (by decide) h_f59 (fun _ h9 => h9) rfl dX9_takesHurt_75 ?_
          refine lv_aload_n hx hb dX9_takesHurt_78 rfl (lv_at hl 2 rfl) ?_
          refine va_get (D := (dC, dI)) (ci := 7) (v := .int (s41 0 23)) (C := RX9) (T := TX9) (N := 30) hx hb hts h_in9 hown hK hP 0 rfl rfl 23 (by decide) h_f79 (fun _ h9 => h9) rfl dX9_takesHurt_79 ?_
          refine lv_iload_n hx hb dX9_takesHurt_82 rfl (lv_at hl 0 rfl) ?_
          refine lv_if_eq (tgt := 90) hx hb dX9_takesHurt_83 (by decide) (fun c9 => absurd c9 (by decide)) (fun _ => ?_)
          refine lv_iload_n hx hb dX9_takesHurt_86 rfl (lv_at hl 1 rfl) ?_
          refine lv_goto (tgt := 99) hx hb dX9_takesHurt_87 (by decide) ?_
          have c42 := hw.1
          have hw := hw.2
          refine va_iast hx hb hK hP hD hS 16 0 rfl rfl c42 dX9_takesHurt_99 (fun H locs hP hD hS => ?_)
          obtain ⟨s43, es43⟩ : ∃ y : tm_St, y = tm_s s41 16 (upd (s41 16) ((s41 0 23) : Int32).toNatClampNeg x30) := ⟨_, rfl⟩
          have hw := hw s43 es43
          have hP : va_P (dC, dI) vwCl (tm_wModel cI cZ a s43 hh) H := by rw [es43]; exact hP
          have hD : va_D A (tm_wModel cI cZ a s43 hh) := by rw [es43]; exact hD
          refine lv_iload_n hx hb dX9_takesHurt_100 rfl (lv_at hl 0 rfl) ?_
          exact W.zret (v := 1) hx hb hr (tm_bool (by decide)) (fun t ht hW => ⟨⟨1, s43, rfl, ⟨(by decide), hw⟩, by rw [ht]; exact hP, va_K.moved hW.alike hK, hD⟩, hS.F ht⟩) hS.2.2 dX9_takesHurt_101
def wp_X9_sixteenth (p0 : Int32) (K : Int32 → Prop) : Prop := (wp_X9_within p0 48 57 (fun r1 => ((r1 = 0 → (wp_X9_within p0 97 102 (fun r4 => ((r4 = 0 → K (-1)) ∧ (¬ r4 = 0 → K ((p0 - 97) + 10)))))) ∧ (¬ r1 = 0 → K (p0 - 48)))))
set_option maxRecDepth 100000 in
set_option maxHeartbeats 4000000 in
theorem kk_X9_sixteenth (l : Launch) (dC : Nat → ClassId) (dI : Nat → Nat → Nat) (cI cZ : ClassId) (sz : Nat) (p0 : Int32) (K : Int32 → Prop) (hw : wp_X9_sixteenth p0 K) : Met l yX9_sixteenth wsX9_sixteenth ({ frames := 1, cells := 0, slots := 0, locals := 22 }) (va_Pc [.int p0] (tm_Pre dC dI cI cZ ([] : va_W) sz)) (va_Qi (fun (r : Int32) (_ : Unit) => K r) (fun (_ : Unit) t => tm_At dC dI cI cZ (va_A ([] : va_W) sz) ([] : va_W) t) (va_A ([] : va_W) sz)) 0 0 (va_A ([] : va_W) sz) := by
  refine Met.ofW (cc := cX9_sixteenth) (maxL := 1) (ret := (some .int)) (by decide +kernel) rfl ?_
  intro p e z m args below meth c z₁ B hml hv
  obtain ⟨rfl, hsz, hP, hK, hD0⟩ := hv
  have hx := B.exec
  have hb := B.bytes
  have hr := B.returns
  have hts := atoms_spec (ws := wsX9_sixteenth) B.pre
  have hown : z.vm.findClass RX9 = some m.cls := findClass_of_methodNamed B.named
  have hlocks := B.notSynchronized
  subst hsz
  have hD := hD0.self (sz := z.heap.size)
  generalize hAe : va_A ([] : va_W) z.heap.size = A at hD ⊢
  have hA : ∀ q : Nat, z.heap.size ≤ q → A q := fun q h => by rw [← hAe]; exact Or.inr h
  have hS : va_S A z.heap z.heap [] := va_S.rf
  have hl := lv_entry ([.int p0]) (n := 1) (Nat.le_of_ble_eq_true rfl)
  rw [lg_entry_eq]
  generalize (lg_sl ([.int p0]) ++ List.replicate (1 - (lg_sl ([.int p0])).length) Slot.unset).toArray = ls at hl ⊢
  have hl : lv_has ls 1 [(0, .int p0)] := hl
  unfold wp_X9_sixteenth at hw
  refine lv_iload_n hx hb dX9_sixteenth_0 rfl (lv_at hl 0 rfl) ?_
  refine lv_bipush (v := 48) hx hb dX9_sixteenth_1 (by decide) ?_
  refine lv_bipush (v := 57) hx hb dX9_sixteenth_3 (by decide) ?_
  have hPc := hP
  have hDc := hD
  have hFc := va_free (wc := ([] : va_W)) hD hS hA [] rfl
  refine va_calli (va_runS (As := [.int p0, .int 48, .int 57]) (rest := []) ⟨hx, hb, hml, hown, hts⟩ (kk_X9_within l dC dI cI cZ z.heap.size p0 48 57 _ hw) (va_cwS 3 hts gX9_sixteenth_X9_within rfl rfl rfl (by decide +kernel) ⟨Nat.le_of_ble_eq_true rfl, Nat.le_of_ble_eq_true rfl⟩) ⟨tm_blind, fun U hU hW => ⟨rfl, by rw [hU], by rw [hU]; exact hPc, va_K.moved hW.alike hK, hDc.weaken (fun _ _ _ _ => trivial)⟩⟩ rfl rfl hl.1 rfl (lv_room (Nat.le_of_ble_eq_true rfl)) dX9_sixteenth_5 ⟨Nat.zero_le _, Nat.zero_le _⟩) hS (fun q _ h => hFc q h) hFc (fun r1 s2 t H1 locs ht hvm hw hB hz1 hk1 hS => ?_)
  obtain ⟨hP1, hK1, hD1⟩ := hB
  rw [ht] at hP1
  have b9_r1 := hw.1
  have hw := hw.2
  obtain ⟨hP, hD⟩ := va_join (wr := ([] : va_W)) (w1 := ([] : va_W)) hP hD [] [] rfl rfl (by decide) (by decide) hk1 hFc hP1 hD1
  rw [List.append_nil] at hP hD
  generalize H1 = H at hP hS ⊢
  refine lv_if_eq (tgt := 18) hx hb dX9_sixteenth_8 (by decide) (fun c3 => ?_) (fun c3 => ?_)
  · have hw := hw.1 c3
    refine lv_iload_n hx hb dX9_sixteenth_18 rfl (lv_at hl 0 rfl) ?_
    refine lv_bipush (v := 97) hx hb dX9_sixteenth_19 (by decide) ?_
    refine lv_bipush (v := 102) hx hb dX9_sixteenth_21 (by decide) ?_
    have hPc := hP
    have hDc := hD
    have hFc := va_free (wc := ([] : va_W)) hD hS hA [] rfl
    refine va_calli (va_runS (As := [.int p0, .int 97, .int 102]) (rest := []) ⟨hx, hb, hml, hown, hts⟩ (kk_X9_within l dC dI cI cZ H.size p0 97 102 _ hw) (va_cwS 3 hts gX9_sixteenth_X9_within rfl rfl rfl (by decide +kernel) ⟨Nat.le_of_ble_eq_true rfl, Nat.le_of_ble_eq_true rfl⟩) ⟨tm_blind, fun U hU hW => ⟨rfl, by rw [hU], by rw [hU]; exact hPc, va_K.moved hW.alike hK, hDc.weaken (fun _ _ _ _ => trivial)⟩⟩ rfl rfl hl.1 rfl (lv_room (Nat.le_of_ble_eq_true rfl)) dX9_sixteenth_23 ⟨Nat.zero_le _, Nat.zero_le _⟩) hS (fun q _ h => hFc q h) hFc (fun r4 s5 t H1 locs ht hvm hw hB hz1 hk1 hS => ?_)
    obtain ⟨hP1, hK1, hD1⟩ := hB
    rw [ht] at hP1
    have b9_r4 := hw.1
    have hw := hw.2
    obtain ⟨hP, hD⟩ := va_join (wr := ([] : va_W)) (w1 := ([] : va_W)) hP hD [] [] rfl rfl (by decide) (by decide) hk1 hFc hP1 hD1
    rw [List.append_nil] at hP hD
    generalize H1 = H at hP hS ⊢
    refine lv_if_eq (tgt := 39) hx hb dX9_sixteenth_26 (by decide) (fun c6 => ?_) (fun c6 => ?_)
    · have hw := hw.1 c6
      refine lv_iconst (v := (-1)) hx hb dX9_sixteenth_39 (by decide) ?_
      exact W.iret (v := (-1)) hx hb hr (fun t ht hW => ⟨⟨(-1), (), rfl, hw, by rw [ht]; exact hP, va_K.moved hW.alike hK, hD⟩, hS.F ht⟩) hS.2.2 dX9_sixteenth_40
    · have hw := hw.2 c6
      refine lv_iload_n hx hb dX9_sixteenth_29 rfl (lv_at hl 0 rfl) ?_
      refine lv_bipush (v := 97) hx hb dX9_sixteenth_30 (by decide) ?_
      refine lv_isub hx hb dX9_sixteenth_32 ?_
      refine lv_bipush (v := 10) hx hb dX9_sixteenth_33 (by decide) ?_
      refine lv_iadd hx hb dX9_sixteenth_35 ?_
      refine lv_goto (tgt := 40) hx hb dX9_sixteenth_36 (by decide) ?_
      exact W.iret (v := ((p0 - 97) + 10)) hx hb hr (fun t ht hW => ⟨⟨((p0 - 97) + 10), (), rfl, hw, by rw [ht]; exact hP, va_K.moved hW.alike hK, hD⟩, hS.F ht⟩) hS.2.2 dX9_sixteenth_40
  · have hw := hw.2 c3
    refine lv_iload_n hx hb dX9_sixteenth_11 rfl (lv_at hl 0 rfl) ?_
    refine lv_bipush (v := 48) hx hb dX9_sixteenth_12 (by decide) ?_
    refine lv_isub hx hb dX9_sixteenth_14 ?_
    refine lv_goto (tgt := 40) hx hb dX9_sixteenth_15 (by decide) ?_
    exact W.iret (v := (p0 - 48)) hx hb hr (fun t ht hW => ⟨⟨(p0 - 48), (), rfl, hw, by rw [ht]; exact hP, va_K.moved hW.alike hK, hD⟩, hS.F ht⟩) hS.2.2 dX9_sixteenth_40
def wp_X9_takesQuality (p0 : Int32) (p1 : Int32) (s0 : tm_St) (K : Int32 → tm_St → Prop) : Prop := (((8 : Int32) ≤ p0 → (∀ x2 : Int32, x2 = (p0 - 1) → (wp_X9_sixteenth p1 (fun r3 => (vp_in x2 16 ∧ (∀ s6 : tm_St, s6 = tm_s s0 15 (upd (s0 15) (x2 : Int32).toNatClampNeg r3) → (vp_in x2 16 ∧ (((s6 15 (x2 : Int32).toNatClampNeg) = (-1) → K 0 s6) ∧ (¬ (s6 15 (x2 : Int32).toNatClampNeg) = (-1) → K 1 s6))))))))) ∧ (¬ (8 : Int32) ≤ p0 → (wp_X9_sixteenth p1 (fun r9 => (vp_in p0 16 ∧ (∀ s12 : tm_St, s12 = tm_s s0 15 (upd (s0 15) (p0 : Int32).toNatClampNeg r9) → (vp_in p0 16 ∧ (((s12 15 (p0 : Int32).toNatClampNeg) = (-1) → K 0 s12) ∧ (¬ (s12 15 (p0 : Int32).toNatClampNeg) = (-1) → K 1 s12)))))))))
set_option maxRecDepth 100000 in
set_option maxHeartbeats 4000000 in
theorem kk_X9_takesQuality (l : Launch) (dC : Nat → ClassId) (dI : Nat → Nat → Nat) (cI cZ : ClassId) (a : Nat → Nat) (s0 : tm_St) (hh : Int64) (sz : Nat) (p0 : Int32) (p1 : Int32) (K : Int32 → tm_St → Prop) (hw : wp_X9_takesQuality p0 p1 s0 K) : Met l yX9_takesQuality wsX9_takesQuality ({ frames := 2, cells := 0, slots := 0, locals := 42 }) (va_Pc [.ref (a 0), .int p0, .int p1] (tm_Pre dC dI cI cZ (tm_wModel cI cZ a s0 hh) sz)) (va_Qi (fun (r : Int32) (u : tm_St) => (r = 0 ∨ r = 1) ∧ K r u) (fun (u : tm_St) t => tm_At dC dI cI cZ (va_A (tm_wModel cI cZ a s0 hh) sz) (tm_wModel cI cZ a u hh) t) (va_A (tm_wModel cI cZ a s0 hh) sz)) 0 0 (va_A (tm_wModel cI cZ a s0 hh) sz) := by
  refine Met.ofW (cc := cX9_takesQuality) (maxL := 4) (ret := (some .boolean)) (by decide +kernel) rfl ?_
  intro p e z m args below meth c z₁ B hml hv
  obtain ⟨rfl, hsz, hP, hK, hD0⟩ := hv
  have hx := B.exec
  have hb := B.bytes
  have hr := B.returns
  have hts := atoms_spec (ws := wsX9_takesQuality) B.pre
  have hown : z.vm.findClass RX9 = some m.cls := findClass_of_methodNamed B.named
  have hlocks := B.notSynchronized
  subst hsz
  have hD := hD0.self (sz := z.heap.size)
  generalize hAe : va_A (tm_wModel cI cZ a s0 hh) z.heap.size = A at hD ⊢
  have hA : ∀ q : Nat, z.heap.size ≤ q → A q := fun q h => by rw [← hAe]; exact Or.inr h
  have hS : va_S A z.heap z.heap [] := va_S.rf
  have h_f56 := hts (.fieldLink RX9 56 "TwoModemsModel" "newQuality" "[I") (by decide +kernel)
  have h_in9 : ∀ w ∈ u_ws RX9 TX9 30, w ∈ wsX9_takesQuality := by decide +kernel
  have hl := lv_entry ([.ref (a 0), .int p0, .int p1]) (n := 4) (Nat.le_of_ble_eq_true rfl)
  rw [lg_entry_eq]
  generalize (lg_sl ([.ref (a 0), .int p0, .int p1]) ++ List.replicate (4 - (lg_sl ([.ref (a 0), .int p0, .int p1])).length) Slot.unset).toArray = ls at hl ⊢
  have hl : lv_has ls 4 [(0, .ref (a 0)), (1, .int p0), (2, .int p1)] := hl
  unfold wp_X9_takesQuality at hw
  refine lv_iload_n hx hb dX9_takesQuality_0 rfl (lv_at hl 1 rfl) ?_
  refine lv_bipush (v := 8) hx hb dX9_takesQuality_1 (by decide) ?_
  refine lv_icmp_ge (tgt := 10) hx hb dX9_takesQuality_3 (by decide) (fun c1 => ?_) (fun c1 => ?_)
  · have hw := hw.1 c1
    refine lv_iload_n hx hb dX9_takesQuality_10 rfl (lv_at hl 1 rfl) ?_
    refine lv_iconst (v := 1) hx hb dX9_takesQuality_11 (by decide) ?_
    refine lv_isub hx hb dX9_takesQuality_12 ?_
    refine lv_topi (fun x2 ex2 => ?_)
    have hw := hw x2 ex2
    refine lv_istore_n (lv' := [(3, .int x2), (0, .ref (a 0)), (1, .int p0), (2, .int p1)]) hx hb dX9_takesQuality_13 rfl hl (by decide) rfl (fun ls hl => ?_)
    refine lv_aload_n hx hb dX9_takesQuality_14 rfl (lv_at hl 1 rfl) ?_
    refine va_get (D := (dC, dI)) (ci := 7) (v := .ref (a 15)) (C := RX9) (T := TX9) (N := 30) hx hb hts h_in9 hown hK hP 0 rfl rfl 20 (by decide) h_f56 (fun _ h9 => h9) rfl dX9_takesQuality_15 ?_
    refine lv_iload_n hx hb dX9_takesQuality_18 rfl (lv_at hl 0 rfl) ?_
    refine lv_iload_n hx hb dX9_takesQuality_19 rfl (lv_at hl 3 rfl) ?_
    have hPc := hP.sub (ws' := ([] : va_W)) [] rfl
    have hDc := hD.sub (ws' := ([] : va_W)) [] (by decide) rfl
    have hFc := va_free (wc := ([] : va_W)) hD hS hA [] rfl
    refine va_calli (va_runS (As := [.int p1]) (rest := [.int x2, .ref (a 15)]) ⟨hx, hb, hml, hown, hts⟩ (kk_X9_sixteenth l dC dI cI cZ z.heap.size p1 _ hw) (va_cwS 1 hts gX9_takesQuality_X9_sixteenth rfl rfl rfl (by decide +kernel) ⟨Nat.le_of_ble_eq_true rfl, Nat.le_of_ble_eq_true rfl⟩) ⟨tm_blind, fun U hU hW => ⟨rfl, by rw [hU], by rw [hU]; exact hPc, va_K.moved hW.alike hK, hDc.weaken (fun _ _ _ _ => trivial)⟩⟩ rfl rfl hl.1 rfl (lv_room (Nat.le_of_ble_eq_true rfl)) dX9_takesQuality_20 ⟨Nat.zero_le _, Nat.zero_le _⟩) hS (fun q _ h => hFc q h) hFc (fun r3 u t H1 locs ht hvm hw hB hz1 hk1 hS => ?_)
    obtain ⟨hP1, hK1, hD1⟩ := hB
    rw [ht] at hP1
    obtain ⟨hP, hD⟩ := va_join (wr := (tm_wModel cI cZ a s0 hh)) (w1 := ([] : va_W)) hP hD [] [0, 1, 2, 3, 4, 5, 6, 7, 8, 9, 10, 11, 12, 13, 14, 15, 16, 17] rfl rfl (by decide) (by decide) hk1 hFc hP1 hD1
    rw [List.append_nil] at hP hD
    generalize H1 = H at hP hS ⊢
    have c5 := hw.1
    have hw := hw.2
    refine va_iast hx hb hK hP hD hS 15 0 rfl rfl c5 dX9_takesQuality_23 (fun H locs hP hD hS => ?_)
    obtain ⟨s6, es6⟩ : ∃ y : tm_St, y = tm_s s0 15 (upd (s0 15) (x2 : Int32).toNatClampNeg r3) := ⟨_, rfl⟩
    have hw := hw s6 es6
    have hP : va_P (dC, dI) vwCl (tm_wModel cI cZ a s6 hh) H := by rw [es6]; exact hP
    have hD : va_D A (tm_wModel cI cZ a s6 hh) := by rw [es6]; exact hD
    refine lv_aload_n hx hb dX9_takesQuality_24 rfl (lv_at hl 1 rfl) ?_
    refine va_get (D := (dC, dI)) (ci := 7) (v := .ref (a 15)) (C := RX9) (T := TX9) (N := 30) hx hb hts h_in9 hown hK hP 0 rfl rfl 20 (by decide) h_f56 (fun _ h9 => h9) rfl dX9_takesQuality_25 ?_
    refine lv_iload_n hx hb dX9_takesQuality_28 rfl (lv_at hl 0 rfl) ?_
    have c7 := hw.1
    have hw := hw.2
    refine va_iald hx hb hK hP 15 0 rfl rfl c7 dX9_takesQuality_29 ?_
    refine lv_iconst (v := (-1)) hx hb dX9_takesQuality_30 (by decide) ?_
    refine lv_icmp_eq (tgt := 38) hx hb dX9_takesQuality_31 (by decide) (fun c8 => ?_) (fun c8 => ?_)
    · have hw := hw.1 c8
      refine lv_iconst (v := 0) hx hb dX9_takesQuality_38 (by decide) ?_
      exact W.zret (v := 0) hx hb hr (tm_bool (by decide)) (fun t ht hW => ⟨⟨0, s6, rfl, ⟨(by decide), hw⟩, by rw [ht]; exact hP, va_K.moved hW.alike hK, hD⟩, hS.F ht⟩) hS.2.2 dX9_takesQuality_39
    · have hw := hw.2 c8
      refine lv_iconst (v := 1) hx hb dX9_takesQuality_34 (by decide) ?_
      refine lv_goto (tgt := 39) hx hb dX9_takesQuality_35 (by decide) ?_
      exact W.zret (v := 1) hx hb hr (tm_bool (by decide)) (fun t ht hW => ⟨⟨1, s6, rfl, ⟨(by decide), hw⟩, by rw [ht]; exact hP, va_K.moved hW.alike hK, hD⟩, hS.F ht⟩) hS.2.2 dX9_takesQuality_39
  · have hw := hw.2 c1
    refine lv_iload_n hx hb dX9_takesQuality_6 rfl (lv_at hl 1 rfl) ?_
    refine lv_goto (tgt := 13) hx hb dX9_takesQuality_7 (by decide) ?_
    refine lv_istore_n (lv' := [(3, .int p0), (0, .ref (a 0)), (1, .int p0), (2, .int p1)]) hx hb dX9_takesQuality_13 rfl hl (by decide) rfl (fun ls hl => ?_)
    refine lv_aload_n hx hb dX9_takesQuality_14 rfl (lv_at hl 1 rfl) ?_
    refine va_get (D := (dC, dI)) (ci := 7) (v := .ref (a 15)) (C := RX9) (T := TX9) (N := 30) hx hb hts h_in9 hown hK hP 0 rfl rfl 20 (by decide) h_f56 (fun _ h9 => h9) rfl dX9_takesQuality_15 ?_
    refine lv_iload_n hx hb dX9_takesQuality_18 rfl (lv_at hl 0 rfl) ?_
    refine lv_iload_n hx hb dX9_takesQuality_19 rfl (lv_at hl 3 rfl) ?_
    have hPc := hP.sub (ws' := ([] : va_W)) [] rfl
    have hDc := hD.sub (ws' := ([] : va_W)) [] (by decide) rfl
    have hFc := va_free (wc := ([] : va_W)) hD hS hA [] rfl
    refine va_calli (va_runS (As := [.int p1]) (rest := [.int p0, .ref (a 15)]) ⟨hx, hb, hml, hown, hts⟩ (kk_X9_sixteenth l dC dI cI cZ z.heap.size p1 _ hw) (va_cwS 1 hts gX9_takesQuality_X9_sixteenth rfl rfl rfl (by decide +kernel) ⟨Nat.le_of_ble_eq_true rfl, Nat.le_of_ble_eq_true rfl⟩) ⟨tm_blind, fun U hU hW => ⟨rfl, by rw [hU], by rw [hU]; exact hPc, va_K.moved hW.alike hK, hDc.weaken (fun _ _ _ _ => trivial)⟩⟩ rfl rfl hl.1 rfl (lv_room (Nat.le_of_ble_eq_true rfl)) dX9_takesQuality_20 ⟨Nat.zero_le _, Nat.zero_le _⟩) hS (fun q _ h => hFc q h) hFc (fun r9 u t H1 locs ht hvm hw hB hz1 hk1 hS => ?_)
    obtain ⟨hP1, hK1, hD1⟩ := hB
    rw [ht] at hP1
    obtain ⟨hP, hD⟩ := va_join (wr := (tm_wModel cI cZ a s0 hh)) (w1 := ([] : va_W)) hP hD [] [0, 1, 2, 3, 4, 5, 6, 7, 8, 9, 10, 11, 12, 13, 14, 15, 16, 17] rfl rfl (by decide) (by decide) hk1 hFc hP1 hD1
    rw [List.append_nil] at hP hD
    generalize H1 = H at hP hS ⊢
    have c11 := hw.1
    have hw := hw.2
    refine va_iast hx hb hK hP hD hS 15 0 rfl rfl c11 dX9_takesQuality_23 (fun H locs hP hD hS => ?_)
    obtain ⟨s12, es12⟩ : ∃ y : tm_St, y = tm_s s0 15 (upd (s0 15) (p0 : Int32).toNatClampNeg r9) := ⟨_, rfl⟩
    have hw := hw s12 es12
    have hP : va_P (dC, dI) vwCl (tm_wModel cI cZ a s12 hh) H := by rw [es12]; exact hP
    have hD : va_D A (tm_wModel cI cZ a s12 hh) := by rw [es12]; exact hD
    refine lv_aload_n hx hb dX9_takesQuality_24 rfl (lv_at hl 1 rfl) ?_
    refine va_get (D := (dC, dI)) (ci := 7) (v := .ref (a 15)) (C := RX9) (T := TX9) (N := 30) hx hb hts h_in9 hown hK hP 0 rfl rfl 20 (by decide) h_f56 (fun _ h9 => h9) rfl dX9_takesQuality_25 ?_
    refine lv_iload_n hx hb dX9_takesQuality_28 rfl (lv_at hl 0 rfl) ?_
    have c13 := hw.1
    have hw := hw.2
    refine va_iald hx hb hK hP 15 0 rfl rfl c13 dX9_takesQuality_29 ?_
    refine lv_iconst (v := (-1)) hx hb dX9_takesQuality_30 (by decide) ?_
    refine lv_icmp_eq (tgt := 38) hx hb dX9_takesQuality_31 (by decide) (fun c14 => ?_) (fun c14 => ?_)
    · have hw := hw.1 c14
      refine lv_iconst (v := 0) hx hb dX9_takesQuality_38 (by decide) ?_
      exact W.zret (v := 0) hx hb hr (tm_bool (by decide)) (fun t ht hW => ⟨⟨0, s12, rfl, ⟨(by decide), hw⟩, by rw [ht]; exact hP, va_K.moved hW.alike hK, hD⟩, hS.F ht⟩) hS.2.2 dX9_takesQuality_39
    · have hw := hw.2 c14
      refine lv_iconst (v := 1) hx hb dX9_takesQuality_34 (by decide) ?_
      refine lv_goto (tgt := 39) hx hb dX9_takesQuality_35 (by decide) ?_
      exact W.zret (v := 1) hx hb hr (tm_bool (by decide)) (fun t ht hW => ⟨⟨1, s12, rfl, ⟨(by decide), hw⟩, by rw [ht]; exact hP, va_K.moved hW.alike hK, hD⟩, hS.F ht⟩) hS.2.2 dX9_takesQuality_39
def wp_X9_takes (p0 : Int32) (p1 : Int32) (s0 : tm_St) (K : Int32 → tm_St → Prop) : Prop := ((¬ p0 = 8 → (((17 : Int32) ≤ p0 → ((¬ p0 = 17 → ((¬ p0 = 18 → ((¬ p0 = 19 → (wp_X9_takesHurt p1 s0 (fun r6 s7 => K r6 s7))) ∧ (p0 = 19 → (∀ s8 : tm_St, s8 = tm_s s0 0 (tm_u (s0 0) 23 0) → ((¬ p1 = 104 → K 0 s8) ∧ (p1 = 104 → K 1 s8)))))) ∧ (p0 = 18 → (∀ s10 : tm_St, s10 = tm_s s0 0 (tm_u (s0 0) 21 (p1 - 48)) → (wp_X9_within (s10 0 21) 1 8 (fun r11 => K r11 s10)))))) ∧ (p0 = 17 → ((¬ p1 = 59 → K 0 s0) ∧ (p1 = 59 → K 1 s0))))) ∧ (¬ (17 : Int32) ≤ p0 → (wp_X9_takesQuality p0 p1 s0 (fun r14 s15 => K r14 s15))))) ∧ (p0 = 8 → ((¬ p1 = 47 → K 0 s0) ∧ (p1 = 47 → K 1 s0))))
set_option maxRecDepth 100000 in
set_option maxHeartbeats 4000000 in
theorem kk_X9_takes (l : Launch) (dC : Nat → ClassId) (dI : Nat → Nat → Nat) (cI cZ : ClassId) (a : Nat → Nat) (s0 : tm_St) (hh : Int64) (sz : Nat) (p0 : Int32) (p1 : Int32) (K : Int32 → tm_St → Prop) (hw : wp_X9_takes p0 p1 s0 K) : Met l yX9_takes wsX9_takes ({ frames := 3, cells := 0, slots := 0, locals := 65 }) (va_Pc [.ref (a 0), .int p0, .int p1] (tm_Pre dC dI cI cZ (tm_wModel cI cZ a s0 hh) sz)) (va_Qi (fun (r : Int32) (u : tm_St) => (r = 0 ∨ r = 1) ∧ K r u) (fun (u : tm_St) t => tm_At dC dI cI cZ (va_A (tm_wModel cI cZ a s0 hh) sz) (tm_wModel cI cZ a u hh) t) (va_A (tm_wModel cI cZ a s0 hh) sz)) 0 0 (va_A (tm_wModel cI cZ a s0 hh) sz) := by
  refine Met.ofW (cc := cX9_takes) (maxL := 3) (ret := (some .boolean)) (by decide +kernel) rfl ?_
  intro p e z m args below meth c z₁ B hml hv
  obtain ⟨rfl, hsz, hP, hK, hD0⟩ := hv
  have hx := B.exec
  have hb := B.bytes
  have hr := B.returns
  have hts := atoms_spec (ws := wsX9_takes) B.pre
  have hown : z.vm.findClass RX9 = some m.cls := findClass_of_methodNamed B.named
  have hlocks := B.notSynchronized
  subst hsz
  have hD := hD0.self (sz := z.heap.size)
  generalize hAe : va_A (tm_wModel cI cZ a s0 hh) z.heap.size = A at hD ⊢
  have hA : ∀ q : Nat, z.heap.size ≤ q → A q := fun q h => by rw [← hAe]; exact Or.inr h
  have hS : va_S A z.heap z.heap [] := va_S.rf
  have h_f79 := hts (.fieldLink RX9 79 "TwoModemsModel" "hurtNow" "I") (by decide +kernel)
  have h_in9 : ∀ w ∈ u_ws RX9 TX9 30, w ∈ wsX9_takes := by decide +kernel
  have h_f86 := hts (.fieldLink RX9 86 "TwoModemsModel" "newDelay" "I") (by decide +kernel)
  have hl := lv_entry ([.ref (a 0), .int p0, .int p1]) (n := 3) (Nat.le_of_ble_eq_true rfl)
  rw [lg_entry_eq]
  generalize (lg_sl ([.ref (a 0), .int p0, .int p1]) ++ List.replicate (3 - (lg_sl ([.ref (a 0), .int p0, .int p1])).length) Slot.unset).toArray = ls at hl ⊢
  have hl : lv_has ls 3 [(0, .ref (a 0)), (1, .int p0), (2, .int p1)] := hl
  unfold wp_X9_takes at hw
  refine lv_iload_n hx hb dX9_takes_0 rfl (lv_at hl 1 rfl) ?_
  refine lv_bipush (v := 8) hx hb dX9_takes_1 (by decide) ?_
  refine lv_icmp_ne (tgt := 18) hx hb dX9_takes_3 (by decide) (fun c1 => ?_) (fun c1 => ?_)
  · have hw := hw.1 c1
    refine lv_iload_n hx hb dX9_takes_18 rfl (lv_at hl 1 rfl) ?_
    refine lv_bipush (v := 17) hx hb dX9_takes_19 (by decide) ?_
    refine lv_icmp_ge (tgt := 31) hx hb dX9_takes_21 (by decide) (fun c2 => ?_) (fun c2 => ?_)
    · have hw := hw.1 c2
      refine lv_iload_n hx hb dX9_takes_31 rfl (lv_at hl 1 rfl) ?_
      refine lv_bipush (v := 17) hx hb dX9_takes_32 (by decide) ?_
      refine lv_icmp_ne (tgt := 49) hx hb dX9_takes_34 (by decide) (fun c3 => ?_) (fun c3 => ?_)
      · have hw := hw.1 c3
        refine lv_iload_n hx hb dX9_takes_49 rfl (lv_at hl 1 rfl) ?_
        refine lv_bipush (v := 18) hx hb dX9_takes_50 (by decide) ?_
        refine lv_icmp_ne (tgt := 74) hx hb dX9_takes_52 (by decide) (fun c4 => ?_) (fun c4 => ?_)
        · have hw := hw.1 c4
          refine lv_iload_n hx hb dX9_takes_74 rfl (lv_at hl 1 rfl) ?_
          refine lv_bipush (v := 19) hx hb dX9_takes_75 (by decide) ?_
          refine lv_icmp_ne (tgt := 97) hx hb dX9_takes_77 (by decide) (fun c5 => ?_) (fun c5 => ?_)
          · have hw := hw.1 c5
            refine lv_aload_n hx hb dX9_takes_97 rfl (lv_at hl 0 rfl) ?_
            refine lv_iload_n hx hb dX9_takes_98 rfl (lv_at hl 2 rfl) ?_
            have hPc := hP
            have hDc := hD
            have hFc := va_free (wc := (tm_wModel cI cZ a s0 hh)) hD hS hA [0, 1, 2, 3, 4, 5, 6, 7, 8, 9, 10, 11, 12, 13, 14, 15, 16, 17] rfl
            refine va_calli (va_runV (As := [.int p1]) (rest := []) ⟨hx, hb, hml, hown, hts⟩ (kk_X9_takesHurt l dC dI cI cZ a s0 hh z.heap.size p1 _ hw) (cwV 1 hts gX9_takes_X9_takesHurt rfl rfl rfl (by decide +kernel) ⟨Nat.le_of_ble_eq_true rfl, Nat.le_of_ble_eq_true rfl⟩) ⟨tm_blind, va_recv hK hPc (ci := 7) (q0 := 0) rfl rfl, fun U hU hW => ⟨rfl, by rw [hU], by rw [hU]; exact hPc, va_K.moved hW.alike hK, hDc.weaken (fun _ _ _ _ => trivial)⟩⟩ rfl rfl hl.1 rfl (lv_room (Nat.le_of_ble_eq_true rfl)) dX9_takes_99 ⟨Nat.zero_le _, Nat.zero_le _⟩) hS (fun q _ h => hFc q h) hFc (fun r6 s7 t H1 locs ht hvm hw hB hz1 hk1 hS => ?_)
            obtain ⟨hP1, hK1, hD1⟩ := hB
            rw [ht] at hP1
            have b9_r6 := hw.1
            have hw := hw.2
            obtain ⟨hP, hD⟩ := va_join (wr := []) (w1 := (tm_wModel cI cZ a s7 hh)) hP hD [0, 1, 2, 3, 4, 5, 6, 7, 8, 9, 10, 11, 12, 13, 14, 15, 16, 17] [] rfl rfl (by decide) (by decide) hk1 hFc hP1 hD1
            generalize H1 = H at hP hS ⊢
            have hP : va_P (dC, dI) vwCl (tm_wModel cI cZ a s7 hh) H := hP
            have hD : va_D A (tm_wModel cI cZ a s7 hh) := hD
            exact W.zret (v := r6) hx hb hr (tm_bool b9_r6) (fun t ht hW => ⟨⟨r6, s7, rfl, ⟨b9_r6, hw⟩, by rw [ht]; exact hP, va_K.moved hW.alike hK, hD⟩, hS.F ht⟩) hS.2.2 dX9_takes_102
          · have hw := hw.2 c5
            refine lv_aload_n hx hb dX9_takes_80 rfl (lv_at hl 0 rfl) ?_
            refine lv_iconst (v := 0) hx hb dX9_takes_81 (by decide) ?_
            refine va_put (D := (dC, dI)) (ci := 7) (v := .int 0) (ty := .int) (C := RX9) (T := TX9) (N := 30) hx hb hts h_in9 tyX9 tyX9_ok nmX9 hown hK hP hD hS 0 rfl rfl 23 (by decide) h_f79 (fun _ h9 => h9) rfl (by decide +kernel) rfl rfl (Nat.le_of_ble_eq_true rfl) dX9_takes_82 (fun H locs hP hD hS => ?_)
            obtain ⟨s8, es8⟩ : ∃ y : tm_St, y = tm_s s0 0 (tm_u (s0 0) 23 0) := ⟨_, rfl⟩
            have hw := hw s8 es8
            have hP : va_P (dC, dI) vwCl (tm_wModel cI cZ a s8 hh) H := by rw [es8]; exact hP
            have hD : va_D A (tm_wModel cI cZ a s8 hh) := by rw [es8]; exact hD
            refine lv_iload_n hx hb dX9_takes_85 rfl (lv_at hl 2 rfl) ?_
            refine lv_bipush (v := 104) hx hb dX9_takes_86 (by decide) ?_
            refine lv_icmp_ne (tgt := 95) hx hb dX9_takes_88 (by decide) (fun c9 => ?_) (fun c9 => ?_)
            · have hw := hw.1 c9
              refine lv_iconst (v := 0) hx hb dX9_takes_95 (by decide) ?_
              exact W.zret (v := 0) hx hb hr (tm_bool (by decide)) (fun t ht hW => ⟨⟨0, s8, rfl, ⟨(by decide), hw⟩, by rw [ht]; exact hP, va_K.moved hW.alike hK, hD⟩, hS.F ht⟩) hS.2.2 dX9_takes_96
            · have hw := hw.2 c9
              refine lv_iconst (v := 1) hx hb dX9_takes_91 (by decide) ?_
              refine lv_goto (tgt := 96) hx hb dX9_takes_92 (by decide) ?_
              exact W.zret (v := 1) hx hb hr (tm_bool (by decide)) (fun t ht hW => ⟨⟨1, s8, rfl, ⟨(by decide), hw⟩, by rw [ht]; exact hP, va_K.moved hW.alike hK, hD⟩, hS.F ht⟩) hS.2.2 dX9_takes_96
        · have hw := hw.2 c4
          refine lv_aload_n hx hb dX9_takes_55 rfl (lv_at hl 0 rfl) ?_
          refine lv_iload_n hx hb dX9_takes_56 rfl (lv_at hl 2 rfl) ?_
          refine lv_bipush (v := 48) hx hb dX9_takes_57 (by decide) ?_
          refine lv_isub hx hb dX9_takes_59 ?_
          refine va_put (D := (dC, dI)) (ci := 7) (v := .int (p1 - 48)) (ty := .int) (C := RX9) (T := TX9) (N := 30) hx hb hts h_in9 tyX9 tyX9_ok nmX9 hown hK hP hD hS 0 rfl rfl 21 (by decide) h_f86 (fun _ h9 => h9) rfl (by decide +kernel) rfl rfl (Nat.le_of_ble_eq_true rfl) dX9_takes_60 (fun H locs hP hD hS => ?_)
          obtain ⟨s10, es10⟩ : ∃ y : tm_St, y = tm_s s0 0 (tm_u (s0 0) 21 (p1 - 48)) := ⟨_, rfl⟩
          have hw := hw s10 es10
          have hP : va_P (dC, dI) vwCl (tm_wModel cI cZ a s10 hh) H := by rw [es10]; exact hP
          have hD : va_D A (tm_wModel cI cZ a s10 hh) := by rw [es10]; exact hD
          refine lv_aload_n hx hb dX9_takes_63 rfl (lv_at hl 0 rfl) ?_
          refine va_get (D := (dC, dI)) (ci := 7) (v := .int (s10 0 21)) (C := RX9) (T := TX9) (N := 30) hx hb hts h_in9 hown hK hP 0 rfl rfl 21 (by decide) h_f86 (fun _ h9 => h9) rfl dX9_takes_64 ?_
          refine lv_iconst (v := 1) hx hb dX9_takes_67 (by decide) ?_
          refine lv_bipush (v := 8) hx hb dX9_takes_68 (by decide) ?_
          have hPc := hP.sub (ws' := ([] : va_W)) [] rfl
          have hDc := hD.sub (ws' := ([] : va_W)) [] (by decide) rfl
          have hFc := va_free (wc := ([] : va_W)) hD hS hA [] rfl
          refine va_calli (va_runS (As := [.int (s10 0 21), .int 1, .int 8]) (rest := []) ⟨hx, hb, hml, hown, hts⟩ (kk_X9_within l dC dI cI cZ H.size (s10 0 21) 1 8 _ hw) (va_cwS 3 hts gX9_takes_X9_within rfl rfl rfl (by decide +kernel) ⟨Nat.le_of_ble_eq_true rfl, Nat.le_of_ble_eq_true rfl⟩) ⟨tm_blind, fun U hU hW => ⟨rfl, by rw [hU], by rw [hU]; exact hPc, va_K.moved hW.alike hK, hDc.weaken (fun _ _ _ _ => trivial)⟩⟩ rfl rfl hl.1 rfl (lv_room (Nat.le_of_ble_eq_true rfl)) dX9_takes_70 ⟨Nat.zero_le _, Nat.zero_le _⟩) hS (fun q _ h => hFc q h) hFc (fun r11 u t H1 locs ht hvm hw hB hz1 hk1 hS => ?_)
          obtain ⟨hP1, hK1, hD1⟩ := hB
          rw [ht] at hP1
          have b9_r11 := hw.1
          have hw := hw.2
          obtain ⟨hP, hD⟩ := va_join (wr := (tm_wModel cI cZ a s10 hh)) (w1 := ([] : va_W)) hP hD [] [0, 1, 2, 3, 4, 5, 6, 7, 8, 9, 10, 11, 12, 13, 14, 15, 16, 17] rfl rfl (by decide) (by decide) hk1 hFc hP1 hD1
          rw [List.append_nil] at hP hD
          generalize H1 = H at hP hS ⊢
          exact W.zret (v := r11) hx hb hr (tm_bool b9_r11) (fun t ht hW => ⟨⟨r11, s10, rfl, ⟨b9_r11, hw⟩, by rw [ht]; exact hP, va_K.moved hW.alike hK, hD⟩, hS.F ht⟩) hS.2.2 dX9_takes_73
      · have hw := hw.2 c3
        refine lv_iload_n hx hb dX9_takes_37 rfl (lv_at hl 2 rfl) ?_
        refine lv_bipush (v := 59) hx hb dX9_takes_38 (by decide) ?_
        refine lv_icmp_ne (tgt := 47) hx hb dX9_takes_40 (by decide) (fun c13 => ?_) (fun c13 => ?_)
        · have hw := hw.1 c13
          refine lv_iconst (v := 0) hx hb dX9_takes_47 (by decide) ?_
          exact W.zret (v := 0) hx hb hr (tm_bool (by decide)) (fun t ht hW => ⟨⟨0, s0, rfl, ⟨(by decide), hw⟩, by rw [ht]; exact hP, va_K.moved hW.alike hK, hD⟩, hS.F ht⟩) hS.2.2 dX9_takes_48
        · have hw := hw.2 c13
          refine lv_iconst (v := 1) hx hb dX9_takes_43 (by decide) ?_
          refine lv_goto (tgt := 48) hx hb dX9_takes_44 (by decide) ?_
          exact W.zret (v := 1) hx hb hr (tm_bool (by decide)) (fun t ht hW => ⟨⟨1, s0, rfl, ⟨(by decide), hw⟩, by rw [ht]; exact hP, va_K.moved hW.alike hK, hD⟩, hS.F ht⟩) hS.2.2 dX9_takes_48
    · have hw := hw.2 c2
      refine lv_aload_n hx hb dX9_takes_24 rfl (lv_at hl 0 rfl) ?_
      refine lv_iload_n hx hb dX9_takes_25 rfl (lv_at hl 1 rfl) ?_
      refine lv_iload_n hx hb dX9_takes_26 rfl (lv_at hl 2 rfl) ?_
      have hPc := hP
      have hDc := hD
      have hFc := va_free (wc := (tm_wModel cI cZ a s0 hh)) hD hS hA [0, 1, 2, 3, 4, 5, 6, 7, 8, 9, 10, 11, 12, 13, 14, 15, 16, 17] rfl
      refine va_calli (va_runV (As := [.int p0, .int p1]) (rest := []) ⟨hx, hb, hml, hown, hts⟩ (kk_X9_takesQuality l dC dI cI cZ a s0 hh z.heap.size p0 p1 _ hw) (cwV 2 hts gX9_takes_X9_takesQuality rfl rfl rfl (by decide +kernel) ⟨Nat.le_of_ble_eq_true rfl, Nat.le_of_ble_eq_true rfl⟩) ⟨tm_blind, va_recv hK hPc (ci := 7) (q0 := 0) rfl rfl, fun U hU hW => ⟨rfl, by rw [hU], by rw [hU]; exact hPc, va_K.moved hW.alike hK, hDc.weaken (fun _ _ _ _ => trivial)⟩⟩ rfl rfl hl.1 rfl (lv_room (Nat.le_of_ble_eq_true rfl)) dX9_takes_27 ⟨Nat.zero_le _, Nat.zero_le _⟩) hS (fun q _ h => hFc q h) hFc (fun r14 s15 t H1 locs ht hvm hw hB hz1 hk1 hS => ?_)
      obtain ⟨hP1, hK1, hD1⟩ := hB
      rw [ht] at hP1
      have b9_r14 := hw.1
      have hw := hw.2
      obtain ⟨hP, hD⟩ := va_join (wr := []) (w1 := (tm_wModel cI cZ a s15 hh)) hP hD [0, 1, 2, 3, 4, 5, 6, 7, 8, 9, 10, 11, 12, 13, 14, 15, 16, 17] [] rfl rfl (by decide) (by decide) hk1 hFc hP1 hD1
      generalize H1 = H at hP hS ⊢
      have hP : va_P (dC, dI) vwCl (tm_wModel cI cZ a s15 hh) H := hP
      have hD : va_D A (tm_wModel cI cZ a s15 hh) := hD
      exact W.zret (v := r14) hx hb hr (tm_bool b9_r14) (fun t ht hW => ⟨⟨r14, s15, rfl, ⟨b9_r14, hw⟩, by rw [ht]; exact hP, va_K.moved hW.alike hK, hD⟩, hS.F ht⟩) hS.2.2 dX9_takes_30
  · have hw := hw.2 c1
    refine lv_iload_n hx hb dX9_takes_6 rfl (lv_at hl 2 rfl) ?_
    refine lv_bipush (v := 47) hx hb dX9_takes_7 (by decide) ?_
    refine lv_icmp_ne (tgt := 16) hx hb dX9_takes_9 (by decide) (fun c16 => ?_) (fun c16 => ?_)
    · have hw := hw.1 c16
      refine lv_iconst (v := 0) hx hb dX9_takes_16 (by decide) ?_
      exact W.zret (v := 0) hx hb hr (tm_bool (by decide)) (fun t ht hW => ⟨⟨0, s0, rfl, ⟨(by decide), hw⟩, by rw [ht]; exact hP, va_K.moved hW.alike hK, hD⟩, hS.F ht⟩) hS.2.2 dX9_takes_17
    · have hw := hw.2 c16
      refine lv_iconst (v := 1) hx hb dX9_takes_12 (by decide) ?_
      refine lv_goto (tgt := 17) hx hb dX9_takes_13 (by decide) ?_
      exact W.zret (v := 1) hx hb hr (tm_bool (by decide)) (fun t ht hW => ⟨⟨1, s0, rfl, ⟨(by decide), hw⟩, by rw [ht]; exact hP, va_K.moved hW.alike hK, hD⟩, hS.F ht⟩) hS.2.2 dX9_takes_17
def wp_X9_read_26 (K : Int32 → tm_St → Prop) : Nat → Int32 → tm_St → Prop
  | 0, _, _ => False
  | n + 1, v1, s => (((s 0 18) ≤ v1 → K v1 s) ∧ (¬ (s 0 18) ≤ v1 → (vp_in v1 30 ∧ (wp_X9_takes v1 (s 14 (v1 : Int32).toNatClampNeg) s (fun r9 s10 => ((r9 = 0 → K v1 s10) ∧ (¬ r9 = 0 → (∀ x12 : Int32, x12 = v1 + 1 → wp_X9_read_26 K n x12 s10))))))))
def wp_X9_read  (s0 : tm_St) (K : Int32 → tm_St → Prop) : Prop := (vp_in 0 2 ∧ (∀ s2 : tm_St, s2 = tm_s s0 16 (upd (s0 16) (0 : Int32).toNatClampNeg 0) → (vp_in 1 2 ∧ (∀ s4 : tm_St, s4 = tm_s s2 16 (upd (s2 16) (1 : Int32).toNatClampNeg 0) → (∀ s5 : tm_St, s5 = tm_s s4 0 (tm_u (s4 0) 23 (-1)) → (∀ s6 : tm_St, s6 = tm_s s5 0 (tm_u (s5 0) 24 (-1)) → ∃ nf : Nat, wp_X9_read_26 K nf 0 s6))))))
set_option maxRecDepth 100000 in
set_option maxHeartbeats 4000000 in
theorem kk_X9_read (l : Launch) (dC : Nat → ClassId) (dI : Nat → Nat → Nat) (cI cZ : ClassId) (a : Nat → Nat) (s0 : tm_St) (hh : Int64) (sz : Nat)  (K : Int32 → tm_St → Prop) (hw : wp_X9_read s0 K) : Met l yX9_read wsX9_read ({ frames := 4, cells := 0, slots := 0, locals := 87 }) (va_Pc [.ref (a 0)] (tm_Pre dC dI cI cZ (tm_wModel cI cZ a s0 hh) sz)) (va_Qi (fun (r : Int32) (u : tm_St) => K r u) (fun (u : tm_St) t => tm_At dC dI cI cZ (va_A (tm_wModel cI cZ a s0 hh) sz) (tm_wModel cI cZ a u hh) t) (va_A (tm_wModel cI cZ a s0 hh) sz)) 0 0 (va_A (tm_wModel cI cZ a s0 hh) sz) := by
  refine Met.ofW (cc := cX9_read) (maxL := 2) (ret := (some .int)) (by decide +kernel) rfl ?_
  intro p e z m args below meth c z₁ B hml hv
  obtain ⟨rfl, hsz, hP, hK, hD0⟩ := hv
  have hx := B.exec
  have hb := B.bytes
  have hr := B.returns
  have hts := atoms_spec (ws := wsX9_read) B.pre
  have hown : z.vm.findClass RX9 = some m.cls := findClass_of_methodNamed B.named
  have hlocks := B.notSynchronized
  subst hsz
  have hD := hD0.self (sz := z.heap.size)
  generalize hAe : va_A (tm_wModel cI cZ a s0 hh) z.heap.size = A at hD ⊢
  have hA : ∀ q : Nat, z.heap.size ≤ q → A q := fun q h => by rw [← hAe]; exact Or.inr h
  have hS : va_S A z.heap z.heap [] := va_S.rf
  have h_f59 := hts (.fieldLink RX9 59 "TwoModemsModel" "newHurts" "[I") (by decide +kernel)
  have h_in9 : ∀ w ∈ u_ws RX9 TX9 30, w ∈ wsX9_read := by decide +kernel
  have h_f79 := hts (.fieldLink RX9 79 "TwoModemsModel" "hurtNow" "I") (by decide +kernel)
  have h_f76 := hts (.fieldLink RX9 76 "TwoModemsModel" "figures" "I") (by decide +kernel)
  have h_f69 := hts (.fieldLink RX9 69 "TwoModemsModel" "pageLength" "I") (by decide +kernel)
  have h_f53 := hts (.fieldLink RX9 53 "TwoModemsModel" "page" "[I") (by decide +kernel)
  have b26 : ∀ (n : Nat) (v1 : Int32) (s : tm_St) (H : Heap) (locs : List Loc) (ls : Array Slot), wp_X9_read_26 K n v1 s → va_P (dC, dI) vwCl (tm_wModel cI cZ a s hh) H → va_D A (tm_wModel cI cZ a s hh) → va_S A z.heap H locs → lv_has ls 2 [(0, .ref (a 0)), (1, .int v1)] → W p l e (headSpec wsX9_read ({ frames := 4, cells := 0, slots := 0, locals := 87 })).room z m (([.ref (a 0)] : List Value).toArray) below meth c H locs 0 0 (MQ below (va_Qi (fun (r : Int32) (u : tm_St) => K r u) (fun (u : tm_St) t => tm_At dC dI cI cZ A (tm_wModel cI cZ a u hh) t) A) (([.ref (a 0)] : List Value).toArray) z 0 0 A) (F0 m 26 ls []) := by
    intro n
    induction n with
    | zero => intro v1 s H locs ls hw hP hD hS hl; unfold wp_X9_read_26 at hw; exact hw.elim
    | succ n ih =>
      intro v1 s H locs ls hw hP hD hS hl
      unfold wp_X9_read_26 at hw
      refine lv_iload_n hx hb dX9_read_26 rfl (lv_at hl 1 rfl) ?_
      refine lv_aload_n hx hb dX9_read_27 rfl (lv_at hl 0 rfl) ?_
      refine va_get (D := (dC, dI)) (ci := 7) (v := .int (s 0 18)) (C := RX9) (T := TX9) (N := 30) hx hb hts h_in9 hown hK hP 0 rfl rfl 18 (by decide) h_f69 (fun _ h9 => h9) rfl dX9_read_28 ?_
      refine lv_icmp_ge (tgt := 54) hx hb dX9_read_31 (by decide) (fun c7 => ?_) (fun c7 => ?_)
      · have hw := hw.1 c7
        refine lv_iload_n hx hb dX9_read_54 rfl (lv_at hl 1 rfl) ?_
        exact W.iret (v := v1) hx hb hr (fun t ht hW => ⟨⟨v1, s, rfl, hw, by rw [ht]; exact hP, va_K.moved hW.alike hK, hD⟩, hS.F ht⟩) hS.2.2 dX9_read_55
      · have hw := hw.2 c7
        refine lv_aload_n hx hb dX9_read_34 rfl (lv_at hl 0 rfl) ?_
        refine lv_iload_n hx hb dX9_read_35 rfl (lv_at hl 1 rfl) ?_
        refine lv_aload_n hx hb dX9_read_36 rfl (lv_at hl 0 rfl) ?_
        refine va_get (D := (dC, dI)) (ci := 7) (v := .ref (a 14)) (C := RX9) (T := TX9) (N := 30) hx hb hts h_in9 hown hK hP 0 rfl rfl 19 (by decide) h_f53 (fun _ h9 => h9) rfl dX9_read_37 ?_
        refine lv_iload_n hx hb dX9_read_40 rfl (lv_at hl 1 rfl) ?_
        have c8 := hw.1
        have hw := hw.2
        refine va_iald hx hb hK hP 14 0 rfl rfl c8 dX9_read_41 ?_
        have hPc := hP
        have hDc := hD
        have hFc := va_free (wc := (tm_wModel cI cZ a s hh)) hD hS hA [0, 1, 2, 3, 4, 5, 6, 7, 8, 9, 10, 11, 12, 13, 14, 15, 16, 17] rfl
        refine va_calli (va_runV (As := [.int v1, .int (s 14 (v1 : Int32).toNatClampNeg)]) (rest := []) ⟨hx, hb, hml, hown, hts⟩ (kk_X9_takes l dC dI cI cZ a s hh H.size v1 (s 14 (v1 : Int32).toNatClampNeg) _ hw) (cwV 2 hts gX9_read_X9_takes rfl rfl rfl (by decide +kernel) ⟨Nat.le_of_ble_eq_true rfl, Nat.le_of_ble_eq_true rfl⟩) ⟨tm_blind, va_recv hK hPc (ci := 7) (q0 := 0) rfl rfl, fun U hU hW => ⟨rfl, by rw [hU], by rw [hU]; exact hPc, va_K.moved hW.alike hK, hDc.weaken (fun _ _ _ _ => trivial)⟩⟩ rfl rfl hl.1 rfl (lv_room (Nat.le_of_ble_eq_true rfl)) dX9_read_42 ⟨Nat.zero_le _, Nat.zero_le _⟩) hS (fun q _ h => hFc q h) hFc (fun r9 s10 t H1 locs ht hvm hw hB hz1 hk1 hS => ?_)
        obtain ⟨hP1, hK1, hD1⟩ := hB
        rw [ht] at hP1
        have b9_r9 := hw.1
        have hw := hw.2
        obtain ⟨hP, hD⟩ := va_join (wr := []) (w1 := (tm_wModel cI cZ a s10 hh)) hP hD [0, 1, 2, 3, 4, 5, 6, 7, 8, 9, 10, 11, 12, 13, 14, 15, 16, 17] [] rfl rfl (by decide) (by decide) hk1 hFc hP1 hD1
        generalize H1 = H at hP hS ⊢
        have hP : va_P (dC, dI) vwCl (tm_wModel cI cZ a s10 hh) H := hP
        have hD : va_D A (tm_wModel cI cZ a s10 hh) := hD
        refine lv_if_eq (tgt := 54) hx hb dX9_read_45 (by decide) (fun c11 => ?_) (fun c11 => ?_)
        · have hw := hw.1 c11
          refine lv_iload_n hx hb dX9_read_54 rfl (lv_at hl 1 rfl) ?_
          exact W.iret (v := v1) hx hb hr (fun t ht hW => ⟨⟨v1, s10, rfl, hw, by rw [ht]; exact hP, va_K.moved hW.alike hK, hD⟩, hS.F ht⟩) hS.2.2 dX9_read_55
        · have hw := hw.2 c11
          obtain ⟨x12, ex12⟩ : ∃ y : Int32, y = v1 + 1 := ⟨_, rfl⟩
          have hw := hw x12 ex12
          refine lv_iinc (v := x12) (lv' := [(1, .int x12), (0, .ref (a 0))]) hx hb dX9_read_48 hl (k := 1) rfl (by rw [ex12]; rfl) (by decide) rfl (fun ls hl => ?_)
          refine lv_goto (tgt := 26) hx hb dX9_read_51 (by decide) ?_
          exact ih x12 s10 _ _ _ hw hP hD hS (lv_sub hl [1, 0] rfl)
  have hl := lv_entry ([.ref (a 0)]) (n := 2) (Nat.le_of_ble_eq_true rfl)
  rw [lg_entry_eq]
  generalize (lg_sl ([.ref (a 0)]) ++ List.replicate (2 - (lg_sl ([.ref (a 0)])).length) Slot.unset).toArray = ls at hl ⊢
  have hl : lv_has ls 2 [(0, .ref (a 0))] := hl
  unfold wp_X9_read at hw
  refine lv_aload_n hx hb dX9_read_0 rfl (lv_at hl 0 rfl) ?_
  refine va_get (D := (dC, dI)) (ci := 7) (v := .ref (a 16)) (C := RX9) (T := TX9) (N := 30) hx hb hts h_in9 hown hK hP 0 rfl rfl 22 (by decide) h_f59 (fun _ h9 => h9) rfl dX9_read_1 ?_
  refine lv_iconst (v := 0) hx hb dX9_read_4 (by decide) ?_
  refine lv_iconst (v := 0) hx hb dX9_read_5 (by decide) ?_
  have c1 := hw.1
  have hw := hw.2
  refine va_iast hx hb hK hP hD hS 16 0 rfl rfl c1 dX9_read_6 (fun H locs hP hD hS => ?_)
  obtain ⟨s2, es2⟩ : ∃ y : tm_St, y = tm_s s0 16 (upd (s0 16) (0 : Int32).toNatClampNeg 0) := ⟨_, rfl⟩
  have hw := hw s2 es2
  have hP : va_P (dC, dI) vwCl (tm_wModel cI cZ a s2 hh) H := by rw [es2]; exact hP
  have hD : va_D A (tm_wModel cI cZ a s2 hh) := by rw [es2]; exact hD
  refine lv_aload_n hx hb dX9_read_7 rfl (lv_at hl 0 rfl) ?_
  refine va_get (D := (dC, dI)) (ci := 7) (v := .ref (a 16)) (C := RX9) (T := TX9) (N := 30) hx hb hts h_in9 hown hK hP 0 rfl rfl 22 (by decide) h_f59 (fun _ h9 => h9) rfl dX9_read_8 ?_
  refine lv_iconst (v := 1) hx hb dX9_read_11 (by decide) ?_
  refine lv_iconst (v := 0) hx hb dX9_read_12 (by decide) ?_
  have c3 := hw.1
  have hw := hw.2
  refine va_iast hx hb hK hP hD hS 16 0 rfl rfl c3 dX9_read_13 (fun H locs hP hD hS => ?_)
  obtain ⟨s4, es4⟩ : ∃ y : tm_St, y = tm_s s2 16 (upd (s2 16) (1 : Int32).toNatClampNeg 0) := ⟨_, rfl⟩
  have hw := hw s4 es4
  have hP : va_P (dC, dI) vwCl (tm_wModel cI cZ a s4 hh) H := by rw [es4]; exact hP
  have hD : va_D A (tm_wModel cI cZ a s4 hh) := by rw [es4]; exact hD
  refine lv_aload_n hx hb dX9_read_14 rfl (lv_at hl 0 rfl) ?_
  refine lv_iconst (v := (-1)) hx hb dX9_read_15 (by decide) ?_
  refine va_put (D := (dC, dI)) (ci := 7) (v := .int (-1)) (ty := .int) (C := RX9) (T := TX9) (N := 30) hx hb hts h_in9 tyX9 tyX9_ok nmX9 hown hK hP hD hS 0 rfl rfl 23 (by decide) h_f79 (fun _ h9 => h9) rfl (by decide +kernel) rfl rfl (Nat.le_of_ble_eq_true rfl) dX9_read_16 (fun H locs hP hD hS => ?_)
  obtain ⟨s5, es5⟩ : ∃ y : tm_St, y = tm_s s4 0 (tm_u (s4 0) 23 (-1)) := ⟨_, rfl⟩
  have hw := hw s5 es5
  have hP : va_P (dC, dI) vwCl (tm_wModel cI cZ a s5 hh) H := by rw [es5]; exact hP
  have hD : va_D A (tm_wModel cI cZ a s5 hh) := by rw [es5]; exact hD
  refine lv_aload_n hx hb dX9_read_19 rfl (lv_at hl 0 rfl) ?_
  refine lv_iconst (v := (-1)) hx hb dX9_read_20 (by decide) ?_
  refine va_put (D := (dC, dI)) (ci := 7) (v := .int (-1)) (ty := .int) (C := RX9) (T := TX9) (N := 30) hx hb hts h_in9 tyX9 tyX9_ok nmX9 hown hK hP hD hS 0 rfl rfl 24 (by decide) h_f76 (fun _ h9 => h9) rfl (by decide +kernel) rfl rfl (Nat.le_of_ble_eq_true rfl) dX9_read_21 (fun H locs hP hD hS => ?_)
  obtain ⟨s6, es6⟩ : ∃ y : tm_St, y = tm_s s5 0 (tm_u (s5 0) 24 (-1)) := ⟨_, rfl⟩
  have hw := hw s6 es6
  have hP : va_P (dC, dI) vwCl (tm_wModel cI cZ a s6 hh) H := by rw [es6]; exact hP
  have hD : va_D A (tm_wModel cI cZ a s6 hh) := by rw [es6]; exact hD
  refine lv_iconst (v := 0) hx hb dX9_read_24 (by decide) ?_
  refine lv_istore_n (lv' := [(1, .int 0), (0, .ref (a 0))]) hx hb dX9_read_25 rfl hl (by decide) rfl (fun ls hl => ?_)
  obtain ⟨nf, hw⟩ := hw
  exact b26 nf 0 s6 _ _ _ hw hP hD hS (lv_sub hl [1, 0] rfl)
def wp_X9_fault  (s0 : tm_St) (K : Int32 → tm_St → Prop) : Prop := (wp_X9_read  s0 (fun r1 s2 => K r1 s2))
set_option maxRecDepth 100000 in
set_option maxHeartbeats 4000000 in
theorem kk_X9_fault (l : Launch) (dC : Nat → ClassId) (dI : Nat → Nat → Nat) (cI cZ : ClassId) (a : Nat → Nat) (s0 : tm_St) (hh : Int64) (sz : Nat)  (K : Int32 → tm_St → Prop) (hw : wp_X9_fault s0 K) : Met l yX9_fault wsX9_fault ({ frames := 5, cells := 0, slots := 0, locals := 108 }) (va_Pc [.ref (a 0)] (tm_Pre dC dI cI cZ (tm_wModel cI cZ a s0 hh) sz)) (va_Qi (fun (r : Int32) (u : tm_St) => K r u) (fun (u : tm_St) t => tm_At dC dI cI cZ (va_A (tm_wModel cI cZ a s0 hh) sz) (tm_wModel cI cZ a u hh) t) (va_A (tm_wModel cI cZ a s0 hh) sz)) 0 0 (va_A (tm_wModel cI cZ a s0 hh) sz) := by
  refine Met.ofW (cc := cX9_fault) (maxL := 1) (ret := (some .int)) (by decide +kernel) rfl ?_
  intro p e z m args below meth c z₁ B hml hv
  obtain ⟨rfl, hsz, hP, hK, hD0⟩ := hv
  have hx := B.exec
  have hb := B.bytes
  have hr := B.returns
  have hts := atoms_spec (ws := wsX9_fault) B.pre
  have hown : z.vm.findClass RX9 = some m.cls := findClass_of_methodNamed B.named
  have hlocks := B.notSynchronized
  subst hsz
  have hD := hD0.self (sz := z.heap.size)
  generalize hAe : va_A (tm_wModel cI cZ a s0 hh) z.heap.size = A at hD ⊢
  have hA : ∀ q : Nat, z.heap.size ≤ q → A q := fun q h => by rw [← hAe]; exact Or.inr h
  have hS : va_S A z.heap z.heap [] := va_S.rf
  have hl := lv_entry ([.ref (a 0)]) (n := 1) (Nat.le_of_ble_eq_true rfl)
  rw [lg_entry_eq]
  generalize (lg_sl ([.ref (a 0)]) ++ List.replicate (1 - (lg_sl ([.ref (a 0)])).length) Slot.unset).toArray = ls at hl ⊢
  have hl : lv_has ls 1 [(0, .ref (a 0))] := hl
  unfold wp_X9_fault at hw
  refine lv_aload_n hx hb dX9_fault_0 rfl (lv_at hl 0 rfl) ?_
  have hPc := hP
  have hDc := hD
  have hFc := va_free (wc := (tm_wModel cI cZ a s0 hh)) hD hS hA [0, 1, 2, 3, 4, 5, 6, 7, 8, 9, 10, 11, 12, 13, 14, 15, 16, 17] rfl
  refine va_calli (va_runV (As := []) (rest := []) ⟨hx, hb, hml, hown, hts⟩ (kk_X9_read l dC dI cI cZ a s0 hh z.heap.size  _ hw) (cwV 0 hts gX9_fault_X9_read rfl rfl rfl (by decide +kernel) ⟨Nat.le_of_ble_eq_true rfl, Nat.le_of_ble_eq_true rfl⟩) ⟨tm_blind, va_recv hK hPc (ci := 7) (q0 := 0) rfl rfl, fun U hU hW => ⟨rfl, by rw [hU], by rw [hU]; exact hPc, va_K.moved hW.alike hK, hDc.weaken (fun _ _ _ _ => trivial)⟩⟩ rfl rfl hl.1 rfl (lv_room (Nat.le_of_ble_eq_true rfl)) dX9_fault_1 ⟨Nat.zero_le _, Nat.zero_le _⟩) hS (fun q _ h => hFc q h) hFc (fun r1 s2 t H1 locs ht hvm hw hB hz1 hk1 hS => ?_)
  obtain ⟨hP1, hK1, hD1⟩ := hB
  rw [ht] at hP1
  obtain ⟨hP, hD⟩ := va_join (wr := []) (w1 := (tm_wModel cI cZ a s2 hh)) hP hD [0, 1, 2, 3, 4, 5, 6, 7, 8, 9, 10, 11, 12, 13, 14, 15, 16, 17] [] rfl rfl (by decide) (by decide) hk1 hFc hP1 hD1
  generalize H1 = H at hP hS ⊢
  have hP : va_P (dC, dI) vwCl (tm_wModel cI cZ a s2 hh) H := hP
  have hD : va_D A (tm_wModel cI cZ a s2 hh) := hD
  exact W.iret (v := r1) hx hb hr (fun t ht hW => ⟨⟨r1, s2, rfl, hw, by rw [ht]; exact hP, va_K.moved hW.alike hK, hD⟩, hS.F ht⟩) hS.2.2 dX9_fault_4
def wp_X9_line_61 (K : Int32 → tm_St → Prop) : Nat → Int32 → tm_St → Prop
  | 0, _, _ => False
  | n + 1, v2, s => (((16 : Int32) ≤ v2 → (∀ s6 : tm_St, s6 = tm_s s 0 (tm_u (s 0) 8 (s 0 21)) → (vp_in 0 2 ∧ (vp_in 0 2 ∧ (∀ s9 : tm_St, s9 = tm_s s6 9 (upd (s6 9) (0 : Int32).toNatClampNeg (s6 16 (0 : Int32).toNatClampNeg)) → (vp_in 1 2 ∧ (vp_in 1 2 ∧ (∀ s12 : tm_St, s12 = tm_s s9 9 (upd (s9 9) (1 : Int32).toNatClampNeg (s9 16 (1 : Int32).toNatClampNeg)) → (∀ s13 : tm_St, s13 = tm_s s12 0 (tm_u (s12 0) 16 ((s12 0 16) + 1)) → (∀ s14 : tm_St, s14 = tm_s s13 0 (tm_u (s13 0) 18 0) → K (s14 0 8) s14)))))))))) ∧ (¬ (16 : Int32) ≤ v2 → (vp_in v2 16 ∧ (vp_in v2 16 ∧ (∀ s17 : tm_St, s17 = tm_s s 8 (upd (s 8) (v2 : Int32).toNatClampNeg (s 15 (v2 : Int32).toNatClampNeg)) → (∀ x18 : Int32, x18 = v2 + 1 → wp_X9_line_61 K n x18 s17))))))
def wp_X9_line  (s0 : tm_St) (K : Int32 → tm_St → Prop) : Prop := (wp_X9_read  s0 (fun r1 s2 => ((¬ r1 = (s2 0 18) → K (-1003) s2) ∧ (r1 = (s2 0 18) → (((s2 0 18) = 19 → ∃ nf : Nat, wp_X9_line_61 K nf 0 s2) ∧ (¬ (s2 0 18) = 19 → (((s2 0 18) ≤ 19 → K (-1003) s2) ∧ (¬ (s2 0 18) ≤ 19 → ((¬ (s2 0 23) = 1 → K (-1003) s2) ∧ ((s2 0 23) = 1 → (((s2 0 24) = (-1) → K (-1003) s2) ∧ (¬ (s2 0 24) = (-1) → ∃ nf : Nat, wp_X9_line_61 K nf 0 s2))))))))))))
set_option maxRecDepth 100000 in
set_option maxHeartbeats 4000000 in
theorem kk_X9_line (l : Launch) (dC : Nat → ClassId) (dI : Nat → Nat → Nat) (cI cZ : ClassId) (a : Nat → Nat) (s0 : tm_St) (hh : Int64) (sz : Nat)  (K : Int32 → tm_St → Prop) (hw : wp_X9_line s0 K) : Met l yX9_line wsX9_line ({ frames := 5, cells := 0, slots := 0, locals := 108 }) (va_Pc [.ref (a 0)] (tm_Pre dC dI cI cZ (tm_wModel cI cZ a s0 hh) sz)) (va_Qi (fun (r : Int32) (u : tm_St) => K r u) (fun (u : tm_St) t => tm_At dC dI cI cZ (va_A (tm_wModel cI cZ a s0 hh) sz) (tm_wModel cI cZ a u hh) t) (va_A (tm_wModel cI cZ a s0 hh) sz)) 0 0 (va_A (tm_wModel cI cZ a s0 hh) sz) := by
  refine Met.ofW (cc := cX9_line) (maxL := 3) (ret := (some .int)) (by decide +kernel) rfl ?_
  intro p e z m args below meth c z₁ B hml hv
  obtain ⟨rfl, hsz, hP, hK, hD0⟩ := hv
  have hx := B.exec
  have hb := B.bytes
  have hr := B.returns
  have hts := atoms_spec (ws := wsX9_line) B.pre
  have hown : z.vm.findClass RX9 = some m.cls := findClass_of_methodNamed B.named
  have hlocks := B.notSynchronized
  subst hsz
  have hD := hD0.self (sz := z.heap.size)
  generalize hAe : va_A (tm_wModel cI cZ a s0 hh) z.heap.size = A at hD ⊢
  have hA : ∀ q : Nat, z.heap.size ≤ q → A q := fun q h => by rw [← hAe]; exact Or.inr h
  have hS : va_S A z.heap z.heap [] := va_S.rf
  have h_f69 := hts (.fieldLink RX9 69 "TwoModemsModel" "pageLength" "I") (by decide +kernel)
  have h_in9 : ∀ w ∈ u_ws RX9 TX9 30, w ∈ wsX9_line := by decide +kernel
  have h_f86 := hts (.fieldLink RX9 86 "TwoModemsModel" "newDelay" "I") (by decide +kernel)
  have h_f34 := hts (.fieldLink RX9 34 "TwoModemsModel" "delay" "I") (by decide +kernel)
  have h_f38 := hts (.fieldLink RX9 38 "TwoModemsModel" "hurts" "[I") (by decide +kernel)
  have h_f59 := hts (.fieldLink RX9 59 "TwoModemsModel" "newHurts" "[I") (by decide +kernel)
  have h_f100 := hts (.fieldLink RX9 100 "TwoModemsModel" "lines" "I") (by decide +kernel)
  have h_f31 := hts (.fieldLink RX9 31 "TwoModemsModel" "quality" "[I") (by decide +kernel)
  have h_f56 := hts (.fieldLink RX9 56 "TwoModemsModel" "newQuality" "[I") (by decide +kernel)
  have h_f79 := hts (.fieldLink RX9 79 "TwoModemsModel" "hurtNow" "I") (by decide +kernel)
  have h_f76 := hts (.fieldLink RX9 76 "TwoModemsModel" "figures" "I") (by decide +kernel)
  have b61 : ∀ (n : Nat) (v2 : Int32) (s : tm_St) (H : Heap) (locs : List Loc) (ls : Array Slot), wp_X9_line_61 K n v2 s → va_P (dC, dI) vwCl (tm_wModel cI cZ a s hh) H → va_D A (tm_wModel cI cZ a s hh) → va_S A z.heap H locs → lv_has ls 3 [(0, .ref (a 0)), (2, .int v2)] → W p l e (headSpec wsX9_line ({ frames := 5, cells := 0, slots := 0, locals := 108 })).room z m (([.ref (a 0)] : List Value).toArray) below meth c H locs 0 0 (MQ below (va_Qi (fun (r : Int32) (u : tm_St) => K r u) (fun (u : tm_St) t => tm_At dC dI cI cZ A (tm_wModel cI cZ a u hh) t) A) (([.ref (a 0)] : List Value).toArray) z 0 0 A) (F0 m 61 ls []) := by
    intro n
    induction n with
    | zero => intro v2 s H locs ls hw hP hD hS hl; unfold wp_X9_line_61 at hw; exact hw.elim
    | succ n ih =>
      intro v2 s H locs ls hw hP hD hS hl
      unfold wp_X9_line_61 at hw
      refine lv_iload_n hx hb dX9_line_61 rfl (lv_at hl 1 rfl) ?_
      refine lv_bipush (v := 16) hx hb dX9_line_62 (by decide) ?_
      refine lv_icmp_ge (tgt := 85) hx hb dX9_line_64 (by decide) (fun c5 => ?_) (fun c5 => ?_)
      · have hw := hw.1 c5
        refine lv_aload_n hx hb dX9_line_85 rfl (lv_at hl 0 rfl) ?_
        refine lv_aload_n hx hb dX9_line_86 rfl (lv_at hl 0 rfl) ?_
        refine va_get (D := (dC, dI)) (ci := 7) (v := .int (s 0 21)) (C := RX9) (T := TX9) (N := 30) hx hb hts h_in9 hown hK hP 0 rfl rfl 21 (by decide) h_f86 (fun _ h9 => h9) rfl dX9_line_87 ?_
        refine va_put (D := (dC, dI)) (ci := 7) (v := .int (s 0 21)) (ty := .int) (C := RX9) (T := TX9) (N := 30) hx hb hts h_in9 tyX9 tyX9_ok nmX9 hown hK hP hD hS 0 rfl rfl 8 (by decide) h_f34 (fun _ h9 => h9) rfl (by decide +kernel) rfl rfl (Nat.le_of_ble_eq_true rfl) dX9_line_90 (fun H locs hP hD hS => ?_)
        obtain ⟨s6, es6⟩ : ∃ y : tm_St, y = tm_s s 0 (tm_u (s 0) 8 (s 0 21)) := ⟨_, rfl⟩
        have hw := hw s6 es6
        have hP : va_P (dC, dI) vwCl (tm_wModel cI cZ a s6 hh) H := by rw [es6]; exact hP
        have hD : va_D A (tm_wModel cI cZ a s6 hh) := by rw [es6]; exact hD
        refine lv_aload_n hx hb dX9_line_93 rfl (lv_at hl 0 rfl) ?_
        refine va_get (D := (dC, dI)) (ci := 7) (v := .ref (a 9)) (C := RX9) (T := TX9) (N := 30) hx hb hts h_in9 hown hK hP 0 rfl rfl 9 (by decide) h_f38 (fun _ h9 => h9) rfl dX9_line_94 ?_
        refine lv_iconst (v := 0) hx hb dX9_line_97 (by decide) ?_
        refine lv_aload_n hx hb dX9_line_98 rfl (lv_at hl 0 rfl) ?_
        refine va_get (D := (dC, dI)) (ci := 7) (v := .ref (a 16)) (C := RX9) (T := TX9) (N := 30) hx hb hts h_in9 hown hK hP 0 rfl rfl 22 (by decide) h_f59 (fun _ h9 => h9) rfl dX9_line_99 ?_
        refine lv_iconst (v := 0) hx hb dX9_line_102 (by decide) ?_
        have c7 := hw.1
        have hw := hw.2
        refine va_iald hx hb hK hP 16 0 rfl rfl c7 dX9_line_103 ?_
        have c8 := hw.1
        have hw := hw.2
        refine va_iast hx hb hK hP hD hS 9 0 rfl rfl c8 dX9_line_104 (fun H locs hP hD hS => ?_)
        obtain ⟨s9, es9⟩ : ∃ y : tm_St, y = tm_s s6 9 (upd (s6 9) (0 : Int32).toNatClampNeg (s6 16 (0 : Int32).toNatClampNeg)) := ⟨_, rfl⟩
        have hw := hw s9 es9
        have hP : va_P (dC, dI) vwCl (tm_wModel cI cZ a s9 hh) H := by rw [es9]; exact hP
        have hD : va_D A (tm_wModel cI cZ a s9 hh) := by rw [es9]; exact hD
        refine lv_aload_n hx hb dX9_line_105 rfl (lv_at hl 0 rfl) ?_
        refine va_get (D := (dC, dI)) (ci := 7) (v := .ref (a 9)) (C := RX9) (T := TX9) (N := 30) hx hb hts h_in9 hown hK hP 0 rfl rfl 9 (by decide) h_f38 (fun _ h9 => h9) rfl dX9_line_106 ?_
        refine lv_iconst (v := 1) hx hb dX9_line_109 (by decide) ?_
        refine lv_aload_n hx hb dX9_line_110 rfl (lv_at hl 0 rfl) ?_
        refine va_get (D := (dC, dI)) (ci := 7) (v := .ref (a 16)) (C := RX9) (T := TX9) (N := 30) hx hb hts h_in9 hown hK hP 0 rfl rfl 22 (by decide) h_f59 (fun _ h9 => h9) rfl dX9_line_111 ?_
        refine lv_iconst (v := 1) hx hb dX9_line_114 (by decide) ?_
        have c10 := hw.1
        have hw := hw.2
        refine va_iald hx hb hK hP 16 0 rfl rfl c10 dX9_line_115 ?_
        have c11 := hw.1
        have hw := hw.2
        refine va_iast hx hb hK hP hD hS 9 0 rfl rfl c11 dX9_line_116 (fun H locs hP hD hS => ?_)
        obtain ⟨s12, es12⟩ : ∃ y : tm_St, y = tm_s s9 9 (upd (s9 9) (1 : Int32).toNatClampNeg (s9 16 (1 : Int32).toNatClampNeg)) := ⟨_, rfl⟩
        have hw := hw s12 es12
        have hP : va_P (dC, dI) vwCl (tm_wModel cI cZ a s12 hh) H := by rw [es12]; exact hP
        have hD : va_D A (tm_wModel cI cZ a s12 hh) := by rw [es12]; exact hD
        refine lv_aload_n hx hb dX9_line_117 rfl (lv_at hl 0 rfl) ?_
        refine lv_dup hx hb dX9_line_118 rfl ?_
        refine va_get (D := (dC, dI)) (ci := 7) (v := .int (s12 0 16)) (C := RX9) (T := TX9) (N := 30) hx hb hts h_in9 hown hK hP 0 rfl rfl 16 (by decide) h_f100 (fun _ h9 => h9) rfl dX9_line_119 ?_
        refine lv_iconst (v := 1) hx hb dX9_line_122 (by decide) ?_
        refine lv_iadd hx hb dX9_line_123 ?_
        refine va_put (D := (dC, dI)) (ci := 7) (v := .int ((s12 0 16) + 1)) (ty := .int) (C := RX9) (T := TX9) (N := 30) hx hb hts h_in9 tyX9 tyX9_ok nmX9 hown hK hP hD hS 0 rfl rfl 16 (by decide) h_f100 (fun _ h9 => h9) rfl (by decide +kernel) rfl rfl (Nat.le_of_ble_eq_true rfl) dX9_line_124 (fun H locs hP hD hS => ?_)
        obtain ⟨s13, es13⟩ : ∃ y : tm_St, y = tm_s s12 0 (tm_u (s12 0) 16 ((s12 0 16) + 1)) := ⟨_, rfl⟩
        have hw := hw s13 es13
        have hP : va_P (dC, dI) vwCl (tm_wModel cI cZ a s13 hh) H := by rw [es13]; exact hP
        have hD : va_D A (tm_wModel cI cZ a s13 hh) := by rw [es13]; exact hD
        refine lv_aload_n hx hb dX9_line_127 rfl (lv_at hl 0 rfl) ?_
        refine lv_iconst (v := 0) hx hb dX9_line_128 (by decide) ?_
        refine va_put (D := (dC, dI)) (ci := 7) (v := .int 0) (ty := .int) (C := RX9) (T := TX9) (N := 30) hx hb hts h_in9 tyX9 tyX9_ok nmX9 hown hK hP hD hS 0 rfl rfl 18 (by decide) h_f69 (fun _ h9 => h9) rfl (by decide +kernel) rfl rfl (Nat.le_of_ble_eq_true rfl) dX9_line_129 (fun H locs hP hD hS => ?_)
        obtain ⟨s14, es14⟩ : ∃ y : tm_St, y = tm_s s13 0 (tm_u (s13 0) 18 0) := ⟨_, rfl⟩
        have hw := hw s14 es14
        have hP : va_P (dC, dI) vwCl (tm_wModel cI cZ a s14 hh) H := by rw [es14]; exact hP
        have hD : va_D A (tm_wModel cI cZ a s14 hh) := by rw [es14]; exact hD
        refine lv_aload_n hx hb dX9_line_132 rfl (lv_at hl 0 rfl) ?_
        refine va_get (D := (dC, dI)) (ci := 7) (v := .int (s14 0 8)) (C := RX9) (T := TX9) (N := 30) hx hb hts h_in9 hown hK hP 0 rfl rfl 8 (by decide) h_f34 (fun _ h9 => h9) rfl dX9_line_133 ?_
        exact W.iret (v := (s14 0 8)) hx hb hr (fun t ht hW => ⟨⟨(s14 0 8), s14, rfl, hw, by rw [ht]; exact hP, va_K.moved hW.alike hK, hD⟩, hS.F ht⟩) hS.2.2 dX9_line_136
      · have hw := hw.2 c5
        refine lv_aload_n hx hb dX9_line_67 rfl (lv_at hl 0 rfl) ?_
        refine va_get (D := (dC, dI)) (ci := 7) (v := .ref (a 8)) (C := RX9) (T := TX9) (N := 30) hx hb hts h_in9 hown hK hP 0 rfl rfl 7 (by decide) h_f31 (fun _ h9 => h9) rfl dX9_line_68 ?_
        refine lv_iload_n hx hb dX9_line_71 rfl (lv_at hl 1 rfl) ?_
        refine lv_aload_n hx hb dX9_line_72 rfl (lv_at hl 0 rfl) ?_
        refine va_get (D := (dC, dI)) (ci := 7) (v := .ref (a 15)) (C := RX9) (T := TX9) (N := 30) hx hb hts h_in9 hown hK hP 0 rfl rfl 20 (by decide) h_f56 (fun _ h9 => h9) rfl dX9_line_73 ?_
        refine lv_iload_n hx hb dX9_line_76 rfl (lv_at hl 1 rfl) ?_
        have c15 := hw.1
        have hw := hw.2
        refine va_iald hx hb hK hP 15 0 rfl rfl c15 dX9_line_77 ?_
        have c16 := hw.1
        have hw := hw.2
        refine va_iast hx hb hK hP hD hS 8 0 rfl rfl c16 dX9_line_78 (fun H locs hP hD hS => ?_)
        obtain ⟨s17, es17⟩ : ∃ y : tm_St, y = tm_s s 8 (upd (s 8) (v2 : Int32).toNatClampNeg (s 15 (v2 : Int32).toNatClampNeg)) := ⟨_, rfl⟩
        have hw := hw s17 es17
        have hP : va_P (dC, dI) vwCl (tm_wModel cI cZ a s17 hh) H := by rw [es17]; exact hP
        have hD : va_D A (tm_wModel cI cZ a s17 hh) := by rw [es17]; exact hD
        obtain ⟨x18, ex18⟩ : ∃ y : Int32, y = v2 + 1 := ⟨_, rfl⟩
        have hw := hw x18 ex18
        refine lv_iinc (v := x18) (lv' := [(2, .int x18), (0, .ref (a 0))]) hx hb dX9_line_79 hl (k := 1) rfl (by rw [ex18]; rfl) (by decide) rfl (fun ls hl => ?_)
        refine lv_goto (tgt := 61) hx hb dX9_line_82 (by decide) ?_
        exact ih x18 s17 _ _ _ hw hP hD hS (lv_sub hl [1, 0] rfl)
  have hl := lv_entry ([.ref (a 0)]) (n := 3) (Nat.le_of_ble_eq_true rfl)
  rw [lg_entry_eq]
  generalize (lg_sl ([.ref (a 0)]) ++ List.replicate (3 - (lg_sl ([.ref (a 0)])).length) Slot.unset).toArray = ls at hl ⊢
  have hl : lv_has ls 3 [(0, .ref (a 0))] := hl
  unfold wp_X9_line at hw
  refine lv_aload_n hx hb dX9_line_0 rfl (lv_at hl 0 rfl) ?_
  have hPc := hP
  have hDc := hD
  have hFc := va_free (wc := (tm_wModel cI cZ a s0 hh)) hD hS hA [0, 1, 2, 3, 4, 5, 6, 7, 8, 9, 10, 11, 12, 13, 14, 15, 16, 17] rfl
  refine va_calli (va_runV (As := []) (rest := []) ⟨hx, hb, hml, hown, hts⟩ (kk_X9_read l dC dI cI cZ a s0 hh z.heap.size  _ hw) (cwV 0 hts gX9_line_X9_read rfl rfl rfl (by decide +kernel) ⟨Nat.le_of_ble_eq_true rfl, Nat.le_of_ble_eq_true rfl⟩) ⟨tm_blind, va_recv hK hPc (ci := 7) (q0 := 0) rfl rfl, fun U hU hW => ⟨rfl, by rw [hU], by rw [hU]; exact hPc, va_K.moved hW.alike hK, hDc.weaken (fun _ _ _ _ => trivial)⟩⟩ rfl rfl hl.1 rfl (lv_room (Nat.le_of_ble_eq_true rfl)) dX9_line_1 ⟨Nat.zero_le _, Nat.zero_le _⟩) hS (fun q _ h => hFc q h) hFc (fun r1 s2 t H1 locs ht hvm hw hB hz1 hk1 hS => ?_)
  obtain ⟨hP1, hK1, hD1⟩ := hB
  rw [ht] at hP1
  obtain ⟨hP, hD⟩ := va_join (wr := []) (w1 := (tm_wModel cI cZ a s2 hh)) hP hD [0, 1, 2, 3, 4, 5, 6, 7, 8, 9, 10, 11, 12, 13, 14, 15, 16, 17] [] rfl rfl (by decide) (by decide) hk1 hFc hP1 hD1
  generalize H1 = H at hP hS ⊢
  have hP : va_P (dC, dI) vwCl (tm_wModel cI cZ a s2 hh) H := hP
  have hD : va_D A (tm_wModel cI cZ a s2 hh) := hD
  refine lv_aload_n hx hb dX9_line_4 rfl (lv_at hl 0 rfl) ?_
  refine va_get (D := (dC, dI)) (ci := 7) (v := .int (s2 0 18)) (C := RX9) (T := TX9) (N := 30) hx hb hts h_in9 hown hK hP 0 rfl rfl 18 (by decide) h_f69 (fun _ h9 => h9) rfl dX9_line_5 ?_
  refine lv_icmp_ne (tgt := 49) hx hb dX9_line_8 (by decide) (fun c3 => ?_) (fun c3 => ?_)
  · have hw := hw.1 c3
    refine lv_iconst (v := 0) hx hb dX9_line_49 (by decide) ?_
    refine lv_istore_n (lv' := [(1, .int 0), (0, .ref (a 0))]) hx hb dX9_line_50 rfl hl (by decide) rfl (fun ls hl => ?_)
    refine lv_iload_n hx hb dX9_line_51 rfl (lv_at hl 0 rfl) ?_
    refine lv_if_ne (tgt := 59) hx hb dX9_line_52 (by decide) (fun c9 => absurd (by decide) c9) (fun _ => ?_)
    refine lv_sipush (v := (-1003)) hx hb dX9_line_55 (by decide) ?_
    exact W.iret (v := (-1003)) hx hb hr (fun t ht hW => ⟨⟨(-1003), s2, rfl, hw, by rw [ht]; exact hP, va_K.moved hW.alike hK, hD⟩, hS.F ht⟩) hS.2.2 dX9_line_58
  · have hw := hw.2 c3
    refine lv_aload_n hx hb dX9_line_11 rfl (lv_at hl 0 rfl) ?_
    refine va_get (D := (dC, dI)) (ci := 7) (v := .int (s2 0 18)) (C := RX9) (T := TX9) (N := 30) hx hb hts h_in9 hown hK hP 0 rfl rfl 18 (by decide) h_f69 (fun _ h9 => h9) rfl dX9_line_12 ?_
    refine lv_bipush (v := 19) hx hb dX9_line_15 (by decide) ?_
    refine lv_icmp_eq (tgt := 45) hx hb dX9_line_17 (by decide) (fun c4 => ?_) (fun c4 => ?_)
    · have hw := hw.1 c4
      refine lv_iconst (v := 1) hx hb dX9_line_45 (by decide) ?_
      refine lv_goto (tgt := 50) hx hb dX9_line_46 (by decide) ?_
      refine lv_istore_n (lv' := [(1, .int 1), (0, .ref (a 0))]) hx hb dX9_line_50 rfl hl (by decide) rfl (fun ls hl => ?_)
      refine lv_iload_n hx hb dX9_line_51 rfl (lv_at hl 0 rfl) ?_
      refine lv_if_ne (tgt := 59) hx hb dX9_line_52 (by decide) (fun _ => ?_) (fun c9 => absurd c9 (by decide))
      refine lv_iconst (v := 0) hx hb dX9_line_59 (by decide) ?_
      refine lv_istore_n (lv' := [(2, .int 0), (1, .int 1), (0, .ref (a 0))]) hx hb dX9_line_60 rfl hl (by decide) rfl (fun ls hl => ?_)
      obtain ⟨nf, hw⟩ := hw
      exact b61 nf 0 s2 _ _ _ hw hP hD hS (lv_sub hl [2, 0] rfl)
    · have hw := hw.2 c4
      refine lv_aload_n hx hb dX9_line_20 rfl (lv_at hl 0 rfl) ?_
      refine va_get (D := (dC, dI)) (ci := 7) (v := .int (s2 0 18)) (C := RX9) (T := TX9) (N := 30) hx hb hts h_in9 hown hK hP 0 rfl rfl 18 (by decide) h_f69 (fun _ h9 => h9) rfl dX9_line_21 ?_
      refine lv_bipush (v := 19) hx hb dX9_line_24 (by decide) ?_
      refine lv_icmp_le (tgt := 49) hx hb dX9_line_26 (by decide) (fun c19 => ?_) (fun c19 => ?_)
      · have hw := hw.1 c19
        refine lv_iconst (v := 0) hx hb dX9_line_49 (by decide) ?_
        refine lv_istore_n (lv' := [(1, .int 0), (0, .ref (a 0))]) hx hb dX9_line_50 rfl hl (by decide) rfl (fun ls hl => ?_)
        refine lv_iload_n hx hb dX9_line_51 rfl (lv_at hl 0 rfl) ?_
        refine lv_if_ne (tgt := 59) hx hb dX9_line_52 (by decide) (fun c9 => absurd (by decide) c9) (fun _ => ?_)
        refine lv_sipush (v := (-1003)) hx hb dX9_line_55 (by decide) ?_
        exact W.iret (v := (-1003)) hx hb hr (fun t ht hW => ⟨⟨(-1003), s2, rfl, hw, by rw [ht]; exact hP, va_K.moved hW.alike hK, hD⟩, hS.F ht⟩) hS.2.2 dX9_line_58
      · have hw := hw.2 c19
        refine lv_aload_n hx hb dX9_line_29 rfl (lv_at hl 0 rfl) ?_
        refine va_get (D := (dC, dI)) (ci := 7) (v := .int (s2 0 23)) (C := RX9) (T := TX9) (N := 30) hx hb hts h_in9 hown hK hP 0 rfl rfl 23 (by decide) h_f79 (fun _ h9 => h9) rfl dX9_line_30 ?_
        refine lv_iconst (v := 1) hx hb dX9_line_33 (by decide) ?_
        refine lv_icmp_ne (tgt := 49) hx hb dX9_line_34 (by decide) (fun c20 => ?_) (fun c20 => ?_)
        · have hw := hw.1 c20
          refine lv_iconst (v := 0) hx hb dX9_line_49 (by decide) ?_
          refine lv_istore_n (lv' := [(1, .int 0), (0, .ref (a 0))]) hx hb dX9_line_50 rfl hl (by decide) rfl (fun ls hl => ?_)
          refine lv_iload_n hx hb dX9_line_51 rfl (lv_at hl 0 rfl) ?_
          refine lv_if_ne (tgt := 59) hx hb dX9_line_52 (by decide) (fun c9 => absurd (by decide) c9) (fun _ => ?_)
          refine lv_sipush (v := (-1003)) hx hb dX9_line_55 (by decide) ?_
          exact W.iret (v := (-1003)) hx hb hr (fun t ht hW => ⟨⟨(-1003), s2, rfl, hw, by rw [ht]; exact hP, va_K.moved hW.alike hK, hD⟩, hS.F ht⟩) hS.2.2 dX9_line_58
        · have hw := hw.2 c20
          refine lv_aload_n hx hb dX9_line_37 rfl (lv_at hl 0 rfl) ?_
          refine va_get (D := (dC, dI)) (ci := 7) (v := .int (s2 0 24)) (C := RX9) (T := TX9) (N := 30) hx hb hts h_in9 hown hK hP 0 rfl rfl 24 (by decide) h_f76 (fun _ h9 => h9) rfl dX9_line_38 ?_
          refine lv_iconst (v := (-1)) hx hb dX9_line_41 (by decide) ?_
          refine lv_icmp_eq (tgt := 49) hx hb dX9_line_42 (by decide) (fun c21 => ?_) (fun c21 => ?_)
          · have hw := hw.1 c21
            refine lv_iconst (v := 0) hx hb dX9_line_49 (by decide) ?_
            refine lv_istore_n (lv' := [(1, .int 0), (0, .ref (a 0))]) hx hb dX9_line_50 rfl hl (by decide) rfl (fun ls hl => ?_)
            refine lv_iload_n hx hb dX9_line_51 rfl (lv_at hl 0 rfl) ?_
            refine lv_if_ne (tgt := 59) hx hb dX9_line_52 (by decide) (fun c9 => absurd (by decide) c9) (fun _ => ?_)
            refine lv_sipush (v := (-1003)) hx hb dX9_line_55 (by decide) ?_
            exact W.iret (v := (-1003)) hx hb hr (fun t ht hW => ⟨⟨(-1003), s2, rfl, hw, by rw [ht]; exact hP, va_K.moved hW.alike hK, hD⟩, hS.F ht⟩) hS.2.2 dX9_line_58
          · have hw := hw.2 c21
            refine lv_iconst (v := 1) hx hb dX9_line_45 (by decide) ?_
            refine lv_goto (tgt := 50) hx hb dX9_line_46 (by decide) ?_
            refine lv_istore_n (lv' := [(1, .int 1), (0, .ref (a 0))]) hx hb dX9_line_50 rfl hl (by decide) rfl (fun ls hl => ?_)
            refine lv_iload_n hx hb dX9_line_51 rfl (lv_at hl 0 rfl) ?_
            refine lv_if_ne (tgt := 59) hx hb dX9_line_52 (by decide) (fun _ => ?_) (fun c9 => absurd c9 (by decide))
            refine lv_iconst (v := 0) hx hb dX9_line_59 (by decide) ?_
            refine lv_istore_n (lv' := [(2, .int 0), (1, .int 1), (0, .ref (a 0))]) hx hb dX9_line_60 rfl hl (by decide) rfl (fun ls hl => ?_)
            obtain ⟨nf, hw⟩ := hw
            exact b61 nf 0 s2 _ _ _ hw hP hD hS (lv_sub hl [2, 0] rfl)
def wp_X9_isEnd (p0 : Int32) (K : Int32 → Prop) : Prop := (wp_X9_within p0 0 1 (fun r1 => K r1))
set_option maxRecDepth 100000 in
set_option maxHeartbeats 4000000 in
theorem kk_X9_isEnd (l : Launch) (dC : Nat → ClassId) (dI : Nat → Nat → Nat) (cI cZ : ClassId) (sz : Nat) (p0 : Int32) (K : Int32 → Prop) (hw : wp_X9_isEnd p0 K) : Met l yX9_isEnd wsX9_isEnd ({ frames := 1, cells := 0, slots := 0, locals := 22 }) (va_Pc [.int p0] (tm_Pre dC dI cI cZ ([] : va_W) sz)) (va_Qi (fun (r : Int32) (_ : Unit) => (r = 0 ∨ r = 1) ∧ K r) (fun (_ : Unit) t => tm_At dC dI cI cZ (va_A ([] : va_W) sz) ([] : va_W) t) (va_A ([] : va_W) sz)) 0 0 (va_A ([] : va_W) sz) := by
  refine Met.ofW (cc := cX9_isEnd) (maxL := 1) (ret := (some .boolean)) (by decide +kernel) rfl ?_
  intro p e z m args below meth c z₁ B hml hv
  obtain ⟨rfl, hsz, hP, hK, hD0⟩ := hv
  have hx := B.exec
  have hb := B.bytes
  have hr := B.returns
  have hts := atoms_spec (ws := wsX9_isEnd) B.pre
  have hown : z.vm.findClass RX9 = some m.cls := findClass_of_methodNamed B.named
  have hlocks := B.notSynchronized
  subst hsz
  have hD := hD0.self (sz := z.heap.size)
  generalize hAe : va_A ([] : va_W) z.heap.size = A at hD ⊢
  have hA : ∀ q : Nat, z.heap.size ≤ q → A q := fun q h => by rw [← hAe]; exact Or.inr h
  have hS : va_S A z.heap z.heap [] := va_S.rf
  have hl := lv_entry ([.int p0]) (n := 1) (Nat.le_of_ble_eq_true rfl)
  rw [lg_entry_eq]
  generalize (lg_sl ([.int p0]) ++ List.replicate (1 - (lg_sl ([.int p0])).length) Slot.unset).toArray = ls at hl ⊢
  have hl : lv_has ls 1 [(0, .int p0)] := hl
  unfold wp_X9_isEnd at hw
  refine lv_iload_n hx hb dX9_isEnd_0 rfl (lv_at hl 0 rfl) ?_
  refine lv_iconst (v := 0) hx hb dX9_isEnd_1 (by decide) ?_
  refine lv_iconst (v := 1) hx hb dX9_isEnd_2 (by decide) ?_
  have hPc := hP
  have hDc := hD
  have hFc := va_free (wc := ([] : va_W)) hD hS hA [] rfl
  refine va_calli (va_runS (As := [.int p0, .int 0, .int 1]) (rest := []) ⟨hx, hb, hml, hown, hts⟩ (kk_X9_within l dC dI cI cZ z.heap.size p0 0 1 _ hw) (va_cwS 3 hts gX9_isEnd_X9_within rfl rfl rfl (by decide +kernel) ⟨Nat.le_of_ble_eq_true rfl, Nat.le_of_ble_eq_true rfl⟩) ⟨tm_blind, fun U hU hW => ⟨rfl, by rw [hU], by rw [hU]; exact hPc, va_K.moved hW.alike hK, hDc.weaken (fun _ _ _ _ => trivial)⟩⟩ rfl rfl hl.1 rfl (lv_room (Nat.le_of_ble_eq_true rfl)) dX9_isEnd_3 ⟨Nat.zero_le _, Nat.zero_le _⟩) hS (fun q _ h => hFc q h) hFc (fun r1 s2 t H1 locs ht hvm hw hB hz1 hk1 hS => ?_)
  obtain ⟨hP1, hK1, hD1⟩ := hB
  rw [ht] at hP1
  have b9_r1 := hw.1
  have hw := hw.2
  obtain ⟨hP, hD⟩ := va_join (wr := ([] : va_W)) (w1 := ([] : va_W)) hP hD [] [] rfl rfl (by decide) (by decide) hk1 hFc hP1 hD1
  rw [List.append_nil] at hP hD
  generalize H1 = H at hP hS ⊢
  exact W.zret (v := r1) hx hb hr (tm_bool b9_r1) (fun t ht hW => ⟨⟨r1, (), rfl, ⟨b9_r1, hw⟩, by rw [ht]; exact hP, va_K.moved hW.alike hK, hD⟩, hS.F ht⟩) hS.2.2 dX9_isEnd_6
def wp_X9_of (p0 : Int32) (p1 : Int32) (s0 : tm_St) (K : Int32 → tm_St → Prop) : Prop := (vp_in ((24 * p0) + p1) 48 ∧ K (s0 1 (((24 * p0) + p1) : Int32).toNatClampNeg) s0)
set_option maxRecDepth 100000 in
set_option maxHeartbeats 4000000 in
theorem kk_X9_of (l : Launch) (dC : Nat → ClassId) (dI : Nat → Nat → Nat) (cI cZ : ClassId) (a : Nat → Nat) (s0 : tm_St) (hh : Int64) (sz : Nat) (p0 : Int32) (p1 : Int32) (K : Int32 → tm_St → Prop) (hw : wp_X9_of p0 p1 s0 K) : Met l yX9_of wsX9_of ({ frames := 0, cells := 0, slots := 0, locals := 0 }) (va_Pc [.ref (a 0), .int p0, .int p1] (tm_Pre dC dI cI cZ (tm_wModel cI cZ a s0 hh) sz)) (va_Qi (fun (r : Int32) (u : tm_St) => K r u) (fun (u : tm_St) t => tm_At dC dI cI cZ (va_A (tm_wModel cI cZ a s0 hh) sz) (tm_wModel cI cZ a u hh) t) (va_A (tm_wModel cI cZ a s0 hh) sz)) 0 0 (va_A (tm_wModel cI cZ a s0 hh) sz) := by
  refine Met.ofW (cc := cX9_of) (maxL := 3) (ret := (some .int)) (by decide +kernel) rfl ?_
  intro p e z m args below meth c z₁ B hml hv
  obtain ⟨rfl, hsz, hP, hK, hD0⟩ := hv
  have hx := B.exec
  have hb := B.bytes
  have hr := B.returns
  have hts := atoms_spec (ws := wsX9_of) B.pre
  have hown : z.vm.findClass RX9 = some m.cls := findClass_of_methodNamed B.named
  have hlocks := B.notSynchronized
  subst hsz
  have hD := hD0.self (sz := z.heap.size)
  generalize hAe : va_A (tm_wModel cI cZ a s0 hh) z.heap.size = A at hD ⊢
  have hA : ∀ q : Nat, z.heap.size ≤ q → A q := fun q h => by rw [← hAe]; exact Or.inr h
  have hS : va_S A z.heap z.heap [] := va_S.rf
  have h_f7 := hts (.fieldLink RX9 7 "TwoModemsModel" "ends" "[I") (by decide +kernel)
  have h_in9 : ∀ w ∈ u_ws RX9 TX9 30, w ∈ wsX9_of := by decide +kernel
  have hl := lv_entry ([.ref (a 0), .int p0, .int p1]) (n := 3) (Nat.le_of_ble_eq_true rfl)
  rw [lg_entry_eq]
  generalize (lg_sl ([.ref (a 0), .int p0, .int p1]) ++ List.replicate (3 - (lg_sl ([.ref (a 0), .int p0, .int p1])).length) Slot.unset).toArray = ls at hl ⊢
  have hl : lv_has ls 3 [(0, .ref (a 0)), (1, .int p0), (2, .int p1)] := hl
  unfold wp_X9_of at hw
  refine lv_aload_n hx hb dX9_of_0 rfl (lv_at hl 0 rfl) ?_
  refine va_get (D := (dC, dI)) (ci := 7) (v := .ref (a 1)) (C := RX9) (T := TX9) (N := 30) hx hb hts h_in9 hown hK hP 0 rfl rfl 0 (by decide) h_f7 (fun _ h9 => h9) rfl dX9_of_1 ?_
  refine lv_bipush (v := 24) hx hb dX9_of_4 (by decide) ?_
  refine lv_iload_n hx hb dX9_of_6 rfl (lv_at hl 1 rfl) ?_
  refine lv_imul hx hb dX9_of_7 ?_
  refine lv_iload_n hx hb dX9_of_8 rfl (lv_at hl 2 rfl) ?_
  refine lv_iadd hx hb dX9_of_9 ?_
  have c1 := hw.1
  have hw := hw.2
  refine va_iald hx hb hK hP 1 0 rfl rfl c1 dX9_of_10 ?_
  exact W.iret (v := (s0 1 (((24 * p0) + p1) : Int32).toNatClampNeg)) hx hb hr (fun t ht hW => ⟨⟨(s0 1 (((24 * p0) + p1) : Int32).toNatClampNeg), s0, rfl, hw, by rw [ht]; exact hP, va_K.moved hW.alike hK, hD⟩, hS.F ht⟩) hS.2.2 dX9_of_11
def wp_X9_add (p0 : Int32) (p1 : Int32) (p2 : Int32) (s0 : tm_St) (K : tm_St → Prop) : Prop := (vp_in ((24 * p0) + p1) 48 ∧ (vp_in ((24 * p0) + p1) 48 ∧ (∀ s3 : tm_St, s3 = tm_s s0 1 (upd (s0 1) (((24 * p0) + p1) : Int32).toNatClampNeg ((s0 1 (((24 * p0) + p1) : Int32).toNatClampNeg) + p2)) → K s3)))
set_option maxRecDepth 100000 in
set_option maxHeartbeats 4000000 in
theorem kk_X9_add (l : Launch) (dC : Nat → ClassId) (dI : Nat → Nat → Nat) (cI cZ : ClassId) (a : Nat → Nat) (s0 : tm_St) (hh : Int64) (sz : Nat) (p0 : Int32) (p1 : Int32) (p2 : Int32) (K : tm_St → Prop) (hw : wp_X9_add p0 p1 p2 s0 K) : Met l yX9_add wsX9_add ({ frames := 0, cells := 0, slots := 0, locals := 0 }) (va_Pc [.ref (a 0), .int p0, .int p1, .int p2] (tm_Pre dC dI cI cZ (tm_wModel cI cZ a s0 hh) sz)) (va_Qv (fun (u : tm_St) => K u) (fun (u : tm_St) t => tm_At dC dI cI cZ (va_A (tm_wModel cI cZ a s0 hh) sz) (tm_wModel cI cZ a u hh) t) (va_A (tm_wModel cI cZ a s0 hh) sz)) 0 0 (va_A (tm_wModel cI cZ a s0 hh) sz) := by
  refine Met.ofW (cc := cX9_add) (maxL := 4) (ret := none) (by decide +kernel) rfl ?_
  intro p e z m args below meth c z₁ B hml hv
  obtain ⟨rfl, hsz, hP, hK, hD0⟩ := hv
  have hx := B.exec
  have hb := B.bytes
  have hr := B.returns
  have hts := atoms_spec (ws := wsX9_add) B.pre
  have hown : z.vm.findClass RX9 = some m.cls := findClass_of_methodNamed B.named
  have hlocks := B.notSynchronized
  subst hsz
  have hD := hD0.self (sz := z.heap.size)
  generalize hAe : va_A (tm_wModel cI cZ a s0 hh) z.heap.size = A at hD ⊢
  have hA : ∀ q : Nat, z.heap.size ≤ q → A q := fun q h => by rw [← hAe]; exact Or.inr h
  have hS : va_S A z.heap z.heap [] := va_S.rf
  have h_f7 := hts (.fieldLink RX9 7 "TwoModemsModel" "ends" "[I") (by decide +kernel)
  have h_in9 : ∀ w ∈ u_ws RX9 TX9 30, w ∈ wsX9_add := by decide +kernel
  have hl := lv_entry ([.ref (a 0), .int p0, .int p1, .int p2]) (n := 4) (Nat.le_of_ble_eq_true rfl)
  rw [lg_entry_eq]
  generalize (lg_sl ([.ref (a 0), .int p0, .int p1, .int p2]) ++ List.replicate (4 - (lg_sl ([.ref (a 0), .int p0, .int p1, .int p2])).length) Slot.unset).toArray = ls at hl ⊢
  have hl : lv_has ls 4 [(0, .ref (a 0)), (1, .int p0), (2, .int p1), (3, .int p2)] := hl
  unfold wp_X9_add at hw
  refine lv_aload_n hx hb dX9_add_0 rfl (lv_at hl 0 rfl) ?_
  refine va_get (D := (dC, dI)) (ci := 7) (v := .ref (a 1)) (C := RX9) (T := TX9) (N := 30) hx hb hts h_in9 hown hK hP 0 rfl rfl 0 (by decide) h_f7 (fun _ h9 => h9) rfl dX9_add_1 ?_
  refine lv_bipush (v := 24) hx hb dX9_add_4 (by decide) ?_
  refine lv_iload_n hx hb dX9_add_6 rfl (lv_at hl 1 rfl) ?_
  refine lv_imul hx hb dX9_add_7 ?_
  refine lv_iload_n hx hb dX9_add_8 rfl (lv_at hl 2 rfl) ?_
  refine lv_iadd hx hb dX9_add_9 ?_
  refine lv_dup2_11 hx hb dX9_add_10 rfl rfl ?_
  have c1 := hw.1
  have hw := hw.2
  refine va_iald hx hb hK hP 1 0 rfl rfl c1 dX9_add_11 ?_
  refine lv_iload_n hx hb dX9_add_12 rfl (lv_at hl 3 rfl) ?_
  refine lv_iadd hx hb dX9_add_13 ?_
  have c2 := hw.1
  have hw := hw.2
  refine va_iast hx hb hK hP hD hS 1 0 rfl rfl c2 dX9_add_14 (fun H locs hP hD hS => ?_)
  obtain ⟨s3, es3⟩ : ∃ y : tm_St, y = tm_s s0 1 (upd (s0 1) (((24 * p0) + p1) : Int32).toNatClampNeg ((s0 1 (((24 * p0) + p1) : Int32).toNatClampNeg) + p2)) := ⟨_, rfl⟩
  have hw := hw s3 es3
  have hP : va_P (dC, dI) vwCl (tm_wModel cI cZ a s3 hh) H := by rw [es3]; exact hP
  have hD : va_D A (tm_wModel cI cZ a s3 hh) := by rw [es3]; exact hD
  exact W.vret hx hb hr (fun t ht hW => ⟨⟨s3, rfl, hw, by rw [ht]; exact hP, va_K.moved hW.alike hK, hD⟩, hS.F ht⟩) hS.2.2 dX9_add_15
def wp_X9_say_37 (K : Int32 → tm_St → Prop) : Nat → Int32 → Int32 → Int32 → tm_St → Prop
  | 0, _, _, _, _ => False
  | n + 1, v1, v2, v3, s => (((s 0 18) ≤ v3 → (wp_X9_add v1 6 (s 0 18) s (fun s8 => (∀ s9 : tm_St, s9 = tm_s s8 0 (tm_u (s8 0) 18 0) → (wp_X9_of v1 6 s9 (fun r10 s11 => K r10 s11)))))) ∧ (¬ (s 0 18) ≤ v3 → (vp_in v3 30 ∧ (vp_in (((200 * v1) + v2) + v3) 400 ∧ (∀ s14 : tm_St, s14 = tm_s s 5 (upd (s 5) ((((200 * v1) + v2) + v3) : Int32).toNatClampNeg (s 14 (v3 : Int32).toNatClampNeg)) → (∀ x15 : Int32, x15 = v3 + 1 → wp_X9_say_37 K n v1 v2 x15 s14))))))
def wp_X9_say (p0 : Int32) (s0 : tm_St) (K : Int32 → tm_St → Prop) : Prop := (wp_X9_isEnd p0 (fun r1 => ((¬ r1 = 0 → (wp_X9_of p0 6 s0 (fun r4 s5 => (((r4 + (s5 0 18)) ≤ 200 → ∃ nf : Nat, wp_X9_say_37 K nf p0 r4 0 s5) ∧ (¬ (r4 + (s5 0 18)) ≤ 200 → K (-1004) s5))))) ∧ (r1 = 0 → K (-1001) s0))))
set_option maxRecDepth 100000 in
set_option maxHeartbeats 4000000 in
theorem kk_X9_say (l : Launch) (dC : Nat → ClassId) (dI : Nat → Nat → Nat) (cI cZ : ClassId) (a : Nat → Nat) (s0 : tm_St) (hh : Int64) (sz : Nat) (p0 : Int32) (K : Int32 → tm_St → Prop) (hw : wp_X9_say p0 s0 K) : Met l yX9_say wsX9_say ({ frames := 2, cells := 0, slots := 0, locals := 42 }) (va_Pc [.ref (a 0), .int p0] (tm_Pre dC dI cI cZ (tm_wModel cI cZ a s0 hh) sz)) (va_Qi (fun (r : Int32) (u : tm_St) => K r u) (fun (u : tm_St) t => tm_At dC dI cI cZ (va_A (tm_wModel cI cZ a s0 hh) sz) (tm_wModel cI cZ a u hh) t) (va_A (tm_wModel cI cZ a s0 hh) sz)) 0 0 (va_A (tm_wModel cI cZ a s0 hh) sz) := by
  refine Met.ofW (cc := cX9_say) (maxL := 4) (ret := (some .int)) (by decide +kernel) rfl ?_
  intro p e z m args below meth c z₁ B hml hv
  obtain ⟨rfl, hsz, hP, hK, hD0⟩ := hv
  have hx := B.exec
  have hb := B.bytes
  have hr := B.returns
  have hts := atoms_spec (ws := wsX9_say) B.pre
  have hown : z.vm.findClass RX9 = some m.cls := findClass_of_methodNamed B.named
  have hlocks := B.notSynchronized
  subst hsz
  have hD := hD0.self (sz := z.heap.size)
  generalize hAe : va_A (tm_wModel cI cZ a s0 hh) z.heap.size = A at hD ⊢
  have hA : ∀ q : Nat, z.heap.size ≤ q → A q := fun q h => by rw [← hAe]; exact Or.inr h
  have hS : va_S A z.heap z.heap [] := va_S.rf
  have h_f69 := hts (.fieldLink RX9 69 "TwoModemsModel" "pageLength" "I") (by decide +kernel)
  have h_in9 : ∀ w ∈ u_ws RX9 TX9 30, w ∈ wsX9_say := by decide +kernel
  have h_f22 := hts (.fieldLink RX9 22 "TwoModemsModel" "said" "[I") (by decide +kernel)
  have h_f53 := hts (.fieldLink RX9 53 "TwoModemsModel" "page" "[I") (by decide +kernel)
  have b37 : ∀ (n : Nat) (v1 : Int32) (v2 : Int32) (v3 : Int32) (s : tm_St) (H : Heap) (locs : List Loc) (ls : Array Slot), wp_X9_say_37 K n v1 v2 v3 s → va_P (dC, dI) vwCl (tm_wModel cI cZ a s hh) H → va_D A (tm_wModel cI cZ a s hh) → va_S A z.heap H locs → lv_has ls 4 [(0, .ref (a 0)), (1, .int v1), (2, .int v2), (3, .int v3)] → W p l e (headSpec wsX9_say ({ frames := 2, cells := 0, slots := 0, locals := 42 })).room z m (([.ref (a 0), .int p0] : List Value).toArray) below meth c H locs 0 0 (MQ below (va_Qi (fun (r : Int32) (u : tm_St) => K r u) (fun (u : tm_St) t => tm_At dC dI cI cZ A (tm_wModel cI cZ a u hh) t) A) (([.ref (a 0), .int p0] : List Value).toArray) z 0 0 A) (F0 m 37 ls []) := by
    intro n
    induction n with
    | zero => intro v1 v2 v3 s H locs ls hw hP hD hS hl; unfold wp_X9_say_37 at hw; exact hw.elim
    | succ n ih =>
      intro v1 v2 v3 s H locs ls hw hP hD hS hl
      unfold wp_X9_say_37 at hw
      refine lv_iload_n hx hb dX9_say_37 rfl (lv_at hl 3 rfl) ?_
      refine lv_aload_n hx hb dX9_say_38 rfl (lv_at hl 0 rfl) ?_
      refine va_get (D := (dC, dI)) (ci := 7) (v := .int (s 0 18)) (C := RX9) (T := TX9) (N := 30) hx hb hts h_in9 hown hK hP 0 rfl rfl 18 (by decide) h_f69 (fun _ h9 => h9) rfl dX9_say_39 ?_
      refine lv_icmp_ge (tgt := 71) hx hb dX9_say_42 (by decide) (fun c7 => ?_) (fun c7 => ?_)
      · have hw := hw.1 c7
        refine lv_aload_n hx hb dX9_say_71 rfl (lv_at hl 0 rfl) ?_
        refine lv_iload_n hx hb dX9_say_72 rfl (lv_at hl 1 rfl) ?_
        refine lv_bipush (v := 6) hx hb dX9_say_73 (by decide) ?_
        refine lv_aload_n hx hb dX9_say_75 rfl (lv_at hl 0 rfl) ?_
        refine va_get (D := (dC, dI)) (ci := 7) (v := .int (s 0 18)) (C := RX9) (T := TX9) (N := 30) hx hb hts h_in9 hown hK hP 0 rfl rfl 18 (by decide) h_f69 (fun _ h9 => h9) rfl dX9_say_76 ?_
        have hPc := hP
        have hDc := hD
        have hFc := va_free (wc := (tm_wModel cI cZ a s hh)) hD hS hA [0, 1, 2, 3, 4, 5, 6, 7, 8, 9, 10, 11, 12, 13, 14, 15, 16, 17] rfl
        refine va_callv (va_runV (As := [.int v1, .int 6, .int (s 0 18)]) (rest := []) ⟨hx, hb, hml, hown, hts⟩ (kk_X9_add l dC dI cI cZ a s hh H.size v1 6 (s 0 18) _ hw) (cwV 3 hts gX9_say_X9_add rfl rfl rfl (by decide +kernel) ⟨Nat.le_of_ble_eq_true rfl, Nat.le_of_ble_eq_true rfl⟩) ⟨tm_blind, va_recv hK hPc (ci := 7) (q0 := 0) rfl rfl, fun U hU hW => ⟨rfl, by rw [hU], by rw [hU]; exact hPc, va_K.moved hW.alike hK, hDc.weaken (fun _ _ _ _ => trivial)⟩⟩ rfl rfl hl.1 rfl (lv_room (Nat.le_of_ble_eq_true rfl)) dX9_say_79 ⟨Nat.zero_le _, Nat.zero_le _⟩) hS (fun q _ h => hFc q h) hFc (fun s8 t H1 locs ht hvm hw hB hz1 hk1 hS => ?_)
        obtain ⟨hP1, hK1, hD1⟩ := hB
        rw [ht] at hP1
        obtain ⟨hP, hD⟩ := va_join (wr := []) (w1 := (tm_wModel cI cZ a s8 hh)) hP hD [0, 1, 2, 3, 4, 5, 6, 7, 8, 9, 10, 11, 12, 13, 14, 15, 16, 17] [] rfl rfl (by decide) (by decide) hk1 hFc hP1 hD1
        generalize H1 = H at hP hS ⊢
        have hP : va_P (dC, dI) vwCl (tm_wModel cI cZ a s8 hh) H := hP
        have hD : va_D A (tm_wModel cI cZ a s8 hh) := hD
        refine lv_aload_n hx hb dX9_say_82 rfl (lv_at hl 0 rfl) ?_
        refine lv_iconst (v := 0) hx hb dX9_say_83 (by decide) ?_
        refine va_put (D := (dC, dI)) (ci := 7) (v := .int 0) (ty := .int) (C := RX9) (T := TX9) (N := 30) hx hb hts h_in9 tyX9 tyX9_ok nmX9 hown hK hP hD hS 0 rfl rfl 18 (by decide) h_f69 (fun _ h9 => h9) rfl (by decide +kernel) rfl rfl (Nat.le_of_ble_eq_true rfl) dX9_say_84 (fun H locs hP hD hS => ?_)
        obtain ⟨s9, es9⟩ : ∃ y : tm_St, y = tm_s s8 0 (tm_u (s8 0) 18 0) := ⟨_, rfl⟩
        have hw := hw s9 es9
        have hP : va_P (dC, dI) vwCl (tm_wModel cI cZ a s9 hh) H := by rw [es9]; exact hP
        have hD : va_D A (tm_wModel cI cZ a s9 hh) := by rw [es9]; exact hD
        refine lv_aload_n hx hb dX9_say_87 rfl (lv_at hl 0 rfl) ?_
        refine lv_iload_n hx hb dX9_say_88 rfl (lv_at hl 1 rfl) ?_
        refine lv_bipush (v := 6) hx hb dX9_say_89 (by decide) ?_
        have hPc := hP
        have hDc := hD
        have hFc := va_free (wc := (tm_wModel cI cZ a s9 hh)) hD hS hA [0, 1, 2, 3, 4, 5, 6, 7, 8, 9, 10, 11, 12, 13, 14, 15, 16, 17] rfl
        refine va_calli (va_runV (As := [.int v1, .int 6]) (rest := []) ⟨hx, hb, hml, hown, hts⟩ (kk_X9_of l dC dI cI cZ a s9 hh H.size v1 6 _ hw) (cwV 2 hts gX9_say_X9_of rfl rfl rfl (by decide +kernel) ⟨Nat.le_of_ble_eq_true rfl, Nat.le_of_ble_eq_true rfl⟩) ⟨tm_blind, va_recv hK hPc (ci := 7) (q0 := 0) rfl rfl, fun U hU hW => ⟨rfl, by rw [hU], by rw [hU]; exact hPc, va_K.moved hW.alike hK, hDc.weaken (fun _ _ _ _ => trivial)⟩⟩ rfl rfl hl.1 rfl (lv_room (Nat.le_of_ble_eq_true rfl)) dX9_say_91 ⟨Nat.zero_le _, Nat.zero_le _⟩) hS (fun q _ h => hFc q h) hFc (fun r10 s11 t H1 locs ht hvm hw hB hz1 hk1 hS => ?_)
        obtain ⟨hP1, hK1, hD1⟩ := hB
        rw [ht] at hP1
        obtain ⟨hP, hD⟩ := va_join (wr := []) (w1 := (tm_wModel cI cZ a s11 hh)) hP hD [0, 1, 2, 3, 4, 5, 6, 7, 8, 9, 10, 11, 12, 13, 14, 15, 16, 17] [] rfl rfl (by decide) (by decide) hk1 hFc hP1 hD1
        generalize H1 = H at hP hS ⊢
        have hP : va_P (dC, dI) vwCl (tm_wModel cI cZ a s11 hh) H := hP
        have hD : va_D A (tm_wModel cI cZ a s11 hh) := hD
        exact W.iret (v := r10) hx hb hr (fun t ht hW => ⟨⟨r10, s11, rfl, hw, by rw [ht]; exact hP, va_K.moved hW.alike hK, hD⟩, hS.F ht⟩) hS.2.2 dX9_say_94
      · have hw := hw.2 c7
        refine lv_aload_n hx hb dX9_say_45 rfl (lv_at hl 0 rfl) ?_
        refine va_get (D := (dC, dI)) (ci := 7) (v := .ref (a 5)) (C := RX9) (T := TX9) (N := 30) hx hb hts h_in9 hown hK hP 0 rfl rfl 4 (by decide) h_f22 (fun _ h9 => h9) rfl dX9_say_46 ?_
        refine lv_sipush (v := 200) hx hb dX9_say_49 (by decide) ?_
        refine lv_iload_n hx hb dX9_say_52 rfl (lv_at hl 1 rfl) ?_
        refine lv_imul hx hb dX9_say_53 ?_
        refine lv_iload_n hx hb dX9_say_54 rfl (lv_at hl 2 rfl) ?_
        refine lv_iadd hx hb dX9_say_55 ?_
        refine lv_iload_n hx hb dX9_say_56 rfl (lv_at hl 3 rfl) ?_
        refine lv_iadd hx hb dX9_say_57 ?_
        refine lv_aload_n hx hb dX9_say_58 rfl (lv_at hl 0 rfl) ?_
        refine va_get (D := (dC, dI)) (ci := 7) (v := .ref (a 14)) (C := RX9) (T := TX9) (N := 30) hx hb hts h_in9 hown hK hP 0 rfl rfl 19 (by decide) h_f53 (fun _ h9 => h9) rfl dX9_say_59 ?_
        refine lv_iload_n hx hb dX9_say_62 rfl (lv_at hl 3 rfl) ?_
        have c12 := hw.1
        have hw := hw.2
        refine va_iald hx hb hK hP 14 0 rfl rfl c12 dX9_say_63 ?_
        have c13 := hw.1
        have hw := hw.2
        refine va_iast hx hb hK hP hD hS 5 0 rfl rfl c13 dX9_say_64 (fun H locs hP hD hS => ?_)
        obtain ⟨s14, es14⟩ : ∃ y : tm_St, y = tm_s s 5 (upd (s 5) ((((200 * v1) + v2) + v3) : Int32).toNatClampNeg (s 14 (v3 : Int32).toNatClampNeg)) := ⟨_, rfl⟩
        have hw := hw s14 es14
        have hP : va_P (dC, dI) vwCl (tm_wModel cI cZ a s14 hh) H := by rw [es14]; exact hP
        have hD : va_D A (tm_wModel cI cZ a s14 hh) := by rw [es14]; exact hD
        obtain ⟨x15, ex15⟩ : ∃ y : Int32, y = v3 + 1 := ⟨_, rfl⟩
        have hw := hw x15 ex15
        refine lv_iinc (v := x15) (lv' := [(3, .int x15), (0, .ref (a 0)), (1, .int v1), (2, .int v2)]) hx hb dX9_say_65 hl (k := 3) rfl (by rw [ex15]; rfl) (by decide) rfl (fun ls hl => ?_)
        refine lv_goto (tgt := 37) hx hb dX9_say_68 (by decide) ?_
        exact ih v1 v2 x15 s14 _ _ _ hw hP hD hS (lv_sub hl [1, 2, 3, 0] rfl)
  have hl := lv_entry ([.ref (a 0), .int p0]) (n := 4) (Nat.le_of_ble_eq_true rfl)
  rw [lg_entry_eq]
  generalize (lg_sl ([.ref (a 0), .int p0]) ++ List.replicate (4 - (lg_sl ([.ref (a 0), .int p0])).length) Slot.unset).toArray = ls at hl ⊢
  have hl : lv_has ls 4 [(0, .ref (a 0)), (1, .int p0)] := hl
  unfold wp_X9_say at hw
  refine lv_iload_n hx hb dX9_say_0 rfl (lv_at hl 1 rfl) ?_
  have hPc := hP.sub (ws' := ([] : va_W)) [] rfl
  have hDc := hD.sub (ws' := ([] : va_W)) [] (by decide) rfl
  have hFc := va_free (wc := ([] : va_W)) hD hS hA [] rfl
  refine va_calli (va_runS (As := [.int p0]) (rest := []) ⟨hx, hb, hml, hown, hts⟩ (kk_X9_isEnd l dC dI cI cZ z.heap.size p0 _ hw) (va_cwS 1 hts gX9_say_X9_isEnd rfl rfl rfl (by decide +kernel) ⟨Nat.le_of_ble_eq_true rfl, Nat.le_of_ble_eq_true rfl⟩) ⟨tm_blind, fun U hU hW => ⟨rfl, by rw [hU], by rw [hU]; exact hPc, va_K.moved hW.alike hK, hDc.weaken (fun _ _ _ _ => trivial)⟩⟩ rfl rfl hl.1 rfl (lv_room (Nat.le_of_ble_eq_true rfl)) dX9_say_1 ⟨Nat.zero_le _, Nat.zero_le _⟩) hS (fun q _ h => hFc q h) hFc (fun r1 u t H1 locs ht hvm hw hB hz1 hk1 hS => ?_)
  obtain ⟨hP1, hK1, hD1⟩ := hB
  rw [ht] at hP1
  have b9_r1 := hw.1
  have hw := hw.2
  obtain ⟨hP, hD⟩ := va_join (wr := (tm_wModel cI cZ a s0 hh)) (w1 := ([] : va_W)) hP hD [] [0, 1, 2, 3, 4, 5, 6, 7, 8, 9, 10, 11, 12, 13, 14, 15, 16, 17] rfl rfl (by decide) (by decide) hk1 hFc hP1 hD1
  rw [List.append_nil] at hP hD
  generalize H1 = H at hP hS ⊢
  refine lv_if_ne (tgt := 11) hx hb dX9_say_4 (by decide) (fun c3 => ?_) (fun c3 => ?_)
  · have hw := hw.1 c3
    refine lv_aload_n hx hb dX9_say_11 rfl (lv_at hl 0 rfl) ?_
    refine lv_iload_n hx hb dX9_say_12 rfl (lv_at hl 1 rfl) ?_
    refine lv_bipush (v := 6) hx hb dX9_say_13 (by decide) ?_
    have hPc := hP
    have hDc := hD
    have hFc := va_free (wc := (tm_wModel cI cZ a s0 hh)) hD hS hA [0, 1, 2, 3, 4, 5, 6, 7, 8, 9, 10, 11, 12, 13, 14, 15, 16, 17] rfl
    refine va_calli (va_runV (As := [.int p0, .int 6]) (rest := []) ⟨hx, hb, hml, hown, hts⟩ (kk_X9_of l dC dI cI cZ a s0 hh H.size p0 6 _ hw) (cwV 2 hts gX9_say_X9_of rfl rfl rfl (by decide +kernel) ⟨Nat.le_of_ble_eq_true rfl, Nat.le_of_ble_eq_true rfl⟩) ⟨tm_blind, va_recv hK hPc (ci := 7) (q0 := 0) rfl rfl, fun U hU hW => ⟨rfl, by rw [hU], by rw [hU]; exact hPc, va_K.moved hW.alike hK, hDc.weaken (fun _ _ _ _ => trivial)⟩⟩ rfl rfl hl.1 rfl (lv_room (Nat.le_of_ble_eq_true rfl)) dX9_say_15 ⟨Nat.zero_le _, Nat.zero_le _⟩) hS (fun q _ h => hFc q h) hFc (fun r4 s5 t H1 locs ht hvm hw hB hz1 hk1 hS => ?_)
    obtain ⟨hP1, hK1, hD1⟩ := hB
    rw [ht] at hP1
    obtain ⟨hP, hD⟩ := va_join (wr := []) (w1 := (tm_wModel cI cZ a s5 hh)) hP hD [0, 1, 2, 3, 4, 5, 6, 7, 8, 9, 10, 11, 12, 13, 14, 15, 16, 17] [] rfl rfl (by decide) (by decide) hk1 hFc hP1 hD1
    generalize H1 = H at hP hS ⊢
    have hP : va_P (dC, dI) vwCl (tm_wModel cI cZ a s5 hh) H := hP
    have hD : va_D A (tm_wModel cI cZ a s5 hh) := hD
    refine lv_istore_n (lv' := [(2, .int r4), (0, .ref (a 0)), (1, .int p0)]) hx hb dX9_say_18 rfl hl (by decide) rfl (fun ls hl => ?_)
    refine lv_iload_n hx hb dX9_say_19 rfl (lv_at hl 0 rfl) ?_
    refine lv_aload_n hx hb dX9_say_20 rfl (lv_at hl 1 rfl) ?_
    refine va_get (D := (dC, dI)) (ci := 7) (v := .int (s5 0 18)) (C := RX9) (T := TX9) (N := 30) hx hb hts h_in9 hown hK hP 0 rfl rfl 18 (by decide) h_f69 (fun _ h9 => h9) rfl dX9_say_21 ?_
    refine lv_iadd hx hb dX9_say_24 ?_
    refine lv_sipush (v := 200) hx hb dX9_say_25 (by decide) ?_
    refine lv_icmp_le (tgt := 35) hx hb dX9_say_28 (by decide) (fun c6 => ?_) (fun c6 => ?_)
    · have hw := hw.1 c6
      refine lv_iconst (v := 0) hx hb dX9_say_35 (by decide) ?_
      refine lv_istore_n (lv' := [(3, .int 0), (2, .int r4), (0, .ref (a 0)), (1, .int p0)]) hx hb dX9_say_36 rfl hl (by decide) rfl (fun ls hl => ?_)
      obtain ⟨nf, hw⟩ := hw
      exact b37 nf p0 r4 0 s5 _ _ _ hw hP hD hS (lv_sub hl [2, 3, 1, 0] rfl)
    · have hw := hw.2 c6
      refine lv_sipush (v := (-1004)) hx hb dX9_say_31 (by decide) ?_
      exact W.iret (v := (-1004)) hx hb hr (fun t ht hW => ⟨⟨(-1004), s5, rfl, hw, by rw [ht]; exact hP, va_K.moved hW.alike hK, hD⟩, hS.F ht⟩) hS.2.2 dX9_say_34
  · have hw := hw.2 c3
    refine lv_sipush (v := (-1001)) hx hb dX9_say_7 (by decide) ?_
    exact W.iret (v := (-1001)) hx hb hr (fun t ht hW => ⟨⟨(-1001), s0, rfl, hw, by rw [ht]; exact hP, va_K.moved hW.alike hK, hD⟩, hS.F ht⟩) hS.2.2 dX9_say_10
