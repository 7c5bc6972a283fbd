def wp_X8_letter (p0 : Int32) (s0 : tm_St) (K : Int32 → tm_St → Prop) : Prop := ((p0 < 32 → K (-1002) s0) ∧ (¬ p0 < 32 → ((p0 ≤ 126 → (((s0 1 1) < 30 → (wp_X4_add p0 (tm_pj [1, 2] s0) (fun u5 => ∀ s4 : tm_St, s4 = tm_pk [1, 2] s0 u5 → K (s4 1 1) s4))) ∧ (¬ (s0 1 1) < 30 → K (-1004) s0))) ∧ (¬ p0 ≤ 126 → K (-1002) s0))))
set_option maxRecDepth 100000 in
set_option maxHeartbeats 4000000 in
theorem kk_X8_letter (l : Launch) (dC : Nat → ClassId) (dI : Nat → Nat → Nat) (cI cZ : ClassId) (a : Nat → Nat) (s0 : tm_St) (sz : Nat) (p0 : Int32) (K : Int32 → tm_St → Prop) (hw : wp_X8_letter p0 s0 K) : Met l yX8_letter wsX8_letter ({ frames := 1, cells := 0, slots := 0, locals := 21 }) (va_Pc [.ref (a 0), .int p0] (tm_Pre dC dI cI cZ (tm_wTwo cI cZ a s0) sz)) (va_Qi (fun (r : Int32) (u : tm_St) => K r u) (fun (u : tm_St) t => tm_At dC dI cI cZ (va_A (tm_wTwo cI cZ a s0) sz) (tm_wTwo cI cZ a u) t) (va_A (tm_wTwo cI cZ a s0) sz)) 0 0 (va_A (tm_wTwo cI cZ a s0) sz) := by
  refine Met.ofW (cc := cX8_letter) (maxL := 2) (ret := (some .int)) (by decide +kernel) rfl ?_
  intro p e z m args below meth c z₁ B hml hv
  obtain ⟨rfl, hsz, hP, hK, hD0⟩ := hv
  have hx := B.exec
  have hb := B.bytes
  have hr := B.returns
  have hts := atoms_spec (ws := wsX8_letter) B.pre
  have hown : z.vm.findClass RX8 = some m.cls := findClass_of_methodNamed B.named
  have hlocks := B.notSynchronized
  subst hsz
  have hD := hD0.self (sz := z.heap.size)
  generalize hAe : va_A (tm_wTwo cI cZ a s0) z.heap.size = A at hD ⊢
  have hA : ∀ q : Nat, z.heap.size ≤ q → A q := fun q h => by rw [← hAe]; exact Or.inr h
  have hS : va_S A z.heap z.heap [] := va_S.rf
  have h_f13 := hts (.fieldLink RX8 13 "TwoModems" "page" "LTwoModems$Page;") (by decide +kernel)
  have h_in8 : ∀ w ∈ u_ws RX8 TX8 5, w ∈ wsX8_letter := by decide +kernel
  have h_f46 := hts (.fieldLink RX8 46 "TwoModems$Page" "size" "I") (by decide +kernel)
  have h_in4 : ∀ w ∈ u_ws RX4 TX4 2, w ∈ wsX8_letter := by decide +kernel
  have hl := lv_entry ([.ref (a 0), .int p0]) (n := 2) (Nat.le_of_ble_eq_true rfl)
  rw [lg_entry_eq]
  generalize (lg_sl ([.ref (a 0), .int p0]) ++ List.replicate (2 - (lg_sl ([.ref (a 0), .int p0])).length) Slot.unset).toArray = ls at hl ⊢
  have hl : lv_has ls 2 [(0, .ref (a 0)), (1, .int p0)] := hl
  unfold wp_X8_letter at hw
  refine lv_iload_n hx hb dX8_letter_0 rfl (lv_at hl 1 rfl) ?_
  refine lv_bipush (v := 32) hx hb dX8_letter_1 (by decide) ?_
  refine lv_icmp_lt (tgt := 12) hx hb dX8_letter_3 (by decide) (fun c1 => ?_) (fun c1 => ?_)
  · have hw := hw.1 c1
    refine lv_sipush (v := (-1002)) hx hb dX8_letter_12 (by decide) ?_
    exact W.iret (v := (-1002)) hx hb hr (fun t ht hW => ⟨⟨(-1002), s0, rfl, hw, by rw [ht]; exact hP, va_K.moved hW.alike hK, hD⟩, hS.F ht⟩) hS.2.2 dX8_letter_15
  · have hw := hw.2 c1
    refine lv_iload_n hx hb dX8_letter_6 rfl (lv_at hl 1 rfl) ?_
    refine lv_bipush (v := 126) hx hb dX8_letter_7 (by decide) ?_
    refine lv_icmp_le (tgt := 16) hx hb dX8_letter_9 (by decide) (fun c2 => ?_) (fun c2 => ?_)
    · have hw := hw.1 c2
      refine lv_aload_n hx hb dX8_letter_16 rfl (lv_at hl 0 rfl) ?_
      refine va_get (D := (dC, dI)) (ci := 6) (v := .ref (a 1)) (C := RX8) (T := TX8) (N := 5) hx hb hts h_in8 hown hK hP 0 rfl rfl 0 (by decide) h_f13 (fun _ h9 => h9) rfl dX8_letter_17 ?_
      refine va_get (D := (dC, dI)) (ci := 4) (v := .int (s0 1 1)) (C := RX4) (T := TX4) (N := 2) hx hb hts h_in4 hown hK hP 1 rfl rfl 1 (by decide) h_f46 (fun _ h9 => h9) rfl dX8_letter_20 ?_
      refine lv_bipush (v := 30) hx hb dX8_letter_23 (by decide) ?_
      refine lv_icmp_lt (tgt := 32) hx hb dX8_letter_25 (by decide) (fun c3 => ?_) (fun c3 => ?_)
      · have hw := hw.1 c3
        refine lv_aload_n hx hb dX8_letter_32 rfl (lv_at hl 0 rfl) ?_
        refine va_get (D := (dC, dI)) (ci := 6) (v := .ref (a 1)) (C := RX8) (T := TX8) (N := 5) hx hb hts h_in8 hown hK hP 0 rfl rfl 0 (by decide) h_f13 (fun _ h9 => h9) rfl dX8_letter_33 ?_
        refine lv_iload_n hx hb dX8_letter_36 rfl (lv_at hl 1 rfl) ?_
        have hPc := hP.sub (ws' := (tm_wPage cI cZ (tm_pj [1, 2] a) (tm_pj [1, 2] s0))) [1, 2] rfl
        have hDc := hD.sub (ws' := (tm_wPage cI cZ (tm_pj [1, 2] a) (tm_pj [1, 2] s0))) [1, 2] (by decide) rfl
        have hFc := va_free (wc := (tm_wPage cI cZ (tm_pj [1, 2] a) (tm_pj [1, 2] s0))) hD hS hA [1, 2] rfl
        refine va_callv (va_runV (As := [.int p0]) (rest := []) ⟨hx, hb, hml, hown, hts⟩ (kk_X4_add l dC dI cI cZ (tm_pj [1, 2] a) (tm_pj [1, 2] s0) z.heap.size p0 _ hw) (cwV 1 hts gX8_letter_X4_add rfl rfl rfl (by decide +kernel) ⟨Nat.le_of_ble_eq_true rfl, Nat.le_of_ble_eq_true rfl⟩) ⟨tm_blind, va_recv hK hPc (ci := 4) (q0 := 0) rfl rfl, fun U hU hW => ⟨rfl, by rw [hU], by rw [hU]; exact hPc, va_K.moved hW.alike hK, hDc.weaken (fun _ _ _ _ => trivial)⟩⟩ rfl rfl hl.1 rfl (lv_room (Nat.le_of_ble_eq_true rfl)) dX8_letter_37 ⟨Nat.zero_le _, Nat.zero_le _⟩) hS (fun q _ h => hFc q h) hFc (fun u t H1 locs ht hvm hw hB hz1 hk1 hS => ?_)
        obtain ⟨hP1, hK1, hD1⟩ := hB
        rw [ht] at hP1
        obtain ⟨hP, hD⟩ := va_join (wr := ([0, 3, 4, 5, 6, 7, 8, 9, 10, 11, 12, 13, 14, 15, 16, 17, 18, 19, 20, 21, 22, 23, 24, 25, 26, 27, 28, 29] : List Nat).filterMap (fun i => (tm_wTwo cI cZ a s0)[i]?)) (w1 := (tm_wPage cI cZ (tm_pj [1, 2] a) u)) hP hD [1, 2] [0, 3, 4, 5, 6, 7, 8, 9, 10, 11, 12, 13, 14, 15, 16, 17, 18, 19, 20, 21, 22, 23, 24, 25, 26, 27, 28, 29] rfl rfl (by decide) (by decide) hk1 hFc hP1 hD1
        generalize H1 = H at hP hS ⊢
        obtain ⟨s4, es4⟩ : ∃ y : tm_St, y = tm_pk [1, 2] s0 u := ⟨_, rfl⟩
        have hw := hw s4 es4
        have hP : va_P (dC, dI) vwCl (tm_wTwo cI cZ a s4) H := by rw [es4]; exact hP.sub [0, 28, 29, 1, 2, 3, 4, 5, 6, 7, 8, 9, 10, 11, 12, 13, 14, 15, 16, 17, 18, 19, 20, 21, 22, 23, 24, 25, 26, 27] rfl
        have hD : va_D A (tm_wTwo cI cZ a s4) := by rw [es4]; exact hD.sub [0, 28, 29, 1, 2, 3, 4, 5, 6, 7, 8, 9, 10, 11, 12, 13, 14, 15, 16, 17, 18, 19, 20, 21, 22, 23, 24, 25, 26, 27] (by decide) rfl
        refine lv_aload_n hx hb dX8_letter_40 rfl (lv_at hl 0 rfl) ?_
        refine va_get (D := (dC, dI)) (ci := 6) (v := .ref (a 1)) (C := RX8) (T := TX8) (N := 5) hx hb hts h_in8 hown hK hP 0 rfl rfl 0 (by decide) h_f13 (fun _ h9 => h9) rfl dX8_letter_41 ?_
        refine va_get (D := (dC, dI)) (ci := 4) (v := .int (s4 1 1)) (C := RX4) (T := TX4) (N := 2) hx hb hts h_in4 hown hK hP 1 rfl rfl 1 (by decide) h_f46 (fun _ h9 => h9) rfl dX8_letter_44 ?_
        exact W.iret (v := (s4 1 1)) hx hb hr (fun t ht hW => ⟨⟨(s4 1 1), s4, rfl, hw, by rw [ht]; exact hP, va_K.moved hW.alike hK, hD⟩, hS.F ht⟩) hS.2.2 dX8_letter_47
      · have hw := hw.2 c3
        refine lv_sipush (v := (-1004)) hx hb dX8_letter_28 (by decide) ?_
        exact W.iret (v := (-1004)) hx hb hr (fun t ht hW => ⟨⟨(-1004), s0, rfl, hw, by rw [ht]; exact hP, va_K.moved hW.alike hK, hD⟩, hS.F ht⟩) hS.2.2 dX8_letter_31
    · have hw := hw.2 c2
      refine lv_sipush (v := (-1002)) hx hb dX8_letter_12 (by decide) ?_
      exact W.iret (v := (-1002)) hx hb hr (fun t ht hW => ⟨⟨(-1002), s0, rfl, hw, by rw [ht]; exact hP, va_K.moved hW.alike hK, hD⟩, hS.F ht⟩) hS.2.2 dX8_letter_15
def wp_X8_blank  (s0 : tm_St) (K : Int32 → tm_St → Prop) : Prop := (∀ x1 : Int32, x1 = (s0 1 1) → (∀ s2 : tm_St, s2 = tm_s s0 1 (tm_u (s0 1) 1 0) → K x1 s2))
set_option maxRecDepth 100000 in
set_option maxHeartbeats 4000000 in
theorem kk_X8_blank (l : Launch) (dC : Nat → ClassId) (dI : Nat → Nat → Nat) (cI cZ : ClassId) (a : Nat → Nat) (s0 : tm_St) (sz : Nat)  (K : Int32 → tm_St → Prop) (hw : wp_X8_blank s0 K) : Met l yX8_blank wsX8_blank ({ frames := 0, cells := 0, slots := 0, locals := 0 }) (va_Pc [.ref (a 0)] (tm_Pre dC dI cI cZ (tm_wTwo cI cZ a s0) sz)) (va_Qi (fun (r : Int32) (u : tm_St) => K r u) (fun (u : tm_St) t => tm_At dC dI cI cZ (va_A (tm_wTwo cI cZ a s0) sz) (tm_wTwo cI cZ a u) t) (va_A (tm_wTwo cI cZ a s0) sz)) 0 0 (va_A (tm_wTwo cI cZ a s0) sz) := by
  refine Met.ofW (cc := cX8_blank) (maxL := 2) (ret := (some .int)) (by decide +kernel) rfl ?_
  intro p e z m args below meth c z₁ B hml hv
  obtain ⟨rfl, hsz, hP, hK, hD0⟩ := hv
  have hx := B.exec
  have hb := B.bytes
  have hr := B.returns
  have hts := atoms_spec (ws := wsX8_blank) B.pre
  have hown : z.vm.findClass RX8 = some m.cls := findClass_of_methodNamed B.named
  have hlocks := B.notSynchronized
  subst hsz
  have hD := hD0.self (sz := z.heap.size)
  generalize hAe : va_A (tm_wTwo cI cZ a s0) z.heap.size = A at hD ⊢
  have hA : ∀ q : Nat, z.heap.size ≤ q → A q := fun q h => by rw [← hAe]; exact Or.inr h
  have hS : va_S A z.heap z.heap [] := va_S.rf
  have h_f13 := hts (.fieldLink RX8 13 "TwoModems" "page" "LTwoModems$Page;") (by decide +kernel)
  have h_in8 : ∀ w ∈ u_ws RX8 TX8 5, w ∈ wsX8_blank := by decide +kernel
  have h_f46 := hts (.fieldLink RX8 46 "TwoModems$Page" "size" "I") (by decide +kernel)
  have h_in4 : ∀ w ∈ u_ws RX4 TX4 2, w ∈ wsX8_blank := by decide +kernel
  have hl := lv_entry ([.ref (a 0)]) (n := 2) (Nat.le_of_ble_eq_true rfl)
  rw [lg_entry_eq]
  generalize (lg_sl ([.ref (a 0)]) ++ List.replicate (2 - (lg_sl ([.ref (a 0)])).length) Slot.unset).toArray = ls at hl ⊢
  have hl : lv_has ls 2 [(0, .ref (a 0))] := hl
  unfold wp_X8_blank at hw
  refine lv_aload_n hx hb dX8_blank_0 rfl (lv_at hl 0 rfl) ?_
  refine va_get (D := (dC, dI)) (ci := 6) (v := .ref (a 1)) (C := RX8) (T := TX8) (N := 5) hx hb hts h_in8 hown hK hP 0 rfl rfl 0 (by decide) h_f13 (fun _ h9 => h9) rfl dX8_blank_1 ?_
  refine va_get (D := (dC, dI)) (ci := 4) (v := .int (s0 1 1)) (C := RX4) (T := TX4) (N := 2) hx hb hts h_in4 hown hK hP 1 rfl rfl 1 (by decide) h_f46 (fun _ h9 => h9) rfl dX8_blank_4 ?_
  refine lv_topi (fun x1 ex1 => ?_)
  have hw := hw x1 ex1
  refine lv_istore_n (lv' := [(1, .int x1), (0, .ref (a 0))]) hx hb dX8_blank_7 rfl hl (by decide) rfl (fun ls hl => ?_)
  refine lv_aload_n hx hb dX8_blank_8 rfl (lv_at hl 1 rfl) ?_
  refine va_get (D := (dC, dI)) (ci := 6) (v := .ref (a 1)) (C := RX8) (T := TX8) (N := 5) hx hb hts h_in8 hown hK hP 0 rfl rfl 0 (by decide) h_f13 (fun _ h9 => h9) rfl dX8_blank_9 ?_
  refine lv_iconst (v := 0) hx hb dX8_blank_12 (by decide) ?_
  refine va_put (D := (dC, dI)) (ci := 4) (v := .int 0) (ty := .int) (C := RX4) (T := TX4) (N := 2) hx hb hts h_in4 tyX4 tyX4_ok nmX4 hown hK hP hD hS 1 rfl rfl 1 (by decide) h_f46 (fun _ h9 => h9) rfl (by decide +kernel) rfl rfl (Nat.le_of_ble_eq_true rfl) dX8_blank_13 (fun H locs hP hD hS => ?_)
  obtain ⟨s2, es2⟩ : ∃ y : tm_St, y = tm_s s0 1 (tm_u (s0 1) 1 0) := ⟨_, rfl⟩
  have hw := hw s2 es2
  have hP : va_P (dC, dI) vwCl (tm_wTwo cI cZ a s2) H := by rw [es2]; exact hP
  have hD : va_D A (tm_wTwo cI cZ a s2) := by rw [es2]; exact hD
  refine lv_iload_n hx hb dX8_blank_16 rfl (lv_at hl 0 rfl) ?_
  exact W.iret (v := x1) hx hb hr (fun t ht hW => ⟨⟨x1, s2, rfl, hw, by rw [ht]; exact hP, va_K.moved hW.alike hK, hD⟩, hS.F ht⟩) hS.2.2 dX8_blank_17
def wp_X8_fault  (s0 : tm_St) (K : Int32 → tm_St → Prop) : Prop := (wp_X4_firstFault  (tm_pj [1, 2] s0) (fun r1 u3 => ∀ s2 : tm_St, s2 = tm_pk [1, 2] s0 u3 → K r1 s2))
set_option maxRecDepth 100000 in
set_option maxHeartbeats 4000000 in
theorem kk_X8_fault (l : Launch) (dC : Nat → ClassId) (dI : Nat → Nat → Nat) (cI cZ : ClassId) (a : Nat → Nat) (s0 : tm_St) (sz : Nat)  (K : Int32 → tm_St → Prop) (hw : wp_X8_fault s0 K) : Met l yX8_fault wsX8_fault ({ frames := 5, cells := 0, slots := 0, locals := 113 }) (va_Pc [.ref (a 0)] (tm_Pre dC dI cI cZ (tm_wTwo cI cZ a s0) sz)) (va_Qi (fun (r : Int32) (u : tm_St) => K r u) (fun (u : tm_St) t => tm_At dC dI cI cZ (va_A (tm_wTwo cI cZ a s0) sz) (tm_wTwo cI cZ a u) t) (va_A (tm_wTwo cI cZ a s0) sz)) 0 0 (va_A (tm_wTwo cI cZ a s0) sz) := by
  refine Met.ofW (cc := cX8_fault) (maxL := 1) (ret := (some .int)) (by decide +kernel) rfl ?_
  intro p e z m args below meth c z₁ B hml hv
  obtain ⟨rfl, hsz, hP, hK, hD0⟩ := hv
  have hx := B.exec
  have hb := B.bytes
  have hr := B.returns
  have hts := atoms_spec (ws := wsX8_fault) B.pre
  have hown : z.vm.findClass RX8 = some m.cls := findClass_of_methodNamed B.named
  have hlocks := B.notSynchronized
  subst hsz
  have hD := hD0.self (sz := z.heap.size)
  generalize hAe : va_A (tm_wTwo cI cZ a s0) z.heap.size = A at hD ⊢
  have hA : ∀ q : Nat, z.heap.size ≤ q → A q := fun q h => by rw [← hAe]; exact Or.inr h
  have hS : va_S A z.heap z.heap [] := va_S.rf
  have h_f13 := hts (.fieldLink RX8 13 "TwoModems" "page" "LTwoModems$Page;") (by decide +kernel)
  have h_in8 : ∀ w ∈ u_ws RX8 TX8 5, w ∈ wsX8_fault := by decide +kernel
  have hl := lv_entry ([.ref (a 0)]) (n := 1) (Nat.le_of_ble_eq_true rfl)
  rw [lg_entry_eq]
  generalize (lg_sl ([.ref (a 0)]) ++ List.replicate (1 - (lg_sl ([.ref (a 0)])).length) Slot.unset).toArray = ls at hl ⊢
  have hl : lv_has ls 1 [(0, .ref (a 0))] := hl
  unfold wp_X8_fault at hw
  refine lv_aload_n hx hb dX8_fault_0 rfl (lv_at hl 0 rfl) ?_
  refine va_get (D := (dC, dI)) (ci := 6) (v := .ref (a 1)) (C := RX8) (T := TX8) (N := 5) hx hb hts h_in8 hown hK hP 0 rfl rfl 0 (by decide) h_f13 (fun _ h9 => h9) rfl dX8_fault_1 ?_
  have hPc := hP.sub (ws' := (tm_wPage cI cZ (tm_pj [1, 2] a) (tm_pj [1, 2] s0))) [1, 2] rfl
  have hDc := hD.sub (ws' := (tm_wPage cI cZ (tm_pj [1, 2] a) (tm_pj [1, 2] s0))) [1, 2] (by decide) rfl
  have hFc := va_free (wc := (tm_wPage cI cZ (tm_pj [1, 2] a) (tm_pj [1, 2] s0))) hD hS hA [1, 2] rfl
  refine va_calli (va_runV (As := []) (rest := []) ⟨hx, hb, hml, hown, hts⟩ (kk_X4_firstFault l dC dI cI cZ (tm_pj [1, 2] a) (tm_pj [1, 2] s0) z.heap.size  _ hw) (cwV 0 hts gX8_fault_X4_firstFault rfl rfl rfl (by decide +kernel) ⟨Nat.le_of_ble_eq_true rfl, Nat.le_of_ble_eq_true rfl⟩) ⟨tm_blind, va_recv hK hPc (ci := 4) (q0 := 0) rfl rfl, fun U hU hW => ⟨rfl, by rw [hU], by rw [hU]; exact hPc, va_K.moved hW.alike hK, hDc.weaken (fun _ _ _ _ => trivial)⟩⟩ rfl rfl hl.1 rfl (lv_room (Nat.le_of_ble_eq_true rfl)) dX8_fault_4 ⟨Nat.zero_le _, Nat.zero_le _⟩) hS (fun q _ h => hFc q h) hFc (fun r1 u t H1 locs ht hvm hw hB hz1 hk1 hS => ?_)
  obtain ⟨hP1, hK1, hD1⟩ := hB
  rw [ht] at hP1
  obtain ⟨hP, hD⟩ := va_join (wr := ([0, 3, 4, 5, 6, 7, 8, 9, 10, 11, 12, 13, 14, 15, 16, 17, 18, 19, 20, 21, 22, 23, 24, 25, 26, 27, 28, 29] : List Nat).filterMap (fun i => (tm_wTwo cI cZ a s0)[i]?)) (w1 := (tm_wPage cI cZ (tm_pj [1, 2] a) u)) hP hD [1, 2] [0, 3, 4, 5, 6, 7, 8, 9, 10, 11, 12, 13, 14, 15, 16, 17, 18, 19, 20, 21, 22, 23, 24, 25, 26, 27, 28, 29] rfl rfl (by decide) (by decide) hk1 hFc hP1 hD1
  generalize H1 = H at hP hS ⊢
  obtain ⟨s2, es2⟩ : ∃ y : tm_St, y = tm_pk [1, 2] s0 u := ⟨_, rfl⟩
  have hw := hw s2 es2
  have hP : va_P (dC, dI) vwCl (tm_wTwo cI cZ a s2) H := by rw [es2]; exact hP.sub [0, 28, 29, 1, 2, 3, 4, 5, 6, 7, 8, 9, 10, 11, 12, 13, 14, 15, 16, 17, 18, 19, 20, 21, 22, 23, 24, 25, 26, 27] rfl
  have hD : va_D A (tm_wTwo cI cZ a s2) := by rw [es2]; exact hD.sub [0, 28, 29, 1, 2, 3, 4, 5, 6, 7, 8, 9, 10, 11, 12, 13, 14, 15, 16, 17, 18, 19, 20, 21, 22, 23, 24, 25, 26, 27] (by decide) rfl
  exact W.iret (v := r1) hx hb hr (fun t ht hW => ⟨⟨r1, s2, rfl, hw, by rw [ht]; exact hP, va_K.moved hW.alike hK, hD⟩, hS.F ht⟩) hS.2.2 dX8_fault_7
def wp_X8_line  (s0 : tm_St) (K : Int32 → tm_St → Prop) : Prop := (wp_X4_isLine  (tm_pj [1, 2] s0) (fun r1 u3 => ∀ s2 : tm_St, s2 = tm_pk [1, 2] s0 u3 → ((¬ r1 = 0 → (wp_X1_read  (tm_pj [3, 4, 5, 6, 7, 8, 9, 10, 11, 12, 13, 1, 2] s2) (fun u6 => ∀ s5 : tm_St, s5 = tm_pk [3, 4, 5, 6, 7, 8, 9, 10, 11, 12, 13, 1, 2] s2 u6 → (∀ s7 : tm_St, s7 = tm_s s5 1 (tm_u (s5 1) 1 0) → K (s7 3 2) s7)))) ∧ (r1 = 0 → K (-1003) s2))))
set_option maxRecDepth 100000 in
set_option maxHeartbeats 4000000 in
theorem kk_X8_line (l : Launch) (dC : Nat → ClassId) (dI : Nat → Nat → Nat) (cI cZ : ClassId) (a : Nat → Nat) (s0 : tm_St) (sz : Nat)  (K : Int32 → tm_St → Prop) (hw : wp_X8_line s0 K) : Met l yX8_line wsX8_line ({ frames := 6, cells := 0, slots := 0, locals := 134 }) (va_Pc [.ref (a 0)] (tm_Pre dC dI cI cZ (tm_wTwo cI cZ a s0) sz)) (va_Qi (fun (r : Int32) (u : tm_St) => K r u) (fun (u : tm_St) t => tm_At dC dI cI cZ (va_A (tm_wTwo cI cZ a s0) sz) (tm_wTwo cI cZ a u) t) (va_A (tm_wTwo cI cZ a s0) sz)) 0 0 (va_A (tm_wTwo cI cZ a s0) sz) := by
  refine Met.ofW (cc := cX8_line) (maxL := 1) (ret := (some .int)) (by decide +kernel) rfl ?_
  intro p e z m args below meth c z₁ B hml hv
  obtain ⟨rfl, hsz, hP, hK, hD0⟩ := hv
  have hx := B.exec
  have hb := B.bytes
  have hr := B.returns
  have hts := atoms_spec (ws := wsX8_line) B.pre
  have hown : z.vm.findClass RX8 = some m.cls := findClass_of_methodNamed B.named
  have hlocks := B.notSynchronized
  subst hsz
  have hD := hD0.self (sz := z.heap.size)
  generalize hAe : va_A (tm_wTwo cI cZ a s0) z.heap.size = A at hD ⊢
  have hA : ∀ q : Nat, z.heap.size ≤ q → A q := fun q h => by rw [← hAe]; exact Or.inr h
  have hS : va_S A z.heap z.heap [] := va_S.rf
  have h_f13 := hts (.fieldLink RX8 13 "TwoModems" "page" "LTwoModems$Page;") (by decide +kernel)
  have h_in8 : ∀ w ∈ u_ws RX8 TX8 5, w ∈ wsX8_line := by decide +kernel
  have h_f19 := hts (.fieldLink RX8 19 "TwoModems" "line" "LTwoModems$Line;") (by decide +kernel)
  have h_f46 := hts (.fieldLink RX8 46 "TwoModems$Page" "size" "I") (by decide +kernel)
  have h_in4 : ∀ w ∈ u_ws RX4 TX4 2, w ∈ wsX8_line := by decide +kernel
  have h_f65 := hts (.fieldLink RX8 65 "TwoModems$Line" "delay" "I") (by decide +kernel)
  have h_in1 : ∀ w ∈ u_ws RX1 TX1 4, w ∈ wsX8_line := by decide +kernel
  have hl := lv_entry ([.ref (a 0)]) (n := 1) (Nat.le_of_ble_eq_true rfl)
  rw [lg_entry_eq]
  generalize (lg_sl ([.ref (a 0)]) ++ List.replicate (1 - (lg_sl ([.ref (a 0)])).length) Slot.unset).toArray = ls at hl ⊢
  have hl : lv_has ls 1 [(0, .ref (a 0))] := hl
  unfold wp_X8_line at hw
  refine lv_aload_n hx hb dX8_line_0 rfl (lv_at hl 0 rfl) ?_
  refine va_get (D := (dC, dI)) (ci := 6) (v := .ref (a 1)) (C := RX8) (T := TX8) (N := 5) hx hb hts h_in8 hown hK hP 0 rfl rfl 0 (by decide) h_f13 (fun _ h9 => h9) rfl dX8_line_1 ?_
  have hPc := hP.sub (ws' := (tm_wPage cI cZ (tm_pj [1, 2] a) (tm_pj [1, 2] s0))) [1, 2] rfl
  have hDc := hD.sub (ws' := (tm_wPage cI cZ (tm_pj [1, 2] a) (tm_pj [1, 2] s0))) [1, 2] (by decide) rfl
  have hFc := va_free (wc := (tm_wPage cI cZ (tm_pj [1, 2] a) (tm_pj [1, 2] s0))) hD hS hA [1, 2] rfl
  refine va_calli (va_runV (As := []) (rest := []) ⟨hx, hb, hml, hown, hts⟩ (kk_X4_isLine l dC dI cI cZ (tm_pj [1, 2] a) (tm_pj [1, 2] s0) z.heap.size  _ hw) (cwV 0 hts gX8_line_X4_isLine rfl rfl rfl (by decide +kernel) ⟨Nat.le_of_ble_eq_true rfl, Nat.le_of_ble_eq_true rfl⟩) ⟨tm_blind, va_recv hK hPc (ci := 4) (q0 := 0) rfl rfl, fun U hU hW => ⟨rfl, by rw [hU], by rw [hU]; exact hPc, va_K.moved hW.alike hK, hDc.weaken (fun _ _ _ _ => trivial)⟩⟩ rfl rfl hl.1 rfl (lv_room (Nat.le_of_ble_eq_true rfl)) dX8_line_4 ⟨Nat.zero_le _, Nat.zero_le _⟩) hS (fun q _ h => hFc q h) hFc (fun r1 u t H1 locs ht hvm hw hB hz1 hk1 hS => ?_)
  obtain ⟨hP1, hK1, hD1⟩ := hB
  rw [ht] at hP1
  have b9_r1 := hw.1
  have hw := hw.2
  obtain ⟨hP, hD⟩ := va_join (wr := ([0, 3, 4, 5, 6, 7, 8, 9, 10, 11, 12, 13, 14, 15, 16, 17, 18, 19, 20, 21, 22, 23, 24, 25, 26, 27, 28, 29] : List Nat).filterMap (fun i => (tm_wTwo cI cZ a s0)[i]?)) (w1 := (tm_wPage cI cZ (tm_pj [1, 2] a) u)) hP hD [1, 2] [0, 3, 4, 5, 6, 7, 8, 9, 10, 11, 12, 13, 14, 15, 16, 17, 18, 19, 20, 21, 22, 23, 24, 25, 26, 27, 28, 29] rfl rfl (by decide) (by decide) hk1 hFc hP1 hD1
  generalize H1 = H at hP hS ⊢
  obtain ⟨s2, es2⟩ : ∃ y : tm_St, y = tm_pk [1, 2] s0 u := ⟨_, rfl⟩
  have hw := hw s2 es2
  have hP : va_P (dC, dI) vwCl (tm_wTwo cI cZ a s2) H := by rw [es2]; exact hP.sub [0, 28, 29, 1, 2, 3, 4, 5, 6, 7, 8, 9, 10, 11, 12, 13, 14, 15, 16, 17, 18, 19, 20, 21, 22, 23, 24, 25, 26, 27] rfl
  have hD : va_D A (tm_wTwo cI cZ a s2) := by rw [es2]; exact hD.sub [0, 28, 29, 1, 2, 3, 4, 5, 6, 7, 8, 9, 10, 11, 12, 13, 14, 15, 16, 17, 18, 19, 20, 21, 22, 23, 24, 25, 26, 27] (by decide) rfl
  refine lv_if_ne (tgt := 14) hx hb dX8_line_7 (by decide) (fun c4 => ?_) (fun c4 => ?_)
  · have hw := hw.1 c4
    refine lv_aload_n hx hb dX8_line_14 rfl (lv_at hl 0 rfl) ?_
    refine va_get (D := (dC, dI)) (ci := 6) (v := .ref (a 3)) (C := RX8) (T := TX8) (N := 5) hx hb hts h_in8 hown hK hP 0 rfl rfl 1 (by decide) h_f19 (fun _ h9 => h9) rfl dX8_line_15 ?_
    refine lv_aload_n hx hb dX8_line_18 rfl (lv_at hl 0 rfl) ?_
    refine va_get (D := (dC, dI)) (ci := 6) (v := .ref (a 1)) (C := RX8) (T := TX8) (N := 5) hx hb hts h_in8 hown hK hP 0 rfl rfl 0 (by decide) h_f13 (fun _ h9 => h9) rfl dX8_line_19 ?_
    have hPc := hP.sub (ws' := (tm_wLineR cI cZ (tm_pj [3, 4, 5, 6, 7, 8, 9, 10, 11, 12, 13, 1, 2] a) (tm_pj [3, 4, 5, 6, 7, 8, 9, 10, 11, 12, 13, 1, 2] s2))) [3, 4, 5, 6, 7, 8, 9, 10, 11, 12, 13, 1, 2] rfl
    have hDc := hD.sub (ws' := (tm_wLineR cI cZ (tm_pj [3, 4, 5, 6, 7, 8, 9, 10, 11, 12, 13, 1, 2] a) (tm_pj [3, 4, 5, 6, 7, 8, 9, 10, 11, 12, 13, 1, 2] s2))) [3, 4, 5, 6, 7, 8, 9, 10, 11, 12, 13, 1, 2] (by decide) rfl
    have hFc := va_free (wc := (tm_wLineR cI cZ (tm_pj [3, 4, 5, 6, 7, 8, 9, 10, 11, 12, 13, 1, 2] a) (tm_pj [3, 4, 5, 6, 7, 8, 9, 10, 11, 12, 13, 1, 2] s2))) hD hS hA [3, 4, 5, 6, 7, 8, 9, 10, 11, 12, 13, 1, 2] rfl
    refine va_callv (va_runV (As := [.ref (a 1)]) (rest := []) ⟨hx, hb, hml, hown, hts⟩ (kk_X1_read l dC dI cI cZ (tm_pj [3, 4, 5, 6, 7, 8, 9, 10, 11, 12, 13, 1, 2] a) (tm_pj [3, 4, 5, 6, 7, 8, 9, 10, 11, 12, 13, 1, 2] s2) H.size  _ hw) (cwV 1 hts gX8_line_X1_read rfl rfl rfl (by decide +kernel) ⟨Nat.le_of_ble_eq_true rfl, Nat.le_of_ble_eq_true rfl⟩) ⟨tm_blind, va_recv hK hPc (ci := 1) (q0 := 0) rfl rfl, fun U hU hW => ⟨rfl, by rw [hU], by rw [hU]; exact hPc, va_K.moved hW.alike hK, hDc.weaken (fun _ _ _ _ => trivial)⟩⟩ rfl rfl hl.1 rfl (lv_room (Nat.le_of_ble_eq_true rfl)) dX8_line_22 ⟨Nat.zero_le _, Nat.zero_le _⟩) hS (fun q _ h => hFc q h) hFc (fun u t H1 locs ht hvm hw hB hz1 hk1 hS => ?_)
    obtain ⟨hP1, hK1, hD1⟩ := hB
    rw [ht] at hP1
    obtain ⟨hP, hD⟩ := va_join (wr := ([0, 14, 15, 16, 17, 18, 19, 20, 21, 22, 23, 24, 25, 26, 27, 28, 29] : List Nat).filterMap (fun i => (tm_wTwo cI cZ a s2)[i]?)) (w1 := (tm_wLineR cI cZ (tm_pj [3, 4, 5, 6, 7, 8, 9, 10, 11, 12, 13, 1, 2] a) u)) hP hD [3, 4, 5, 6, 7, 8, 9, 10, 11, 12, 13, 1, 2] [0, 14, 15, 16, 17, 18, 19, 20, 21, 22, 23, 24, 25, 26, 27, 28, 29] rfl rfl (by decide) (by decide) hk1 hFc hP1 hD1
    generalize H1 = H at hP hS ⊢
    obtain ⟨s5, es5⟩ : ∃ y : tm_St, y = tm_pk [3, 4, 5, 6, 7, 8, 9, 10, 11, 12, 13, 1, 2] s2 u := ⟨_, rfl⟩
    have hw := hw s5 es5
    have hP : va_P (dC, dI) vwCl (tm_wTwo cI cZ a s5) H := by rw [es5]; exact hP.sub [0, 28, 29, 17, 18, 19, 20, 21, 22, 23, 24, 25, 26, 27, 1, 2, 3, 4, 5, 6, 7, 8, 9, 10, 11, 12, 13, 14, 15, 16] rfl
    have hD : va_D A (tm_wTwo cI cZ a s5) := by rw [es5]; exact hD.sub [0, 28, 29, 17, 18, 19, 20, 21, 22, 23, 24, 25, 26, 27, 1, 2, 3, 4, 5, 6, 7, 8, 9, 10, 11, 12, 13, 14, 15, 16] (by decide) rfl
    refine lv_aload_n hx hb dX8_line_25 rfl (lv_at hl 0 rfl) ?_
    refine va_get (D := (dC, dI)) (ci := 6) (v := .ref (a 1)) (C := RX8) (T := TX8) (N := 5) hx hb hts h_in8 hown hK hP 0 rfl rfl 0 (by decide) h_f13 (fun _ h9 => h9) rfl dX8_line_26 ?_
    refine lv_iconst (v := 0) hx hb dX8_line_29 (by decide) ?_
    refine va_put (D := (dC, dI)) (ci := 4) (v := .int 0) (ty := .int) (C := RX4) (T := TX4) (N := 2) hx hb hts h_in4 tyX4 tyX4_ok nmX4 hown hK hP hD hS 1 rfl rfl 1 (by decide) h_f46 (fun _ h9 => h9) rfl (by decide +kernel) rfl rfl (Nat.le_of_ble_eq_true rfl) dX8_line_30 (fun H locs hP hD hS => ?_)
    obtain ⟨s7, es7⟩ : ∃ y : tm_St, y = tm_s s5 1 (tm_u (s5 1) 1 0) := ⟨_, rfl⟩
    have hw := hw s7 es7
    have hP : va_P (dC, dI) vwCl (tm_wTwo cI cZ a s7) H := by rw [es7]; exact hP
    have hD : va_D A (tm_wTwo cI cZ a s7) := by rw [es7]; exact hD
    refine lv_aload_n hx hb dX8_line_33 rfl (lv_at hl 0 rfl) ?_
    refine va_get (D := (dC, dI)) (ci := 6) (v := .ref (a 3)) (C := RX8) (T := TX8) (N := 5) hx hb hts h_in8 hown hK hP 0 rfl rfl 1 (by decide) h_f19 (fun _ h9 => h9) rfl dX8_line_34 ?_
    refine va_get (D := (dC, dI)) (ci := 1) (v := .int (s7 3 2)) (C := RX1) (T := TX1) (N := 4) hx hb hts h_in1 hown hK hP 3 rfl rfl 2 (by decide) h_f65 (fun _ h9 => h9) rfl dX8_line_37 ?_
    exact W.iret (v := (s7 3 2)) hx hb hr (fun t ht hW => ⟨⟨(s7 3 2), s7, rfl, hw, by rw [ht]; exact hP, va_K.moved hW.alike hK, hD⟩, hS.F ht⟩) hS.2.2 dX8_line_40
  · have hw := hw.2 c4
    refine lv_sipush (v := (-1003)) hx hb dX8_line_10 (by decide) ?_
    exact W.iret (v := (-1003)) hx hb hr (fun t ht hW => ⟨⟨(-1003), s2, rfl, hw, by rw [ht]; exact hP, va_K.moved hW.alike hK, hD⟩, hS.F ht⟩) hS.2.2 dX8_line_13
def wp_X8_modemAt (p0 : Int32) (K : Nat → Prop) : Prop := ((¬ p0 = 0 → ((¬ p0 = 1 → K 2) ∧ (p0 = 1 → K 1))) ∧ (p0 = 0 → K 0))
set_option maxRecDepth 100000 in
set_option maxHeartbeats 4000000 in
theorem kk_X8_modemAt (l : Launch) (dC : Nat → ClassId) (dI : Nat → Nat → Nat) (cI cZ : ClassId) (a : Nat → Nat) (s0 : tm_St) (sz : Nat) (p0 : Int32) (K : Nat → Prop) (hw : wp_X8_modemAt p0 K) : Met l yX8_modemAt wsX8_modemAt ({ frames := 0, cells := 0, slots := 0, locals := 0 }) (va_Pc [.ref (a 0), .int p0] (tm_Pre dC dI cI cZ (tm_wTwo cI cZ a s0) sz)) (va_Qq (fun (r : Option Nat) (u : tm_St) => u = s0 ∧ ∃ k : Nat, K k ∧ ((k = 0 ∧ r = some (a 14)) ∨ (k = 1 ∧ r = some (a 22)) ∨ (k = 2 ∧ r = none))) (fun (u : tm_St) t => tm_At dC dI cI cZ (va_A (tm_wTwo cI cZ a s0) sz) (tm_wTwo cI cZ a u) t) (va_A (tm_wTwo cI cZ a s0) sz)) 0 0 (va_A (tm_wTwo cI cZ a s0) sz) := by
  refine Met.ofW (cc := cX8_modemAt) (maxL := 2) (ret := (some (.object "TwoModems$Modem"))) (by decide +kernel) rfl ?_
  intro p e z m args below meth c z₁ B hml hv
  obtain ⟨rfl, hsz, hP, hK, hD0⟩ := hv
  have hx := B.exec
  have hb := B.bytes
  have hr := B.returns
  have hts := atoms_spec (ws := wsX8_modemAt) B.pre
  have hown : z.vm.findClass RX8 = some m.cls := findClass_of_methodNamed B.named
  have hlocks := B.notSynchronized
  subst hsz
  have hD := hD0.self (sz := z.heap.size)
  generalize hAe : va_A (tm_wTwo cI cZ a s0) z.heap.size = A at hD ⊢
  have hA : ∀ q : Nat, z.heap.size ≤ q → A q := fun q h => by rw [← hAe]; exact Or.inr h
  have hS : va_S A z.heap z.heap [] := va_S.rf
  have h_f39 := hts (.fieldLink RX8 39 "TwoModems" "one" "LTwoModems$Modem;") (by decide +kernel)
  have h_in8 : ∀ w ∈ u_ws RX8 TX8 5, w ∈ wsX8_modemAt := by decide +kernel
  have h_f35 := hts (.fieldLink RX8 35 "TwoModems" "zero" "LTwoModems$Modem;") (by decide +kernel)
  have hl := lv_entry ([.ref (a 0), .int p0]) (n := 2) (Nat.le_of_ble_eq_true rfl)
  rw [lg_entry_eq]
  generalize (lg_sl ([.ref (a 0), .int p0]) ++ List.replicate (2 - (lg_sl ([.ref (a 0), .int p0])).length) Slot.unset).toArray = ls at hl ⊢
  have hl : lv_has ls 2 [(0, .ref (a 0)), (1, .int p0)] := hl
  unfold wp_X8_modemAt at hw
  refine lv_iload_n hx hb dX8_modemAt_0 rfl (lv_at hl 1 rfl) ?_
  refine lv_if_ne (tgt := 9) hx hb dX8_modemAt_1 (by decide) (fun c1 => ?_) (fun c1 => ?_)
  · have hw := hw.1 c1
    refine lv_iload_n hx hb dX8_modemAt_9 rfl (lv_at hl 1 rfl) ?_
    refine lv_iconst (v := 1) hx hb dX8_modemAt_10 (by decide) ?_
    refine lv_icmp_ne (tgt := 21) hx hb dX8_modemAt_11 (by decide) (fun c2 => ?_) (fun c2 => ?_)
    · have hw := hw.1 c2
      refine lv_null hx hb dX8_modemAt_21 ?_
      exact W.aret (v := .null) hx hb hr (Or.inl ⟨_, rfl⟩) (Or.inl rfl) (fun t ht hW => ⟨⟨none, s0, rfl, ⟨rfl, 2, hw, Or.inr (Or.inr ⟨rfl, rfl⟩)⟩, by rw [ht]; exact hP, va_K.moved hW.alike hK, hD⟩, hS.F ht⟩) hS.2.2 dX8_modemAt_22
    · have hw := hw.2 c2
      refine lv_aload_n hx hb dX8_modemAt_14 rfl (lv_at hl 0 rfl) ?_
      refine va_get (D := (dC, dI)) (ci := 6) (v := .ref (a 22)) (C := RX8) (T := TX8) (N := 5) hx hb hts h_in8 hown hK hP 0 rfl rfl 3 (by decide) h_f39 (fun _ h9 => h9) rfl dX8_modemAt_15 ?_
      refine lv_goto (tgt := 22) hx hb dX8_modemAt_18 (by decide) ?_
      exact W.aret (v := .ref (a 22)) hx hb hr (Or.inl ⟨_, rfl⟩) (Or.inr ⟨_, rfl⟩) (fun t ht hW => ⟨⟨some (a 22), s0, rfl, ⟨rfl, 1, hw, Or.inr (Or.inl ⟨rfl, rfl⟩)⟩, by rw [ht]; exact hP, va_K.moved hW.alike hK, hD⟩, hS.F ht⟩) hS.2.2 dX8_modemAt_22
  · have hw := hw.2 c1
    refine lv_aload_n hx hb dX8_modemAt_4 rfl (lv_at hl 0 rfl) ?_
    refine va_get (D := (dC, dI)) (ci := 6) (v := .ref (a 14)) (C := RX8) (T := TX8) (N := 5) hx hb hts h_in8 hown hK hP 0 rfl rfl 2 (by decide) h_f35 (fun _ h9 => h9) rfl dX8_modemAt_5 ?_
    exact W.aret (v := .ref (a 14)) hx hb hr (Or.inl ⟨_, rfl⟩) (Or.inr ⟨_, rfl⟩) (fun t ht hW => ⟨⟨some (a 14), s0, rfl, ⟨rfl, 0, hw, Or.inl ⟨rfl, rfl⟩⟩, by rw [ht]; exact hP, va_K.moved hW.alike hK, hD⟩, hS.F ht⟩) hS.2.2 dX8_modemAt_8
def wp_X8_say_41 (K : Int32 → tm_St → Prop) : Nat → Int32 → tm_St → Prop
  | 0, _, _ => False
  | n + 1, v3, s => (((s 1 1) ≤ v3 → (∀ s6 : tm_St, s6 = tm_s s 1 (tm_u (s 1) 1 0) → K (s6 18 2) s6)) ∧ (¬ (s 1 1) ≤ v3 → (wp_X4_codeAt v3 (tm_pj [1, 2] s) (fun r7 u9 => ∀ s8 : tm_St, s8 = tm_pk [1, 2] s u9 → (wp_X2_add r7 (tm_pj [18, 19, 20] s8) (fun u11 => ∀ s10 : tm_St, s10 = tm_pk [18, 19, 20] s8 u11 → (∀ x12 : Int32, x12 = v3 + 1 → wp_X8_say_41 K n x12 s10)))))))
def wp_X8_say_41a (K : Int32 → tm_St → Prop) : Nat → Int32 → tm_St → Prop
  | 0, _, _ => False
  | n + 1, v3, s => (((s 1 1) ≤ v3 → (∀ s15 : tm_St, s15 = tm_s s 1 (tm_u (s 1) 1 0) → K (s15 26 2) s15)) ∧ (¬ (s 1 1) ≤ v3 → (wp_X4_codeAt v3 (tm_pj [1, 2] s) (fun r16 u18 => ∀ s17 : tm_St, s17 = tm_pk [1, 2] s u18 → (wp_X2_add r16 (tm_pj [26, 27, 28] s17) (fun u20 => ∀ s19 : tm_St, s19 = tm_pk [26, 27, 28] s17 u20 → (∀ x21 : Int32, x21 = v3 + 1 → wp_X8_say_41a K n x21 s19)))))))
def wp_X8_say (p0 : Int32) (s0 : tm_St) (K : Int32 → tm_St → Prop) : Prop := wp_X8_modemAt p0 (fun k3 => (k3 = 0 → ((((s0 18 2) + (s0 1 1)) ≤ 200 → ∃ nf : Nat, wp_X8_say_41 K nf 0 s0) ∧ (¬ ((s0 18 2) + (s0 1 1)) ≤ 200 → K (-1004) s0))) ∧ (k3 = 1 → ((((s0 26 2) + (s0 1 1)) ≤ 200 → ∃ nf : Nat, wp_X8_say_41a K nf 0 s0) ∧ (¬ ((s0 26 2) + (s0 1 1)) ≤ 200 → K (-1004) s0))) ∧ (k3 = 2 → K (-1001) s0))
set_option maxRecDepth 100000 in
set_option maxHeartbeats 4000000 in
theorem kk_X8_say (l : Launch) (dC : Nat → ClassId) (dI : Nat → Nat → Nat) (cI cZ : ClassId) (a : Nat → Nat) (s0 : tm_St) (sz : Nat) (p0 : Int32) (K : Int32 → tm_St → Prop) (hw : wp_X8_say p0 s0 K) : Met l yX8_say wsX8_say ({ frames := 1, cells := 0, slots := 0, locals := 21 }) (va_Pc [.ref (a 0), .int p0] (tm_Pre dC dI cI cZ (tm_wTwo cI cZ a s0) sz)) (va_Qi (fun (r : Int32) (u : tm_St) => K r u) (fun (u : tm_St) t => tm_At dC dI cI cZ (va_A (tm_wTwo cI cZ a s0) sz) (tm_wTwo cI cZ a u) t) (va_A (tm_wTwo cI cZ a s0) sz)) 0 0 (va_A (tm_wTwo cI cZ a s0) sz) := by
  refine Met.ofW (cc := cX8_say) (maxL := 4) (ret := (some .int)) (by decide +kernel) rfl ?_
  intro p e z m args below meth c z₁ B hml hv
  obtain ⟨rfl, hsz, hP, hK, hD0⟩ := hv
  have hx := B.exec
  have hb := B.bytes
  have hr := B.returns
  have hts := atoms_spec (ws := wsX8_say) B.pre
  have hown : z.vm.findClass RX8 = some m.cls := findClass_of_methodNamed B.named
  have hlocks := B.notSynchronized
  subst hsz
  have hD := hD0.self (sz := z.heap.size)
  generalize hAe : va_A (tm_wTwo cI cZ a s0) z.heap.size = A at hD ⊢
  have hA : ∀ q : Nat, z.heap.size ≤ q → A q := fun q h => by rw [← hAe]; exact Or.inr h
  have hS : va_S A z.heap z.heap [] := va_S.rf
  have h_f72 := hts (.fieldLink RX8 72 "TwoModems$Modem" "mail" "LTwoModems$Mail;") (by decide +kernel)
  have h_in3 : ∀ w ∈ u_ws RX3 TX3 20, w ∈ wsX8_say := by decide +kernel
  have h_f76 := hts (.fieldLink RX8 76 "TwoModems$Mail" "said" "I") (by decide +kernel)
  have h_in2 : ∀ w ∈ u_ws RX2 TX2 8, w ∈ wsX8_say := by decide +kernel
  have h_f13 := hts (.fieldLink RX8 13 "TwoModems" "page" "LTwoModems$Page;") (by decide +kernel)
  have h_in8 : ∀ w ∈ u_ws RX8 TX8 5, w ∈ wsX8_say := by decide +kernel
  have h_f46 := hts (.fieldLink RX8 46 "TwoModems$Page" "size" "I") (by decide +kernel)
  have h_in4 : ∀ w ∈ u_ws RX4 TX4 2, w ∈ wsX8_say := by decide +kernel
  have b41 : ∀ (n : Nat) (v3 : Int32) (s : tm_St) (H : Heap) (locs : List Loc) (ls : Array Slot), wp_X8_say_41 K n v3 s → va_P (dC, dI) vwCl (tm_wTwo cI cZ a s) H → va_D A (tm_wTwo cI cZ a s) → va_S A z.heap H locs → lv_has ls 4 [(0, .ref (a 0)), (2, .ref (a 14)), (3, .int v3)] → W p l e (headSpec wsX8_say ({ frames := 1, cells := 0, slots := 0, locals := 21 })).room z m (([.ref (a 0), .int p0] : List Value).toArray) below meth c H locs 0 0 (MQ below (va_Qi (fun (r : Int32) (u : tm_St) => K r u) (fun (u : tm_St) t => tm_At dC dI cI cZ A (tm_wTwo cI cZ a u) t) A) (([.ref (a 0), .int p0] : List Value).toArray) z 0 0 A) (F0 m 41 ls []) := by
    intro n
    induction n with
    | zero => intro v3 s H locs ls hw hP hD hS hl; unfold wp_X8_say_41 at hw; exact hw.elim
    | succ n ih =>
      intro v3 s H locs ls hw hP hD hS hl
      unfold wp_X8_say_41 at hw
      refine lv_iload_n hx hb dX8_say_41 rfl (lv_at hl 2 rfl) ?_
      refine lv_aload_n hx hb dX8_say_42 rfl (lv_at hl 0 rfl) ?_
      refine va_get (D := (dC, dI)) (ci := 6) (v := .ref (a 1)) (C := RX8) (T := TX8) (N := 5) hx hb hts h_in8 hown hK hP 0 rfl rfl 0 (by decide) h_f13 (fun _ h9 => h9) rfl dX8_say_43 ?_
      refine va_get (D := (dC, dI)) (ci := 4) (v := .int (s 1 1)) (C := RX4) (T := TX4) (N := 2) hx hb hts h_in4 hown hK hP 1 rfl rfl 1 (by decide) h_f46 (fun _ h9 => h9) rfl dX8_say_46 ?_
      refine lv_icmp_ge (tgt := 73) hx hb dX8_say_49 (by decide) (fun c5 => ?_) (fun c5 => ?_)
      · have hw := hw.1 c5
        refine lv_aload_n hx hb dX8_say_73 rfl (lv_at hl 0 rfl) ?_
        refine va_get (D := (dC, dI)) (ci := 6) (v := .ref (a 1)) (C := RX8) (T := TX8) (N := 5) hx hb hts h_in8 hown hK hP 0 rfl rfl 0 (by decide) h_f13 (fun _ h9 => h9) rfl dX8_say_74 ?_
        refine lv_iconst (v := 0) hx hb dX8_say_77 (by decide) ?_
        refine va_put (D := (dC, dI)) (ci := 4) (v := .int 0) (ty := .int) (C := RX4) (T := TX4) (N := 2) hx hb hts h_in4 tyX4 tyX4_ok nmX4 hown hK hP hD hS 1 rfl rfl 1 (by decide) h_f46 (fun _ h9 => h9) rfl (by decide +kernel) rfl rfl (Nat.le_of_ble_eq_true rfl) dX8_say_78 (fun H locs hP hD hS => ?_)
        obtain ⟨s6, es6⟩ : ∃ y : tm_St, y = tm_s s 1 (tm_u (s 1) 1 0) := ⟨_, rfl⟩
        have hw := hw s6 es6
        have hP : va_P (dC, dI) vwCl (tm_wTwo cI cZ a s6) H := by rw [es6]; exact hP
        have hD : va_D A (tm_wTwo cI cZ a s6) := by rw [es6]; exact hD
        refine lv_aload_n hx hb dX8_say_81 rfl (lv_at hl 1 rfl) ?_
        refine va_get (D := (dC, dI)) (ci := 3) (v := .ref (a 18)) (C := RX3) (T := TX3) (N := 20) hx hb hts h_in3 hown hK hP 14 rfl rfl 4 (by decide) h_f72 (fun _ h9 => h9) rfl dX8_say_82 ?_
        refine va_get (D := (dC, dI)) (ci := 2) (v := .int (s6 18 2)) (C := RX2) (T := TX2) (N := 8) hx hb hts h_in2 hown hK hP 18 rfl rfl 2 (by decide) h_f76 (fun _ h9 => h9) rfl dX8_say_85 ?_
        exact W.iret (v := (s6 18 2)) hx hb hr (fun t ht hW => ⟨⟨(s6 18 2), s6, rfl, hw, by rw [ht]; exact hP, va_K.moved hW.alike hK, hD⟩, hS.F ht⟩) hS.2.2 dX8_say_88
      · have hw := hw.2 c5
        refine lv_aload_n hx hb dX8_say_52 rfl (lv_at hl 1 rfl) ?_
        refine va_get (D := (dC, dI)) (ci := 3) (v := .ref (a 18)) (C := RX3) (T := TX3) (N := 20) hx hb hts h_in3 hown hK hP 14 rfl rfl 4 (by decide) h_f72 (fun _ h9 => h9) rfl dX8_say_53 ?_
        refine lv_aload_n hx hb dX8_say_56 rfl (lv_at hl 0 rfl) ?_
        refine va_get (D := (dC, dI)) (ci := 6) (v := .ref (a 1)) (C := RX8) (T := TX8) (N := 5) hx hb hts h_in8 hown hK hP 0 rfl rfl 0 (by decide) h_f13 (fun _ h9 => h9) rfl dX8_say_57 ?_
        refine lv_iload_n hx hb dX8_say_60 rfl (lv_at hl 2 rfl) ?_
        have hPc := hP.sub (ws' := (tm_wPage cI cZ (tm_pj [1, 2] a) (tm_pj [1, 2] s))) [1, 2] rfl
        have hDc := hD.sub (ws' := (tm_wPage cI cZ (tm_pj [1, 2] a) (tm_pj [1, 2] s))) [1, 2] (by decide) rfl
        have hFc := va_free (wc := (tm_wPage cI cZ (tm_pj [1, 2] a) (tm_pj [1, 2] s))) hD hS hA [1, 2] rfl
        refine va_calli (va_runV (As := [.int v3]) (rest := [.ref (a 18)]) ⟨hx, hb, hml, hown, hts⟩ (kk_X4_codeAt l dC dI cI cZ (tm_pj [1, 2] a) (tm_pj [1, 2] s) H.size v3 _ hw) (cwV 1 hts gX8_say_X4_codeAt rfl rfl rfl (by decide +kernel) ⟨Nat.le_of_ble_eq_true rfl, Nat.le_of_ble_eq_true rfl⟩) ⟨tm_blind, va_recv hK hPc (ci := 4) (q0 := 0) rfl rfl, fun U hU hW => ⟨rfl, by rw [hU], by rw [hU]; exact hPc, va_K.moved hW.alike hK, hDc.weaken (fun _ _ _ _ => trivial)⟩⟩ rfl rfl hl.1 rfl (lv_room (Nat.le_of_ble_eq_true rfl)) dX8_say_61 ⟨Nat.zero_le _, Nat.zero_le _⟩) hS (fun q _ h => hFc q h) hFc (fun r7 u t H1 locs ht hvm hw hB hz1 hk1 hS => ?_)
        obtain ⟨hP1, hK1, hD1⟩ := hB
        rw [ht] at hP1
        obtain ⟨hP, hD⟩ := va_join (wr := ([0, 3, 4, 5, 6, 7, 8, 9, 10, 11, 12, 13, 14, 15, 16, 17, 18, 19, 20, 21, 22, 23, 24, 25, 26, 27, 28, 29] : List Nat).filterMap (fun i => (tm_wTwo cI cZ a s)[i]?)) (w1 := (tm_wPage cI cZ (tm_pj [1, 2] a) u)) hP hD [1, 2] [0, 3, 4, 5, 6, 7, 8, 9, 10, 11, 12, 13, 14, 15, 16, 17, 18, 19, 20, 21, 22, 23, 24, 25, 26, 27, 28, 29] rfl rfl (by decide) (by decide) hk1 hFc hP1 hD1
        generalize H1 = H at hP hS ⊢
        obtain ⟨s8, es8⟩ : ∃ y : tm_St, y = tm_pk [1, 2] s u := ⟨_, rfl⟩
        have hw := hw s8 es8
        have hP : va_P (dC, dI) vwCl (tm_wTwo cI cZ a s8) H := by rw [es8]; exact hP.sub [0, 28, 29, 1, 2, 3, 4, 5, 6, 7, 8, 9, 10, 11, 12, 13, 14, 15, 16, 17, 18, 19, 20, 21, 22, 23, 24, 25, 26, 27] rfl
        have hD : va_D A (tm_wTwo cI cZ a s8) := by rw [es8]; exact hD.sub [0, 28, 29, 1, 2, 3, 4, 5, 6, 7, 8, 9, 10, 11, 12, 13, 14, 15, 16, 17, 18, 19, 20, 21, 22, 23, 24, 25, 26, 27] (by decide) rfl
        have hPc := hP.sub (ws' := (tm_wMail cI cZ (tm_pj [18, 19, 20] a) (tm_pj [18, 19, 20] s8))) [18, 19, 20] rfl
        have hDc := hD.sub (ws' := (tm_wMail cI cZ (tm_pj [18, 19, 20] a) (tm_pj [18, 19, 20] s8))) [18, 19, 20] (by decide) rfl
        have hFc := va_free (wc := (tm_wMail cI cZ (tm_pj [18, 19, 20] a) (tm_pj [18, 19, 20] s8))) hD hS hA [18, 19, 20] rfl
        refine va_callv (va_runV (As := [.int r7]) (rest := []) ⟨hx, hb, hml, hown, hts⟩ (kk_X2_add l dC dI cI cZ (tm_pj [18, 19, 20] a) (tm_pj [18, 19, 20] s8) H.size r7 _ hw) (cwV 1 hts gX8_say_X2_add rfl rfl rfl (by decide +kernel) ⟨Nat.le_of_ble_eq_true rfl, Nat.le_of_ble_eq_true rfl⟩) ⟨tm_blind, va_recv hK hPc (ci := 2) (q0 := 0) rfl rfl, fun U hU hW => ⟨rfl, by rw [hU], by rw [hU]; exact hPc, va_K.moved hW.alike hK, hDc.weaken (fun _ _ _ _ => trivial)⟩⟩ rfl rfl hl.1 rfl (lv_room (Nat.le_of_ble_eq_true rfl)) dX8_say_64 ⟨Nat.zero_le _, Nat.zero_le _⟩) hS (fun q _ h => hFc q h) hFc (fun u t H1 locs ht hvm hw hB hz1 hk1 hS => ?_)
        obtain ⟨hP1, hK1, hD1⟩ := hB
        rw [ht] at hP1
        obtain ⟨hP, hD⟩ := va_join (wr := ([0, 1, 2, 3, 4, 5, 6, 7, 8, 9, 10, 11, 12, 13, 14, 15, 16, 17, 21, 22, 23, 24, 25, 26, 27, 28, 29] : List Nat).filterMap (fun i => (tm_wTwo cI cZ a s8)[i]?)) (w1 := (tm_wMail cI cZ (tm_pj [18, 19, 20] a) u)) hP hD [18, 19, 20] [0, 1, 2, 3, 4, 5, 6, 7, 8, 9, 10, 11, 12, 13, 14, 15, 16, 17, 21, 22, 23, 24, 25, 26, 27, 28, 29] rfl rfl (by decide) (by decide) hk1 hFc hP1 hD1
        generalize H1 = H at hP hS ⊢
        obtain ⟨s10, es10⟩ : ∃ y : tm_St, y = tm_pk [18, 19, 20] s8 u := ⟨_, rfl⟩
        have hw := hw s10 es10
        have hP : va_P (dC, dI) vwCl (tm_wTwo cI cZ a s10) H := by rw [es10]; exact hP.sub [0, 1, 2, 3, 4, 5, 6, 7, 8, 9, 10, 11, 12, 13, 14, 15, 16, 17, 27, 28, 29, 18, 19, 20, 21, 22, 23, 24, 25, 26] rfl
        have hD : va_D A (tm_wTwo cI cZ a s10) := by rw [es10]; exact hD.sub [0, 1, 2, 3, 4, 5, 6, 7, 8, 9, 10, 11, 12, 13, 14, 15, 16, 17, 27, 28, 29, 18, 19, 20, 21, 22, 23, 24, 25, 26] (by decide) rfl
        obtain ⟨x12, ex12⟩ : ∃ y : Int32, y = v3 + 1 := ⟨_, rfl⟩
        have hw := hw x12 ex12
        refine lv_iinc (v := x12) (lv' := [(3, .int x12), (0, .ref (a 0)), (2, .ref (a 14))]) hx hb dX8_say_67 hl (k := 2) rfl (by rw [ex12]; rfl) (by decide) rfl (fun ls hl => ?_)
        refine lv_goto (tgt := 41) hx hb dX8_say_70 (by decide) ?_
        exact ih x12 s10 _ _ _ hw hP hD hS (lv_sub hl [1, 2, 0] rfl)
  have b41a : ∀ (n : Nat) (v3 : Int32) (s : tm_St) (H : Heap) (locs : List Loc) (ls : Array Slot), wp_X8_say_41a K n v3 s → va_P (dC, dI) vwCl (tm_wTwo cI cZ a s) H → va_D A (tm_wTwo cI cZ a s) → va_S A z.heap H locs → lv_has ls 4 [(0, .ref (a 0)), (2, .ref (a 22)), (3, .int v3)] → W p l e (headSpec wsX8_say ({ frames := 1, cells := 0, slots := 0, locals := 21 })).room z m (([.ref (a 0), .int p0] : List Value).toArray) below meth c H locs 0 0 (MQ below (va_Qi (fun (r : Int32) (u : tm_St) => K r u) (fun (u : tm_St) t => tm_At dC dI cI cZ A (tm_wTwo cI cZ a u) t) A) (([.ref (a 0), .int p0] : List Value).toArray) z 0 0 A) (F0 m 41 ls []) := by
    intro n
    induction n with
    | zero => intro v3 s H locs ls hw hP hD hS hl; unfold wp_X8_say_41a at hw; exact hw.elim
    | succ n ih =>
      intro v3 s H locs ls hw hP hD hS hl
      unfold wp_X8_say_41a at hw
      refine lv_iload_n hx hb dX8_say_41 rfl (lv_at hl 2 rfl) ?_
      refine lv_aload_n hx hb dX8_say_42 rfl (lv_at hl 0 rfl) ?_
      refine va_get (D := (dC, dI)) (ci := 6) (v := .ref (a 1)) (C := RX8) (T := TX8) (N := 5) hx hb hts h_in8 hown hK hP 0 rfl rfl 0 (by decide) h_f13 (fun _ h9 => h9) rfl dX8_say_43 ?_
      refine va_get (D := (dC, dI)) (ci := 4) (v := .int (s 1 1)) (C := RX4) (T := TX4) (N := 2) hx hb hts h_in4 hown hK hP 1 rfl rfl 1 (by decide) h_f46 (fun _ h9 => h9) rfl dX8_say_46 ?_
      refine lv_icmp_ge (tgt := 73) hx hb dX8_say_49 (by decide) (fun c14 => ?_) (fun c14 => ?_)
      · have hw := hw.1 c14
        refine lv_aload_n hx hb dX8_say_73 rfl (lv_at hl 0 rfl) ?_
        refine va_get (D := (dC, dI)) (ci := 6) (v := .ref (a 1)) (C := RX8) (T := TX8) (N := 5) hx hb hts h_in8 hown hK hP 0 rfl rfl 0 (by decide) h_f13 (fun _ h9 => h9) rfl dX8_say_74 ?_
        refine lv_iconst (v := 0) hx hb dX8_say_77 (by decide) ?_
        refine va_put (D := (dC, dI)) (ci := 4) (v := .int 0) (ty := .int) (C := RX4) (T := TX4) (N := 2) hx hb hts h_in4 tyX4 tyX4_ok nmX4 hown hK hP hD hS 1 rfl rfl 1 (by decide) h_f46 (fun _ h9 => h9) rfl (by decide +kernel) rfl rfl (Nat.le_of_ble_eq_true rfl) dX8_say_78 (fun H locs hP hD hS => ?_)
        obtain ⟨s15, es15⟩ : ∃ y : tm_St, y = tm_s s 1 (tm_u (s 1) 1 0) := ⟨_, rfl⟩
        have hw := hw s15 es15
        have hP : va_P (dC, dI) vwCl (tm_wTwo cI cZ a s15) H := by rw [es15]; exact hP
        have hD : va_D A (tm_wTwo cI cZ a s15) := by rw [es15]; exact hD
        refine lv_aload_n hx hb dX8_say_81 rfl (lv_at hl 1 rfl) ?_
        refine va_get (D := (dC, dI)) (ci := 3) (v := .ref (a 26)) (C := RX3) (T := TX3) (N := 20) hx hb hts h_in3 hown hK hP 22 rfl rfl 4 (by decide) h_f72 (fun _ h9 => h9) rfl dX8_say_82 ?_
        refine va_get (D := (dC, dI)) (ci := 2) (v := .int (s15 26 2)) (C := RX2) (T := TX2) (N := 8) hx hb hts h_in2 hown hK hP 26 rfl rfl 2 (by decide) h_f76 (fun _ h9 => h9) rfl dX8_say_85 ?_
        exact W.iret (v := (s15 26 2)) hx hb hr (fun t ht hW => ⟨⟨(s15 26 2), s15, rfl, hw, by rw [ht]; exact hP, va_K.moved hW.alike hK, hD⟩, hS.F ht⟩) hS.2.2 dX8_say_88
      · have hw := hw.2 c14
        refine lv_aload_n hx hb dX8_say_52 rfl (lv_at hl 1 rfl) ?_
        refine va_get (D := (dC, dI)) (ci := 3) (v := .ref (a 26)) (C := RX3) (T := TX3) (N := 20) hx hb hts h_in3 hown hK hP 22 rfl rfl 4 (by decide) h_f72 (fun _ h9 => h9) rfl dX8_say_53 ?_
        refine lv_aload_n hx hb dX8_say_56 rfl (lv_at hl 0 rfl) ?_
        refine va_get (D := (dC, dI)) (ci := 6) (v := .ref (a 1)) (C := RX8) (T := TX8) (N := 5) hx hb hts h_in8 hown hK hP 0 rfl rfl 0 (by decide) h_f13 (fun _ h9 => h9) rfl dX8_say_57 ?_
        refine lv_iload_n hx hb dX8_say_60 rfl (lv_at hl 2 rfl) ?_
        have hPc := hP.sub (ws' := (tm_wPage cI cZ (tm_pj [1, 2] a) (tm_pj [1, 2] s))) [1, 2] rfl
        have hDc := hD.sub (ws' := (tm_wPage cI cZ (tm_pj [1, 2] a) (tm_pj [1, 2] s))) [1, 2] (by decide) rfl
        have hFc := va_free (wc := (tm_wPage cI cZ (tm_pj [1, 2] a) (tm_pj [1, 2] s))) hD hS hA [1, 2] rfl
        refine va_calli (va_runV (As := [.int v3]) (rest := [.ref (a 26)]) ⟨hx, hb, hml, hown, hts⟩ (kk_X4_codeAt l dC dI cI cZ (tm_pj [1, 2] a) (tm_pj [1, 2] s) H.size v3 _ hw) (cwV 1 hts gX8_say_X4_codeAt rfl rfl rfl (by decide +kernel) ⟨Nat.le_of_ble_eq_true rfl, Nat.le_of_ble_eq_true rfl⟩) ⟨tm_blind, va_recv hK hPc (ci := 4) (q0 := 0) rfl rfl, fun U hU hW => ⟨rfl, by rw [hU], by rw [hU]; exact hPc, va_K.moved hW.alike hK, hDc.weaken (fun _ _ _ _ => trivial)⟩⟩ rfl rfl hl.1 rfl (lv_room (Nat.le_of_ble_eq_true rfl)) dX8_say_61 ⟨Nat.zero_le _, Nat.zero_le _⟩) hS (fun q _ h => hFc q h) hFc (fun r16 u t H1 locs ht hvm hw hB hz1 hk1 hS => ?_)
        obtain ⟨hP1, hK1, hD1⟩ := hB
        rw [ht] at hP1
        obtain ⟨hP, hD⟩ := va_join (wr := ([0, 3, 4, 5, 6, 7, 8, 9, 10, 11, 12, 13, 14, 15, 16, 17, 18, 19, 20, 21, 22, 23, 24, 25, 26, 27, 28, 29] : List Nat).filterMap (fun i => (tm_wTwo cI cZ a s)[i]?)) (w1 := (tm_wPage cI cZ (tm_pj [1, 2] a) u)) hP hD [1, 2] [0, 3, 4, 5, 6, 7, 8, 9, 10, 11, 12, 13, 14, 15, 16, 17, 18, 19, 20, 21, 22, 23, 24, 25, 26, 27, 28, 29] rfl rfl (by decide) (by decide) hk1 hFc hP1 hD1
        generalize H1 = H at hP hS ⊢
        obtain ⟨s17, es17⟩ : ∃ y : tm_St, y = tm_pk [1, 2] s u := ⟨_, rfl⟩
        have hw := hw s17 es17
        have hP : va_P (dC, dI) vwCl (tm_wTwo cI cZ a s17) H := by rw [es17]; exact hP.sub [0, 28, 29, 1, 2, 3, 4, 5, 6, 7, 8, 9, 10, 11, 12, 13, 14, 15, 16, 17, 18, 19, 20, 21, 22, 23, 24, 25, 26, 27] rfl
        have hD : va_D A (tm_wTwo cI cZ a s17) := by rw [es17]; exact hD.sub [0, 28, 29, 1, 2, 3, 4, 5, 6, 7, 8, 9, 10, 11, 12, 13, 14, 15, 16, 17, 18, 19, 20, 21, 22, 23, 24, 25, 26, 27] (by decide) rfl
        have hPc := hP.sub (ws' := (tm_wMail cI cZ (tm_pj [26, 27, 28] a) (tm_pj [26, 27, 28] s17))) [26, 27, 28] rfl
        have hDc := hD.sub (ws' := (tm_wMail cI cZ (tm_pj [26, 27, 28] a) (tm_pj [26, 27, 28] s17))) [26, 27, 28] (by decide) rfl
        have hFc := va_free (wc := (tm_wMail cI cZ (tm_pj [26, 27, 28] a) (tm_pj [26, 27, 28] s17))) hD hS hA [26, 27, 28] rfl
        refine va_callv (va_runV (As := [.int r16]) (rest := []) ⟨hx, hb, hml, hown, hts⟩ (kk_X2_add l dC dI cI cZ (tm_pj [26, 27, 28] a) (tm_pj [26, 27, 28] s17) H.size r16 _ hw) (cwV 1 hts gX8_say_X2_add rfl rfl rfl (by decide +kernel) ⟨Nat.le_of_ble_eq_true rfl, Nat.le_of_ble_eq_true rfl⟩) ⟨tm_blind, va_recv hK hPc (ci := 2) (q0 := 0) rfl rfl, fun U hU hW => ⟨rfl, by rw [hU], by rw [hU]; exact hPc, va_K.moved hW.alike hK, hDc.weaken (fun _ _ _ _ => trivial)⟩⟩ rfl rfl hl.1 rfl (lv_room (Nat.le_of_ble_eq_true rfl)) dX8_say_64 ⟨Nat.zero_le _, Nat.zero_le _⟩) hS (fun q _ h => hFc q h) hFc (fun u t H1 locs ht hvm hw hB hz1 hk1 hS => ?_)
        obtain ⟨hP1, hK1, hD1⟩ := hB
        rw [ht] at hP1
        obtain ⟨hP, hD⟩ := va_join (wr := ([0, 1, 2, 3, 4, 5, 6, 7, 8, 9, 10, 11, 12, 13, 14, 15, 16, 17, 18, 19, 20, 21, 22, 23, 24, 25, 29] : List Nat).filterMap (fun i => (tm_wTwo cI cZ a s17)[i]?)) (w1 := (tm_wMail cI cZ (tm_pj [26, 27, 28] a) u)) hP hD [26, 27, 28] [0, 1, 2, 3, 4, 5, 6, 7, 8, 9, 10, 11, 12, 13, 14, 15, 16, 17, 18, 19, 20, 21, 22, 23, 24, 25, 29] rfl rfl (by decide) (by decide) hk1 hFc hP1 hD1
        generalize H1 = H at hP hS ⊢
        obtain ⟨s19, es19⟩ : ∃ y : tm_St, y = tm_pk [26, 27, 28] s17 u := ⟨_, rfl⟩
        have hw := hw s19 es19
        have hP : va_P (dC, dI) vwCl (tm_wTwo cI cZ a s19) H := by rw [es19]; exact hP.sub [0, 1, 2, 3, 4, 5, 6, 7, 8, 9, 10, 11, 12, 13, 14, 15, 16, 17, 18, 19, 20, 21, 22, 23, 24, 25, 27, 28, 29, 26] rfl
        have hD : va_D A (tm_wTwo cI cZ a s19) := by rw [es19]; exact hD.sub [0, 1, 2, 3, 4, 5, 6, 7, 8, 9, 10, 11, 12, 13, 14, 15, 16, 17, 18, 19, 20, 21, 22, 23, 24, 25, 27, 28, 29, 26] (by decide) rfl
        obtain ⟨x21, ex21⟩ : ∃ y : Int32, y = v3 + 1 := ⟨_, rfl⟩
        have hw := hw x21 ex21
        refine lv_iinc (v := x21) (lv' := [(3, .int x21), (0, .ref (a 0)), (2, .ref (a 22))]) hx hb dX8_say_67 hl (k := 2) rfl (by rw [ex21]; rfl) (by decide) rfl (fun ls hl => ?_)
        refine lv_goto (tgt := 41) hx hb dX8_say_70 (by decide) ?_
        exact ih x21 s19 _ _ _ hw hP hD hS (lv_sub hl [1, 2, 0] rfl)
  have hl := lv_entry ([.ref (a 0), .int p0]) (n := 4) (Nat.le_of_ble_eq_true rfl)
  rw [lg_entry_eq]
  generalize (lg_sl ([.ref (a 0), .int p0]) ++ List.replicate (4 - (lg_sl ([.ref (a 0), .int p0])).length) Slot.unset).toArray = ls at hl ⊢
  have hl : lv_has ls 4 [(0, .ref (a 0)), (1, .int p0)] := hl
  unfold wp_X8_say at hw
  refine lv_aload_n hx hb dX8_say_0 rfl (lv_at hl 0 rfl) ?_
  refine lv_iload_n hx hb dX8_say_1 rfl (lv_at hl 1 rfl) ?_
  have hPc := hP
  have hDc := hD
  have hFc := va_free (wc := (tm_wTwo cI cZ a s0)) hD hS hA [0, 1, 2, 3, 4, 5, 6, 7, 8, 9, 10, 11, 12, 13, 14, 15, 16, 17, 18, 19, 20, 21, 22, 23, 24, 25, 26, 27, 28, 29] rfl
  refine va_callq (va_runV (As := [.int p0]) (rest := []) ⟨hx, hb, hml, hown, hts⟩ (kk_X8_modemAt l dC dI cI cZ a s0 z.heap.size p0 _ hw) (cwV 1 hts gX8_say_X8_modemAt rfl rfl rfl (by decide +kernel) ⟨Nat.le_of_ble_eq_true rfl, Nat.le_of_ble_eq_true rfl⟩) ⟨tm_blind, va_recv hK hPc (ci := 6) (q0 := 0) rfl rfl, fun U hU hW => ⟨rfl, by rw [hU], by rw [hU]; exact hPc, va_K.moved hW.alike hK, hDc.weaken (fun _ _ _ _ => trivial)⟩⟩ rfl rfl hl.1 rfl (lv_room (Nat.le_of_ble_eq_true rfl)) dX8_say_2 ⟨Nat.zero_le _, Nat.zero_le _⟩) hS (fun q _ h => hFc q h) hFc (fun r1 u t H1 locs ht hvm hw hB hz1 hk1 hS => ?_)
  obtain ⟨hP1, hK1, hD1⟩ := hB
  rw [ht] at hP1
  obtain ⟨eu, k3, hw, hq⟩ := hw
  rw [eu] at hP1 hD1
  obtain ⟨hP, hD⟩ := va_join (wr := []) (w1 := (tm_wTwo cI cZ a s0)) hP hD [0, 1, 2, 3, 4, 5, 6, 7, 8, 9, 10, 11, 12, 13, 14, 15, 16, 17, 18, 19, 20, 21, 22, 23, 24, 25, 26, 27, 28, 29] [] rfl rfl (by decide) (by decide) hk1 hFc hP1 hD1
  have hP : va_P (dC, dI) vwCl (tm_wTwo cI cZ a s0) H1 := hP
  have hD : va_D A (tm_wTwo cI cZ a s0) := hD
  generalize H1 = H at hP hS ⊢
  rcases hq with ⟨ek, er⟩ | ⟨ek, er⟩ | ⟨ek, er⟩
  · subst ek; subst er; have hw := hw.1 rfl
    refine W.eq (g2 := F0 m 5 ls (.ref (a 14) :: [])) rfl ?_
    refine lv_astore_n (lv' := [(2, .ref (a 14)), (0, .ref (a 0)), (1, .int p0)]) hx hb dX8_say_5 rfl hl (by decide) rfl (fun ls hl => ?_)
    refine lv_aload_n hx hb dX8_say_6 rfl (lv_at hl 0 rfl) ?_
    refine lv_ifnonnull (tgt := 14) hx hb dX8_say_7 (by decide) ?_
    refine lv_aload_n hx hb dX8_say_14 rfl (lv_at hl 0 rfl) ?_
    refine va_get (D := (dC, dI)) (ci := 3) (v := .ref (a 18)) (C := RX3) (T := TX3) (N := 20) hx hb hts h_in3 hown hK hP 14 rfl rfl 4 (by decide) h_f72 (fun _ h9 => h9) rfl dX8_say_15 ?_
    refine va_get (D := (dC, dI)) (ci := 2) (v := .int (s0 18 2)) (C := RX2) (T := TX2) (N := 8) hx hb hts h_in2 hown hK hP 18 rfl rfl 2 (by decide) h_f76 (fun _ h9 => h9) rfl dX8_say_18 ?_
    refine lv_aload_n hx hb dX8_say_21 rfl (lv_at hl 1 rfl) ?_
    refine va_get (D := (dC, dI)) (ci := 6) (v := .ref (a 1)) (C := RX8) (T := TX8) (N := 5) hx hb hts h_in8 hown hK hP 0 rfl rfl 0 (by decide) h_f13 (fun _ h9 => h9) rfl dX8_say_22 ?_
    refine va_get (D := (dC, dI)) (ci := 4) (v := .int (s0 1 1)) (C := RX4) (T := TX4) (N := 2) hx hb hts h_in4 hown hK hP 1 rfl rfl 1 (by decide) h_f46 (fun _ h9 => h9) rfl dX8_say_25 ?_
    refine lv_iadd hx hb dX8_say_28 ?_
    refine lv_sipush (v := 200) hx hb dX8_say_29 (by decide) ?_
    refine lv_icmp_le (tgt := 39) hx hb dX8_say_32 (by decide) (fun c4 => ?_) (fun c4 => ?_)
    · have hw := hw.1 c4
      refine lv_iconst (v := 0) hx hb dX8_say_39 (by decide) ?_
      refine lv_istore_n (lv' := [(3, .int 0), (2, .ref (a 14)), (0, .ref (a 0)), (1, .int p0)]) hx hb dX8_say_40 rfl hl (by decide) rfl (fun ls hl => ?_)
      obtain ⟨nf, hw⟩ := hw
      exact b41 nf 0 s0 _ _ _ hw hP hD hS (lv_sub hl [2, 1, 0] rfl)
    · have hw := hw.2 c4
      refine lv_sipush (v := (-1004)) hx hb dX8_say_35 (by decide) ?_
      exact W.iret (v := (-1004)) hx hb hr (fun t ht hW => ⟨⟨(-1004), s0, rfl, hw, by rw [ht]; exact hP, va_K.moved hW.alike hK, hD⟩, hS.F ht⟩) hS.2.2 dX8_say_38
  · subst ek; subst er; have hw := hw.2.1 rfl
    refine W.eq (g2 := F0 m 5 ls (.ref (a 22) :: [])) rfl ?_
    refine lv_astore_n (lv' := [(2, .ref (a 22)), (0, .ref (a 0)), (1, .int p0)]) hx hb dX8_say_5 rfl hl (by decide) rfl (fun ls hl => ?_)
    refine lv_aload_n hx hb dX8_say_6 rfl (lv_at hl 0 rfl) ?_
    refine lv_ifnonnull (tgt := 14) hx hb dX8_say_7 (by decide) ?_
    refine lv_aload_n hx hb dX8_say_14 rfl (lv_at hl 0 rfl) ?_
    refine va_get (D := (dC, dI)) (ci := 3) (v := .ref (a 26)) (C := RX3) (T := TX3) (N := 20) hx hb hts h_in3 hown hK hP 22 rfl rfl 4 (by decide) h_f72 (fun _ h9 => h9) rfl dX8_say_15 ?_
    refine va_get (D := (dC, dI)) (ci := 2) (v := .int (s0 26 2)) (C := RX2) (T := TX2) (N := 8) hx hb hts h_in2 hown hK hP 26 rfl rfl 2 (by decide) h_f76 (fun _ h9 => h9) rfl dX8_say_18 ?_
    refine lv_aload_n hx hb dX8_say_21 rfl (lv_at hl 1 rfl) ?_
    refine va_get (D := (dC, dI)) (ci := 6) (v := .ref (a 1)) (C := RX8) (T := TX8) (N := 5) hx hb hts h_in8 hown hK hP 0 rfl rfl 0 (by decide) h_f13 (fun _ h9 => h9) rfl dX8_say_22 ?_
    refine va_get (D := (dC, dI)) (ci := 4) (v := .int (s0 1 1)) (C := RX4) (T := TX4) (N := 2) hx hb hts h_in4 hown hK hP 1 rfl rfl 1 (by decide) h_f46 (fun _ h9 => h9) rfl dX8_say_25 ?_
    refine lv_iadd hx hb dX8_say_28 ?_
    refine lv_sipush (v := 200) hx hb dX8_say_29 (by decide) ?_
    refine lv_icmp_le (tgt := 39) hx hb dX8_say_32 (by decide) (fun c13 => ?_) (fun c13 => ?_)
    · have hw := hw.1 c13
      refine lv_iconst (v := 0) hx hb dX8_say_39 (by decide) ?_
      refine lv_istore_n (lv' := [(3, .int 0), (2, .ref (a 22)), (0, .ref (a 0)), (1, .int p0)]) hx hb dX8_say_40 rfl hl (by decide) rfl (fun ls hl => ?_)
      obtain ⟨nf, hw⟩ := hw
      exact b41a nf 0 s0 _ _ _ hw hP hD hS (lv_sub hl [2, 1, 0] rfl)
    · have hw := hw.2 c13
      refine lv_sipush (v := (-1004)) hx hb dX8_say_35 (by decide) ?_
      exact W.iret (v := (-1004)) hx hb hr (fun t ht hW => ⟨⟨(-1004), s0, rfl, hw, by rw [ht]; exact hP, va_K.moved hW.alike hK, hD⟩, hS.F ht⟩) hS.2.2 dX8_say_38
  · subst ek; subst er; have hw := hw.2.2 rfl
    refine W.eq (g2 := F0 m 5 ls (.null :: [])) rfl ?_
    refine lv_astore_nN (lv' := [(2, .null), (0, .ref (a 0)), (1, .int p0)]) hx hb dX8_say_5 rfl hl (by decide) rfl (fun ls hl => ?_)
    refine lv_aload_nN hx hb dX8_say_6 rfl (lv_at hl 0 rfl) ?_
    refine lv_ifnonnullN hx hb dX8_say_7 ?_
    refine lv_sipush (v := (-1001)) hx hb dX8_say_10 (by decide) ?_
    exact W.iret (v := (-1001)) hx hb hr (fun t ht hW => ⟨⟨(-1001), s0, rfl, hw, by rw [ht]; exact hP, va_K.moved hW.alike hK, hD⟩, hS.F ht⟩) hS.2.2 dX8_say_13
def wp_X8_echo (p0 : Int32) (p1 : Int32) (p2 : Int32) (s0 : tm_St) (K : Int32 → tm_St → Prop) : Prop := wp_X8_modemAt p0 (fun k3 => (k3 = 0 → ((p1 < 0 → K (-1001) s0) ∧ (¬ p1 < 0 → ((p1 < 4 → ((p2 < (-100) → K (-1002) s0) ∧ (¬ p2 < (-100) → ((p2 ≤ 100 → (vp_in p1 4 ∧ (∀ x9 : Int32, x9 = (s0 16 (p1 : Int32).toNatClampNeg) → (vp_in p1 4 ∧ (∀ s11 : tm_St, s11 = tm_s s0 16 (upd (s0 16) (p1 : Int32).toNatClampNeg p2) → K x9 s11))))) ∧ (¬ p2 ≤ 100 → K (-1002) s0))))) ∧ (¬ p1 < 4 → K (-1001) s0))))) ∧ (k3 = 1 → ((p1 < 0 → K (-1001) s0) ∧ (¬ p1 < 0 → ((p1 < 4 → ((p2 < (-100) → K (-1002) s0) ∧ (¬ p2 < (-100) → ((p2 ≤ 100 → (vp_in p1 4 ∧ (∀ x17 : Int32, x17 = (s0 24 (p1 : Int32).toNatClampNeg) → (vp_in p1 4 ∧ (∀ s19 : tm_St, s19 = tm_s s0 24 (upd (s0 24) (p1 : Int32).toNatClampNeg p2) → K x17 s19))))) ∧ (¬ p2 ≤ 100 → K (-1002) s0))))) ∧ (¬ p1 < 4 → K (-1001) s0))))) ∧ (k3 = 2 → K (-1001) s0))
set_option maxRecDepth 100000 in
set_option maxHeartbeats 4000000 in
theorem kk_X8_echo (l : Launch) (dC : Nat → ClassId) (dI : Nat → Nat → Nat) (cI cZ : ClassId) (a : Nat → Nat) (s0 : tm_St) (sz : Nat) (p0 : Int32) (p1 : Int32) (p2 : Int32) (K : Int32 → tm_St → Prop) (hw : wp_X8_echo p0 p1 p2 s0 K) : Met l yX8_echo wsX8_echo ({ frames := 1, cells := 0, slots := 0, locals := 21 }) (va_Pc [.ref (a 0), .int p0, .int p1, .int p2] (tm_Pre dC dI cI cZ (tm_wTwo cI cZ a s0) sz)) (va_Qi (fun (r : Int32) (u : tm_St) => K r u) (fun (u : tm_St) t => tm_At dC dI cI cZ (va_A (tm_wTwo cI cZ a s0) sz) (tm_wTwo cI cZ a u) t) (va_A (tm_wTwo cI cZ a s0) sz)) 0 0 (va_A (tm_wTwo cI cZ a s0) sz) := by
  refine Met.ofW (cc := cX8_echo) (maxL := 6) (ret := (some .int)) (by decide +kernel) rfl ?_
  intro p e z m args below meth c z₁ B hml hv
  obtain ⟨rfl, hsz, hP, hK, hD0⟩ := hv
  have hx := B.exec
  have hb := B.bytes
  have hr := B.returns
  have hts := atoms_spec (ws := wsX8_echo) B.pre
  have hown : z.vm.findClass RX8 = some m.cls := findClass_of_methodNamed B.named
  have hlocks := B.notSynchronized
  subst hsz
  have hD := hD0.self (sz := z.heap.size)
  generalize hAe : va_A (tm_wTwo cI cZ a s0) z.heap.size = A at hD ⊢
  have hA : ∀ q : Nat, z.heap.size ≤ q → A q := fun q h => by rw [← hAe]; exact Or.inr h
  have hS : va_S A z.heap z.heap [] := va_S.rf
  have h_f86 := hts (.fieldLink RX8 86 "TwoModems$Modem" "echo" "LTwoModems$Echo;") (by decide +kernel)
  have h_in3 : ∀ w ∈ u_ws RX3 TX3 20, w ∈ wsX8_echo := by decide +kernel
  have h_f90 := hts (.fieldLink RX8 90 "TwoModems$Echo" "taps" "[I") (by decide +kernel)
  have h_in0 : ∀ w ∈ u_ws RX0 TX0 2, w ∈ wsX8_echo := by decide +kernel
  have hl := lv_entry ([.ref (a 0), .int p0, .int p1, .int p2]) (n := 6) (Nat.le_of_ble_eq_true rfl)
  rw [lg_entry_eq]
  generalize (lg_sl ([.ref (a 0), .int p0, .int p1, .int p2]) ++ List.replicate (6 - (lg_sl ([.ref (a 0), .int p0, .int p1, .int p2])).length) Slot.unset).toArray = ls at hl ⊢
  have hl : lv_has ls 6 [(0, .ref (a 0)), (1, .int p0), (2, .int p1), (3, .int p2)] := hl
  unfold wp_X8_echo at hw
  refine lv_aload_n hx hb dX8_echo_0 rfl (lv_at hl 0 rfl) ?_
  refine lv_iload_n hx hb dX8_echo_1 rfl (lv_at hl 1 rfl) ?_
  have hPc := hP
  have hDc := hD
  have hFc := va_free (wc := (tm_wTwo cI cZ a s0)) hD hS hA [0, 1, 2, 3, 4, 5, 6, 7, 8, 9, 10, 11, 12, 13, 14, 15, 16, 17, 18, 19, 20, 21, 22, 23, 24, 25, 26, 27, 28, 29] rfl
  refine va_callq (va_runV (As := [.int p0]) (rest := []) ⟨hx, hb, hml, hown, hts⟩ (kk_X8_modemAt l dC dI cI cZ a s0 z.heap.size p0 _ hw) (cwV 1 hts gX8_echo_X8_modemAt rfl rfl rfl (by decide +kernel) ⟨Nat.le_of_ble_eq_true rfl, Nat.le_of_ble_eq_true rfl⟩) ⟨tm_blind, va_recv hK hPc (ci := 6) (q0 := 0) rfl rfl, fun U hU hW => ⟨rfl, by rw [hU], by rw [hU]; exact hPc, va_K.moved hW.alike hK, hDc.weaken (fun _ _ _ _ => trivial)⟩⟩ rfl rfl hl.1 rfl (lv_room (Nat.le_of_ble_eq_true rfl)) dX8_echo_2 ⟨Nat.zero_le _, Nat.zero_le _⟩) hS (fun q _ h => hFc q h) hFc (fun r1 u t H1 locs ht hvm hw hB hz1 hk1 hS => ?_)
  obtain ⟨hP1, hK1, hD1⟩ := hB
  rw [ht] at hP1
  obtain ⟨eu, k3, hw, hq⟩ := hw
  rw [eu] at hP1 hD1
  obtain ⟨hP, hD⟩ := va_join (wr := []) (w1 := (tm_wTwo cI cZ a s0)) hP hD [0, 1, 2, 3, 4, 5, 6, 7, 8, 9, 10, 11, 12, 13, 14, 15, 16, 17, 18, 19, 20, 21, 22, 23, 24, 25, 26, 27, 28, 29] [] rfl rfl (by decide) (by decide) hk1 hFc hP1 hD1
  have hP : va_P (dC, dI) vwCl (tm_wTwo cI cZ a s0) H1 := hP
  have hD : va_D A (tm_wTwo cI cZ a s0) := hD
  generalize H1 = H at hP hS ⊢
  rcases hq with ⟨ek, er⟩ | ⟨ek, er⟩ | ⟨ek, er⟩
  · subst ek; subst er; have hw := hw.1 rfl
    refine W.eq (g2 := F0 m 5 ls (.ref (a 14) :: [])) rfl ?_
    refine lv_astore (lv' := [(4, .ref (a 14)), (0, .ref (a 0)), (1, .int p0), (2, .int p1), (3, .int p2)]) hx hb dX8_echo_5 hl (by decide) rfl (fun ls hl => ?_)
    refine lv_aload hx hb dX8_echo_7 (lv_at hl 0 rfl) ?_
    refine lv_ifnull hx hb dX8_echo_9 ?_
    refine lv_iload_n hx hb dX8_echo_12 rfl (lv_at hl 3 rfl) ?_
    refine lv_if_lt (tgt := 21) hx hb dX8_echo_13 (by decide) (fun c4 => ?_) (fun c4 => ?_)
    · have hw := hw.1 c4
      refine lv_sipush (v := (-1001)) hx hb dX8_echo_21 (by decide) ?_
      exact W.iret (v := (-1001)) hx hb hr (fun t ht hW => ⟨⟨(-1001), s0, rfl, hw, by rw [ht]; exact hP, va_K.moved hW.alike hK, hD⟩, hS.F ht⟩) hS.2.2 dX8_echo_24
    · have hw := hw.2 c4
      refine lv_iload_n hx hb dX8_echo_16 rfl (lv_at hl 3 rfl) ?_
      refine lv_iconst (v := 4) hx hb dX8_echo_17 (by decide) ?_
      refine lv_icmp_lt (tgt := 25) hx hb dX8_echo_18 (by decide) (fun c5 => ?_) (fun c5 => ?_)
      · have hw := hw.1 c5
        refine lv_iload_n hx hb dX8_echo_25 rfl (lv_at hl 4 rfl) ?_
        refine lv_bipush (v := (-100)) hx hb dX8_echo_26 (by decide) ?_
        refine lv_icmp_lt (tgt := 37) hx hb dX8_echo_28 (by decide) (fun c6 => ?_) (fun c6 => ?_)
        · have hw := hw.1 c6
          refine lv_sipush (v := (-1002)) hx hb dX8_echo_37 (by decide) ?_
          exact W.iret (v := (-1002)) hx hb hr (fun t ht hW => ⟨⟨(-1002), s0, rfl, hw, by rw [ht]; exact hP, va_K.moved hW.alike hK, hD⟩, hS.F ht⟩) hS.2.2 dX8_echo_40
        · have hw := hw.2 c6
          refine lv_iload_n hx hb dX8_echo_31 rfl (lv_at hl 4 rfl) ?_
          refine lv_bipush (v := 100) hx hb dX8_echo_32 (by decide) ?_
          refine lv_icmp_le (tgt := 41) hx hb dX8_echo_34 (by decide) (fun c7 => ?_) (fun c7 => ?_)
          · have hw := hw.1 c7
            refine lv_aload hx hb dX8_echo_41 (lv_at hl 0 rfl) ?_
            refine va_get (D := (dC, dI)) (ci := 3) (v := .ref (a 15)) (C := RX3) (T := TX3) (N := 20) hx hb hts h_in3 hown hK hP 14 rfl rfl 3 (by decide) h_f86 (fun _ h9 => h9) rfl dX8_echo_43 ?_
            refine va_get (D := (dC, dI)) (ci := 0) (v := .ref (a 16)) (C := RX0) (T := TX0) (N := 2) hx hb hts h_in0 hown hK hP 15 rfl rfl 0 (by decide) h_f90 (fun _ h9 => h9) rfl dX8_echo_46 ?_
            refine lv_iload_n hx hb dX8_echo_49 rfl (lv_at hl 3 rfl) ?_
            have c8 := hw.1
            have hw := hw.2
            refine va_iald hx hb hK hP 16 0 rfl rfl c8 dX8_echo_50 ?_
            refine lv_topi (fun x9 ex9 => ?_)
            have hw := hw x9 ex9
            refine lv_istore (lv' := [(5, .int x9), (4, .ref (a 14)), (0, .ref (a 0)), (1, .int p0), (2, .int p1), (3, .int p2)]) hx hb dX8_echo_51 hl (by decide) rfl (fun ls hl => ?_)
            refine lv_aload hx hb dX8_echo_53 (lv_at hl 1 rfl) ?_
            refine va_get (D := (dC, dI)) (ci := 3) (v := .ref (a 15)) (C := RX3) (T := TX3) (N := 20) hx hb hts h_in3 hown hK hP 14 rfl rfl 3 (by decide) h_f86 (fun _ h9 => h9) rfl dX8_echo_55 ?_
            refine va_get (D := (dC, dI)) (ci := 0) (v := .ref (a 16)) (C := RX0) (T := TX0) (N := 2) hx hb hts h_in0 hown hK hP 15 rfl rfl 0 (by decide) h_f90 (fun _ h9 => h9) rfl dX8_echo_58 ?_
            refine lv_iload_n hx hb dX8_echo_61 rfl (lv_at hl 4 rfl) ?_
            refine lv_iload_n hx hb dX8_echo_62 rfl (lv_at hl 5 rfl) ?_
            have c10 := hw.1
            have hw := hw.2
            refine va_iast hx hb hK hP hD hS 16 0 rfl rfl c10 dX8_echo_63 (fun H locs hP hD hS => ?_)
            obtain ⟨s11, es11⟩ : ∃ y : tm_St, y = tm_s s0 16 (upd (s0 16) (p1 : Int32).toNatClampNeg p2) := ⟨_, rfl⟩
            have hw := hw s11 es11
            have hP : va_P (dC, dI) vwCl (tm_wTwo cI cZ a s11) H := by rw [es11]; exact hP
            have hD : va_D A (tm_wTwo cI cZ a s11) := by rw [es11]; exact hD
            refine lv_iload hx hb dX8_echo_64 (lv_at hl 0 rfl) ?_
            exact W.iret (v := x9) hx hb hr (fun t ht hW => ⟨⟨x9, s11, rfl, hw, by rw [ht]; exact hP, va_K.moved hW.alike hK, hD⟩, hS.F ht⟩) hS.2.2 dX8_echo_66
          · have hw := hw.2 c7
            refine lv_sipush (v := (-1002)) hx hb dX8_echo_37 (by decide) ?_
            exact W.iret (v := (-1002)) hx hb hr (fun t ht hW => ⟨⟨(-1002), s0, rfl, hw, by rw [ht]; exact hP, va_K.moved hW.alike hK, hD⟩, hS.F ht⟩) hS.2.2 dX8_echo_40
      · have hw := hw.2 c5
        refine lv_sipush (v := (-1001)) hx hb dX8_echo_21 (by decide) ?_
        exact W.iret (v := (-1001)) hx hb hr (fun t ht hW => ⟨⟨(-1001), s0, rfl, hw, by rw [ht]; exact hP, va_K.moved hW.alike hK, hD⟩, hS.F ht⟩) hS.2.2 dX8_echo_24
  · subst ek; subst er; have hw := hw.2.1 rfl
    refine W.eq (g2 := F0 m 5 ls (.ref (a 22) :: [])) rfl ?_
    refine lv_astore (lv' := [(4, .ref (a 22)), (0, .ref (a 0)), (1, .int p0), (2, .int p1), (3, .int p2)]) hx hb dX8_echo_5 hl (by decide) rfl (fun ls hl => ?_)
    refine lv_aload hx hb dX8_echo_7 (lv_at hl 0 rfl) ?_
    refine lv_ifnull hx hb dX8_echo_9 ?_
    refine lv_iload_n hx hb dX8_echo_12 rfl (lv_at hl 3 rfl) ?_
    refine lv_if_lt (tgt := 21) hx hb dX8_echo_13 (by decide) (fun c12 => ?_) (fun c12 => ?_)
    · have hw := hw.1 c12
      refine lv_sipush (v := (-1001)) hx hb dX8_echo_21 (by decide) ?_
      exact W.iret (v := (-1001)) hx hb hr (fun t ht hW => ⟨⟨(-1001), s0, rfl, hw, by rw [ht]; exact hP, va_K.moved hW.alike hK, hD⟩, hS.F ht⟩) hS.2.2 dX8_echo_24
    · have hw := hw.2 c12
      refine lv_iload_n hx hb dX8_echo_16 rfl (lv_at hl 3 rfl) ?_
      refine lv_iconst (v := 4) hx hb dX8_echo_17 (by decide) ?_
      refine lv_icmp_lt (tgt := 25) hx hb dX8_echo_18 (by decide) (fun c13 => ?_) (fun c13 => ?_)
      · have hw := hw.1 c13
        refine lv_iload_n hx hb dX8_echo_25 rfl (lv_at hl 4 rfl) ?_
        refine lv_bipush (v := (-100)) hx hb dX8_echo_26 (by decide) ?_
        refine lv_icmp_lt (tgt := 37) hx hb dX8_echo_28 (by decide) (fun c14 => ?_) (fun c14 => ?_)
        · have hw := hw.1 c14
          refine lv_sipush (v := (-1002)) hx hb dX8_echo_37 (by decide) ?_
          exact W.iret (v := (-1002)) hx hb hr (fun t ht hW => ⟨⟨(-1002), s0, rfl, hw, by rw [ht]; exact hP, va_K.moved hW.alike hK, hD⟩, hS.F ht⟩) hS.2.2 dX8_echo_40
        · have hw := hw.2 c14
          refine lv_iload_n hx hb dX8_echo_31 rfl (lv_at hl 4 rfl) ?_
          refine lv_bipush (v := 100) hx hb dX8_echo_32 (by decide) ?_
          refine lv_icmp_le (tgt := 41) hx hb dX8_echo_34 (by decide) (fun c15 => ?_) (fun c15 => ?_)
          · have hw := hw.1 c15
            refine lv_aload hx hb dX8_echo_41 (lv_at hl 0 rfl) ?_
            refine va_get (D := (dC, dI)) (ci := 3) (v := .ref (a 23)) (C := RX3) (T := TX3) (N := 20) hx hb hts h_in3 hown hK hP 22 rfl rfl 3 (by decide) h_f86 (fun _ h9 => h9) rfl dX8_echo_43 ?_
            refine va_get (D := (dC, dI)) (ci := 0) (v := .ref (a 24)) (C := RX0) (T := TX0) (N := 2) hx hb hts h_in0 hown hK hP 23 rfl rfl 0 (by decide) h_f90 (fun _ h9 => h9) rfl dX8_echo_46 ?_
            refine lv_iload_n hx hb dX8_echo_49 rfl (lv_at hl 3 rfl) ?_
            have c16 := hw.1
            have hw := hw.2
            refine va_iald hx hb hK hP 24 0 rfl rfl c16 dX8_echo_50 ?_
            refine lv_topi (fun x17 ex17 => ?_)
            have hw := hw x17 ex17
            refine lv_istore (lv' := [(5, .int x17), (4, .ref (a 22)), (0, .ref (a 0)), (1, .int p0), (2, .int p1), (3, .int p2)]) hx hb dX8_echo_51 hl (by decide) rfl (fun ls hl => ?_)
            refine lv_aload hx hb dX8_echo_53 (lv_at hl 1 rfl) ?_
            refine va_get (D := (dC, dI)) (ci := 3) (v := .ref (a 23)) (C := RX3) (T := TX3) (N := 20) hx hb hts h_in3 hown hK hP 22 rfl rfl 3 (by decide) h_f86 (fun _ h9 => h9) rfl dX8_echo_55 ?_
            refine va_get (D := (dC, dI)) (ci := 0) (v := .ref (a 24)) (C := RX0) (T := TX0) (N := 2) hx hb hts h_in0 hown hK hP 23 rfl rfl 0 (by decide) h_f90 (fun _ h9 => h9) rfl dX8_echo_58 ?_
            refine lv_iload_n hx hb dX8_echo_61 rfl (lv_at hl 4 rfl) ?_
            refine lv_iload_n hx hb dX8_echo_62 rfl (lv_at hl 5 rfl) ?_
            have c18 := hw.1
            have hw := hw.2
            refine va_iast hx hb hK hP hD hS 24 0 rfl rfl c18 dX8_echo_63 (fun H locs hP hD hS => ?_)
            obtain ⟨s19, es19⟩ : ∃ y : tm_St, y = tm_s s0 24 (upd (s0 24) (p1 : Int32).toNatClampNeg p2) := ⟨_, rfl⟩
            have hw := hw s19 es19
            have hP : va_P (dC, dI) vwCl (tm_wTwo cI cZ a s19) H := by rw [es19]; exact hP
            have hD : va_D A (tm_wTwo cI cZ a s19) := by rw [es19]; exact hD
            refine lv_iload hx hb dX8_echo_64 (lv_at hl 0 rfl) ?_
            exact W.iret (v := x17) hx hb hr (fun t ht hW => ⟨⟨x17, s19, rfl, hw, by rw [ht]; exact hP, va_K.moved hW.alike hK, hD⟩, hS.F ht⟩) hS.2.2 dX8_echo_66
          · have hw := hw.2 c15
            refine lv_sipush (v := (-1002)) hx hb dX8_echo_37 (by decide) ?_
            exact W.iret (v := (-1002)) hx hb hr (fun t ht hW => ⟨⟨(-1002), s0, rfl, hw, by rw [ht]; exact hP, va_K.moved hW.alike hK, hD⟩, hS.F ht⟩) hS.2.2 dX8_echo_40
      · have hw := hw.2 c13
        refine lv_sipush (v := (-1001)) hx hb dX8_echo_21 (by decide) ?_
        exact W.iret (v := (-1001)) hx hb hr (fun t ht hW => ⟨⟨(-1001), s0, rfl, hw, by rw [ht]; exact hP, va_K.moved hW.alike hK, hD⟩, hS.F ht⟩) hS.2.2 dX8_echo_24
  · subst ek; subst er; have hw := hw.2.2 rfl
    refine W.eq (g2 := F0 m 5 ls (.null :: [])) rfl ?_
    refine lv_astoreN (lv' := [(4, .null), (0, .ref (a 0)), (1, .int p0), (2, .int p1), (3, .int p2)]) hx hb dX8_echo_5 hl (by decide) rfl (fun ls hl => ?_)
    refine lv_aloadN hx hb dX8_echo_7 (lv_at hl 0 rfl) ?_
    refine lv_ifnullN (tgt := 21) hx hb dX8_echo_9 (by decide) ?_
    refine lv_sipush (v := (-1001)) hx hb dX8_echo_21 (by decide) ?_
    exact W.iret (v := (-1001)) hx hb hr (fun t ht hW => ⟨⟨(-1001), s0, rfl, hw, by rw [ht]; exact hP, va_K.moved hW.alike hK, hD⟩, hS.F ht⟩) hS.2.2 dX8_echo_24
def wp_X8_call (p0 : Int32) (s0 : tm_St) (K : Int32 → tm_St → Prop) : Prop := wp_X8_modemAt p0 (fun k3 => (k3 = 0 → (((s0 14 6) = 0 → (wp_X3_force 1 (tm_pj [14, 15, 16, 17, 18, 19, 20, 21, 3, 9, 10, 11, 12, 13, 4, 5, 6, 7, 8, 4, 9] s0) (fun u6 => ∀ s5 : tm_St, s5 = tm_pk [14, 15, 16, 17, 18, 19, 20, 21, 3, 9, 10, 11, 12, 13, 4, 5, 6, 7, 8] s0 u6 → K 1 s5))) ∧ (¬ (s0 14 6) = 0 → K (-1003) s0))) ∧ (k3 = 1 → (((s0 22 6) = 0 → (wp_X3_force 1 (tm_pj [22, 23, 24, 25, 26, 27, 28, 29, 3, 4, 5, 6, 7, 8, 9, 10, 11, 12, 13, 4, 9] s0) (fun u9 => ∀ s8 : tm_St, s8 = tm_pk [22, 23, 24, 25, 26, 27, 28, 29, 3, 4, 5, 6, 7, 8, 9, 10, 11, 12, 13] s0 u9 → K 1 s8))) ∧ (¬ (s0 22 6) = 0 → K (-1003) s0))) ∧ (k3 = 2 → K (-1001) s0))
set_option maxRecDepth 100000 in
set_option maxHeartbeats 4000000 in
theorem kk_X8_call (l : Launch) (dC : Nat → ClassId) (dI : Nat → Nat → Nat) (cI cZ : ClassId) (a : Nat → Nat) (s0 : tm_St) (sz : Nat) (p0 : Int32) (K : Int32 → tm_St → Prop) (hw : wp_X8_call p0 s0 K) : Met l yX8_call wsX8_call ({ frames := 1, cells := 0, slots := 0, locals := 21 }) (va_Pc [.ref (a 0), .int p0] (tm_Pre dC dI cI cZ (tm_wTwo cI cZ a s0) sz)) (va_Qi (fun (r : Int32) (u : tm_St) => K r u) (fun (u : tm_St) t => tm_At dC dI cI cZ (va_A (tm_wTwo cI cZ a s0) sz) (tm_wTwo cI cZ a u) t) (va_A (tm_wTwo cI cZ a s0) sz)) 0 0 (va_A (tm_wTwo cI cZ a s0) sz) := by
  refine Met.ofW (cc := cX8_call) (maxL := 3) (ret := (some .int)) (by decide +kernel) rfl ?_
  intro p e z m args below meth c z₁ B hml hv
  obtain ⟨rfl, hsz, hP, hK, hD0⟩ := hv
  have hx := B.exec
  have hb := B.bytes
  have hr := B.returns
  have hts := atoms_spec (ws := wsX8_call) B.pre
  have hown : z.vm.findClass RX8 = some m.cls := findClass_of_methodNamed B.named
  have hlocks := B.notSynchronized
  subst hsz
  have hD := hD0.self (sz := z.heap.size)
  generalize hAe : va_A (tm_wTwo cI cZ a s0) z.heap.size = A at hD ⊢
  have hA : ∀ q : Nat, z.heap.size ≤ q → A q := fun q h => by rw [← hAe]; exact Or.inr h
  have hS : va_S A z.heap z.heap [] := va_S.rf
  have h_f96 := hts (.fieldLink RX8 96 "TwoModems$Modem" "phase" "I") (by decide +kernel)
  have h_in3 : ∀ w ∈ u_ws RX3 TX3 20, w ∈ wsX8_call := by decide +kernel
  have hl := lv_entry ([.ref (a 0), .int p0]) (n := 3) (Nat.le_of_ble_eq_true rfl)
  rw [lg_entry_eq]
  generalize (lg_sl ([.ref (a 0), .int p0]) ++ List.replicate (3 - (lg_sl ([.ref (a 0), .int p0])).length) Slot.unset).toArray = ls at hl ⊢
  have hl : lv_has ls 3 [(0, .ref (a 0)), (1, .int p0)] := hl
  unfold wp_X8_call at hw
  refine lv_aload_n hx hb dX8_call_0 rfl (lv_at hl 0 rfl) ?_
  refine lv_iload_n hx hb dX8_call_1 rfl (lv_at hl 1 rfl) ?_
  have hPc := hP
  have hDc := hD
  have hFc := va_free (wc := (tm_wTwo cI cZ a s0)) hD hS hA [0, 1, 2, 3, 4, 5, 6, 7, 8, 9, 10, 11, 12, 13, 14, 15, 16, 17, 18, 19, 20, 21, 22, 23, 24, 25, 26, 27, 28, 29] rfl
  refine va_callq (va_runV (As := [.int p0]) (rest := []) ⟨hx, hb, hml, hown, hts⟩ (kk_X8_modemAt l dC dI cI cZ a s0 z.heap.size p0 _ hw) (cwV 1 hts gX8_call_X8_modemAt rfl rfl rfl (by decide +kernel) ⟨Nat.le_of_ble_eq_true rfl, Nat.le_of_ble_eq_true rfl⟩) ⟨tm_blind, va_recv hK hPc (ci := 6) (q0 := 0) rfl rfl, fun U hU hW => ⟨rfl, by rw [hU], by rw [hU]; exact hPc, va_K.moved hW.alike hK, hDc.weaken (fun _ _ _ _ => trivial)⟩⟩ rfl rfl hl.1 rfl (lv_room (Nat.le_of_ble_eq_true rfl)) dX8_call_2 ⟨Nat.zero_le _, Nat.zero_le _⟩) hS (fun q _ h => hFc q h) hFc (fun r1 u t H1 locs ht hvm hw hB hz1 hk1 hS => ?_)
  obtain ⟨hP1, hK1, hD1⟩ := hB
  rw [ht] at hP1
  obtain ⟨eu, k3, hw, hq⟩ := hw
  rw [eu] at hP1 hD1
  obtain ⟨hP, hD⟩ := va_join (wr := []) (w1 := (tm_wTwo cI cZ a s0)) hP hD [0, 1, 2, 3, 4, 5, 6, 7, 8, 9, 10, 11, 12, 13, 14, 15, 16, 17, 18, 19, 20, 21, 22, 23, 24, 25, 26, 27, 28, 29] [] rfl rfl (by decide) (by decide) hk1 hFc hP1 hD1
  have hP : va_P (dC, dI) vwCl (tm_wTwo cI cZ a s0) H1 := hP
  have hD : va_D A (tm_wTwo cI cZ a s0) := hD
  generalize H1 = H at hP hS ⊢
  rcases hq with ⟨ek, er⟩ | ⟨ek, er⟩ | ⟨ek, er⟩
  · subst ek; subst er; have hw := hw.1 rfl
    refine W.eq (g2 := F0 m 5 ls (.ref (a 14) :: [])) rfl ?_
    refine lv_astore_n (lv' := [(2, .ref (a 14)), (0, .ref (a 0)), (1, .int p0)]) hx hb dX8_call_5 rfl hl (by decide) rfl (fun ls hl => ?_)
    refine lv_aload_n hx hb dX8_call_6 rfl (lv_at hl 0 rfl) ?_
    refine lv_ifnonnull (tgt := 14) hx hb dX8_call_7 (by decide) ?_
    refine lv_aload_n hx hb dX8_call_14 rfl (lv_at hl 0 rfl) ?_
    refine va_get (D := (dC, dI)) (ci := 3) (v := .int (s0 14 6)) (C := RX3) (T := TX3) (N := 20) hx hb hts h_in3 hown hK hP 14 rfl rfl 6 (by decide) h_f96 (fun _ h9 => h9) rfl dX8_call_15 ?_
    refine lv_if_eq (tgt := 25) hx hb dX8_call_18 (by decide) (fun c4 => ?_) (fun c4 => ?_)
    · have hw := hw.1 c4
      refine lv_aload_n hx hb dX8_call_25 rfl (lv_at hl 0 rfl) ?_
      refine lv_iconst (v := 1) hx hb dX8_call_26 (by decide) ?_
      have hPc := hP.sub (ws' := (tm_wModem cI cZ (tm_pj [14, 15, 16, 17, 18, 19, 20, 21, 3, 9, 10, 11, 12, 13, 4, 5, 6, 7, 8, 4, 9] a) (tm_pj [14, 15, 16, 17, 18, 19, 20, 21, 3, 9, 10, 11, 12, 13, 4, 5, 6, 7, 8, 4, 9] s0))) [14, 15, 16, 17, 18, 19, 20, 21, 3, 9, 10, 11, 12, 13, 4, 5, 6, 7, 8] rfl
      have hDc := hD.sub (ws' := (tm_wModem cI cZ (tm_pj [14, 15, 16, 17, 18, 19, 20, 21, 3, 9, 10, 11, 12, 13, 4, 5, 6, 7, 8, 4, 9] a) (tm_pj [14, 15, 16, 17, 18, 19, 20, 21, 3, 9, 10, 11, 12, 13, 4, 5, 6, 7, 8, 4, 9] s0))) [14, 15, 16, 17, 18, 19, 20, 21, 3, 9, 10, 11, 12, 13, 4, 5, 6, 7, 8] (by decide) rfl
      have hFc := va_free (wc := (tm_wModem cI cZ (tm_pj [14, 15, 16, 17, 18, 19, 20, 21, 3, 9, 10, 11, 12, 13, 4, 5, 6, 7, 8, 4, 9] a) (tm_pj [14, 15, 16, 17, 18, 19, 20, 21, 3, 9, 10, 11, 12, 13, 4, 5, 6, 7, 8, 4, 9] s0))) hD hS hA [14, 15, 16, 17, 18, 19, 20, 21, 3, 9, 10, 11, 12, 13, 4, 5, 6, 7, 8] rfl
      refine va_callv (va_runV (As := [.int 1]) (rest := []) ⟨hx, hb, hml, hown, hts⟩ (kk_X3_force l dC dI cI cZ (tm_pj [14, 15, 16, 17, 18, 19, 20, 21, 3, 9, 10, 11, 12, 13, 4, 5, 6, 7, 8, 4, 9] a) (tm_pj [14, 15, 16, 17, 18, 19, 20, 21, 3, 9, 10, 11, 12, 13, 4, 5, 6, 7, 8, 4, 9] s0) H.size 1 _ hw) (cwV 1 hts gX8_call_X3_force rfl rfl rfl (by decide +kernel) ⟨Nat.le_of_ble_eq_true rfl, Nat.le_of_ble_eq_true rfl⟩) ⟨tm_blind, va_recv hK hPc (ci := 3) (q0 := 0) rfl rfl, fun U hU hW => ⟨rfl, by rw [hU], by rw [hU]; exact hPc, va_K.moved hW.alike hK, hDc.weaken (fun _ _ _ _ => trivial)⟩⟩ rfl rfl hl.1 rfl (lv_room (Nat.le_of_ble_eq_true rfl)) dX8_call_27 ⟨Nat.zero_le _, Nat.zero_le _⟩) hS (fun q _ h => hFc q h) hFc (fun u t H1 locs ht hvm hw hB hz1 hk1 hS => ?_)
      obtain ⟨hP1, hK1, hD1⟩ := hB
      rw [ht] at hP1
      obtain ⟨hP, hD⟩ := va_join (wr := ([0, 1, 2, 22, 23, 24, 25, 26, 27, 28, 29] : List Nat).filterMap (fun i => (tm_wTwo cI cZ a s0)[i]?)) (w1 := (tm_wModem cI cZ (tm_pj [14, 15, 16, 17, 18, 19, 20, 21, 3, 9, 10, 11, 12, 13, 4, 5, 6, 7, 8, 4, 9] a) u)) hP hD [14, 15, 16, 17, 18, 19, 20, 21, 3, 9, 10, 11, 12, 13, 4, 5, 6, 7, 8] [0, 1, 2, 22, 23, 24, 25, 26, 27, 28, 29] rfl rfl (by decide) (by decide) hk1 hFc hP1 hD1
      generalize H1 = H at hP hS ⊢
      obtain ⟨s5, es5⟩ : ∃ y : tm_St, y = tm_pk [14, 15, 16, 17, 18, 19, 20, 21, 3, 9, 10, 11, 12, 13, 4, 5, 6, 7, 8] s0 u := ⟨_, rfl⟩
      have hw := hw s5 es5
      have hP : va_P (dC, dI) vwCl (tm_wTwo cI cZ a s5) H := by rw [es5]; exact hP.sub [0, 1, 2, 19, 25, 26, 27, 28, 29, 20, 21, 22, 23, 24, 11, 12, 13, 14, 15, 16, 17, 18, 3, 4, 5, 6, 7, 8, 9, 10] rfl
      have hD : va_D A (tm_wTwo cI cZ a s5) := by rw [es5]; exact hD.sub [0, 1, 2, 19, 25, 26, 27, 28, 29, 20, 21, 22, 23, 24, 11, 12, 13, 14, 15, 16, 17, 18, 3, 4, 5, 6, 7, 8, 9, 10] (by decide) rfl
      refine lv_iconst (v := 1) hx hb dX8_call_30 (by decide) ?_
      exact W.iret (v := 1) hx hb hr (fun t ht hW => ⟨⟨1, s5, rfl, hw, by rw [ht]; exact hP, va_K.moved hW.alike hK, hD⟩, hS.F ht⟩) hS.2.2 dX8_call_31
    · have hw := hw.2 c4
      refine lv_sipush (v := (-1003)) hx hb dX8_call_21 (by decide) ?_
      exact W.iret (v := (-1003)) hx hb hr (fun t ht hW => ⟨⟨(-1003), s0, rfl, hw, by rw [ht]; exact hP, va_K.moved hW.alike hK, hD⟩, hS.F ht⟩) hS.2.2 dX8_call_24
  · subst ek; subst er; have hw := hw.2.1 rfl
    refine W.eq (g2 := F0 m 5 ls (.ref (a 22) :: [])) rfl ?_
    refine lv_astore_n (lv' := [(2, .ref (a 22)), (0, .ref (a 0)), (1, .int p0)]) hx hb dX8_call_5 rfl hl (by decide) rfl (fun ls hl => ?_)
    refine lv_aload_n hx hb dX8_call_6 rfl (lv_at hl 0 rfl) ?_
    refine lv_ifnonnull (tgt := 14) hx hb dX8_call_7 (by decide) ?_
    refine lv_aload_n hx hb dX8_call_14 rfl (lv_at hl 0 rfl) ?_
    refine va_get (D := (dC, dI)) (ci := 3) (v := .int (s0 22 6)) (C := RX3) (T := TX3) (N := 20) hx hb hts h_in3 hown hK hP 22 rfl rfl 6 (by decide) h_f96 (fun _ h9 => h9) rfl dX8_call_15 ?_
    refine lv_if_eq (tgt := 25) hx hb dX8_call_18 (by decide) (fun c7 => ?_) (fun c7 => ?_)
    · have hw := hw.1 c7
      refine lv_aload_n hx hb dX8_call_25 rfl (lv_at hl 0 rfl) ?_
      refine lv_iconst (v := 1) hx hb dX8_call_26 (by decide) ?_
      have hPc := hP.sub (ws' := (tm_wModem cI cZ (tm_pj [22, 23, 24, 25, 26, 27, 28, 29, 3, 4, 5, 6, 7, 8, 9, 10, 11, 12, 13, 4, 9] a) (tm_pj [22, 23, 24, 25, 26, 27, 28, 29, 3, 4, 5, 6, 7, 8, 9, 10, 11, 12, 13, 4, 9] s0))) [22, 23, 24, 25, 26, 27, 28, 29, 3, 4, 5, 6, 7, 8, 9, 10, 11, 12, 13] rfl
      have hDc := hD.sub (ws' := (tm_wModem cI cZ (tm_pj [22, 23, 24, 25, 26, 27, 28, 29, 3, 4, 5, 6, 7, 8, 9, 10, 11, 12, 13, 4, 9] a) (tm_pj [22, 23, 24, 25, 26, 27, 28, 29, 3, 4, 5, 6, 7, 8, 9, 10, 11, 12, 13, 4, 9] s0))) [22, 23, 24, 25, 26, 27, 28, 29, 3, 4, 5, 6, 7, 8, 9, 10, 11, 12, 13] (by decide) rfl
      have hFc := va_free (wc := (tm_wModem cI cZ (tm_pj [22, 23, 24, 25, 26, 27, 28, 29, 3, 4, 5, 6, 7, 8, 9, 10, 11, 12, 13, 4, 9] a) (tm_pj [22, 23, 24, 25, 26, 27, 28, 29, 3, 4, 5, 6, 7, 8, 9, 10, 11, 12, 13, 4, 9] s0))) hD hS hA [22, 23, 24, 25, 26, 27, 28, 29, 3, 4, 5, 6, 7, 8, 9, 10, 11, 12, 13] rfl
      refine va_callv (va_runV (As := [.int 1]) (rest := []) ⟨hx, hb, hml, hown, hts⟩ (kk_X3_force l dC dI cI cZ (tm_pj [22, 23, 24, 25, 26, 27, 28, 29, 3, 4, 5, 6, 7, 8, 9, 10, 11, 12, 13, 4, 9] a) (tm_pj [22, 23, 24, 25, 26, 27, 28, 29, 3, 4, 5, 6, 7, 8, 9, 10, 11, 12, 13, 4, 9] s0) H.size 1 _ hw) (cwV 1 hts gX8_call_X3_force rfl rfl rfl (by decide +kernel) ⟨Nat.le_of_ble_eq_true rfl, Nat.le_of_ble_eq_true rfl⟩) ⟨tm_blind, va_recv hK hPc (ci := 3) (q0 := 0) rfl rfl, fun U hU hW => ⟨rfl, by rw [hU], by rw [hU]; exact hPc, va_K.moved hW.alike hK, hDc.weaken (fun _ _ _ _ => trivial)⟩⟩ rfl rfl hl.1 rfl (lv_room (Nat.le_of_ble_eq_true rfl)) dX8_call_27 ⟨Nat.zero_le _, Nat.zero_le _⟩) hS (fun q _ h => hFc q h) hFc (fun u t H1 locs ht hvm hw hB hz1 hk1 hS => ?_)
      obtain ⟨hP1, hK1, hD1⟩ := hB
      rw [ht] at hP1
      obtain ⟨hP, hD⟩ := va_join (wr := ([0, 1, 2, 14, 15, 16, 17, 18, 19, 20, 21] : List Nat).filterMap (fun i => (tm_wTwo cI cZ a s0)[i]?)) (w1 := (tm_wModem cI cZ (tm_pj [22, 23, 24, 25, 26, 27, 28, 29, 3, 4, 5, 6, 7, 8, 9, 10, 11, 12, 13, 4, 9] a) u)) hP hD [22, 23, 24, 25, 26, 27, 28, 29, 3, 4, 5, 6, 7, 8, 9, 10, 11, 12, 13] [0, 1, 2, 14, 15, 16, 17, 18, 19, 20, 21] rfl rfl (by decide) (by decide) hk1 hFc hP1 hD1
      generalize H1 = H at hP hS ⊢
      obtain ⟨s8, es8⟩ : ∃ y : tm_St, y = tm_pk [22, 23, 24, 25, 26, 27, 28, 29, 3, 4, 5, 6, 7, 8, 9, 10, 11, 12, 13] s0 u := ⟨_, rfl⟩
      have hw := hw s8 es8
      have hP : va_P (dC, dI) vwCl (tm_wTwo cI cZ a s8) H := by rw [es8]; exact hP.sub [0, 1, 2, 19, 20, 21, 22, 23, 24, 25, 26, 27, 28, 29, 3, 4, 5, 6, 7, 8, 9, 10, 11, 12, 13, 14, 15, 16, 17, 18] rfl
      have hD : va_D A (tm_wTwo cI cZ a s8) := by rw [es8]; exact hD.sub [0, 1, 2, 19, 20, 21, 22, 23, 24, 25, 26, 27, 28, 29, 3, 4, 5, 6, 7, 8, 9, 10, 11, 12, 13, 14, 15, 16, 17, 18] (by decide) rfl
      refine lv_iconst (v := 1) hx hb dX8_call_30 (by decide) ?_
      exact W.iret (v := 1) hx hb hr (fun t ht hW => ⟨⟨1, s8, rfl, hw, by rw [ht]; exact hP, va_K.moved hW.alike hK, hD⟩, hS.F ht⟩) hS.2.2 dX8_call_31
    · have hw := hw.2 c7
      refine lv_sipush (v := (-1003)) hx hb dX8_call_21 (by decide) ?_
      exact W.iret (v := (-1003)) hx hb hr (fun t ht hW => ⟨⟨(-1003), s0, rfl, hw, by rw [ht]; exact hP, va_K.moved hW.alike hK, hD⟩, hS.F ht⟩) hS.2.2 dX8_call_24
  · subst ek; subst er; have hw := hw.2.2 rfl
    refine W.eq (g2 := F0 m 5 ls (.null :: [])) rfl ?_
    refine lv_astore_nN (lv' := [(2, .null), (0, .ref (a 0)), (1, .int p0)]) hx hb dX8_call_5 rfl hl (by decide) rfl (fun ls hl => ?_)
    refine lv_aload_nN hx hb dX8_call_6 rfl (lv_at hl 0 rfl) ?_
    refine lv_ifnonnullN hx hb dX8_call_7 ?_
    refine lv_sipush (v := (-1001)) hx hb dX8_call_10 (by decide) ?_
    exact W.iret (v := (-1001)) hx hb hr (fun t ht hW => ⟨⟨(-1001), s0, rfl, hw, by rw [ht]; exact hP, va_K.moved hW.alike hK, hD⟩, hS.F ht⟩) hS.2.2 dX8_call_13
def wp_X8_hang (p0 : Int32) (s0 : tm_St) (K : Int32 → tm_St → Prop) : Prop := wp_X8_modemAt p0 (fun k3 => (k3 = 0 → ((¬ (s0 14 6) = 0 → (∀ x5 : Int32, x5 = (s0 14 6) → (wp_X3_force 0 (tm_pj [14, 15, 16, 17, 18, 19, 20, 21, 3, 9, 10, 11, 12, 13, 4, 5, 6, 7, 8, 4, 9] s0) (fun u7 => ∀ s6 : tm_St, s6 = tm_pk [14, 15, 16, 17, 18, 19, 20, 21, 3, 9, 10, 11, 12, 13, 4, 5, 6, 7, 8] s0 u7 → K x5 s6)))) ∧ ((s0 14 6) = 0 → K (-1003) s0))) ∧ (k3 = 1 → ((¬ (s0 22 6) = 0 → (∀ x9 : Int32, x9 = (s0 22 6) → (wp_X3_force 0 (tm_pj [22, 23, 24, 25, 26, 27, 28, 29, 3, 4, 5, 6, 7, 8, 9, 10, 11, 12, 13, 4, 9] s0) (fun u11 => ∀ s10 : tm_St, s10 = tm_pk [22, 23, 24, 25, 26, 27, 28, 29, 3, 4, 5, 6, 7, 8, 9, 10, 11, 12, 13] s0 u11 → K x9 s10)))) ∧ ((s0 22 6) = 0 → K (-1003) s0))) ∧ (k3 = 2 → K (-1001) s0))
set_option maxRecDepth 100000 in
set_option maxHeartbeats 4000000 in
theorem kk_X8_hang (l : Launch) (dC : Nat → ClassId) (dI : Nat → Nat → Nat) (cI cZ : ClassId) (a : Nat → Nat) (s0 : tm_St) (sz : Nat) (p0 : Int32) (K : Int32 → tm_St → Prop) (hw : wp_X8_hang p0 s0 K) : Met l yX8_hang wsX8_hang ({ frames := 1, cells := 0, slots := 0, locals := 21 }) (va_Pc [.ref (a 0), .int p0] (tm_Pre dC dI cI cZ (tm_wTwo cI cZ a s0) sz)) (va_Qi (fun (r : Int32) (u : tm_St) => K r u) (fun (u : tm_St) t => tm_At dC dI cI cZ (va_A (tm_wTwo cI cZ a s0) sz) (tm_wTwo cI cZ a u) t) (va_A (tm_wTwo cI cZ a s0) sz)) 0 0 (va_A (tm_wTwo cI cZ a s0) sz) := by
  refine Met.ofW (cc := cX8_hang) (maxL := 4) (ret := (some .int)) (by decide +kernel) rfl ?_
  intro p e z m args below meth c z₁ B hml hv
  obtain ⟨rfl, hsz, hP, hK, hD0⟩ := hv
  have hx := B.exec
  have hb := B.bytes
  have hr := B.returns
  have hts := atoms_spec (ws := wsX8_hang) B.pre
  have hown : z.vm.findClass RX8 = some m.cls := findClass_of_methodNamed B.named
  have hlocks := B.notSynchronized
  subst hsz
  have hD := hD0.self (sz := z.heap.size)
  generalize hAe : va_A (tm_wTwo cI cZ a s0) z.heap.size = A at hD ⊢
  have hA : ∀ q : Nat, z.heap.size ≤ q → A q := fun q h => by rw [← hAe]; exact Or.inr h
  have hS : va_S A z.heap z.heap [] := va_S.rf
  have h_f96 := hts (.fieldLink RX8 96 "TwoModems$Modem" "phase" "I") (by decide +kernel)
  have h_in3 : ∀ w ∈ u_ws RX3 TX3 20, w ∈ wsX8_hang := by decide +kernel
  have hl := lv_entry ([.ref (a 0), .int p0]) (n := 4) (Nat.le_of_ble_eq_true rfl)
  rw [lg_entry_eq]
  generalize (lg_sl ([.ref (a 0), .int p0]) ++ List.replicate (4 - (lg_sl ([.ref (a 0), .int p0])).length) Slot.unset).toArray = ls at hl ⊢
  have hl : lv_has ls 4 [(0, .ref (a 0)), (1, .int p0)] := hl
  unfold wp_X8_hang at hw
  refine lv_aload_n hx hb dX8_hang_0 rfl (lv_at hl 0 rfl) ?_
  refine lv_iload_n hx hb dX8_hang_1 rfl (lv_at hl 1 rfl) ?_
  have hPc := hP
  have hDc := hD
  have hFc := va_free (wc := (tm_wTwo cI cZ a s0)) hD hS hA [0, 1, 2, 3, 4, 5, 6, 7, 8, 9, 10, 11, 12, 13, 14, 15, 16, 17, 18, 19, 20, 21, 22, 23, 24, 25, 26, 27, 28, 29] rfl
  refine va_callq (va_runV (As := [.int p0]) (rest := []) ⟨hx, hb, hml, hown, hts⟩ (kk_X8_modemAt l dC dI cI cZ a s0 z.heap.size p0 _ hw) (cwV 1 hts gX8_hang_X8_modemAt rfl rfl rfl (by decide +kernel) ⟨Nat.le_of_ble_eq_true rfl, Nat.le_of_ble_eq_true rfl⟩) ⟨tm_blind, va_recv hK hPc (ci := 6) (q0 := 0) rfl rfl, fun U hU hW => ⟨rfl, by rw [hU], by rw [hU]; exact hPc, va_K.moved hW.alike hK, hDc.weaken (fun _ _ _ _ => trivial)⟩⟩ rfl rfl hl.1 rfl (lv_room (Nat.le_of_ble_eq_true rfl)) dX8_hang_2 ⟨Nat.zero_le _, Nat.zero_le _⟩) hS (fun q _ h => hFc q h) hFc (fun r1 u t H1 locs ht hvm hw hB hz1 hk1 hS => ?_)
  obtain ⟨hP1, hK1, hD1⟩ := hB
  rw [ht] at hP1
  obtain ⟨eu, k3, hw, hq⟩ := hw
  rw [eu] at hP1 hD1
  obtain ⟨hP, hD⟩ := va_join (wr := []) (w1 := (tm_wTwo cI cZ a s0)) hP hD [0, 1, 2, 3, 4, 5, 6, 7, 8, 9, 10, 11, 12, 13, 14, 15, 16, 17, 18, 19, 20, 21, 22, 23, 24, 25, 26, 27, 28, 29] [] rfl rfl (by decide) (by decide) hk1 hFc hP1 hD1
  have hP : va_P (dC, dI) vwCl (tm_wTwo cI cZ a s0) H1 := hP
  have hD : va_D A (tm_wTwo cI cZ a s0) := hD
  generalize H1 = H at hP hS ⊢
  rcases hq with ⟨ek, er⟩ | ⟨ek, er⟩ | ⟨ek, er⟩
  · subst ek; subst er; have hw := hw.1 rfl
    refine W.eq (g2 := F0 m 5 ls (.ref (a 14) :: [])) rfl ?_
    refine lv_astore_n (lv' := [(2, .ref (a 14)), (0, .ref (a 0)), (1, .int p0)]) hx hb dX8_hang_5 rfl hl (by decide) rfl (fun ls hl => ?_)
    refine lv_aload_n hx hb dX8_hang_6 rfl (lv_at hl 0 rfl) ?_
    refine lv_ifnonnull (tgt := 14) hx hb dX8_hang_7 (by decide) ?_
    refine lv_aload_n hx hb dX8_hang_14 rfl (lv_at hl 0 rfl) ?_
    refine va_get (D := (dC, dI)) (ci := 3) (v := .int (s0 14 6)) (C := RX3) (T := TX3) (N := 20) hx hb hts h_in3 hown hK hP 14 rfl rfl 6 (by decide) h_f96 (fun _ h9 => h9) rfl dX8_hang_15 ?_
    refine lv_if_ne (tgt := 25) hx hb dX8_hang_18 (by decide) (fun c4 => ?_) (fun c4 => ?_)
    · have hw := hw.1 c4
      refine lv_aload_n hx hb dX8_hang_25 rfl (lv_at hl 0 rfl) ?_
      refine va_get (D := (dC, dI)) (ci := 3) (v := .int (s0 14 6)) (C := RX3) (T := TX3) (N := 20) hx hb hts h_in3 hown hK hP 14 rfl rfl 6 (by decide) h_f96 (fun _ h9 => h9) rfl dX8_hang_26 ?_
      refine lv_topi (fun x5 ex5 => ?_)
      have hw := hw x5 ex5
      refine lv_istore_n (lv' := [(3, .int x5), (2, .ref (a 14)), (0, .ref (a 0)), (1, .int p0)]) hx hb dX8_hang_29 rfl hl (by decide) rfl (fun ls hl => ?_)
      refine lv_aload_n hx hb dX8_hang_30 rfl (lv_at hl 1 rfl) ?_
      refine lv_iconst (v := 0) hx hb dX8_hang_31 (by decide) ?_
      have hPc := hP.sub (ws' := (tm_wModem cI cZ (tm_pj [14, 15, 16, 17, 18, 19, 20, 21, 3, 9, 10, 11, 12, 13, 4, 5, 6, 7, 8, 4, 9] a) (tm_pj [14, 15, 16, 17, 18, 19, 20, 21, 3, 9, 10, 11, 12, 13, 4, 5, 6, 7, 8, 4, 9] s0))) [14, 15, 16, 17, 18, 19, 20, 21, 3, 9, 10, 11, 12, 13, 4, 5, 6, 7, 8] rfl
      have hDc := hD.sub (ws' := (tm_wModem cI cZ (tm_pj [14, 15, 16, 17, 18, 19, 20, 21, 3, 9, 10, 11, 12, 13, 4, 5, 6, 7, 8, 4, 9] a) (tm_pj [14, 15, 16, 17, 18, 19, 20, 21, 3, 9, 10, 11, 12, 13, 4, 5, 6, 7, 8, 4, 9] s0))) [14, 15, 16, 17, 18, 19, 20, 21, 3, 9, 10, 11, 12, 13, 4, 5, 6, 7, 8] (by decide) rfl
      have hFc := va_free (wc := (tm_wModem cI cZ (tm_pj [14, 15, 16, 17, 18, 19, 20, 21, 3, 9, 10, 11, 12, 13, 4, 5, 6, 7, 8, 4, 9] a) (tm_pj [14, 15, 16, 17, 18, 19, 20, 21, 3, 9, 10, 11, 12, 13, 4, 5, 6, 7, 8, 4, 9] s0))) hD hS hA [14, 15, 16, 17, 18, 19, 20, 21, 3, 9, 10, 11, 12, 13, 4, 5, 6, 7, 8] rfl
      refine va_callv (va_runV (As := [.int 0]) (rest := []) ⟨hx, hb, hml, hown, hts⟩ (kk_X3_force l dC dI cI cZ (tm_pj [14, 15, 16, 17, 18, 19, 20, 21, 3, 9, 10, 11, 12, 13, 4, 5, 6, 7, 8, 4, 9] a) (tm_pj [14, 15, 16, 17, 18, 19, 20, 21, 3, 9, 10, 11, 12, 13, 4, 5, 6, 7, 8, 4, 9] s0) H.size 0 _ hw) (cwV 1 hts gX8_hang_X3_force rfl rfl rfl (by decide +kernel) ⟨Nat.le_of_ble_eq_true rfl, Nat.le_of_ble_eq_true rfl⟩) ⟨tm_blind, va_recv hK hPc (ci := 3) (q0 := 0) rfl rfl, fun U hU hW => ⟨rfl, by rw [hU], by rw [hU]; exact hPc, va_K.moved hW.alike hK, hDc.weaken (fun _ _ _ _ => trivial)⟩⟩ rfl rfl hl.1 rfl (lv_room (Nat.le_of_ble_eq_true rfl)) dX8_hang_32 ⟨Nat.zero_le _, Nat.zero_le _⟩) hS (fun q _ h => hFc q h) hFc (fun u t H1 locs ht hvm hw hB hz1 hk1 hS => ?_)
      obtain ⟨hP1, hK1, hD1⟩ := hB
      rw [ht] at hP1
      obtain ⟨hP, hD⟩ := va_join (wr := ([0, 1, 2, 22, 23, 24, 25, 26, 27, 28, 29] : List Nat).filterMap (fun i => (tm_wTwo cI cZ a s0)[i]?)) (w1 := (tm_wModem cI cZ (tm_pj [14, 15, 16, 17, 18, 19, 20, 21, 3, 9, 10, 11, 12, 13, 4, 5, 6, 7, 8, 4, 9] a) u)) hP hD [14, 15, 16, 17, 18, 19, 20, 21, 3, 9, 10, 11, 12, 13, 4, 5, 6, 7, 8] [0, 1, 2, 22, 23, 24, 25, 26, 27, 28, 29] rfl rfl (by decide) (by decide) hk1 hFc hP1 hD1
      generalize H1 = H at hP hS ⊢
      obtain ⟨s6, es6⟩ : ∃ y : tm_St, y = tm_pk [14, 15, 16, 17, 18, 19, 20, 21, 3, 9, 10, 11, 12, 13, 4, 5, 6, 7, 8] s0 u := ⟨_, rfl⟩
      have hw := hw s6 es6
      have hP : va_P (dC, dI) vwCl (tm_wTwo cI cZ a s6) H := by rw [es6]; exact hP.sub [0, 1, 2, 19, 25, 26, 27, 28, 29, 20, 21, 22, 23, 24, 11, 12, 13, 14, 15, 16, 17, 18, 3, 4, 5, 6, 7, 8, 9, 10] rfl
      have hD : va_D A (tm_wTwo cI cZ a s6) := by rw [es6]; exact hD.sub [0, 1, 2, 19, 25, 26, 27, 28, 29, 20, 21, 22, 23, 24, 11, 12, 13, 14, 15, 16, 17, 18, 3, 4, 5, 6, 7, 8, 9, 10] (by decide) rfl
      refine lv_iload_n hx hb dX8_hang_35 rfl (lv_at hl 0 rfl) ?_
      exact W.iret (v := x5) hx hb hr (fun t ht hW => ⟨⟨x5, s6, rfl, hw, by rw [ht]; exact hP, va_K.moved hW.alike hK, hD⟩, hS.F ht⟩) hS.2.2 dX8_hang_36
    · have hw := hw.2 c4
      refine lv_sipush (v := (-1003)) hx hb dX8_hang_21 (by decide) ?_
      exact W.iret (v := (-1003)) hx hb hr (fun t ht hW => ⟨⟨(-1003), s0, rfl, hw, by rw [ht]; exact hP, va_K.moved hW.alike hK, hD⟩, hS.F ht⟩) hS.2.2 dX8_hang_24
  · subst ek; subst er; have hw := hw.2.1 rfl
    refine W.eq (g2 := F0 m 5 ls (.ref (a 22) :: [])) rfl ?_
    refine lv_astore_n (lv' := [(2, .ref (a 22)), (0, .ref (a 0)), (1, .int p0)]) hx hb dX8_hang_5 rfl hl (by decide) rfl (fun ls hl => ?_)
    refine lv_aload_n hx hb dX8_hang_6 rfl (lv_at hl 0 rfl) ?_
    refine lv_ifnonnull (tgt := 14) hx hb dX8_hang_7 (by decide) ?_
    refine lv_aload_n hx hb dX8_hang_14 rfl (lv_at hl 0 rfl) ?_
    refine va_get (D := (dC, dI)) (ci := 3) (v := .int (s0 22 6)) (C := RX3) (T := TX3) (N := 20) hx hb hts h_in3 hown hK hP 22 rfl rfl 6 (by decide) h_f96 (fun _ h9 => h9) rfl dX8_hang_15 ?_
    refine lv_if_ne (tgt := 25) hx hb dX8_hang_18 (by decide) (fun c8 => ?_) (fun c8 => ?_)
    · have hw := hw.1 c8
      refine lv_aload_n hx hb dX8_hang_25 rfl (lv_at hl 0 rfl) ?_
      refine va_get (D := (dC, dI)) (ci := 3) (v := .int (s0 22 6)) (C := RX3) (T := TX3) (N := 20) hx hb hts h_in3 hown hK hP 22 rfl rfl 6 (by decide) h_f96 (fun _ h9 => h9) rfl dX8_hang_26 ?_
      refine lv_topi (fun x9 ex9 => ?_)
      have hw := hw x9 ex9
      refine lv_istore_n (lv' := [(3, .int x9), (2, .ref (a 22)), (0, .ref (a 0)), (1, .int p0)]) hx hb dX8_hang_29 rfl hl (by decide) rfl (fun ls hl => ?_)
      refine lv_aload_n hx hb dX8_hang_30 rfl (lv_at hl 1 rfl) ?_
      refine lv_iconst (v := 0) hx hb dX8_hang_31 (by decide) ?_
      have hPc := hP.sub (ws' := (tm_wModem cI cZ (tm_pj [22, 23, 24, 25, 26, 27, 28, 29, 3, 4, 5, 6, 7, 8, 9, 10, 11, 12, 13, 4, 9] a) (tm_pj [22, 23, 24, 25, 26, 27, 28, 29, 3, 4, 5, 6, 7, 8, 9, 10, 11, 12, 13, 4, 9] s0))) [22, 23, 24, 25, 26, 27, 28, 29, 3, 4, 5, 6, 7, 8, 9, 10, 11, 12, 13] rfl
      have hDc := hD.sub (ws' := (tm_wModem cI cZ (tm_pj [22, 23, 24, 25, 26, 27, 28, 29, 3, 4, 5, 6, 7, 8, 9, 10, 11, 12, 13, 4, 9] a) (tm_pj [22, 23, 24, 25, 26, 27, 28, 29, 3, 4, 5, 6, 7, 8, 9, 10, 11, 12, 13, 4, 9] s0))) [22, 23, 24, 25, 26, 27, 28, 29, 3, 4, 5, 6, 7, 8, 9, 10, 11, 12, 13] (by decide) rfl
      have hFc := va_free (wc := (tm_wModem cI cZ (tm_pj [22, 23, 24, 25, 26, 27, 28, 29, 3, 4, 5, 6, 7, 8, 9, 10, 11, 12, 13, 4, 9] a) (tm_pj [22, 23, 24, 25, 26, 27, 28, 29, 3, 4, 5, 6, 7, 8, 9, 10, 11, 12, 13, 4, 9] s0))) hD hS hA [22, 23, 24, 25, 26, 27, 28, 29, 3, 4, 5, 6, 7, 8, 9, 10, 11, 12, 13] rfl
      refine va_callv (va_runV (As := [.int 0]) (rest := []) ⟨hx, hb, hml, hown, hts⟩ (kk_X3_force l dC dI cI cZ (tm_pj [22, 23, 24, 25, 26, 27, 28, 29, 3, 4, 5, 6, 7, 8, 9, 10, 11, 12, 13, 4, 9] a) (tm_pj [22, 23, 24, 25, 26, 27, 28, 29, 3, 4, 5, 6, 7, 8, 9, 10, 11, 12, 13, 4, 9] s0) H.size 0 _ hw) (cwV 1 hts gX8_hang_X3_force rfl rfl rfl (by decide +kernel) ⟨Nat.le_of_ble_eq_true rfl, Nat.le_of_ble_eq_true rfl⟩) ⟨tm_blind, va_recv hK hPc (ci := 3) (q0 := 0) rfl rfl, fun U hU hW => ⟨rfl, by rw [hU], by rw [hU]; exact hPc, va_K.moved hW.alike hK, hDc.weaken (fun _ _ _ _ => trivial)⟩⟩ rfl rfl hl.1 rfl (lv_room (Nat.le_of_ble_eq_true rfl)) dX8_hang_32 ⟨Nat.zero_le _, Nat.zero_le _⟩) hS (fun q _ h => hFc q h) hFc (fun u t H1 locs ht hvm hw hB hz1 hk1 hS => ?_)
      obtain ⟨hP1, hK1, hD1⟩ := hB
      rw [ht] at hP1
      obtain ⟨hP, hD⟩ := va_join (wr := ([0, 1, 2, 14, 15, 16, 17, 18, 19, 20, 21] : List Nat).filterMap (fun i => (tm_wTwo cI cZ a s0)[i]?)) (w1 := (tm_wModem cI cZ (tm_pj [22, 23, 24, 25, 26, 27, 28, 29, 3, 4, 5, 6, 7, 8, 9, 10, 11, 12, 13, 4, 9] a) u)) hP hD [22, 23, 24, 25, 26, 27, 28, 29, 3, 4, 5, 6, 7, 8, 9, 10, 11, 12, 13] [0, 1, 2, 14, 15, 16, 17, 18, 19, 20, 21] rfl rfl (by decide) (by decide) hk1 hFc hP1 hD1
      generalize H1 = H at hP hS ⊢
      obtain ⟨s10, es10⟩ : ∃ y : tm_St, y = tm_pk [22, 23, 24, 25, 26, 27, 28, 29, 3, 4, 5, 6, 7, 8, 9, 10, 11, 12, 13] s0 u := ⟨_, rfl⟩
      have hw := hw s10 es10
      have hP : va_P (dC, dI) vwCl (tm_wTwo cI cZ a s10) H := by rw [es10]; exact hP.sub [0, 1, 2, 19, 20, 21, 22, 23, 24, 25, 26, 27, 28, 29, 3, 4, 5, 6, 7, 8, 9, 10, 11, 12, 13, 14, 15, 16, 17, 18] rfl
      have hD : va_D A (tm_wTwo cI cZ a s10) := by rw [es10]; exact hD.sub [0, 1, 2, 19, 20, 21, 22, 23, 24, 25, 26, 27, 28, 29, 3, 4, 5, 6, 7, 8, 9, 10, 11, 12, 13, 14, 15, 16, 17, 18] (by decide) rfl
      refine lv_iload_n hx hb dX8_hang_35 rfl (lv_at hl 0 rfl) ?_
      exact W.iret (v := x9) hx hb hr (fun t ht hW => ⟨⟨x9, s10, rfl, hw, by rw [ht]; exact hP, va_K.moved hW.alike hK, hD⟩, hS.F ht⟩) hS.2.2 dX8_hang_36
    · have hw := hw.2 c8
      refine lv_sipush (v := (-1003)) hx hb dX8_hang_21 (by decide) ?_
      exact W.iret (v := (-1003)) hx hb hr (fun t ht hW => ⟨⟨(-1003), s0, rfl, hw, by rw [ht]; exact hP, va_K.moved hW.alike hK, hD⟩, hS.F ht⟩) hS.2.2 dX8_hang_24
  · subst ek; subst er; have hw := hw.2.2 rfl
    refine W.eq (g2 := F0 m 5 ls (.null :: [])) rfl ?_
    refine lv_astore_nN (lv' := [(2, .null), (0, .ref (a 0)), (1, .int p0)]) hx hb dX8_hang_5 rfl hl (by decide) rfl (fun ls hl => ?_)
    refine lv_aload_nN hx hb dX8_hang_6 rfl (lv_at hl 0 rfl) ?_
    refine lv_ifnonnullN hx hb dX8_hang_7 ?_
    refine lv_sipush (v := (-1001)) hx hb dX8_hang_10 (by decide) ?_
    exact W.iret (v := (-1001)) hx hb hr (fun t ht hW => ⟨⟨(-1001), s0, rfl, hw, by rw [ht]; exact hP, va_K.moved hW.alike hK, hD⟩, hS.F ht⟩) hS.2.2 dX8_hang_13
def wp_X8_changes  (s0 : tm_St) (K : Int32 → tm_St → Prop) : Prop := K ((s0 14 7) + (s0 22 7)) s0
set_option maxRecDepth 100000 in
set_option maxHeartbeats 4000000 in
theorem kk_X8_changes (l : Launch) (dC : Nat → ClassId) (dI : Nat → Nat → Nat) (cI cZ : ClassId) (a : Nat → Nat) (s0 : tm_St) (sz : Nat)  (K : Int32 → tm_St → Prop) (hw : wp_X8_changes s0 K) : Met l yX8_changes wsX8_changes ({ frames := 0, cells := 0, slots := 0, locals := 0 }) (va_Pc [.ref (a 0)] (tm_Pre dC dI cI cZ (tm_wTwo cI cZ a s0) sz)) (va_Qi (fun (r : Int32) (u : tm_St) => K r u) (fun (u : tm_St) t => tm_At dC dI cI cZ (va_A (tm_wTwo cI cZ a s0) sz) (tm_wTwo cI cZ a u) t) (va_A (tm_wTwo cI cZ a s0) sz)) 0 0 (va_A (tm_wTwo cI cZ a s0) sz) := by
  refine Met.ofW (cc := cX8_changes) (maxL := 1) (ret := (some .int)) (by decide +kernel) rfl ?_
  intro p e z m args below meth c z₁ B hml hv
  obtain ⟨rfl, hsz, hP, hK, hD0⟩ := hv
  have hx := B.exec
  have hb := B.bytes
  have hr := B.returns
  have hts := atoms_spec (ws := wsX8_changes) B.pre
  have hown : z.vm.findClass RX8 = some m.cls := findClass_of_methodNamed B.named
  have hlocks := B.notSynchronized
  subst hsz
  have hD := hD0.self (sz := z.heap.size)
  generalize hAe : va_A (tm_wTwo cI cZ a s0) z.heap.size = A at hD ⊢
  have hA : ∀ q : Nat, z.heap.size ≤ q → A q := fun q h => by rw [← hAe]; exact Or.inr h
  have hS : va_S A z.heap z.heap [] := va_S.rf
  have h_f35 := hts (.fieldLink RX8 35 "TwoModems" "zero" "LTwoModems$Modem;") (by decide +kernel)
  have h_in8 : ∀ w ∈ u_ws RX8 TX8 5, w ∈ wsX8_changes := by decide +kernel
  have h_f168 := hts (.fieldLink RX8 168 "TwoModems$Modem" "changes" "I") (by decide +kernel)
  have h_in3 : ∀ w ∈ u_ws RX3 TX3 20, w ∈ wsX8_changes := by decide +kernel
  have h_f39 := hts (.fieldLink RX8 39 "TwoModems" "one" "LTwoModems$Modem;") (by decide +kernel)
  have hl := lv_entry ([.ref (a 0)]) (n := 1) (Nat.le_of_ble_eq_true rfl)
  rw [lg_entry_eq]
  generalize (lg_sl ([.ref (a 0)]) ++ List.replicate (1 - (lg_sl ([.ref (a 0)])).length) Slot.unset).toArray = ls at hl ⊢
  have hl : lv_has ls 1 [(0, .ref (a 0))] := hl
  unfold wp_X8_changes at hw
  refine lv_aload_n hx hb dX8_changes_0 rfl (lv_at hl 0 rfl) ?_
  refine va_get (D := (dC, dI)) (ci := 6) (v := .ref (a 14)) (C := RX8) (T := TX8) (N := 5) hx hb hts h_in8 hown hK hP 0 rfl rfl 2 (by decide) h_f35 (fun _ h9 => h9) rfl dX8_changes_1 ?_
  refine va_get (D := (dC, dI)) (ci := 3) (v := .int (s0 14 7)) (C := RX3) (T := TX3) (N := 20) hx hb hts h_in3 hown hK hP 14 rfl rfl 7 (by decide) h_f168 (fun _ h9 => h9) rfl dX8_changes_4 ?_
  refine lv_aload_n hx hb dX8_changes_7 rfl (lv_at hl 0 rfl) ?_
  refine va_get (D := (dC, dI)) (ci := 6) (v := .ref (a 22)) (C := RX8) (T := TX8) (N := 5) hx hb hts h_in8 hown hK hP 0 rfl rfl 3 (by decide) h_f39 (fun _ h9 => h9) rfl dX8_changes_8 ?_
  refine va_get (D := (dC, dI)) (ci := 3) (v := .int (s0 22 7)) (C := RX3) (T := TX3) (N := 20) hx hb hts h_in3 hown hK hP 22 rfl rfl 7 (by decide) h_f168 (fun _ h9 => h9) rfl dX8_changes_11 ?_
  refine lv_iadd hx hb dX8_changes_14 ?_
  exact W.iret (v := ((s0 14 7) + (s0 22 7))) hx hb hr (fun t ht hW => ⟨⟨((s0 14 7) + (s0 22 7)), s0, rfl, hw, by rw [ht]; exact hP, va_K.moved hW.alike hK, hD⟩, hS.F ht⟩) hS.2.2 dX8_changes_15
def wp_X8_go_22 (K : Int32 → tm_St → Prop) : Nat → Int32 → Int32 → Int32 → tm_St → Prop
  | 0, _, _, _, _ => False
  | n + 1, v1, v2, v3, s => ((v1 ≤ v3 → (wp_X8_changes  s (fun r6 s7 => K (r6 - v2) s7))) ∧ (¬ v1 ≤ v3 → (wp_X3_live (s 0 4) (tm_pj [14, 15, 16, 17, 18, 19, 20, 21, 3, 9, 10, 11, 12, 13, 4, 5, 6, 7, 8, 4, 9] s) (fun u9 => ∀ s8 : tm_St, s8 = tm_pk [14, 15, 16, 17, 18, 19, 20, 21, 3, 9, 10, 11, 12, 13, 4, 5, 6, 7, 8] s u9 → (wp_X3_live (s8 0 4) (tm_pj [22, 23, 24, 25, 26, 27, 28, 29, 3, 4, 5, 6, 7, 8, 9, 10, 11, 12, 13, 4, 9] s8) (fun u11 => ∀ s10 : tm_St, s10 = tm_pk [22, 23, 24, 25, 26, 27, 28, 29, 3, 4, 5, 6, 7, 8, 9, 10, 11, 12, 13] s8 u11 → (∀ s12 : tm_St, s12 = tm_s s10 0 (tm_u (s10 0) 4 ((s10 0 4) + 1)) → (∀ x13 : Int32, x13 = v3 + 1 → wp_X8_go_22 K n v1 v2 x13 s12))))))))
def wp_X8_go (p0 : Int32) (s0 : tm_St) (K : Int32 → tm_St → Prop) : Prop := ((p0 < 1 → K (-1002) s0) ∧ (¬ p0 < 1 → ((p0 ≤ 100 → (wp_X8_changes  s0 (fun r3 s4 => ∃ nf : Nat, wp_X8_go_22 K nf p0 r3 0 s4))) ∧ (¬ p0 ≤ 100 → K (-1002) s0))))
set_option maxRecDepth 100000 in
set_option maxHeartbeats 4000000 in
theorem kk_X8_go (l : Launch) (dC : Nat → ClassId) (dI : Nat → Nat → Nat) (cI cZ : ClassId) (a : Nat → Nat) (s0 : tm_St) (sz : Nat) (p0 : Int32) (K : Int32 → tm_St → Prop) (hw : wp_X8_go p0 s0 K) : Met l yX8_go wsX8_go ({ frames := 6, cells := 0, slots := 0, locals := 129 }) (va_Pc [.ref (a 0), .int p0] (tm_Pre dC dI cI cZ (tm_wTwo cI cZ a s0) sz)) (va_Qi (fun (r : Int32) (u : tm_St) => K r u) (fun (u : tm_St) t => tm_At dC dI cI cZ (va_A (tm_wTwo cI cZ a s0) sz) (tm_wTwo cI cZ a u) t) (va_A (tm_wTwo cI cZ a s0) sz)) 0 0 (va_A (tm_wTwo cI cZ a s0) sz) := by
  refine Met.ofW (cc := cX8_go) (maxL := 4) (ret := (some .int)) (by decide +kernel) rfl ?_
  intro p e z m args below meth c z₁ B hml hv
  obtain ⟨rfl, hsz, hP, hK, hD0⟩ := hv
  have hx := B.exec
  have hb := B.bytes
  have hr := B.returns
  have hts := atoms_spec (ws := wsX8_go) B.pre
  have hown : z.vm.findClass RX8 = some m.cls := findClass_of_methodNamed B.named
  have hlocks := B.notSynchronized
  subst hsz
  have hD := hD0.self (sz := z.heap.size)
  generalize hAe : va_A (tm_wTwo cI cZ a s0) z.heap.size = A at hD ⊢
  have hA : ∀ q : Nat, z.heap.size ≤ q → A q := fun q h => by rw [← hAe]; exact Or.inr h
  have hS : va_S A z.heap z.heap [] := va_S.rf
  have h_f35 := hts (.fieldLink RX8 35 "TwoModems" "zero" "LTwoModems$Modem;") (by decide +kernel)
  have h_in8 : ∀ w ∈ u_ws RX8 TX8 5, w ∈ wsX8_go := by decide +kernel
  have h_f42 := hts (.fieldLink RX8 42 "TwoModems" "ticks" "I") (by decide +kernel)
  have h_f39 := hts (.fieldLink RX8 39 "TwoModems" "one" "LTwoModems$Modem;") (by decide +kernel)
  have b22 : ∀ (n : Nat) (v1 : Int32) (v2 : Int32) (v3 : Int32) (s : tm_St) (H : Heap) (locs : List Loc) (ls : Array Slot), wp_X8_go_22 K n v1 v2 v3 s → va_P (dC, dI) vwCl (tm_wTwo cI cZ a s) H → va_D A (tm_wTwo cI cZ a s) → va_S A z.heap H locs → lv_has ls 4 [(0, .ref (a 0)), (1, .int v1), (2, .int v2), (3, .int v3)] → W p l e (headSpec wsX8_go ({ frames := 6, cells := 0, slots := 0, locals := 129 })).room z m (([.ref (a 0), .int p0] : List Value).toArray) below meth c H locs 0 0 (MQ below (va_Qi (fun (r : Int32) (u : tm_St) => K r u) (fun (u : tm_St) t => tm_At dC dI cI cZ A (tm_wTwo cI cZ a u) t) A) (([.ref (a 0), .int p0] : List Value).toArray) z 0 0 A) (F0 m 22 ls []) := by
    intro n
    induction n with
    | zero => intro v1 v2 v3 s H locs ls hw hP hD hS hl; unfold wp_X8_go_22 at hw; exact hw.elim
    | succ n ih =>
      intro v1 v2 v3 s H locs ls hw hP hD hS hl
      unfold wp_X8_go_22 at hw
      refine lv_iload_n hx hb dX8_go_22 rfl (lv_at hl 3 rfl) ?_
      refine lv_iload_n hx hb dX8_go_23 rfl (lv_at hl 1 rfl) ?_
      refine lv_icmp_ge (tgt := 65) hx hb dX8_go_24 (by decide) (fun c5 => ?_) (fun c5 => ?_)
      · have hw := hw.1 c5
        refine lv_aload_n hx hb dX8_go_65 rfl (lv_at hl 0 rfl) ?_
        have hPc := hP
        have hDc := hD
        have hFc := va_free (wc := (tm_wTwo cI cZ a s)) hD hS hA [0, 1, 2, 3, 4, 5, 6, 7, 8, 9, 10, 11, 12, 13, 14, 15, 16, 17, 18, 19, 20, 21, 22, 23, 24, 25, 26, 27, 28, 29] rfl
        refine va_calli (va_runV (As := []) (rest := []) ⟨hx, hb, hml, hown, hts⟩ (kk_X8_changes l dC dI cI cZ a s H.size  _ hw) (cwV 0 hts gX8_go_X8_changes rfl rfl rfl (by decide +kernel) ⟨Nat.le_of_ble_eq_true rfl, Nat.le_of_ble_eq_true rfl⟩) ⟨tm_blind, va_recv hK hPc (ci := 6) (q0 := 0) rfl rfl, fun U hU hW => ⟨rfl, by rw [hU], by rw [hU]; exact hPc, va_K.moved hW.alike hK, hDc.weaken (fun _ _ _ _ => trivial)⟩⟩ rfl rfl hl.1 rfl (lv_room (Nat.le_of_ble_eq_true rfl)) dX8_go_66 ⟨Nat.zero_le _, Nat.zero_le _⟩) hS (fun q _ h => hFc q h) hFc (fun r6 s7 t H1 locs ht hvm hw hB hz1 hk1 hS => ?_)
        obtain ⟨hP1, hK1, hD1⟩ := hB
        rw [ht] at hP1
        obtain ⟨hP, hD⟩ := va_join (wr := []) (w1 := (tm_wTwo cI cZ a s7)) hP hD [0, 1, 2, 3, 4, 5, 6, 7, 8, 9, 10, 11, 12, 13, 14, 15, 16, 17, 18, 19, 20, 21, 22, 23, 24, 25, 26, 27, 28, 29] [] rfl rfl (by decide) (by decide) hk1 hFc hP1 hD1
        generalize H1 = H at hP hS ⊢
        have hP : va_P (dC, dI) vwCl (tm_wTwo cI cZ a s7) H := hP
        have hD : va_D A (tm_wTwo cI cZ a s7) := hD
        refine lv_iload_n hx hb dX8_go_69 rfl (lv_at hl 2 rfl) ?_
        refine lv_isub hx hb dX8_go_70 ?_
        exact W.iret (v := (r6 - v2)) hx hb hr (fun t ht hW => ⟨⟨(r6 - v2), s7, rfl, hw, by rw [ht]; exact hP, va_K.moved hW.alike hK, hD⟩, hS.F ht⟩) hS.2.2 dX8_go_71
      · have hw := hw.2 c5
        refine lv_aload_n hx hb dX8_go_27 rfl (lv_at hl 0 rfl) ?_
        refine va_get (D := (dC, dI)) (ci := 6) (v := .ref (a 14)) (C := RX8) (T := TX8) (N := 5) hx hb hts h_in8 hown hK hP 0 rfl rfl 2 (by decide) h_f35 (fun _ h9 => h9) rfl dX8_go_28 ?_
        refine lv_aload_n hx hb dX8_go_31 rfl (lv_at hl 0 rfl) ?_
        refine va_get (D := (dC, dI)) (ci := 6) (v := .int (s 0 4)) (C := RX8) (T := TX8) (N := 5) hx hb hts h_in8 hown hK hP 0 rfl rfl 4 (by decide) h_f42 (fun _ h9 => h9) rfl dX8_go_32 ?_
        have hPc := hP.sub (ws' := (tm_wModem cI cZ (tm_pj [14, 15, 16, 17, 18, 19, 20, 21, 3, 9, 10, 11, 12, 13, 4, 5, 6, 7, 8, 4, 9] a) (tm_pj [14, 15, 16, 17, 18, 19, 20, 21, 3, 9, 10, 11, 12, 13, 4, 5, 6, 7, 8, 4, 9] s))) [14, 15, 16, 17, 18, 19, 20, 21, 3, 9, 10, 11, 12, 13, 4, 5, 6, 7, 8] rfl
        have hDc := hD.sub (ws' := (tm_wModem cI cZ (tm_pj [14, 15, 16, 17, 18, 19, 20, 21, 3, 9, 10, 11, 12, 13, 4, 5, 6, 7, 8, 4, 9] a) (tm_pj [14, 15, 16, 17, 18, 19, 20, 21, 3, 9, 10, 11, 12, 13, 4, 5, 6, 7, 8, 4, 9] s))) [14, 15, 16, 17, 18, 19, 20, 21, 3, 9, 10, 11, 12, 13, 4, 5, 6, 7, 8] (by decide) rfl
        have hFc := va_free (wc := (tm_wModem cI cZ (tm_pj [14, 15, 16, 17, 18, 19, 20, 21, 3, 9, 10, 11, 12, 13, 4, 5, 6, 7, 8, 4, 9] a) (tm_pj [14, 15, 16, 17, 18, 19, 20, 21, 3, 9, 10, 11, 12, 13, 4, 5, 6, 7, 8, 4, 9] s))) hD hS hA [14, 15, 16, 17, 18, 19, 20, 21, 3, 9, 10, 11, 12, 13, 4, 5, 6, 7, 8] rfl
        refine va_callv (va_runV (As := [.int (s 0 4)]) (rest := []) ⟨hx, hb, hml, hown, hts⟩ (kk_X3_live l dC dI cI cZ (tm_pj [14, 15, 16, 17, 18, 19, 20, 21, 3, 9, 10, 11, 12, 13, 4, 5, 6, 7, 8, 4, 9] a) (tm_pj [14, 15, 16, 17, 18, 19, 20, 21, 3, 9, 10, 11, 12, 13, 4, 5, 6, 7, 8, 4, 9] s) H.size (s 0 4) _ hw) (cwV 1 hts gX8_go_X3_live rfl rfl rfl (by decide +kernel) ⟨Nat.le_of_ble_eq_true rfl, Nat.le_of_ble_eq_true rfl⟩) ⟨tm_blind, va_recv hK hPc (ci := 3) (q0 := 0) rfl rfl, fun U hU hW => ⟨rfl, by rw [hU], by rw [hU]; exact hPc, va_K.moved hW.alike hK, hDc.weaken (fun _ _ _ _ => trivial)⟩⟩ rfl rfl hl.1 rfl (lv_room (Nat.le_of_ble_eq_true rfl)) dX8_go_35 ⟨Nat.zero_le _, Nat.zero_le _⟩) hS (fun q _ h => hFc q h) hFc (fun u t H1 locs ht hvm hw hB hz1 hk1 hS => ?_)
        obtain ⟨hP1, hK1, hD1⟩ := hB
        rw [ht] at hP1
        obtain ⟨hP, hD⟩ := va_join (wr := ([0, 1, 2, 22, 23, 24, 25, 26, 27, 28, 29] : List Nat).filterMap (fun i => (tm_wTwo cI cZ a s)[i]?)) (w1 := (tm_wModem cI cZ (tm_pj [14, 15, 16, 17, 18, 19, 20, 21, 3, 9, 10, 11, 12, 13, 4, 5, 6, 7, 8, 4, 9] a) u)) hP hD [14, 15, 16, 17, 18, 19, 20, 21, 3, 9, 10, 11, 12, 13, 4, 5, 6, 7, 8] [0, 1, 2, 22, 23, 24, 25, 26, 27, 28, 29] rfl rfl (by decide) (by decide) hk1 hFc hP1 hD1
        generalize H1 = H at hP hS ⊢
        obtain ⟨s8, es8⟩ : ∃ y : tm_St, y = tm_pk [14, 15, 16, 17, 18, 19, 20, 21, 3, 9, 10, 11, 12, 13, 4, 5, 6, 7, 8] s u := ⟨_, rfl⟩
        have hw := hw s8 es8
        have hP : va_P (dC, dI) vwCl (tm_wTwo cI cZ a s8) H := by rw [es8]; exact hP.sub [0, 1, 2, 19, 25, 26, 27, 28, 29, 20, 21, 22, 23, 24, 11, 12, 13, 14, 15, 16, 17, 18, 3, 4, 5, 6, 7, 8, 9, 10] rfl
        have hD : va_D A (tm_wTwo cI cZ a s8) := by rw [es8]; exact hD.sub [0, 1, 2, 19, 25, 26, 27, 28, 29, 20, 21, 22, 23, 24, 11, 12, 13, 14, 15, 16, 17, 18, 3, 4, 5, 6, 7, 8, 9, 10] (by decide) rfl
        refine lv_aload_n hx hb dX8_go_38 rfl (lv_at hl 0 rfl) ?_
        refine va_get (D := (dC, dI)) (ci := 6) (v := .ref (a 22)) (C := RX8) (T := TX8) (N := 5) hx hb hts h_in8 hown hK hP 0 rfl rfl 3 (by decide) h_f39 (fun _ h9 => h9) rfl dX8_go_39 ?_
        refine lv_aload_n hx hb dX8_go_42 rfl (lv_at hl 0 rfl) ?_
        refine va_get (D := (dC, dI)) (ci := 6) (v := .int (s8 0 4)) (C := RX8) (T := TX8) (N := 5) hx hb hts h_in8 hown hK hP 0 rfl rfl 4 (by decide) h_f42 (fun _ h9 => h9) rfl dX8_go_43 ?_
        have hPc := hP.sub (ws' := (tm_wModem cI cZ (tm_pj [22, 23, 24, 25, 26, 27, 28, 29, 3, 4, 5, 6, 7, 8, 9, 10, 11, 12, 13, 4, 9] a) (tm_pj [22, 23, 24, 25, 26, 27, 28, 29, 3, 4, 5, 6, 7, 8, 9, 10, 11, 12, 13, 4, 9] s8))) [22, 23, 24, 25, 26, 27, 28, 29, 3, 4, 5, 6, 7, 8, 9, 10, 11, 12, 13] rfl
        have hDc := hD.sub (ws' := (tm_wModem cI cZ (tm_pj [22, 23, 24, 25, 26, 27, 28, 29, 3, 4, 5, 6, 7, 8, 9, 10, 11, 12, 13, 4, 9] a) (tm_pj [22, 23, 24, 25, 26, 27, 28, 29, 3, 4, 5, 6, 7, 8, 9, 10, 11, 12, 13, 4, 9] s8))) [22, 23, 24, 25, 26, 27, 28, 29, 3, 4, 5, 6, 7, 8, 9, 10, 11, 12, 13] (by decide) rfl
        have hFc := va_free (wc := (tm_wModem cI cZ (tm_pj [22, 23, 24, 25, 26, 27, 28, 29, 3, 4, 5, 6, 7, 8, 9, 10, 11, 12, 13, 4, 9] a) (tm_pj [22, 23, 24, 25, 26, 27, 28, 29, 3, 4, 5, 6, 7, 8, 9, 10, 11, 12, 13, 4, 9] s8))) hD hS hA [22, 23, 24, 25, 26, 27, 28, 29, 3, 4, 5, 6, 7, 8, 9, 10, 11, 12, 13] rfl
        refine va_callv (va_runV (As := [.int (s8 0 4)]) (rest := []) ⟨hx, hb, hml, hown, hts⟩ (kk_X3_live l dC dI cI cZ (tm_pj [22, 23, 24, 25, 26, 27, 28, 29, 3, 4, 5, 6, 7, 8, 9, 10, 11, 12, 13, 4, 9] a) (tm_pj [22, 23, 24, 25, 26, 27, 28, 29, 3, 4, 5, 6, 7, 8, 9, 10, 11, 12, 13, 4, 9] s8) H.size (s8 0 4) _ hw) (cwV 1 hts gX8_go_X3_live rfl rfl rfl (by decide +kernel) ⟨Nat.le_of_ble_eq_true rfl, Nat.le_of_ble_eq_true rfl⟩) ⟨tm_blind, va_recv hK hPc (ci := 3) (q0 := 0) rfl rfl, fun U hU hW => ⟨rfl, by rw [hU], by rw [hU]; exact hPc, va_K.moved hW.alike hK, hDc.weaken (fun _ _ _ _ => trivial)⟩⟩ rfl rfl hl.1 rfl (lv_room (Nat.le_of_ble_eq_true rfl)) dX8_go_46 ⟨Nat.zero_le _, Nat.zero_le _⟩) hS (fun q _ h => hFc q h) hFc (fun u t H1 locs ht hvm hw hB hz1 hk1 hS => ?_)
        obtain ⟨hP1, hK1, hD1⟩ := hB
        rw [ht] at hP1
        obtain ⟨hP, hD⟩ := va_join (wr := ([0, 1, 2, 14, 15, 16, 17, 18, 19, 20, 21] : List Nat).filterMap (fun i => (tm_wTwo cI cZ a s8)[i]?)) (w1 := (tm_wModem cI cZ (tm_pj [22, 23, 24, 25, 26, 27, 28, 29, 3, 4, 5, 6, 7, 8, 9, 10, 11, 12, 13, 4, 9] a) u)) hP hD [22, 23, 24, 25, 26, 27, 28, 29, 3, 4, 5, 6, 7, 8, 9, 10, 11, 12, 13] [0, 1, 2, 14, 15, 16, 17, 18, 19, 20, 21] rfl rfl (by decide) (by decide) hk1 hFc hP1 hD1
        generalize H1 = H at hP hS ⊢
        obtain ⟨s10, es10⟩ : ∃ y : tm_St, y = tm_pk [22, 23, 24, 25, 26, 27, 28, 29, 3, 4, 5, 6, 7, 8, 9, 10, 11, 12, 13] s8 u := ⟨_, rfl⟩
        have hw := hw s10 es10
        have hP : va_P (dC, dI) vwCl (tm_wTwo cI cZ a s10) H := by rw [es10]; exact hP.sub [0, 1, 2, 19, 20, 21, 22, 23, 24, 25, 26, 27, 28, 29, 3, 4, 5, 6, 7, 8, 9, 10, 11, 12, 13, 14, 15, 16, 17, 18] rfl
        have hD : va_D A (tm_wTwo cI cZ a s10) := by rw [es10]; exact hD.sub [0, 1, 2, 19, 20, 21, 22, 23, 24, 25, 26, 27, 28, 29, 3, 4, 5, 6, 7, 8, 9, 10, 11, 12, 13, 14, 15, 16, 17, 18] (by decide) rfl
        refine lv_aload_n hx hb dX8_go_49 rfl (lv_at hl 0 rfl) ?_
        refine lv_dup hx hb dX8_go_50 rfl ?_
        refine va_get (D := (dC, dI)) (ci := 6) (v := .int (s10 0 4)) (C := RX8) (T := TX8) (N := 5) hx hb hts h_in8 hown hK hP 0 rfl rfl 4 (by decide) h_f42 (fun _ h9 => h9) rfl dX8_go_51 ?_
        refine lv_iconst (v := 1) hx hb dX8_go_54 (by decide) ?_
        refine lv_iadd hx hb dX8_go_55 ?_
        refine va_put (D := (dC, dI)) (ci := 6) (v := .int ((s10 0 4) + 1)) (ty := .int) (C := RX8) (T := TX8) (N := 5) hx hb hts h_in8 tyX8 tyX8_ok nmX8 hown hK hP hD hS 0 rfl rfl 4 (by decide) h_f42 (fun _ h9 => h9) rfl (by decide +kernel) rfl rfl (Nat.le_of_ble_eq_true rfl) dX8_go_56 (fun H locs hP hD hS => ?_)
        obtain ⟨s12, es12⟩ : ∃ y : tm_St, y = tm_s s10 0 (tm_u (s10 0) 4 ((s10 0 4) + 1)) := ⟨_, rfl⟩
        have hw := hw s12 es12
        have hP : va_P (dC, dI) vwCl (tm_wTwo cI cZ a s12) H := by rw [es12]; exact hP
        have hD : va_D A (tm_wTwo cI cZ a s12) := by rw [es12]; exact hD
        obtain ⟨x13, ex13⟩ : ∃ y : Int32, y = v3 + 1 := ⟨_, rfl⟩
        have hw := hw x13 ex13
        refine lv_iinc (v := x13) (lv' := [(3, .int x13), (0, .ref (a 0)), (1, .int v1), (2, .int v2)]) hx hb dX8_go_59 hl (k := 3) rfl (by rw [ex13]; rfl) (by decide) rfl (fun ls hl => ?_)
        refine lv_goto (tgt := 22) hx hb dX8_go_62 (by decide) ?_
        exact ih v1 v2 x13 s12 _ _ _ hw hP hD hS (lv_sub hl [1, 2, 3, 0] rfl)
  have hl := lv_entry ([.ref (a 0), .int p0]) (n := 4) (Nat.le_of_ble_eq_true rfl)
  rw [lg_entry_eq]
  generalize (lg_sl ([.ref (a 0), .int p0]) ++ List.replicate (4 - (lg_sl ([.ref (a 0), .int p0])).length) Slot.unset).toArray = ls at hl ⊢
  have hl : lv_has ls 4 [(0, .ref (a 0)), (1, .int p0)] := hl
  unfold wp_X8_go at hw
  refine lv_iload_n hx hb dX8_go_0 rfl (lv_at hl 1 rfl) ?_
  refine lv_iconst (v := 1) hx hb dX8_go_1 (by decide) ?_
  refine lv_icmp_lt (tgt := 11) hx hb dX8_go_2 (by decide) (fun c1 => ?_) (fun c1 => ?_)
  · have hw := hw.1 c1
    refine lv_sipush (v := (-1002)) hx hb dX8_go_11 (by decide) ?_
    exact W.iret (v := (-1002)) hx hb hr (fun t ht hW => ⟨⟨(-1002), s0, rfl, hw, by rw [ht]; exact hP, va_K.moved hW.alike hK, hD⟩, hS.F ht⟩) hS.2.2 dX8_go_14
  · have hw := hw.2 c1
    refine lv_iload_n hx hb dX8_go_5 rfl (lv_at hl 1 rfl) ?_
    refine lv_bipush (v := 100) hx hb dX8_go_6 (by decide) ?_
    refine lv_icmp_le (tgt := 15) hx hb dX8_go_8 (by decide) (fun c2 => ?_) (fun c2 => ?_)
    · have hw := hw.1 c2
      refine lv_aload_n hx hb dX8_go_15 rfl (lv_at hl 0 rfl) ?_
      have hPc := hP
      have hDc := hD
      have hFc := va_free (wc := (tm_wTwo cI cZ a s0)) hD hS hA [0, 1, 2, 3, 4, 5, 6, 7, 8, 9, 10, 11, 12, 13, 14, 15, 16, 17, 18, 19, 20, 21, 22, 23, 24, 25, 26, 27, 28, 29] rfl
      refine va_calli (va_runV (As := []) (rest := []) ⟨hx, hb, hml, hown, hts⟩ (kk_X8_changes l dC dI cI cZ a s0 z.heap.size  _ hw) (cwV 0 hts gX8_go_X8_changes rfl rfl rfl (by decide +kernel) ⟨Nat.le_of_ble_eq_true rfl, Nat.le_of_ble_eq_true rfl⟩) ⟨tm_blind, va_recv hK hPc (ci := 6) (q0 := 0) rfl rfl, fun U hU hW => ⟨rfl, by rw [hU], by rw [hU]; exact hPc, va_K.moved hW.alike hK, hDc.weaken (fun _ _ _ _ => trivial)⟩⟩ rfl rfl hl.1 rfl (lv_room (Nat.le_of_ble_eq_true rfl)) dX8_go_16 ⟨Nat.zero_le _, Nat.zero_le _⟩) hS (fun q _ h => hFc q h) hFc (fun r3 s4 t H1 locs ht hvm hw hB hz1 hk1 hS => ?_)
      obtain ⟨hP1, hK1, hD1⟩ := hB
      rw [ht] at hP1
      obtain ⟨hP, hD⟩ := va_join (wr := []) (w1 := (tm_wTwo cI cZ a s4)) hP hD [0, 1, 2, 3, 4, 5, 6, 7, 8, 9, 10, 11, 12, 13, 14, 15, 16, 17, 18, 19, 20, 21, 22, 23, 24, 25, 26, 27, 28, 29] [] rfl rfl (by decide) (by decide) hk1 hFc hP1 hD1
      generalize H1 = H at hP hS ⊢
      have hP : va_P (dC, dI) vwCl (tm_wTwo cI cZ a s4) H := hP
      have hD : va_D A (tm_wTwo cI cZ a s4) := hD
      refine lv_istore_n (lv' := [(2, .int r3), (0, .ref (a 0)), (1, .int p0)]) hx hb dX8_go_19 rfl hl (by decide) rfl (fun ls hl => ?_)
      refine lv_iconst (v := 0) hx hb dX8_go_20 (by decide) ?_
      refine lv_istore_n (lv' := [(3, .int 0), (2, .int r3), (0, .ref (a 0)), (1, .int p0)]) hx hb dX8_go_21 rfl hl (by decide) rfl (fun ls hl => ?_)
      obtain ⟨nf, hw⟩ := hw
      exact b22 nf p0 r3 0 s4 _ _ _ hw hP hD hS (lv_sub hl [2, 3, 1, 0] rfl)
    · have hw := hw.2 c2
      refine lv_sipush (v := (-1002)) hx hb dX8_go_11 (by decide) ?_
      exact W.iret (v := (-1002)) hx hb hr (fun t ht hW => ⟨⟨(-1002), s0, rfl, hw, by rw [ht]; exact hP, va_K.moved hW.alike hK, hD⟩, hS.F ht⟩) hS.2.2 dX8_go_14
def wp_X8_end (p0 : Int32) (p1 : Int32) (s0 : tm_St) (K : Int32 → tm_St → Prop) : Prop := wp_X8_modemAt p0 (fun k3 => (k3 = 0 → (wp_X3_fact p1 (tm_pj [14, 15, 16, 17, 18, 19, 20, 21, 3, 9, 10, 11, 12, 13, 4, 5, 6, 7, 8, 4, 9] s0) (fun r4 u6 => ∀ s5 : tm_St, s5 = tm_pk [14, 15, 16, 17, 18, 19, 20, 21, 3, 9, 10, 11, 12, 13, 4, 5, 6, 7, 8] s0 u6 → K r4 s5))) ∧ (k3 = 1 → (wp_X3_fact p1 (tm_pj [22, 23, 24, 25, 26, 27, 28, 29, 3, 4, 5, 6, 7, 8, 9, 10, 11, 12, 13, 4, 9] s0) (fun r7 u9 => ∀ s8 : tm_St, s8 = tm_pk [22, 23, 24, 25, 26, 27, 28, 29, 3, 4, 5, 6, 7, 8, 9, 10, 11, 12, 13] s0 u9 → K r7 s8))) ∧ (k3 = 2 → K (-1001) s0))
set_option maxRecDepth 100000 in
set_option maxHeartbeats 4000000 in
theorem kk_X8_end (l : Launch) (dC : Nat → ClassId) (dI : Nat → Nat → Nat) (cI cZ : ClassId) (a : Nat → Nat) (s0 : tm_St) (sz : Nat) (p0 : Int32) (p1 : Int32) (K : Int32 → tm_St → Prop) (hw : wp_X8_end p0 p1 s0 K) : Met l yX8_end wsX8_end ({ frames := 1, cells := 0, slots := 0, locals := 21 }) (va_Pc [.ref (a 0), .int p0, .int p1] (tm_Pre dC dI cI cZ (tm_wTwo cI cZ a s0) sz)) (va_Qi (fun (r : Int32) (u : tm_St) => K r u) (fun (u : tm_St) t => tm_At dC dI cI cZ (va_A (tm_wTwo cI cZ a s0) sz) (tm_wTwo cI cZ a u) t) (va_A (tm_wTwo cI cZ a s0) sz)) 0 0 (va_A (tm_wTwo cI cZ a s0) sz) := by
  refine Met.ofW (cc := cX8_end) (maxL := 4) (ret := (some .int)) (by decide +kernel) rfl ?_
  intro p e z m args below meth c z₁ B hml hv
  obtain ⟨rfl, hsz, hP, hK, hD0⟩ := hv
  have hx := B.exec
  have hb := B.bytes
  have hr := B.returns
  have hts := atoms_spec (ws := wsX8_end) B.pre
  have hown : z.vm.findClass RX8 = some m.cls := findClass_of_methodNamed B.named
  have hlocks := B.notSynchronized
  subst hsz
  have hD := hD0.self (sz := z.heap.size)
  generalize hAe : va_A (tm_wTwo cI cZ a s0) z.heap.size = A at hD ⊢
  have hA : ∀ q : Nat, z.heap.size ≤ q → A q := fun q h => by rw [← hAe]; exact Or.inr h
  have hS : va_S A z.heap z.heap [] := va_S.rf
  have hl := lv_entry ([.ref (a 0), .int p0, .int p1]) (n := 4) (Nat.le_of_ble_eq_true rfl)
  rw [lg_entry_eq]
  generalize (lg_sl ([.ref (a 0), .int p0, .int p1]) ++ List.replicate (4 - (lg_sl ([.ref (a 0), .int p0, .int p1])).length) Slot.unset).toArray = ls at hl ⊢
  have hl : lv_has ls 4 [(0, .ref (a 0)), (1, .int p0), (2, .int p1)] := hl
  unfold wp_X8_end at hw
  refine lv_aload_n hx hb dX8_end_0 rfl (lv_at hl 0 rfl) ?_
  refine lv_iload_n hx hb dX8_end_1 rfl (lv_at hl 1 rfl) ?_
  have hPc := hP
  have hDc := hD
  have hFc := va_free (wc := (tm_wTwo cI cZ a s0)) hD hS hA [0, 1, 2, 3, 4, 5, 6, 7, 8, 9, 10, 11, 12, 13, 14, 15, 16, 17, 18, 19, 20, 21, 22, 23, 24, 25, 26, 27, 28, 29] rfl
  refine va_callq (va_runV (As := [.int p0]) (rest := []) ⟨hx, hb, hml, hown, hts⟩ (kk_X8_modemAt l dC dI cI cZ a s0 z.heap.size p0 _ hw) (cwV 1 hts gX8_end_X8_modemAt rfl rfl rfl (by decide +kernel) ⟨Nat.le_of_ble_eq_true rfl, Nat.le_of_ble_eq_true rfl⟩) ⟨tm_blind, va_recv hK hPc (ci := 6) (q0 := 0) rfl rfl, fun U hU hW => ⟨rfl, by rw [hU], by rw [hU]; exact hPc, va_K.moved hW.alike hK, hDc.weaken (fun _ _ _ _ => trivial)⟩⟩ rfl rfl hl.1 rfl (lv_room (Nat.le_of_ble_eq_true rfl)) dX8_end_2 ⟨Nat.zero_le _, Nat.zero_le _⟩) hS (fun q _ h => hFc q h) hFc (fun r1 u t H1 locs ht hvm hw hB hz1 hk1 hS => ?_)
  obtain ⟨hP1, hK1, hD1⟩ := hB
  rw [ht] at hP1
  obtain ⟨eu, k3, hw, hq⟩ := hw
  rw [eu] at hP1 hD1
  obtain ⟨hP, hD⟩ := va_join (wr := []) (w1 := (tm_wTwo cI cZ a s0)) hP hD [0, 1, 2, 3, 4, 5, 6, 7, 8, 9, 10, 11, 12, 13, 14, 15, 16, 17, 18, 19, 20, 21, 22, 23, 24, 25, 26, 27, 28, 29] [] rfl rfl (by decide) (by decide) hk1 hFc hP1 hD1
  have hP : va_P (dC, dI) vwCl (tm_wTwo cI cZ a s0) H1 := hP
  have hD : va_D A (tm_wTwo cI cZ a s0) := hD
  generalize H1 = H at hP hS ⊢
  rcases hq with ⟨ek, er⟩ | ⟨ek, er⟩ | ⟨ek, er⟩
  · subst ek; subst er; have hw := hw.1 rfl
    refine W.eq (g2 := F0 m 5 ls (.ref (a 14) :: [])) rfl ?_
    refine lv_astore_n (lv' := [(3, .ref (a 14)), (0, .ref (a 0)), (1, .int p0), (2, .int p1)]) hx hb dX8_end_5 rfl hl (by decide) rfl (fun ls hl => ?_)
    refine lv_aload_n hx hb dX8_end_6 rfl (lv_at hl 0 rfl) ?_
    refine lv_ifnonnull (tgt := 16) hx hb dX8_end_7 (by decide) ?_
    refine lv_aload_n hx hb dX8_end_16 rfl (lv_at hl 0 rfl) ?_
    refine lv_iload_n hx hb dX8_end_17 rfl (lv_at hl 3 rfl) ?_
    have hPc := hP.sub (ws' := (tm_wModem cI cZ (tm_pj [14, 15, 16, 17, 18, 19, 20, 21, 3, 9, 10, 11, 12, 13, 4, 5, 6, 7, 8, 4, 9] a) (tm_pj [14, 15, 16, 17, 18, 19, 20, 21, 3, 9, 10, 11, 12, 13, 4, 5, 6, 7, 8, 4, 9] s0))) [14, 15, 16, 17, 18, 19, 20, 21, 3, 9, 10, 11, 12, 13, 4, 5, 6, 7, 8] rfl
    have hDc := hD.sub (ws' := (tm_wModem cI cZ (tm_pj [14, 15, 16, 17, 18, 19, 20, 21, 3, 9, 10, 11, 12, 13, 4, 5, 6, 7, 8, 4, 9] a) (tm_pj [14, 15, 16, 17, 18, 19, 20, 21, 3, 9, 10, 11, 12, 13, 4, 5, 6, 7, 8, 4, 9] s0))) [14, 15, 16, 17, 18, 19, 20, 21, 3, 9, 10, 11, 12, 13, 4, 5, 6, 7, 8] (by decide) rfl
    have hFc := va_free (wc := (tm_wModem cI cZ (tm_pj [14, 15, 16, 17, 18, 19, 20, 21, 3, 9, 10, 11, 12, 13, 4, 5, 6, 7, 8, 4, 9] a) (tm_pj [14, 15, 16, 17, 18, 19, 20, 21, 3, 9, 10, 11, 12, 13, 4, 5, 6, 7, 8, 4, 9] s0))) hD hS hA [14, 15, 16, 17, 18, 19, 20, 21, 3, 9, 10, 11, 12, 13, 4, 5, 6, 7, 8] rfl
    refine va_calli (va_runV (As := [.int p1]) (rest := []) ⟨hx, hb, hml, hown, hts⟩ (kk_X3_fact l dC dI cI cZ (tm_pj [14, 15, 16, 17, 18, 19, 20, 21, 3, 9, 10, 11, 12, 13, 4, 5, 6, 7, 8, 4, 9] a) (tm_pj [14, 15, 16, 17, 18, 19, 20, 21, 3, 9, 10, 11, 12, 13, 4, 5, 6, 7, 8, 4, 9] s0) H.size p1 _ hw) (cwV 1 hts gX8_end_X3_fact rfl rfl rfl (by decide +kernel) ⟨Nat.le_of_ble_eq_true rfl, Nat.le_of_ble_eq_true rfl⟩) ⟨tm_blind, va_recv hK hPc (ci := 3) (q0 := 0) rfl rfl, fun U hU hW => ⟨rfl, by rw [hU], by rw [hU]; exact hPc, va_K.moved hW.alike hK, hDc.weaken (fun _ _ _ _ => trivial)⟩⟩ rfl rfl hl.1 rfl (lv_room (Nat.le_of_ble_eq_true rfl)) dX8_end_18 ⟨Nat.zero_le _, Nat.zero_le _⟩) hS (fun q _ h => hFc q h) hFc (fun r4 u t H1 locs ht hvm hw hB hz1 hk1 hS => ?_)
    obtain ⟨hP1, hK1, hD1⟩ := hB
    rw [ht] at hP1
    obtain ⟨hP, hD⟩ := va_join (wr := ([0, 1, 2, 22, 23, 24, 25, 26, 27, 28, 29] : List Nat).filterMap (fun i => (tm_wTwo cI cZ a s0)[i]?)) (w1 := (tm_wModem cI cZ (tm_pj [14, 15, 16, 17, 18, 19, 20, 21, 3, 9, 10, 11, 12, 13, 4, 5, 6, 7, 8, 4, 9] a) u)) hP hD [14, 15, 16, 17, 18, 19, 20, 21, 3, 9, 10, 11, 12, 13, 4, 5, 6, 7, 8] [0, 1, 2, 22, 23, 24, 25, 26, 27, 28, 29] rfl rfl (by decide) (by decide) hk1 hFc hP1 hD1
    generalize H1 = H at hP hS ⊢
    obtain ⟨s5, es5⟩ : ∃ y : tm_St, y = tm_pk [14, 15, 16, 17, 18, 19, 20, 21, 3, 9, 10, 11, 12, 13, 4, 5, 6, 7, 8] s0 u := ⟨_, rfl⟩
    have hw := hw s5 es5
    have hP : va_P (dC, dI) vwCl (tm_wTwo cI cZ a s5) H := by rw [es5]; exact hP.sub [0, 1, 2, 19, 25, 26, 27, 28, 29, 20, 21, 22, 23, 24, 11, 12, 13, 14, 15, 16, 17, 18, 3, 4, 5, 6, 7, 8, 9, 10] rfl
    have hD : va_D A (tm_wTwo cI cZ a s5) := by rw [es5]; exact hD.sub [0, 1, 2, 19, 25, 26, 27, 28, 29, 20, 21, 22, 23, 24, 11, 12, 13, 14, 15, 16, 17, 18, 3, 4, 5, 6, 7, 8, 9, 10] (by decide) rfl
    exact W.iret (v := r4) hx hb hr (fun t ht hW => ⟨⟨r4, s5, rfl, hw, by rw [ht]; exact hP, va_K.moved hW.alike hK, hD⟩, hS.F ht⟩) hS.2.2 dX8_end_21
  · subst ek; subst er; have hw := hw.2.1 rfl
    refine W.eq (g2 := F0 m 5 ls (.ref (a 22) :: [])) rfl ?_
    refine lv_astore_n (lv' := [(3, .ref (a 22)), (0, .ref (a 0)), (1, .int p0), (2, .int p1)]) hx hb dX8_end_5 rfl hl (by decide) rfl (fun ls hl => ?_)
    refine lv_aload_n hx hb dX8_end_6 rfl (lv_at hl 0 rfl) ?_
    refine lv_ifnonnull (tgt := 16) hx hb dX8_end_7 (by decide) ?_
    refine lv_aload_n hx hb dX8_end_16 rfl (lv_at hl 0 rfl) ?_
    refine lv_iload_n hx hb dX8_end_17 rfl (lv_at hl 3 rfl) ?_
    have hPc := hP.sub (ws' := (tm_wModem cI cZ (tm_pj [22, 23, 24, 25, 26, 27, 28, 29, 3, 4, 5, 6, 7, 8, 9, 10, 11, 12, 13, 4, 9] a) (tm_pj [22, 23, 24, 25, 26, 27, 28, 29, 3, 4, 5, 6, 7, 8, 9, 10, 11, 12, 13, 4, 9] s0))) [22, 23, 24, 25, 26, 27, 28, 29, 3, 4, 5, 6, 7, 8, 9, 10, 11, 12, 13] rfl
    have hDc := hD.sub (ws' := (tm_wModem cI cZ (tm_pj [22, 23, 24, 25, 26, 27, 28, 29, 3, 4, 5, 6, 7, 8, 9, 10, 11, 12, 13, 4, 9] a) (tm_pj [22, 23, 24, 25, 26, 27, 28, 29, 3, 4, 5, 6, 7, 8, 9, 10, 11, 12, 13, 4, 9] s0))) [22, 23, 24, 25, 26, 27, 28, 29, 3, 4, 5, 6, 7, 8, 9, 10, 11, 12, 13] (by decide) rfl
    have hFc := va_free (wc := (tm_wModem cI cZ (tm_pj [22, 23, 24, 25, 26, 27, 28, 29, 3, 4, 5, 6, 7, 8, 9, 10, 11, 12, 13, 4, 9] a) (tm_pj [22, 23, 24, 25, 26, 27, 28, 29, 3, 4, 5, 6, 7, 8, 9, 10, 11, 12, 13, 4, 9] s0))) hD hS hA [22, 23, 24, 25, 26, 27, 28, 29, 3, 4, 5, 6, 7, 8, 9, 10, 11, 12, 13] rfl
    refine va_calli (va_runV (As := [.int p1]) (rest := []) ⟨hx, hb, hml, hown, hts⟩ (kk_X3_fact l dC dI cI cZ (tm_pj [22, 23, 24, 25, 26, 27, 28, 29, 3, 4, 5, 6, 7, 8, 9, 10, 11, 12, 13, 4, 9] a) (tm_pj [22, 23, 24, 25, 26, 27, 28, 29, 3, 4, 5, 6, 7, 8, 9, 10, 11, 12, 13, 4, 9] s0) H.size p1 _ hw) (cwV 1 hts gX8_end_X3_fact rfl rfl rfl (by decide +kernel) ⟨Nat.le_of_ble_eq_true rfl, Nat.le_of_ble_eq_true rfl⟩) ⟨tm_blind, va_recv hK hPc (ci := 3) (q0 := 0) rfl rfl, fun U hU hW => ⟨rfl, by rw [hU], by rw [hU]; exact hPc, va_K.moved hW.alike hK, hDc.weaken (fun _ _ _ _ => trivial)⟩⟩ rfl rfl hl.1 rfl (lv_room (Nat.le_of_ble_eq_true rfl)) dX8_end_18 ⟨Nat.zero_le _, Nat.zero_le _⟩) hS (fun q _ h => hFc q h) hFc (fun r7 u t H1 locs ht hvm hw hB hz1 hk1 hS => ?_)
    obtain ⟨hP1, hK1, hD1⟩ := hB
    rw [ht] at hP1
    obtain ⟨hP, hD⟩ := va_join (wr := ([0, 1, 2, 14, 15, 16, 17, 18, 19, 20, 21] : List Nat).filterMap (fun i => (tm_wTwo cI cZ a s0)[i]?)) (w1 := (tm_wModem cI cZ (tm_pj [22, 23, 24, 25, 26, 27, 28, 29, 3, 4, 5, 6, 7, 8, 9, 10, 11, 12, 13, 4, 9] a) u)) hP hD [22, 23, 24, 25, 26, 27, 28, 29, 3, 4, 5, 6, 7, 8, 9, 10, 11, 12, 13] [0, 1, 2, 14, 15, 16, 17, 18, 19, 20, 21] rfl rfl (by decide) (by decide) hk1 hFc hP1 hD1
    generalize H1 = H at hP hS ⊢
    obtain ⟨s8, es8⟩ : ∃ y : tm_St, y = tm_pk [22, 23, 24, 25, 26, 27, 28, 29, 3, 4, 5, 6, 7, 8, 9, 10, 11, 12, 13] s0 u := ⟨_, rfl⟩
    have hw := hw s8 es8
    have hP : va_P (dC, dI) vwCl (tm_wTwo cI cZ a s8) H := by rw [es8]; exact hP.sub [0, 1, 2, 19, 20, 21, 22, 23, 24, 25, 26, 27, 28, 29, 3, 4, 5, 6, 7, 8, 9, 10, 11, 12, 13, 14, 15, 16, 17, 18] rfl
    have hD : va_D A (tm_wTwo cI cZ a s8) := by rw [es8]; exact hD.sub [0, 1, 2, 19, 20, 21, 22, 23, 24, 25, 26, 27, 28, 29, 3, 4, 5, 6, 7, 8, 9, 10, 11, 12, 13, 14, 15, 16, 17, 18] (by decide) rfl
    exact W.iret (v := r7) hx hb hr (fun t ht hW => ⟨⟨r7, s8, rfl, hw, by rw [ht]; exact hP, va_K.moved hW.alike hK, hD⟩, hS.F ht⟩) hS.2.2 dX8_end_21
  · subst ek; subst er; have hw := hw.2.2 rfl
    refine W.eq (g2 := F0 m 5 ls (.null :: [])) rfl ?_
    refine lv_astore_nN (lv' := [(3, .null), (0, .ref (a 0)), (1, .int p0), (2, .int p1)]) hx hb dX8_end_5 rfl hl (by decide) rfl (fun ls hl => ?_)
    refine lv_aload_nN hx hb dX8_end_6 rfl (lv_at hl 0 rfl) ?_
    refine lv_ifnonnullN hx hb dX8_end_7 ?_
    refine lv_sipush (v := (-1001)) hx hb dX8_end_10 (by decide) ?_
    refine lv_goto (tgt := 21) hx hb dX8_end_13 (by decide) ?_
    exact W.iret (v := (-1001)) hx hb hr (fun t ht hW => ⟨⟨(-1001), s0, rfl, hw, by rw [ht]; exact hP, va_K.moved hW.alike hK, hD⟩, hS.F ht⟩) hS.2.2 dX8_end_21
def wp_X8_band (p0 : Int32) (p1 : Int32) (s0 : tm_St) (K : Int32 → tm_St → Prop) : Prop := wp_X8_modemAt p0 (fun k3 => (k3 = 0 → ((p1 < 0 → K (-1001) s0) ∧ (¬ p1 < 0 → ((p1 < 8 → (vp_in p1 8 ∧ K (s0 21 (p1 : Int32).toNatClampNeg) s0)) ∧ (¬ p1 < 8 → K (-1001) s0))))) ∧ (k3 = 1 → ((p1 < 0 → K (-1001) s0) ∧ (¬ p1 < 0 → ((p1 < 8 → (vp_in p1 8 ∧ K (s0 29 (p1 : Int32).toNatClampNeg) s0)) ∧ (¬ p1 < 8 → K (-1001) s0))))) ∧ (k3 = 2 → K (-1001) s0))
set_option maxRecDepth 100000 in
set_option maxHeartbeats 4000000 in
theorem kk_X8_band (l : Launch) (dC : Nat → ClassId) (dI : Nat → Nat → Nat) (cI cZ : ClassId) (a : Nat → Nat) (s0 : tm_St) (sz : Nat) (p0 : Int32) (p1 : Int32) (K : Int32 → tm_St → Prop) (hw : wp_X8_band p0 p1 s0 K) : Met l yX8_band wsX8_band ({ frames := 1, cells := 0, slots := 0, locals := 21 }) (va_Pc [.ref (a 0), .int p0, .int p1] (tm_Pre dC dI cI cZ (tm_wTwo cI cZ a s0) sz)) (va_Qi (fun (r : Int32) (u : tm_St) => K r u) (fun (u : tm_St) t => tm_At dC dI cI cZ (va_A (tm_wTwo cI cZ a s0) sz) (tm_wTwo cI cZ a u) t) (va_A (tm_wTwo cI cZ a s0) sz)) 0 0 (va_A (tm_wTwo cI cZ a s0) sz) := by
  refine Met.ofW (cc := cX8_band) (maxL := 4) (ret := (some .int)) (by decide +kernel) rfl ?_
  intro p e z m args below meth c z₁ B hml hv
  obtain ⟨rfl, hsz, hP, hK, hD0⟩ := hv
  have hx := B.exec
  have hb := B.bytes
  have hr := B.returns
  have hts := atoms_spec (ws := wsX8_band) B.pre
  have hown : z.vm.findClass RX8 = some m.cls := findClass_of_methodNamed B.named
  have hlocks := B.notSynchronized
  subst hsz
  have hD := hD0.self (sz := z.heap.size)
  generalize hAe : va_A (tm_wTwo cI cZ a s0) z.heap.size = A at hD ⊢
  have hA : ∀ q : Nat, z.heap.size ≤ q → A q := fun q h => by rw [← hAe]; exact Or.inr h
  have hS : va_S A z.heap z.heap [] := va_S.rf
  have h_f113 := hts (.fieldLink RX8 113 "TwoModems$Modem" "noted" "[I") (by decide +kernel)
  have h_in3 : ∀ w ∈ u_ws RX3 TX3 20, w ∈ wsX8_band := by decide +kernel
  have hl := lv_entry ([.ref (a 0), .int p0, .int p1]) (n := 4) (Nat.le_of_ble_eq_true rfl)
  rw [lg_entry_eq]
  generalize (lg_sl ([.ref (a 0), .int p0, .int p1]) ++ List.replicate (4 - (lg_sl ([.ref (a 0), .int p0, .int p1])).length) Slot.unset).toArray = ls at hl ⊢
  have hl : lv_has ls 4 [(0, .ref (a 0)), (1, .int p0), (2, .int p1)] := hl
  unfold wp_X8_band at hw
  refine lv_aload_n hx hb dX8_band_0 rfl (lv_at hl 0 rfl) ?_
  refine lv_iload_n hx hb dX8_band_1 rfl (lv_at hl 1 rfl) ?_
  have hPc := hP
  have hDc := hD
  have hFc := va_free (wc := (tm_wTwo cI cZ a s0)) hD hS hA [0, 1, 2, 3, 4, 5, 6, 7, 8, 9, 10, 11, 12, 13, 14, 15, 16, 17, 18, 19, 20, 21, 22, 23, 24, 25, 26, 27, 28, 29] rfl
  refine va_callq (va_runV (As := [.int p0]) (rest := []) ⟨hx, hb, hml, hown, hts⟩ (kk_X8_modemAt l dC dI cI cZ a s0 z.heap.size p0 _ hw) (cwV 1 hts gX8_band_X8_modemAt rfl rfl rfl (by decide +kernel) ⟨Nat.le_of_ble_eq_true rfl, Nat.le_of_ble_eq_true rfl⟩) ⟨tm_blind, va_recv hK hPc (ci := 6) (q0 := 0) rfl rfl, fun U hU hW => ⟨rfl, by rw [hU], by rw [hU]; exact hPc, va_K.moved hW.alike hK, hDc.weaken (fun _ _ _ _ => trivial)⟩⟩ rfl rfl hl.1 rfl (lv_room (Nat.le_of_ble_eq_true rfl)) dX8_band_2 ⟨Nat.zero_le _, Nat.zero_le _⟩) hS (fun q _ h => hFc q h) hFc (fun r1 u t H1 locs ht hvm hw hB hz1 hk1 hS => ?_)
  obtain ⟨hP1, hK1, hD1⟩ := hB
  rw [ht] at hP1
  obtain ⟨eu, k3, hw, hq⟩ := hw
  rw [eu] at hP1 hD1
  obtain ⟨hP, hD⟩ := va_join (wr := []) (w1 := (tm_wTwo cI cZ a s0)) hP hD [0, 1, 2, 3, 4, 5, 6, 7, 8, 9, 10, 11, 12, 13, 14, 15, 16, 17, 18, 19, 20, 21, 22, 23, 24, 25, 26, 27, 28, 29] [] rfl rfl (by decide) (by decide) hk1 hFc hP1 hD1
  have hP : va_P (dC, dI) vwCl (tm_wTwo cI cZ a s0) H1 := hP
  have hD : va_D A (tm_wTwo cI cZ a s0) := hD
  generalize H1 = H at hP hS ⊢
  rcases hq with ⟨ek, er⟩ | ⟨ek, er⟩ | ⟨ek, er⟩
  · subst ek; subst er; have hw := hw.1 rfl
    refine W.eq (g2 := F0 m 5 ls (.ref (a 14) :: [])) rfl ?_
    refine lv_astore_n (lv' := [(3, .ref (a 14)), (0, .ref (a 0)), (1, .int p0), (2, .int p1)]) hx hb dX8_band_5 rfl hl (by decide) rfl (fun ls hl => ?_)
    refine lv_aload_n hx hb dX8_band_6 rfl (lv_at hl 0 rfl) ?_
    refine lv_ifnull hx hb dX8_band_7 ?_
    refine lv_iload_n hx hb dX8_band_10 rfl (lv_at hl 3 rfl) ?_
    refine lv_if_lt (tgt := 20) hx hb dX8_band_11 (by decide) (fun c4 => ?_) (fun c4 => ?_)
    · have hw := hw.1 c4
      refine lv_sipush (v := (-1001)) hx hb dX8_band_20 (by decide) ?_
      exact W.iret (v := (-1001)) hx hb hr (fun t ht hW => ⟨⟨(-1001), s0, rfl, hw, by rw [ht]; exact hP, va_K.moved hW.alike hK, hD⟩, hS.F ht⟩) hS.2.2 dX8_band_23
    · have hw := hw.2 c4
      refine lv_iload_n hx hb dX8_band_14 rfl (lv_at hl 3 rfl) ?_
      refine lv_bipush (v := 8) hx hb dX8_band_15 (by decide) ?_
      refine lv_icmp_lt (tgt := 24) hx hb dX8_band_17 (by decide) (fun c5 => ?_) (fun c5 => ?_)
      · have hw := hw.1 c5
        refine lv_aload_n hx hb dX8_band_24 rfl (lv_at hl 0 rfl) ?_
        refine va_get (D := (dC, dI)) (ci := 3) (v := .ref (a 21)) (C := RX3) (T := TX3) (N := 20) hx hb hts h_in3 hown hK hP 14 rfl rfl 5 (by decide) h_f113 (fun _ h9 => h9) rfl dX8_band_25 ?_
        refine lv_iload_n hx hb dX8_band_28 rfl (lv_at hl 3 rfl) ?_
        have c6 := hw.1
        have hw := hw.2
        refine va_iald hx hb hK hP 21 0 rfl rfl c6 dX8_band_29 ?_
        exact W.iret (v := (s0 21 (p1 : Int32).toNatClampNeg)) hx hb hr (fun t ht hW => ⟨⟨(s0 21 (p1 : Int32).toNatClampNeg), s0, rfl, hw, by rw [ht]; exact hP, va_K.moved hW.alike hK, hD⟩, hS.F ht⟩) hS.2.2 dX8_band_30
      · have hw := hw.2 c5
        refine lv_sipush (v := (-1001)) hx hb dX8_band_20 (by decide) ?_
        exact W.iret (v := (-1001)) hx hb hr (fun t ht hW => ⟨⟨(-1001), s0, rfl, hw, by rw [ht]; exact hP, va_K.moved hW.alike hK, hD⟩, hS.F ht⟩) hS.2.2 dX8_band_23
  · subst ek; subst er; have hw := hw.2.1 rfl
    refine W.eq (g2 := F0 m 5 ls (.ref (a 22) :: [])) rfl ?_
    refine lv_astore_n (lv' := [(3, .ref (a 22)), (0, .ref (a 0)), (1, .int p0), (2, .int p1)]) hx hb dX8_band_5 rfl hl (by decide) rfl (fun ls hl => ?_)
    refine lv_aload_n hx hb dX8_band_6 rfl (lv_at hl 0 rfl) ?_
    refine lv_ifnull hx hb dX8_band_7 ?_
    refine lv_iload_n hx hb dX8_band_10 rfl (lv_at hl 3 rfl) ?_
    refine lv_if_lt (tgt := 20) hx hb dX8_band_11 (by decide) (fun c7 => ?_) (fun c7 => ?_)
    · have hw := hw.1 c7
      refine lv_sipush (v := (-1001)) hx hb dX8_band_20 (by decide) ?_
      exact W.iret (v := (-1001)) hx hb hr (fun t ht hW => ⟨⟨(-1001), s0, rfl, hw, by rw [ht]; exact hP, va_K.moved hW.alike hK, hD⟩, hS.F ht⟩) hS.2.2 dX8_band_23
    · have hw := hw.2 c7
      refine lv_iload_n hx hb dX8_band_14 rfl (lv_at hl 3 rfl) ?_
      refine lv_bipush (v := 8) hx hb dX8_band_15 (by decide) ?_
      refine lv_icmp_lt (tgt := 24) hx hb dX8_band_17 (by decide) (fun c8 => ?_) (fun c8 => ?_)
      · have hw := hw.1 c8
        refine lv_aload_n hx hb dX8_band_24 rfl (lv_at hl 0 rfl) ?_
        refine va_get (D := (dC, dI)) (ci := 3) (v := .ref (a 29)) (C := RX3) (T := TX3) (N := 20) hx hb hts h_in3 hown hK hP 22 rfl rfl 5 (by decide) h_f113 (fun _ h9 => h9) rfl dX8_band_25 ?_
        refine lv_iload_n hx hb dX8_band_28 rfl (lv_at hl 3 rfl) ?_
        have c9 := hw.1
        have hw := hw.2
        refine va_iald hx hb hK hP 29 0 rfl rfl c9 dX8_band_29 ?_
        exact W.iret (v := (s0 29 (p1 : Int32).toNatClampNeg)) hx hb hr (fun t ht hW => ⟨⟨(s0 29 (p1 : Int32).toNatClampNeg), s0, rfl, hw, by rw [ht]; exact hP, va_K.moved hW.alike hK, hD⟩, hS.F ht⟩) hS.2.2 dX8_band_30
      · have hw := hw.2 c8
        refine lv_sipush (v := (-1001)) hx hb dX8_band_20 (by decide) ?_
        exact W.iret (v := (-1001)) hx hb hr (fun t ht hW => ⟨⟨(-1001), s0, rfl, hw, by rw [ht]; exact hP, va_K.moved hW.alike hK, hD⟩, hS.F ht⟩) hS.2.2 dX8_band_23
  · subst ek; subst er; have hw := hw.2.2 rfl
    refine W.eq (g2 := F0 m 5 ls (.null :: [])) rfl ?_
    refine lv_astore_nN (lv' := [(3, .null), (0, .ref (a 0)), (1, .int p0), (2, .int p1)]) hx hb dX8_band_5 rfl hl (by decide) rfl (fun ls hl => ?_)
    refine lv_aload_nN hx hb dX8_band_6 rfl (lv_at hl 0 rfl) ?_
    refine lv_ifnullN (tgt := 20) hx hb dX8_band_7 (by decide) ?_
    refine lv_sipush (v := (-1001)) hx hb dX8_band_20 (by decide) ?_
    exact W.iret (v := (-1001)) hx hb hr (fun t ht hW => ⟨⟨(-1001), s0, rfl, hw, by rw [ht]; exact hP, va_K.moved hW.alike hK, hD⟩, hS.F ht⟩) hS.2.2 dX8_band_23
def wp_X8_learnt (p0 : Int32) (p1 : Int32) (s0 : tm_St) (K : Int32 → tm_St → Prop) : Prop := wp_X8_modemAt p0 (fun k3 => (k3 = 0 → ((p1 < 0 → K (-1001) s0) ∧ (¬ p1 < 0 → ((p1 < 4 → (vp_in p1 4 ∧ K (s0 17 (p1 : Int32).toNatClampNeg) s0)) ∧ (¬ p1 < 4 → K (-1001) s0))))) ∧ (k3 = 1 → ((p1 < 0 → K (-1001) s0) ∧ (¬ p1 < 0 → ((p1 < 4 → (vp_in p1 4 ∧ K (s0 25 (p1 : Int32).toNatClampNeg) s0)) ∧ (¬ p1 < 4 → K (-1001) s0))))) ∧ (k3 = 2 → K (-1001) s0))
set_option maxRecDepth 100000 in
set_option maxHeartbeats 4000000 in
theorem kk_X8_learnt (l : Launch) (dC : Nat → ClassId) (dI : Nat → Nat → Nat) (cI cZ : ClassId) (a : Nat → Nat) (s0 : tm_St) (sz : Nat) (p0 : Int32) (p1 : Int32) (K : Int32 → tm_St → Prop) (hw : wp_X8_learnt p0 p1 s0 K) : Met l yX8_learnt wsX8_learnt ({ frames := 1, cells := 0, slots := 0, locals := 21 }) (va_Pc [.ref (a 0), .int p0, .int p1] (tm_Pre dC dI cI cZ (tm_wTwo cI cZ a s0) sz)) (va_Qi (fun (r : Int32) (u : tm_St) => K r u) (fun (u : tm_St) t => tm_At dC dI cI cZ (va_A (tm_wTwo cI cZ a s0) sz) (tm_wTwo cI cZ a u) t) (va_A (tm_wTwo cI cZ a s0) sz)) 0 0 (va_A (tm_wTwo cI cZ a s0) sz) := by
  refine Met.ofW (cc := cX8_learnt) (maxL := 4) (ret := (some .int)) (by decide +kernel) rfl ?_
  intro p e z m args below meth c z₁ B hml hv
  obtain ⟨rfl, hsz, hP, hK, hD0⟩ := hv
  have hx := B.exec
  have hb := B.bytes
  have hr := B.returns
  have hts := atoms_spec (ws := wsX8_learnt) B.pre
  have hown : z.vm.findClass RX8 = some m.cls := findClass_of_methodNamed B.named
  have hlocks := B.notSynchronized
  subst hsz
  have hD := hD0.self (sz := z.heap.size)
  generalize hAe : va_A (tm_wTwo cI cZ a s0) z.heap.size = A at hD ⊢
  have hA : ∀ q : Nat, z.heap.size ≤ q → A q := fun q h => by rw [← hAe]; exact Or.inr h
  have hS : va_S A z.heap z.heap [] := va_S.rf
  have h_f86 := hts (.fieldLink RX8 86 "TwoModems$Modem" "echo" "LTwoModems$Echo;") (by decide +kernel)
  have h_in3 : ∀ w ∈ u_ws RX3 TX3 20, w ∈ wsX8_learnt := by decide +kernel
  have h_f116 := hts (.fieldLink RX8 116 "TwoModems$Echo" "learnt" "[I") (by decide +kernel)
  have h_in0 : ∀ w ∈ u_ws RX0 TX0 2, w ∈ wsX8_learnt := by decide +kernel
  have hl := lv_entry ([.ref (a 0), .int p0, .int p1]) (n := 4) (Nat.le_of_ble_eq_true rfl)
  rw [lg_entry_eq]
  generalize (lg_sl ([.ref (a 0), .int p0, .int p1]) ++ List.replicate (4 - (lg_sl ([.ref (a 0), .int p0, .int p1])).length) Slot.unset).toArray = ls at hl ⊢
  have hl : lv_has ls 4 [(0, .ref (a 0)), (1, .int p0), (2, .int p1)] := hl
  unfold wp_X8_learnt at hw
  refine lv_aload_n hx hb dX8_learnt_0 rfl (lv_at hl 0 rfl) ?_
  refine lv_iload_n hx hb dX8_learnt_1 rfl (lv_at hl 1 rfl) ?_
  have hPc := hP
  have hDc := hD
  have hFc := va_free (wc := (tm_wTwo cI cZ a s0)) hD hS hA [0, 1, 2, 3, 4, 5, 6, 7, 8, 9, 10, 11, 12, 13, 14, 15, 16, 17, 18, 19, 20, 21, 22, 23, 24, 25, 26, 27, 28, 29] rfl
  refine va_callq (va_runV (As := [.int p0]) (rest := []) ⟨hx, hb, hml, hown, hts⟩ (kk_X8_modemAt l dC dI cI cZ a s0 z.heap.size p0 _ hw) (cwV 1 hts gX8_learnt_X8_modemAt rfl rfl rfl (by decide +kernel) ⟨Nat.le_of_ble_eq_true rfl, Nat.le_of_ble_eq_true rfl⟩) ⟨tm_blind, va_recv hK hPc (ci := 6) (q0 := 0) rfl rfl, fun U hU hW => ⟨rfl, by rw [hU], by rw [hU]; exact hPc, va_K.moved hW.alike hK, hDc.weaken (fun _ _ _ _ => trivial)⟩⟩ rfl rfl hl.1 rfl (lv_room (Nat.le_of_ble_eq_true rfl)) dX8_learnt_2 ⟨Nat.zero_le _, Nat.zero_le _⟩) hS (fun q _ h => hFc q h) hFc (fun r1 u t H1 locs ht hvm hw hB hz1 hk1 hS => ?_)
  obtain ⟨hP1, hK1, hD1⟩ := hB
  rw [ht] at hP1
  obtain ⟨eu, k3, hw, hq⟩ := hw
  rw [eu] at hP1 hD1
  obtain ⟨hP, hD⟩ := va_join (wr := []) (w1 := (tm_wTwo cI cZ a s0)) hP hD [0, 1, 2, 3, 4, 5, 6, 7, 8, 9, 10, 11, 12, 13, 14, 15, 16, 17, 18, 19, 20, 21, 22, 23, 24, 25, 26, 27, 28, 29] [] rfl rfl (by decide) (by decide) hk1 hFc hP1 hD1
  have hP : va_P (dC, dI) vwCl (tm_wTwo cI cZ a s0) H1 := hP
  have hD : va_D A (tm_wTwo cI cZ a s0) := hD
  generalize H1 = H at hP hS ⊢
  rcases hq with ⟨ek, er⟩ | ⟨ek, er⟩ | ⟨ek, er⟩
  · subst ek; subst er; have hw := hw.1 rfl
    refine W.eq (g2 := F0 m 5 ls (.ref (a 14) :: [])) rfl ?_
    refine lv_astore_n (lv' := [(3, .ref (a 14)), (0, .ref (a 0)), (1, .int p0), (2, .int p1)]) hx hb dX8_learnt_5 rfl hl (by decide) rfl (fun ls hl => ?_)
    refine lv_aload_n hx hb dX8_learnt_6 rfl (lv_at hl 0 rfl) ?_
    refine lv_ifnull hx hb dX8_learnt_7 ?_
    refine lv_iload_n hx hb dX8_learnt_10 rfl (lv_at hl 3 rfl) ?_
    refine lv_if_lt (tgt := 19) hx hb dX8_learnt_11 (by decide) (fun c4 => ?_) (fun c4 => ?_)
    · have hw := hw.1 c4
      refine lv_sipush (v := (-1001)) hx hb dX8_learnt_19 (by decide) ?_
      exact W.iret (v := (-1001)) hx hb hr (fun t ht hW => ⟨⟨(-1001), s0, rfl, hw, by rw [ht]; exact hP, va_K.moved hW.alike hK, hD⟩, hS.F ht⟩) hS.2.2 dX8_learnt_22
    · have hw := hw.2 c4
      refine lv_iload_n hx hb dX8_learnt_14 rfl (lv_at hl 3 rfl) ?_
      refine lv_iconst (v := 4) hx hb dX8_learnt_15 (by decide) ?_
      refine lv_icmp_lt (tgt := 23) hx hb dX8_learnt_16 (by decide) (fun c5 => ?_) (fun c5 => ?_)
      · have hw := hw.1 c5
        refine lv_aload_n hx hb dX8_learnt_23 rfl (lv_at hl 0 rfl) ?_
        refine va_get (D := (dC, dI)) (ci := 3) (v := .ref (a 15)) (C := RX3) (T := TX3) (N := 20) hx hb hts h_in3 hown hK hP 14 rfl rfl 3 (by decide) h_f86 (fun _ h9 => h9) rfl dX8_learnt_24 ?_
        refine va_get (D := (dC, dI)) (ci := 0) (v := .ref (a 17)) (C := RX0) (T := TX0) (N := 2) hx hb hts h_in0 hown hK hP 15 rfl rfl 1 (by decide) h_f116 (fun _ h9 => h9) rfl dX8_learnt_27 ?_
        refine lv_iload_n hx hb dX8_learnt_30 rfl (lv_at hl 3 rfl) ?_
        have c6 := hw.1
        have hw := hw.2
        refine va_iald hx hb hK hP 17 0 rfl rfl c6 dX8_learnt_31 ?_
        exact W.iret (v := (s0 17 (p1 : Int32).toNatClampNeg)) hx hb hr (fun t ht hW => ⟨⟨(s0 17 (p1 : Int32).toNatClampNeg), s0, rfl, hw, by rw [ht]; exact hP, va_K.moved hW.alike hK, hD⟩, hS.F ht⟩) hS.2.2 dX8_learnt_32
      · have hw := hw.2 c5
        refine lv_sipush (v := (-1001)) hx hb dX8_learnt_19 (by decide) ?_
        exact W.iret (v := (-1001)) hx hb hr (fun t ht hW => ⟨⟨(-1001), s0, rfl, hw, by rw [ht]; exact hP, va_K.moved hW.alike hK, hD⟩, hS.F ht⟩) hS.2.2 dX8_learnt_22
  · subst ek; subst er; have hw := hw.2.1 rfl
    refine W.eq (g2 := F0 m 5 ls (.ref (a 22) :: [])) rfl ?_
    refine lv_astore_n (lv' := [(3, .ref (a 22)), (0, .ref (a 0)), (1, .int p0), (2, .int p1)]) hx hb dX8_learnt_5 rfl hl (by decide) rfl (fun ls hl => ?_)
    refine lv_aload_n hx hb dX8_learnt_6 rfl (lv_at hl 0 rfl) ?_
    refine lv_ifnull hx hb dX8_learnt_7 ?_
    refine lv_iload_n hx hb dX8_learnt_10 rfl (lv_at hl 3 rfl) ?_
    refine lv_if_lt (tgt := 19) hx hb dX8_learnt_11 (by decide) (fun c7 => ?_) (fun c7 => ?_)
    · have hw := hw.1 c7
      refine lv_sipush (v := (-1001)) hx hb dX8_learnt_19 (by decide) ?_
      exact W.iret (v := (-1001)) hx hb hr (fun t ht hW => ⟨⟨(-1001), s0, rfl, hw, by rw [ht]; exact hP, va_K.moved hW.alike hK, hD⟩, hS.F ht⟩) hS.2.2 dX8_learnt_22
    · have hw := hw.2 c7
      refine lv_iload_n hx hb dX8_learnt_14 rfl (lv_at hl 3 rfl) ?_
      refine lv_iconst (v := 4) hx hb dX8_learnt_15 (by decide) ?_
      refine lv_icmp_lt (tgt := 23) hx hb dX8_learnt_16 (by decide) (fun c8 => ?_) (fun c8 => ?_)
      · have hw := hw.1 c8
        refine lv_aload_n hx hb dX8_learnt_23 rfl (lv_at hl 0 rfl) ?_
        refine va_get (D := (dC, dI)) (ci := 3) (v := .ref (a 23)) (C := RX3) (T := TX3) (N := 20) hx hb hts h_in3 hown hK hP 22 rfl rfl 3 (by decide) h_f86 (fun _ h9 => h9) rfl dX8_learnt_24 ?_
        refine va_get (D := (dC, dI)) (ci := 0) (v := .ref (a 25)) (C := RX0) (T := TX0) (N := 2) hx hb hts h_in0 hown hK hP 23 rfl rfl 1 (by decide) h_f116 (fun _ h9 => h9) rfl dX8_learnt_27 ?_
        refine lv_iload_n hx hb dX8_learnt_30 rfl (lv_at hl 3 rfl) ?_
        have c9 := hw.1
        have hw := hw.2
        refine va_iald hx hb hK hP 25 0 rfl rfl c9 dX8_learnt_31 ?_
        exact W.iret (v := (s0 25 (p1 : Int32).toNatClampNeg)) hx hb hr (fun t ht hW => ⟨⟨(s0 25 (p1 : Int32).toNatClampNeg), s0, rfl, hw, by rw [ht]; exact hP, va_K.moved hW.alike hK, hD⟩, hS.F ht⟩) hS.2.2 dX8_learnt_32
      · have hw := hw.2 c8
        refine lv_sipush (v := (-1001)) hx hb dX8_learnt_19 (by decide) ?_
        exact W.iret (v := (-1001)) hx hb hr (fun t ht hW => ⟨⟨(-1001), s0, rfl, hw, by rw [ht]; exact hP, va_K.moved hW.alike hK, hD⟩, hS.F ht⟩) hS.2.2 dX8_learnt_22
  · subst ek; subst er; have hw := hw.2.2 rfl
    refine W.eq (g2 := F0 m 5 ls (.null :: [])) rfl ?_
    refine lv_astore_nN (lv' := [(3, .null), (0, .ref (a 0)), (1, .int p0), (2, .int p1)]) hx hb dX8_learnt_5 rfl hl (by decide) rfl (fun ls hl => ?_)
    refine lv_aload_nN hx hb dX8_learnt_6 rfl (lv_at hl 0 rfl) ?_
    refine lv_ifnullN (tgt := 19) hx hb dX8_learnt_7 (by decide) ?_
    refine lv_sipush (v := (-1001)) hx hb dX8_learnt_19 (by decide) ?_
    exact W.iret (v := (-1001)) hx hb hr (fun t ht hW => ⟨⟨(-1001), s0, rfl, hw, by rw [ht]; exact hP, va_K.moved hW.alike hK, hD⟩, hS.F ht⟩) hS.2.2 dX8_learnt_22
def wp_X8_got (p0 : Int32) (p1 : Int32) (s0 : tm_St) (K : Int32 → tm_St → Prop) : Prop := wp_X8_modemAt p0 (fun k3 => (k3 = 0 → ((p1 < 0 → K (-1001) s0) ∧ (¬ p1 < 0 → ((p1 < (s0 18 3) → (wp_X2_takenAt p1 (tm_pj [18, 19, 20] s0) (fun r6 u8 => ∀ s7 : tm_St, s7 = tm_pk [18, 19, 20] s0 u8 → K r6 s7))) ∧ (¬ p1 < (s0 18 3) → K (-1001) s0))))) ∧ (k3 = 1 → ((p1 < 0 → K (-1001) s0) ∧ (¬ p1 < 0 → ((p1 < (s0 26 3) → (wp_X2_takenAt p1 (tm_pj [26, 27, 28] s0) (fun r11 u13 => ∀ s12 : tm_St, s12 = tm_pk [26, 27, 28] s0 u13 → K r11 s12))) ∧ (¬ p1 < (s0 26 3) → K (-1001) s0))))) ∧ (k3 = 2 → K (-1001) s0))
set_option maxRecDepth 100000 in
set_option maxHeartbeats 4000000 in
theorem kk_X8_got (l : Launch) (dC : Nat → ClassId) (dI : Nat → Nat → Nat) (cI cZ : ClassId) (a : Nat → Nat) (s0 : tm_St) (sz : Nat) (p0 : Int32) (p1 : Int32) (K : Int32 → tm_St → Prop) (hw : wp_X8_got p0 p1 s0 K) : Met l yX8_got wsX8_got ({ frames := 1, cells := 0, slots := 0, locals := 21 }) (va_Pc [.ref (a 0), .int p0, .int p1] (tm_Pre dC dI cI cZ (tm_wTwo cI cZ a s0) sz)) (va_Qi (fun (r : Int32) (u : tm_St) => K r u) (fun (u : tm_St) t => tm_At dC dI cI cZ (va_A (tm_wTwo cI cZ a s0) sz) (tm_wTwo cI cZ a u) t) (va_A (tm_wTwo cI cZ a s0) sz)) 0 0 (va_A (tm_wTwo cI cZ a s0) sz) := by
  refine Met.ofW (cc := cX8_got) (maxL := 4) (ret := (some .int)) (by decide +kernel) rfl ?_
  intro p e z m args below meth c z₁ B hml hv
  obtain ⟨rfl, hsz, hP, hK, hD0⟩ := hv
  have hx := B.exec
  have hb := B.bytes
  have hr := B.returns
  have hts := atoms_spec (ws := wsX8_got) B.pre
  have hown : z.vm.findClass RX8 = some m.cls := findClass_of_methodNamed B.named
  have hlocks := B.notSynchronized
  subst hsz
  have hD := hD0.self (sz := z.heap.size)
  generalize hAe : va_A (tm_wTwo cI cZ a s0) z.heap.size = A at hD ⊢
  have hA : ∀ q : Nat, z.heap.size ≤ q → A q := fun q h => by rw [← hAe]; exact Or.inr h
  have hS : va_S A z.heap z.heap [] := va_S.rf
  have h_f72 := hts (.fieldLink RX8 72 "TwoModems$Modem" "mail" "LTwoModems$Mail;") (by decide +kernel)
  have h_in3 : ∀ w ∈ u_ws RX3 TX3 20, w ∈ wsX8_got := by decide +kernel
  have h_f119 := hts (.fieldLink RX8 119 "TwoModems$Mail" "taken" "I") (by decide +kernel)
  have h_in2 : ∀ w ∈ u_ws RX2 TX2 8, w ∈ wsX8_got := by decide +kernel
  have hl := lv_entry ([.ref (a 0), .int p0, .int p1]) (n := 4) (Nat.le_of_ble_eq_true rfl)
  rw [lg_entry_eq]
  generalize (lg_sl ([.ref (a 0), .int p0, .int p1]) ++ List.replicate (4 - (lg_sl ([.ref (a 0), .int p0, .int p1])).length) Slot.unset).toArray = ls at hl ⊢
  have hl : lv_has ls 4 [(0, .ref (a 0)), (1, .int p0), (2, .int p1)] := hl
  unfold wp_X8_got at hw
  refine lv_aload_n hx hb dX8_got_0 rfl (lv_at hl 0 rfl) ?_
  refine lv_iload_n hx hb dX8_got_1 rfl (lv_at hl 1 rfl) ?_
  have hPc := hP
  have hDc := hD
  have hFc := va_free (wc := (tm_wTwo cI cZ a s0)) hD hS hA [0, 1, 2, 3, 4, 5, 6, 7, 8, 9, 10, 11, 12, 13, 14, 15, 16, 17, 18, 19, 20, 21, 22, 23, 24, 25, 26, 27, 28, 29] rfl
  refine va_callq (va_runV (As := [.int p0]) (rest := []) ⟨hx, hb, hml, hown, hts⟩ (kk_X8_modemAt l dC dI cI cZ a s0 z.heap.size p0 _ hw) (cwV 1 hts gX8_got_X8_modemAt rfl rfl rfl (by decide +kernel) ⟨Nat.le_of_ble_eq_true rfl, Nat.le_of_ble_eq_true rfl⟩) ⟨tm_blind, va_recv hK hPc (ci := 6) (q0 := 0) rfl rfl, fun U hU hW => ⟨rfl, by rw [hU], by rw [hU]; exact hPc, va_K.moved hW.alike hK, hDc.weaken (fun _ _ _ _ => trivial)⟩⟩ rfl rfl hl.1 rfl (lv_room (Nat.le_of_ble_eq_true rfl)) dX8_got_2 ⟨Nat.zero_le _, Nat.zero_le _⟩) hS (fun q _ h => hFc q h) hFc (fun r1 u t H1 locs ht hvm hw hB hz1 hk1 hS => ?_)
  obtain ⟨hP1, hK1, hD1⟩ := hB
  rw [ht] at hP1
  obtain ⟨eu, k3, hw, hq⟩ := hw
  rw [eu] at hP1 hD1
  obtain ⟨hP, hD⟩ := va_join (wr := []) (w1 := (tm_wTwo cI cZ a s0)) hP hD [0, 1, 2, 3, 4, 5, 6, 7, 8, 9, 10, 11, 12, 13, 14, 15, 16, 17, 18, 19, 20, 21, 22, 23, 24, 25, 26, 27, 28, 29] [] rfl rfl (by decide) (by decide) hk1 hFc hP1 hD1
  have hP : va_P (dC, dI) vwCl (tm_wTwo cI cZ a s0) H1 := hP
  have hD : va_D A (tm_wTwo cI cZ a s0) := hD
  generalize H1 = H at hP hS ⊢
  rcases hq with ⟨ek, er⟩ | ⟨ek, er⟩ | ⟨ek, er⟩
  · subst ek; subst er; have hw := hw.1 rfl
    refine W.eq (g2 := F0 m 5 ls (.ref (a 14) :: [])) rfl ?_
    refine lv_astore_n (lv' := [(3, .ref (a 14)), (0, .ref (a 0)), (1, .int p0), (2, .int p1)]) hx hb dX8_got_5 rfl hl (by decide) rfl (fun ls hl => ?_)
    refine lv_aload_n hx hb dX8_got_6 rfl (lv_at hl 0 rfl) ?_
    refine lv_ifnull hx hb dX8_got_7 ?_
    refine lv_iload_n hx hb dX8_got_10 rfl (lv_at hl 3 rfl) ?_
    refine lv_if_lt (tgt := 25) hx hb dX8_got_11 (by decide) (fun c4 => ?_) (fun c4 => ?_)
    · have hw := hw.1 c4
      refine lv_sipush (v := (-1001)) hx hb dX8_got_25 (by decide) ?_
      exact W.iret (v := (-1001)) hx hb hr (fun t ht hW => ⟨⟨(-1001), s0, rfl, hw, by rw [ht]; exact hP, va_K.moved hW.alike hK, hD⟩, hS.F ht⟩) hS.2.2 dX8_got_28
    · have hw := hw.2 c4
      refine lv_iload_n hx hb dX8_got_14 rfl (lv_at hl 3 rfl) ?_
      refine lv_aload_n hx hb dX8_got_15 rfl (lv_at hl 0 rfl) ?_
      refine va_get (D := (dC, dI)) (ci := 3) (v := .ref (a 18)) (C := RX3) (T := TX3) (N := 20) hx hb hts h_in3 hown hK hP 14 rfl rfl 4 (by decide) h_f72 (fun _ h9 => h9) rfl dX8_got_16 ?_
      refine va_get (D := (dC, dI)) (ci := 2) (v := .int (s0 18 3)) (C := RX2) (T := TX2) (N := 8) hx hb hts h_in2 hown hK hP 18 rfl rfl 3 (by decide) h_f119 (fun _ h9 => h9) rfl dX8_got_19 ?_
      refine lv_icmp_lt (tgt := 29) hx hb dX8_got_22 (by decide) (fun c5 => ?_) (fun c5 => ?_)
      · have hw := hw.1 c5
        refine lv_aload_n hx hb dX8_got_29 rfl (lv_at hl 0 rfl) ?_
        refine va_get (D := (dC, dI)) (ci := 3) (v := .ref (a 18)) (C := RX3) (T := TX3) (N := 20) hx hb hts h_in3 hown hK hP 14 rfl rfl 4 (by decide) h_f72 (fun _ h9 => h9) rfl dX8_got_30 ?_
        refine lv_iload_n hx hb dX8_got_33 rfl (lv_at hl 3 rfl) ?_
        have hPc := hP.sub (ws' := (tm_wMail cI cZ (tm_pj [18, 19, 20] a) (tm_pj [18, 19, 20] s0))) [18, 19, 20] rfl
        have hDc := hD.sub (ws' := (tm_wMail cI cZ (tm_pj [18, 19, 20] a) (tm_pj [18, 19, 20] s0))) [18, 19, 20] (by decide) rfl
        have hFc := va_free (wc := (tm_wMail cI cZ (tm_pj [18, 19, 20] a) (tm_pj [18, 19, 20] s0))) hD hS hA [18, 19, 20] rfl
        refine va_calli (va_runV (As := [.int p1]) (rest := []) ⟨hx, hb, hml, hown, hts⟩ (kk_X2_takenAt l dC dI cI cZ (tm_pj [18, 19, 20] a) (tm_pj [18, 19, 20] s0) H.size p1 _ hw) (cwV 1 hts gX8_got_X2_takenAt rfl rfl rfl (by decide +kernel) ⟨Nat.le_of_ble_eq_true rfl, Nat.le_of_ble_eq_true rfl⟩) ⟨tm_blind, va_recv hK hPc (ci := 2) (q0 := 0) rfl rfl, fun U hU hW => ⟨rfl, by rw [hU], by rw [hU]; exact hPc, va_K.moved hW.alike hK, hDc.weaken (fun _ _ _ _ => trivial)⟩⟩ rfl rfl hl.1 rfl (lv_room (Nat.le_of_ble_eq_true rfl)) dX8_got_34 ⟨Nat.zero_le _, Nat.zero_le _⟩) hS (fun q _ h => hFc q h) hFc (fun r6 u t H1 locs ht hvm hw hB hz1 hk1 hS => ?_)
        obtain ⟨hP1, hK1, hD1⟩ := hB
        rw [ht] at hP1
        obtain ⟨hP, hD⟩ := va_join (wr := ([0, 1, 2, 3, 4, 5, 6, 7, 8, 9, 10, 11, 12, 13, 14, 15, 16, 17, 21, 22, 23, 24, 25, 26, 27, 28, 29] : List Nat).filterMap (fun i => (tm_wTwo cI cZ a s0)[i]?)) (w1 := (tm_wMail cI cZ (tm_pj [18, 19, 20] a) u)) hP hD [18, 19, 20] [0, 1, 2, 3, 4, 5, 6, 7, 8, 9, 10, 11, 12, 13, 14, 15, 16, 17, 21, 22, 23, 24, 25, 26, 27, 28, 29] rfl rfl (by decide) (by decide) hk1 hFc hP1 hD1
        generalize H1 = H at hP hS ⊢
        obtain ⟨s7, es7⟩ : ∃ y : tm_St, y = tm_pk [18, 19, 20] s0 u := ⟨_, rfl⟩
        have hw := hw s7 es7
        have hP : va_P (dC, dI) vwCl (tm_wTwo cI cZ a s7) H := by rw [es7]; exact hP.sub [0, 1, 2, 3, 4, 5, 6, 7, 8, 9, 10, 11, 12, 13, 14, 15, 16, 17, 27, 28, 29, 18, 19, 20, 21, 22, 23, 24, 25, 26] rfl
        have hD : va_D A (tm_wTwo cI cZ a s7) := by rw [es7]; exact hD.sub [0, 1, 2, 3, 4, 5, 6, 7, 8, 9, 10, 11, 12, 13, 14, 15, 16, 17, 27, 28, 29, 18, 19, 20, 21, 22, 23, 24, 25, 26] (by decide) rfl
        exact W.iret (v := r6) hx hb hr (fun t ht hW => ⟨⟨r6, s7, rfl, hw, by rw [ht]; exact hP, va_K.moved hW.alike hK, hD⟩, hS.F ht⟩) hS.2.2 dX8_got_37
      · have hw := hw.2 c5
        refine lv_sipush (v := (-1001)) hx hb dX8_got_25 (by decide) ?_
        exact W.iret (v := (-1001)) hx hb hr (fun t ht hW => ⟨⟨(-1001), s0, rfl, hw, by rw [ht]; exact hP, va_K.moved hW.alike hK, hD⟩, hS.F ht⟩) hS.2.2 dX8_got_28
  · subst ek; subst er; have hw := hw.2.1 rfl
    refine W.eq (g2 := F0 m 5 ls (.ref (a 22) :: [])) rfl ?_
    refine lv_astore_n (lv' := [(3, .ref (a 22)), (0, .ref (a 0)), (1, .int p0), (2, .int p1)]) hx hb dX8_got_5 rfl hl (by decide) rfl (fun ls hl => ?_)
    refine lv_aload_n hx hb dX8_got_6 rfl (lv_at hl 0 rfl) ?_
    refine lv_ifnull hx hb dX8_got_7 ?_
    refine lv_iload_n hx hb dX8_got_10 rfl (lv_at hl 3 rfl) ?_
    refine lv_if_lt (tgt := 25) hx hb dX8_got_11 (by decide) (fun c9 => ?_) (fun c9 => ?_)
    · have hw := hw.1 c9
      refine lv_sipush (v := (-1001)) hx hb dX8_got_25 (by decide) ?_
      exact W.iret (v := (-1001)) hx hb hr (fun t ht hW => ⟨⟨(-1001), s0, rfl, hw, by rw [ht]; exact hP, va_K.moved hW.alike hK, hD⟩, hS.F ht⟩) hS.2.2 dX8_got_28
    · have hw := hw.2 c9
      refine lv_iload_n hx hb dX8_got_14 rfl (lv_at hl 3 rfl) ?_
      refine lv_aload_n hx hb dX8_got_15 rfl (lv_at hl 0 rfl) ?_
      refine va_get (D := (dC, dI)) (ci := 3) (v := .ref (a 26)) (C := RX3) (T := TX3) (N := 20) hx hb hts h_in3 hown hK hP 22 rfl rfl 4 (by decide) h_f72 (fun _ h9 => h9) rfl dX8_got_16 ?_
      refine va_get (D := (dC, dI)) (ci := 2) (v := .int (s0 26 3)) (C := RX2) (T := TX2) (N := 8) hx hb hts h_in2 hown hK hP 26 rfl rfl 3 (by decide) h_f119 (fun _ h9 => h9) rfl dX8_got_19 ?_
      refine lv_icmp_lt (tgt := 29) hx hb dX8_got_22 (by decide) (fun c10 => ?_) (fun c10 => ?_)
      · have hw := hw.1 c10
        refine lv_aload_n hx hb dX8_got_29 rfl (lv_at hl 0 rfl) ?_
        refine va_get (D := (dC, dI)) (ci := 3) (v := .ref (a 26)) (C := RX3) (T := TX3) (N := 20) hx hb hts h_in3 hown hK hP 22 rfl rfl 4 (by decide) h_f72 (fun _ h9 => h9) rfl dX8_got_30 ?_
        refine lv_iload_n hx hb dX8_got_33 rfl (lv_at hl 3 rfl) ?_
        have hPc := hP.sub (ws' := (tm_wMail cI cZ (tm_pj [26, 27, 28] a) (tm_pj [26, 27, 28] s0))) [26, 27, 28] rfl
        have hDc := hD.sub (ws' := (tm_wMail cI cZ (tm_pj [26, 27, 28] a) (tm_pj [26, 27, 28] s0))) [26, 27, 28] (by decide) rfl
        have hFc := va_free (wc := (tm_wMail cI cZ (tm_pj [26, 27, 28] a) (tm_pj [26, 27, 28] s0))) hD hS hA [26, 27, 28] rfl
        refine va_calli (va_runV (As := [.int p1]) (rest := []) ⟨hx, hb, hml, hown, hts⟩ (kk_X2_takenAt l dC dI cI cZ (tm_pj [26, 27, 28] a) (tm_pj [26, 27, 28] s0) H.size p1 _ hw) (cwV 1 hts gX8_got_X2_takenAt rfl rfl rfl (by decide +kernel) ⟨Nat.le_of_ble_eq_true rfl, Nat.le_of_ble_eq_true rfl⟩) ⟨tm_blind, va_recv hK hPc (ci := 2) (q0 := 0) rfl rfl, fun U hU hW => ⟨rfl, by rw [hU], by rw [hU]; exact hPc, va_K.moved hW.alike hK, hDc.weaken (fun _ _ _ _ => trivial)⟩⟩ rfl rfl hl.1 rfl (lv_room (Nat.le_of_ble_eq_true rfl)) dX8_got_34 ⟨Nat.zero_le _, Nat.zero_le _⟩) hS (fun q _ h => hFc q h) hFc (fun r11 u t H1 locs ht hvm hw hB hz1 hk1 hS => ?_)
        obtain ⟨hP1, hK1, hD1⟩ := hB
        rw [ht] at hP1
        obtain ⟨hP, hD⟩ := va_join (wr := ([0, 1, 2, 3, 4, 5, 6, 7, 8, 9, 10, 11, 12, 13, 14, 15, 16, 17, 18, 19, 20, 21, 22, 23, 24, 25, 29] : List Nat).filterMap (fun i => (tm_wTwo cI cZ a s0)[i]?)) (w1 := (tm_wMail cI cZ (tm_pj [26, 27, 28] a) u)) hP hD [26, 27, 28] [0, 1, 2, 3, 4, 5, 6, 7, 8, 9, 10, 11, 12, 13, 14, 15, 16, 17, 18, 19, 20, 21, 22, 23, 24, 25, 29] rfl rfl (by decide) (by decide) hk1 hFc hP1 hD1
        generalize H1 = H at hP hS ⊢
        obtain ⟨s12, es12⟩ : ∃ y : tm_St, y = tm_pk [26, 27, 28] s0 u := ⟨_, rfl⟩
        have hw := hw s12 es12
        have hP : va_P (dC, dI) vwCl (tm_wTwo cI cZ a s12) H := by rw [es12]; exact hP.sub [0, 1, 2, 3, 4, 5, 6, 7, 8, 9, 10, 11, 12, 13, 14, 15, 16, 17, 18, 19, 20, 21, 22, 23, 24, 25, 27, 28, 29, 26] rfl
        have hD : va_D A (tm_wTwo cI cZ a s12) := by rw [es12]; exact hD.sub [0, 1, 2, 3, 4, 5, 6, 7, 8, 9, 10, 11, 12, 13, 14, 15, 16, 17, 18, 19, 20, 21, 22, 23, 24, 25, 27, 28, 29, 26] (by decide) rfl
        exact W.iret (v := r11) hx hb hr (fun t ht hW => ⟨⟨r11, s12, rfl, hw, by rw [ht]; exact hP, va_K.moved hW.alike hK, hD⟩, hS.F ht⟩) hS.2.2 dX8_got_37
      · have hw := hw.2 c10
        refine lv_sipush (v := (-1001)) hx hb dX8_got_25 (by decide) ?_
        exact W.iret (v := (-1001)) hx hb hr (fun t ht hW => ⟨⟨(-1001), s0, rfl, hw, by rw [ht]; exact hP, va_K.moved hW.alike hK, hD⟩, hS.F ht⟩) hS.2.2 dX8_got_28
  · subst ek; subst er; have hw := hw.2.2 rfl
    refine W.eq (g2 := F0 m 5 ls (.null :: [])) rfl ?_
    refine lv_astore_nN (lv' := [(3, .null), (0, .ref (a 0)), (1, .int p0), (2, .int p1)]) hx hb dX8_got_5 rfl hl (by decide) rfl (fun ls hl => ?_)
    refine lv_aload_nN hx hb dX8_got_6 rfl (lv_at hl 0 rfl) ?_
    refine lv_ifnullN (tgt := 25) hx hb dX8_got_7 (by decide) ?_
    refine lv_sipush (v := (-1001)) hx hb dX8_got_25 (by decide) ?_
    exact W.iret (v := (-1001)) hx hb hr (fun t ht hW => ⟨⟨(-1001), s0, rfl, hw, by rw [ht]; exact hP, va_K.moved hW.alike hK, hD⟩, hS.F ht⟩) hS.2.2 dX8_got_28
