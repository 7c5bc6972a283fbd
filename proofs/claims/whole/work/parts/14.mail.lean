def wp_X2_add (p0 : Int32) (s0 : tm_St) (K : tm_St → Prop) : Prop := (((s0 0 2) < 0 → K s0) ∧ (¬ (s0 0 2) < 0 → (((200 : Int32) ≤ (s0 0 2) → K s0) ∧ (¬ (200 : Int32) ≤ (s0 0 2) → (vp_in (s0 0 2) 200 ∧ (∀ s4 : tm_St, s4 = tm_s s0 1 (upd (s0 1) ((s0 0 2) : Int32).toNatClampNeg p0) → (∀ s5 : tm_St, s5 = tm_s s4 0 (tm_u (s4 0) 2 ((s4 0 2) + 1)) → K s5)))))))
set_option maxRecDepth 100000 in
set_option maxHeartbeats 4000000 in
theorem kk_X2_add (l : Launch) (dC : Nat → ClassId) (dI : Nat → Nat → Nat) (cI cZ : ClassId) (a : Nat → Nat) (s0 : tm_St) (sz : Nat) (p0 : Int32) (K : tm_St → Prop) (hw : wp_X2_add p0 s0 K) : Met l yX2_add wsX2_add ({ frames := 0, cells := 0, slots := 0, locals := 0 }) (va_Pc [.ref (a 0), .int p0] (tm_Pre dC dI cI cZ (tm_wMail cI cZ a s0) sz)) (va_Qv (fun (u : tm_St) => K u) (fun (u : tm_St) t => tm_At dC dI cI cZ (va_A (tm_wMail cI cZ a s0) sz) (tm_wMail cI cZ a u) t) (va_A (tm_wMail cI cZ a s0) sz)) 0 0 (va_A (tm_wMail cI cZ a s0) sz) := by
  refine Met.ofW (cc := cX2_add) (maxL := 2) (ret := none) (by decide +kernel) rfl ?_
  intro p e z m args below meth c z₁ B hml hv
  obtain ⟨rfl, hsz, hP, hK, hD0⟩ := hv
  have hx := B.exec
  have hb := B.bytes
  have hr := B.returns
  have hts := atoms_spec (ws := wsX2_add) B.pre
  have hown : z.vm.findClass RX2 = some m.cls := findClass_of_methodNamed B.named
  have hlocks := B.notSynchronized
  subst hsz
  have hD := hD0.self (sz := z.heap.size)
  generalize hAe : va_A (tm_wMail cI cZ a s0) z.heap.size = A at hD ⊢
  have hA : ∀ q : Nat, z.heap.size ≤ q → A q := fun q h => by rw [← hAe]; exact Or.inr h
  have hS : va_S A z.heap z.heap [] := va_S.rf
  have h_f16 := hts (.fieldLink RX2 16 "TwoModems$Mail" "said" "I") (by decide +kernel)
  have h_in2 : ∀ w ∈ u_ws RX2 TX2 8, w ∈ wsX2_add := by decide +kernel
  have h_f9 := hts (.fieldLink RX2 9 "TwoModems$Mail" "toSend" "[I") (by decide +kernel)
  have hl := lv_entry ([.ref (a 0), .int p0]) (n := 2) (Nat.le_of_ble_eq_true rfl)
  rw [lg_entry_eq]
  generalize (lg_sl ([.ref (a 0), .int p0]) ++ List.replicate (2 - (lg_sl ([.ref (a 0), .int p0])).length) Slot.unset).toArray = ls at hl ⊢
  have hl : lv_has ls 2 [(0, .ref (a 0)), (1, .int p0)] := hl
  unfold wp_X2_add at hw
  refine lv_aload_n hx hb dX2_add_0 rfl (lv_at hl 0 rfl) ?_
  refine va_get (D := (dC, dI)) (ci := 2) (v := .int (s0 0 2)) (C := RX2) (T := TX2) (N := 8) hx hb hts h_in2 hown hK hP 0 rfl rfl 2 (by decide) h_f16 (fun _ h9 => h9) rfl dX2_add_1 ?_
  refine lv_if_lt (tgt := 37) hx hb dX2_add_4 (by decide) (fun c1 => ?_) (fun c1 => ?_)
  · have hw := hw.1 c1
    exact W.vret hx hb hr (fun t ht hW => ⟨⟨s0, rfl, hw, by rw [ht]; exact hP, va_K.moved hW.alike hK, hD⟩, hS.F ht⟩) hS.2.2 dX2_add_37
  · have hw := hw.2 c1
    refine lv_aload_n hx hb dX2_add_7 rfl (lv_at hl 0 rfl) ?_
    refine va_get (D := (dC, dI)) (ci := 2) (v := .int (s0 0 2)) (C := RX2) (T := TX2) (N := 8) hx hb hts h_in2 hown hK hP 0 rfl rfl 2 (by decide) h_f16 (fun _ h9 => h9) rfl dX2_add_8 ?_
    refine lv_sipush (v := 200) hx hb dX2_add_11 (by decide) ?_
    refine lv_icmp_ge (tgt := 37) hx hb dX2_add_14 (by decide) (fun c2 => ?_) (fun c2 => ?_)
    · have hw := hw.1 c2
      exact W.vret hx hb hr (fun t ht hW => ⟨⟨s0, rfl, hw, by rw [ht]; exact hP, va_K.moved hW.alike hK, hD⟩, hS.F ht⟩) hS.2.2 dX2_add_37
    · have hw := hw.2 c2
      refine lv_aload_n hx hb dX2_add_17 rfl (lv_at hl 0 rfl) ?_
      refine va_get (D := (dC, dI)) (ci := 2) (v := .ref (a 1)) (C := RX2) (T := TX2) (N := 8) hx hb hts h_in2 hown hK hP 0 rfl rfl 0 (by decide) h_f9 (fun _ h9 => h9) rfl dX2_add_18 ?_
      refine lv_aload_n hx hb dX2_add_21 rfl (lv_at hl 0 rfl) ?_
      refine va_get (D := (dC, dI)) (ci := 2) (v := .int (s0 0 2)) (C := RX2) (T := TX2) (N := 8) hx hb hts h_in2 hown hK hP 0 rfl rfl 2 (by decide) h_f16 (fun _ h9 => h9) rfl dX2_add_22 ?_
      refine lv_iload_n hx hb dX2_add_25 rfl (lv_at hl 1 rfl) ?_
      have c3 := hw.1
      have hw := hw.2
      refine va_iast hx hb hK hP hD hS 1 0 rfl rfl c3 dX2_add_26 (fun H locs hP hD hS => ?_)
      obtain ⟨s4, es4⟩ : ∃ y : tm_St, y = tm_s s0 1 (upd (s0 1) ((s0 0 2) : Int32).toNatClampNeg p0) := ⟨_, rfl⟩
      have hw := hw s4 es4
      have hP : va_P (dC, dI) vwCl (tm_wMail cI cZ a s4) H := by rw [es4]; exact hP
      have hD : va_D A (tm_wMail cI cZ a s4) := by rw [es4]; exact hD
      refine lv_aload_n hx hb dX2_add_27 rfl (lv_at hl 0 rfl) ?_
      refine lv_dup hx hb dX2_add_28 rfl ?_
      refine va_get (D := (dC, dI)) (ci := 2) (v := .int (s4 0 2)) (C := RX2) (T := TX2) (N := 8) hx hb hts h_in2 hown hK hP 0 rfl rfl 2 (by decide) h_f16 (fun _ h9 => h9) rfl dX2_add_29 ?_
      refine lv_iconst (v := 1) hx hb dX2_add_32 (by decide) ?_
      refine lv_iadd hx hb dX2_add_33 ?_
      refine va_put (D := (dC, dI)) (ci := 2) (v := .int ((s4 0 2) + 1)) (ty := .int) (C := RX2) (T := TX2) (N := 8) hx hb hts h_in2 tyX2 tyX2_ok nmX2 hown hK hP hD hS 0 rfl rfl 2 (by decide) h_f16 (fun _ h9 => h9) rfl (by decide +kernel) rfl rfl (Nat.le_of_ble_eq_true rfl) dX2_add_34 (fun H locs hP hD hS => ?_)
      obtain ⟨s5, es5⟩ : ∃ y : tm_St, y = tm_s s4 0 (tm_u (s4 0) 2 ((s4 0 2) + 1)) := ⟨_, rfl⟩
      have hw := hw s5 es5
      have hP : va_P (dC, dI) vwCl (tm_wMail cI cZ a s5) H := by rw [es5]; exact hP
      have hD : va_D A (tm_wMail cI cZ a s5) := by rw [es5]; exact hD
      exact W.vret hx hb hr (fun t ht hW => ⟨⟨s5, rfl, hw, by rw [ht]; exact hP, va_K.moved hW.alike hK, hD⟩, hS.F ht⟩) hS.2.2 dX2_add_37
def wp_X2_ready (p0 : Int32) (s0 : tm_St) (K : Int32 → tm_St → Prop) : Prop := (∀ x1 : Int32, x1 = (if (((s0 0 4) + 64) - (s0 0 5)) < ((s0 0 2) - (s0 0 5)) then (((s0 0 4) + 64) - (s0 0 5)) else ((s0 0 2) - (s0 0 5))) → (∀ x2 : Int32, x2 = (if x1 < p0 then x1 else p0) → K x2 s0))
set_option maxRecDepth 100000 in
set_option maxHeartbeats 4000000 in
theorem kk_X2_ready (l : Launch) (dC : Nat → ClassId) (dI : Nat → Nat → Nat) (cI cZ : ClassId) (a : Nat → Nat) (s0 : tm_St) (sz : Nat) (p0 : Int32) (K : Int32 → tm_St → Prop) (hw : wp_X2_ready p0 s0 K) : Met l yX2_ready wsX2_ready ({ frames := 1, cells := 0, slots := 0, locals := 14 }) (va_Pc [.ref (a 0), .int p0] (tm_Pre dC dI cI cZ (tm_wMail cI cZ a s0) sz)) (va_Qi (fun (r : Int32) (u : tm_St) => K r u) (fun (u : tm_St) t => tm_At dC dI cI cZ (va_A (tm_wMail cI cZ a s0) sz) (tm_wMail cI cZ a u) t) (va_A (tm_wMail cI cZ a s0) sz)) 0 0 (va_A (tm_wMail cI cZ a s0) sz) := by
  refine Met.ofW (cc := cX2_ready) (maxL := 2) (ret := (some .int)) (by decide +kernel) rfl ?_
  intro p e z m args below meth c z₁ B hml hv
  obtain ⟨rfl, hsz, hP, hK, hD0⟩ := hv
  have hx := B.exec
  have hb := B.bytes
  have hr := B.returns
  have hts := atoms_spec (ws := wsX2_ready) B.pre
  have hown : z.vm.findClass RX2 = some m.cls := findClass_of_methodNamed B.named
  have hlocks := B.notSynchronized
  subst hsz
  have hD := hD0.self (sz := z.heap.size)
  generalize hAe : va_A (tm_wMail cI cZ a s0) z.heap.size = A at hD ⊢
  have hA : ∀ q : Nat, z.heap.size ≤ q → A q := fun q h => by rw [← hAe]; exact Or.inr h
  have hS : va_S A z.heap z.heap [] := va_S.rf
  have h_f16 := hts (.fieldLink RX2 16 "TwoModems$Mail" "said" "I") (by decide +kernel)
  have h_in2 : ∀ w ∈ u_ws RX2 TX2 8, w ∈ wsX2_ready := by decide +kernel
  have h_f26 := hts (.fieldLink RX2 26 "TwoModems$Mail" "next" "I") (by decide +kernel)
  have h_f23 := hts (.fieldLink RX2 23 "TwoModems$Mail" "told" "I") (by decide +kernel)
  have h_m56 := hts (.methodLink RX2 56 Lib.Math.min.name) (by decide +kernel)
  have h_ms_min := hts (.static Lib.Math.min.name) (by decide +kernel)
  have h_mi := hts (.initialized "java/lang/Math") (by decide +kernel)
  have h_mc_min := hts (.code Lib.Math.min.name Lib.Math.min.code 2 (some .int)) (by decide +kernel)
  have hl := lv_entry ([.ref (a 0), .int p0]) (n := 2) (Nat.le_of_ble_eq_true rfl)
  rw [lg_entry_eq]
  generalize (lg_sl ([.ref (a 0), .int p0]) ++ List.replicate (2 - (lg_sl ([.ref (a 0), .int p0])).length) Slot.unset).toArray = ls at hl ⊢
  have hl : lv_has ls 2 [(0, .ref (a 0)), (1, .int p0)] := hl
  unfold wp_X2_ready at hw
  refine lv_iload_n hx hb dX2_ready_0 rfl (lv_at hl 1 rfl) ?_
  refine lv_aload_n hx hb dX2_ready_1 rfl (lv_at hl 0 rfl) ?_
  refine va_get (D := (dC, dI)) (ci := 2) (v := .int (s0 0 2)) (C := RX2) (T := TX2) (N := 8) hx hb hts h_in2 hown hK hP 0 rfl rfl 2 (by decide) h_f16 (fun _ h9 => h9) rfl dX2_ready_2 ?_
  refine lv_aload_n hx hb dX2_ready_5 rfl (lv_at hl 0 rfl) ?_
  refine va_get (D := (dC, dI)) (ci := 2) (v := .int (s0 0 5)) (C := RX2) (T := TX2) (N := 8) hx hb hts h_in2 hown hK hP 0 rfl rfl 5 (by decide) h_f26 (fun _ h9 => h9) rfl dX2_ready_6 ?_
  refine lv_isub hx hb dX2_ready_9 ?_
  refine lv_aload_n hx hb dX2_ready_10 rfl (lv_at hl 0 rfl) ?_
  refine va_get (D := (dC, dI)) (ci := 2) (v := .int (s0 0 4)) (C := RX2) (T := TX2) (N := 8) hx hb hts h_in2 hown hK hP 0 rfl rfl 4 (by decide) h_f23 (fun _ h9 => h9) rfl dX2_ready_11 ?_
  refine lv_bipush (v := 64) hx hb dX2_ready_14 (by decide) ?_
  refine lv_iadd hx hb dX2_ready_16 ?_
  refine lv_aload_n hx hb dX2_ready_17 rfl (lv_at hl 0 rfl) ?_
  refine va_get (D := (dC, dI)) (ci := 2) (v := .int (s0 0 5)) (C := RX2) (T := TX2) (N := 8) hx hb hts h_in2 hown hK hP 0 rfl rfl 5 (by decide) h_f26 (fun _ h9 => h9) rfl dX2_ready_18 ?_
  refine lv_isub hx hb dX2_ready_21 ?_
  refine va_mmin hx hb (hml.trans hl.1.symm) hown h_m56 h_ms_min h_mi h_mc_min (Nat.le_of_ble_eq_true rfl) (Nat.le_of_ble_eq_true rfl) (Nat.zero_le _) (Nat.zero_le _) dX2_ready_22 ?_
  refine lv_topi (fun x1 ex1 => ?_)
  have hw := hw x1 ex1
  refine va_mmin hx hb (hml.trans hl.1.symm) hown h_m56 h_ms_min h_mi h_mc_min (Nat.le_of_ble_eq_true rfl) (Nat.le_of_ble_eq_true rfl) (Nat.zero_le _) (Nat.zero_le _) dX2_ready_25 ?_
  refine lv_topi (fun x2 ex2 => ?_)
  have hw := hw x2 ex2
  exact W.iret (v := x2) hx hb hr (fun t ht hW => ⟨⟨x2, s0, rfl, hw, by rw [ht]; exact hP, va_K.moved hW.alike hK, hD⟩, hS.F ht⟩) hS.2.2 dX2_ready_28
def wp_X2_pass_30 (K : Int32 → tm_St → Prop) (t0 : Int32) (s : tm_St) : Prop := (((s 0 7) ≤ (s 0 5) → (∀ s3 : tm_St, s3 = tm_s s 0 (tm_u (s 0) 5 ((s 0 5) + 1)) → (∀ x4 : Int32, x4 = (if (s3 0 7) < (s3 0 5) then (s3 0 5) else (s3 0 7)) → (∀ s5 : tm_St, s5 = tm_s s3 0 (tm_u (s3 0) 7 x4) → K t0 s5)))) ∧ (¬ (s 0 7) ≤ (s 0 5) → (∀ s6 : tm_St, s6 = tm_s s 0 (tm_u (s 0) 6 ((s 0 6) + 1)) → (∀ s7 : tm_St, s7 = tm_s s6 0 (tm_u (s6 0) 5 ((s6 0 5) + 1)) → (∀ x8 : Int32, x8 = (if (s7 0 7) < (s7 0 5) then (s7 0 5) else (s7 0 7)) → (∀ s9 : tm_St, s9 = tm_s s7 0 (tm_u (s7 0) 7 x8) → K t0 s9))))))
def wp_X2_pass  (s0 : tm_St) (K : Int32 → tm_St → Prop) : Prop := (((s0 0 5) < 0 → wp_X2_pass_30 K 0 s0) ∧ (¬ (s0 0 5) < 0 → (((200 : Int32) ≤ (s0 0 5) → wp_X2_pass_30 K 0 s0) ∧ (¬ (200 : Int32) ≤ (s0 0 5) → (vp_in (s0 0 5) 200 ∧ wp_X2_pass_30 K (s0 1 ((s0 0 5) : Int32).toNatClampNeg) s0)))))
set_option maxRecDepth 100000 in
set_option maxHeartbeats 4000000 in
theorem kk_X2_pass (l : Launch) (dC : Nat → ClassId) (dI : Nat → Nat → Nat) (cI cZ : ClassId) (a : Nat → Nat) (s0 : tm_St) (sz : Nat)  (K : Int32 → tm_St → Prop) (hw : wp_X2_pass s0 K) : Met l yX2_pass wsX2_pass ({ frames := 1, cells := 0, slots := 0, locals := 14 }) (va_Pc [.ref (a 0)] (tm_Pre dC dI cI cZ (tm_wMail cI cZ a s0) sz)) (va_Qi (fun (r : Int32) (u : tm_St) => K r u) (fun (u : tm_St) t => tm_At dC dI cI cZ (va_A (tm_wMail cI cZ a s0) sz) (tm_wMail cI cZ a u) t) (va_A (tm_wMail cI cZ a s0) sz)) 0 0 (va_A (tm_wMail cI cZ a s0) sz) := by
  refine Met.ofW (cc := cX2_pass) (maxL := 2) (ret := (some .int)) (by decide +kernel) rfl ?_
  intro p e z m args below meth c z₁ B hml hv
  obtain ⟨rfl, hsz, hP, hK, hD0⟩ := hv
  have hx := B.exec
  have hb := B.bytes
  have hr := B.returns
  have hts := atoms_spec (ws := wsX2_pass) B.pre
  have hown : z.vm.findClass RX2 = some m.cls := findClass_of_methodNamed B.named
  have hlocks := B.notSynchronized
  subst hsz
  have hD := hD0.self (sz := z.heap.size)
  generalize hAe : va_A (tm_wMail cI cZ a s0) z.heap.size = A at hD ⊢
  have hA : ∀ q : Nat, z.heap.size ≤ q → A q := fun q h => by rw [← hAe]; exact Or.inr h
  have hS : va_S A z.heap z.heap [] := va_S.rf
  have h_f26 := hts (.fieldLink RX2 26 "TwoModems$Mail" "next" "I") (by decide +kernel)
  have h_in2 : ∀ w ∈ u_ws RX2 TX2 8, w ∈ wsX2_pass := by decide +kernel
  have h_f32 := hts (.fieldLink RX2 32 "TwoModems$Mail" "sentBelow" "I") (by decide +kernel)
  have h_m50 := hts (.methodLink RX2 50 Lib.Math.max.name) (by decide +kernel)
  have h_ms_max := hts (.static Lib.Math.max.name) (by decide +kernel)
  have h_mi := hts (.initialized "java/lang/Math") (by decide +kernel)
  have h_mc_max := hts (.code Lib.Math.max.name Lib.Math.max.code 2 (some .int)) (by decide +kernel)
  have h_f29 := hts (.fieldLink RX2 29 "TwoModems$Mail" "repeated" "I") (by decide +kernel)
  have h_f9 := hts (.fieldLink RX2 9 "TwoModems$Mail" "toSend" "[I") (by decide +kernel)
  have b30 : ∀ (t0 : Int32) (s : tm_St) (H : Heap) (locs : List Loc) (ls : Array Slot), wp_X2_pass_30 K t0 s → va_P (dC, dI) vwCl (tm_wMail cI cZ a s) H → va_D A (tm_wMail cI cZ a s) → va_S A z.heap H locs → lv_has ls 2 [(0, .ref (a 0))] → W p l e (headSpec wsX2_pass ({ frames := 1, cells := 0, slots := 0, locals := 14 })).room z m (([.ref (a 0)] : List Value).toArray) below meth c H locs 0 0 (MQ below (va_Qi (fun (r : Int32) (u : tm_St) => K r u) (fun (u : tm_St) t => tm_At dC dI cI cZ A (tm_wMail cI cZ a u) t) A) (([.ref (a 0)] : List Value).toArray) z 0 0 A) (F0 m 30 ls [.int t0]) := by
    intro t0 s H locs ls hw hP hD hS hl
    unfold wp_X2_pass_30 at hw
    refine lv_istore_n (lv' := [(1, .int t0), (0, .ref (a 0))]) hx hb dX2_pass_30 rfl hl (by decide) rfl (fun ls hl => ?_)
    refine lv_aload_n hx hb dX2_pass_31 rfl (lv_at hl 1 rfl) ?_
    refine va_get (D := (dC, dI)) (ci := 2) (v := .int (s 0 5)) (C := RX2) (T := TX2) (N := 8) hx hb hts h_in2 hown hK hP 0 rfl rfl 5 (by decide) h_f26 (fun _ h9 => h9) rfl dX2_pass_32 ?_
    refine lv_aload_n hx hb dX2_pass_35 rfl (lv_at hl 1 rfl) ?_
    refine va_get (D := (dC, dI)) (ci := 2) (v := .int (s 0 7)) (C := RX2) (T := TX2) (N := 8) hx hb hts h_in2 hown hK hP 0 rfl rfl 7 (by decide) h_f32 (fun _ h9 => h9) rfl dX2_pass_36 ?_
    refine lv_icmp_ge (tgt := 52) hx hb dX2_pass_39 (by decide) (fun c2 => ?_) (fun c2 => ?_)
    · have hw := hw.1 c2
      refine lv_aload_n hx hb dX2_pass_52 rfl (lv_at hl 1 rfl) ?_
      refine lv_dup hx hb dX2_pass_53 rfl ?_
      refine va_get (D := (dC, dI)) (ci := 2) (v := .int (s 0 5)) (C := RX2) (T := TX2) (N := 8) hx hb hts h_in2 hown hK hP 0 rfl rfl 5 (by decide) h_f26 (fun _ h9 => h9) rfl dX2_pass_54 ?_
      refine lv_iconst (v := 1) hx hb dX2_pass_57 (by decide) ?_
      refine lv_iadd hx hb dX2_pass_58 ?_
      refine va_put (D := (dC, dI)) (ci := 2) (v := .int ((s 0 5) + 1)) (ty := .int) (C := RX2) (T := TX2) (N := 8) hx hb hts h_in2 tyX2 tyX2_ok nmX2 hown hK hP hD hS 0 rfl rfl 5 (by decide) h_f26 (fun _ h9 => h9) rfl (by decide +kernel) rfl rfl (Nat.le_of_ble_eq_true rfl) dX2_pass_59 (fun H locs hP hD hS => ?_)
      obtain ⟨s3, es3⟩ : ∃ y : tm_St, y = tm_s s 0 (tm_u (s 0) 5 ((s 0 5) + 1)) := ⟨_, rfl⟩
      have hw := hw s3 es3
      have hP : va_P (dC, dI) vwCl (tm_wMail cI cZ a s3) H := by rw [es3]; exact hP
      have hD : va_D A (tm_wMail cI cZ a s3) := by rw [es3]; exact hD
      refine lv_aload_n hx hb dX2_pass_62 rfl (lv_at hl 1 rfl) ?_
      refine lv_aload_n hx hb dX2_pass_63 rfl (lv_at hl 1 rfl) ?_
      refine va_get (D := (dC, dI)) (ci := 2) (v := .int (s3 0 7)) (C := RX2) (T := TX2) (N := 8) hx hb hts h_in2 hown hK hP 0 rfl rfl 7 (by decide) h_f32 (fun _ h9 => h9) rfl dX2_pass_64 ?_
      refine lv_aload_n hx hb dX2_pass_67 rfl (lv_at hl 1 rfl) ?_
      refine va_get (D := (dC, dI)) (ci := 2) (v := .int (s3 0 5)) (C := RX2) (T := TX2) (N := 8) hx hb hts h_in2 hown hK hP 0 rfl rfl 5 (by decide) h_f26 (fun _ h9 => h9) rfl dX2_pass_68 ?_
      refine va_mmax hx hb (hml.trans hl.1.symm) hown h_m50 h_ms_max h_mi h_mc_max (Nat.le_of_ble_eq_true rfl) (Nat.le_of_ble_eq_true rfl) (Nat.zero_le _) (Nat.zero_le _) dX2_pass_71 ?_
      refine lv_topi (fun x4 ex4 => ?_)
      have hw := hw x4 ex4
      refine va_put (D := (dC, dI)) (ci := 2) (v := .int x4) (ty := .int) (C := RX2) (T := TX2) (N := 8) hx hb hts h_in2 tyX2 tyX2_ok nmX2 hown hK hP hD hS 0 rfl rfl 7 (by decide) h_f32 (fun _ h9 => h9) rfl (by decide +kernel) rfl rfl (Nat.le_of_ble_eq_true rfl) dX2_pass_74 (fun H locs hP hD hS => ?_)
      obtain ⟨s5, es5⟩ : ∃ y : tm_St, y = tm_s s3 0 (tm_u (s3 0) 7 x4) := ⟨_, rfl⟩
      have hw := hw s5 es5
      have hP : va_P (dC, dI) vwCl (tm_wMail cI cZ a s5) H := by rw [es5]; exact hP
      have hD : va_D A (tm_wMail cI cZ a s5) := by rw [es5]; exact hD
      refine lv_iload_n hx hb dX2_pass_77 rfl (lv_at hl 0 rfl) ?_
      exact W.iret (v := t0) hx hb hr (fun t ht hW => ⟨⟨t0, s5, rfl, hw, by rw [ht]; exact hP, va_K.moved hW.alike hK, hD⟩, hS.F ht⟩) hS.2.2 dX2_pass_78
    · have hw := hw.2 c2
      refine lv_aload_n hx hb dX2_pass_42 rfl (lv_at hl 1 rfl) ?_
      refine lv_dup hx hb dX2_pass_43 rfl ?_
      refine va_get (D := (dC, dI)) (ci := 2) (v := .int (s 0 6)) (C := RX2) (T := TX2) (N := 8) hx hb hts h_in2 hown hK hP 0 rfl rfl 6 (by decide) h_f29 (fun _ h9 => h9) rfl dX2_pass_44 ?_
      refine lv_iconst (v := 1) hx hb dX2_pass_47 (by decide) ?_
      refine lv_iadd hx hb dX2_pass_48 ?_
      refine va_put (D := (dC, dI)) (ci := 2) (v := .int ((s 0 6) + 1)) (ty := .int) (C := RX2) (T := TX2) (N := 8) hx hb hts h_in2 tyX2 tyX2_ok nmX2 hown hK hP hD hS 0 rfl rfl 6 (by decide) h_f29 (fun _ h9 => h9) rfl (by decide +kernel) rfl rfl (Nat.le_of_ble_eq_true rfl) dX2_pass_49 (fun H locs hP hD hS => ?_)
      obtain ⟨s6, es6⟩ : ∃ y : tm_St, y = tm_s s 0 (tm_u (s 0) 6 ((s 0 6) + 1)) := ⟨_, rfl⟩
      have hw := hw s6 es6
      have hP : va_P (dC, dI) vwCl (tm_wMail cI cZ a s6) H := by rw [es6]; exact hP
      have hD : va_D A (tm_wMail cI cZ a s6) := by rw [es6]; exact hD
      refine lv_aload_n hx hb dX2_pass_52 rfl (lv_at hl 1 rfl) ?_
      refine lv_dup hx hb dX2_pass_53 rfl ?_
      refine va_get (D := (dC, dI)) (ci := 2) (v := .int (s6 0 5)) (C := RX2) (T := TX2) (N := 8) hx hb hts h_in2 hown hK hP 0 rfl rfl 5 (by decide) h_f26 (fun _ h9 => h9) rfl dX2_pass_54 ?_
      refine lv_iconst (v := 1) hx hb dX2_pass_57 (by decide) ?_
      refine lv_iadd hx hb dX2_pass_58 ?_
      refine va_put (D := (dC, dI)) (ci := 2) (v := .int ((s6 0 5) + 1)) (ty := .int) (C := RX2) (T := TX2) (N := 8) hx hb hts h_in2 tyX2 tyX2_ok nmX2 hown hK hP hD hS 0 rfl rfl 5 (by decide) h_f26 (fun _ h9 => h9) rfl (by decide +kernel) rfl rfl (Nat.le_of_ble_eq_true rfl) dX2_pass_59 (fun H locs hP hD hS => ?_)
      obtain ⟨s7, es7⟩ : ∃ y : tm_St, y = tm_s s6 0 (tm_u (s6 0) 5 ((s6 0 5) + 1)) := ⟨_, rfl⟩
      have hw := hw s7 es7
      have hP : va_P (dC, dI) vwCl (tm_wMail cI cZ a s7) H := by rw [es7]; exact hP
      have hD : va_D A (tm_wMail cI cZ a s7) := by rw [es7]; exact hD
      refine lv_aload_n hx hb dX2_pass_62 rfl (lv_at hl 1 rfl) ?_
      refine lv_aload_n hx hb dX2_pass_63 rfl (lv_at hl 1 rfl) ?_
      refine va_get (D := (dC, dI)) (ci := 2) (v := .int (s7 0 7)) (C := RX2) (T := TX2) (N := 8) hx hb hts h_in2 hown hK hP 0 rfl rfl 7 (by decide) h_f32 (fun _ h9 => h9) rfl dX2_pass_64 ?_
      refine lv_aload_n hx hb dX2_pass_67 rfl (lv_at hl 1 rfl) ?_
      refine va_get (D := (dC, dI)) (ci := 2) (v := .int (s7 0 5)) (C := RX2) (T := TX2) (N := 8) hx hb hts h_in2 hown hK hP 0 rfl rfl 5 (by decide) h_f26 (fun _ h9 => h9) rfl dX2_pass_68 ?_
      refine va_mmax hx hb (hml.trans hl.1.symm) hown h_m50 h_ms_max h_mi h_mc_max (Nat.le_of_ble_eq_true rfl) (Nat.le_of_ble_eq_true rfl) (Nat.zero_le _) (Nat.zero_le _) dX2_pass_71 ?_
      refine lv_topi (fun x8 ex8 => ?_)
      have hw := hw x8 ex8
      refine va_put (D := (dC, dI)) (ci := 2) (v := .int x8) (ty := .int) (C := RX2) (T := TX2) (N := 8) hx hb hts h_in2 tyX2 tyX2_ok nmX2 hown hK hP hD hS 0 rfl rfl 7 (by decide) h_f32 (fun _ h9 => h9) rfl (by decide +kernel) rfl rfl (Nat.le_of_ble_eq_true rfl) dX2_pass_74 (fun H locs hP hD hS => ?_)
      obtain ⟨s9, es9⟩ : ∃ y : tm_St, y = tm_s s7 0 (tm_u (s7 0) 7 x8) := ⟨_, rfl⟩
      have hw := hw s9 es9
      have hP : va_P (dC, dI) vwCl (tm_wMail cI cZ a s9) H := by rw [es9]; exact hP
      have hD : va_D A (tm_wMail cI cZ a s9) := by rw [es9]; exact hD
      refine lv_iload_n hx hb dX2_pass_77 rfl (lv_at hl 0 rfl) ?_
      exact W.iret (v := t0) hx hb hr (fun t ht hW => ⟨⟨t0, s9, rfl, hw, by rw [ht]; exact hP, va_K.moved hW.alike hK, hD⟩, hS.F ht⟩) hS.2.2 dX2_pass_78
  have hl := lv_entry ([.ref (a 0)]) (n := 2) (Nat.le_of_ble_eq_true rfl)
  rw [lg_entry_eq]
  generalize (lg_sl ([.ref (a 0)]) ++ List.replicate (2 - (lg_sl ([.ref (a 0)])).length) Slot.unset).toArray = ls at hl ⊢
  have hl : lv_has ls 2 [(0, .ref (a 0))] := hl
  unfold wp_X2_pass at hw
  refine lv_aload_n hx hb dX2_pass_0 rfl (lv_at hl 0 rfl) ?_
  refine va_get (D := (dC, dI)) (ci := 2) (v := .int (s0 0 5)) (C := RX2) (T := TX2) (N := 8) hx hb hts h_in2 hown hK hP 0 rfl rfl 5 (by decide) h_f26 (fun _ h9 => h9) rfl dX2_pass_1 ?_
  refine lv_if_lt (tgt := 29) hx hb dX2_pass_4 (by decide) (fun c1 => ?_) (fun c1 => ?_)
  · have hw := hw.1 c1
    refine lv_iconst (v := 0) hx hb dX2_pass_29 (by decide) ?_
    exact b30 0 s0 _ _ _ hw hP hD hS (lv_sub hl [0] rfl)
  · have hw := hw.2 c1
    refine lv_aload_n hx hb dX2_pass_7 rfl (lv_at hl 0 rfl) ?_
    refine va_get (D := (dC, dI)) (ci := 2) (v := .int (s0 0 5)) (C := RX2) (T := TX2) (N := 8) hx hb hts h_in2 hown hK hP 0 rfl rfl 5 (by decide) h_f26 (fun _ h9 => h9) rfl dX2_pass_8 ?_
    refine lv_sipush (v := 200) hx hb dX2_pass_11 (by decide) ?_
    refine lv_icmp_ge (tgt := 29) hx hb dX2_pass_14 (by decide) (fun c10 => ?_) (fun c10 => ?_)
    · have hw := hw.1 c10
      refine lv_iconst (v := 0) hx hb dX2_pass_29 (by decide) ?_
      exact b30 0 s0 _ _ _ hw hP hD hS (lv_sub hl [0] rfl)
    · have hw := hw.2 c10
      refine lv_aload_n hx hb dX2_pass_17 rfl (lv_at hl 0 rfl) ?_
      refine va_get (D := (dC, dI)) (ci := 2) (v := .ref (a 1)) (C := RX2) (T := TX2) (N := 8) hx hb hts h_in2 hown hK hP 0 rfl rfl 0 (by decide) h_f9 (fun _ h9 => h9) rfl dX2_pass_18 ?_
      refine lv_aload_n hx hb dX2_pass_21 rfl (lv_at hl 0 rfl) ?_
      refine va_get (D := (dC, dI)) (ci := 2) (v := .int (s0 0 5)) (C := RX2) (T := TX2) (N := 8) hx hb hts h_in2 hown hK hP 0 rfl rfl 5 (by decide) h_f26 (fun _ h9 => h9) rfl dX2_pass_22 ?_
      have c11 := hw.1
      have hw := hw.2
      refine va_iald hx hb hK hP 1 0 rfl rfl c11 dX2_pass_25 ?_
      refine lv_goto (tgt := 30) hx hb dX2_pass_26 (by decide) ?_
      exact b30 (s0 1 ((s0 0 5) : Int32).toNatClampNeg) s0 _ _ _ hw hP hD hS (lv_sub hl [0] rfl)
def wp_X2_take_13 (K : tm_St → Prop) : Nat → Int32 → tm_St → Prop
  | 0, _, _ => False
  | n + 1, v2, s => (wp_X7_letters  (tm_pj [3, 4, 5, 6, 7] s) (fun r10 u12 => ∀ s11 : tm_St, s11 = tm_pk [3, 4, 5, 6, 7] s u12 → ((r10 ≤ v2 → (wp_X7_told  (tm_pj [3, 4, 5, 6, 7] s11) (fun r14 u16 => ∀ s15 : tm_St, s15 = tm_pk [3, 4, 5, 6, 7] s11 u16 → (∀ x17 : Int32, x17 = (if (s11 0 4) < r14 then r14 else (s11 0 4)) → (∀ s18 : tm_St, s18 = tm_s s15 0 (tm_u (s15 0) 4 x17) → K s18))))) ∧ (¬ r10 ≤ v2 → (((s11 0 3) < 0 → (wp_X7_told  (tm_pj [3, 4, 5, 6, 7] s11) (fun r20 u22 => ∀ s21 : tm_St, s21 = tm_pk [3, 4, 5, 6, 7] s11 u22 → (∀ x23 : Int32, x23 = (if (s11 0 4) < r20 then r20 else (s11 0 4)) → (∀ s24 : tm_St, s24 = tm_s s21 0 (tm_u (s21 0) 4 x23) → K s24))))) ∧ (¬ (s11 0 3) < 0 → (((200 : Int32) ≤ (s11 0 3) → (wp_X7_told  (tm_pj [3, 4, 5, 6, 7] s11) (fun r26 u28 => ∀ s27 : tm_St, s27 = tm_pk [3, 4, 5, 6, 7] s11 u28 → (∀ x29 : Int32, x29 = (if (s11 0 4) < r26 then r26 else (s11 0 4)) → (∀ s30 : tm_St, s30 = tm_s s27 0 (tm_u (s27 0) 4 x29) → K s30))))) ∧ (¬ (200 : Int32) ≤ (s11 0 3) → (wp_X7_enclosed v2 (tm_pj [3, 4, 5, 6, 7] s11) (fun r31 u33 => ∀ s32 : tm_St, s32 = tm_pk [3, 4, 5, 6, 7] s11 u33 → (vp_in (s11 0 3) 200 ∧ (∀ s35 : tm_St, s35 = tm_s s32 2 (upd (s32 2) ((s11 0 3) : Int32).toNatClampNeg r31) → (∀ s36 : tm_St, s36 = tm_s s35 0 (tm_u (s35 0) 3 ((s35 0 3) + 1)) → (∀ x37 : Int32, x37 = v2 + 1 → wp_X2_take_13 K n x37 s36))))))))))))))
def wp_X2_take  (s0 : tm_St) (K : tm_St → Prop) : Prop := (wp_X7_second  (tm_pj [3, 4, 5, 6, 7] s0) (fun r1 u3 => ∀ s2 : tm_St, s2 = tm_pk [3, 4, 5, 6, 7] s0 u3 → ((¬ r1 = (s2 0 3) → (wp_X7_told  (tm_pj [3, 4, 5, 6, 7] s2) (fun r5 u7 => ∀ s6 : tm_St, s6 = tm_pk [3, 4, 5, 6, 7] s2 u7 → (∀ x8 : Int32, x8 = (if (s2 0 4) < r5 then r5 else (s2 0 4)) → (∀ s9 : tm_St, s9 = tm_s s6 0 (tm_u (s6 0) 4 x8) → K s9))))) ∧ (r1 = (s2 0 3) → ∃ nf : Nat, wp_X2_take_13 K nf 0 s2))))
set_option maxRecDepth 100000 in
set_option maxHeartbeats 4000000 in
theorem kk_X2_take (l : Launch) (dC : Nat → ClassId) (dI : Nat → Nat → Nat) (cI cZ : ClassId) (a : Nat → Nat) (s0 : tm_St) (sz : Nat)  (K : tm_St → Prop) (hw : wp_X2_take s0 K) : Met l yX2_take wsX2_take ({ frames := 1, cells := 0, slots := 0, locals := 21 }) (va_Pc [.ref (a 0), .ref (a 3)] (tm_Pre dC dI cI cZ (tm_wMailT cI cZ a s0) sz)) (va_Qv (fun (u : tm_St) => K u) (fun (u : tm_St) t => tm_At dC dI cI cZ (va_A (tm_wMailT cI cZ a s0) sz) (tm_wMailT cI cZ a u) t) (va_A (tm_wMailT cI cZ a s0) sz)) 0 0 (va_A (tm_wMailT cI cZ a s0) sz) := by
  refine Met.ofW (cc := cX2_take) (maxL := 3) (ret := none) (by decide +kernel) rfl ?_
  intro p e z m args below meth c z₁ B hml hv
  obtain ⟨rfl, hsz, hP, hK, hD0⟩ := hv
  have hx := B.exec
  have hb := B.bytes
  have hr := B.returns
  have hts := atoms_spec (ws := wsX2_take) B.pre
  have hown : z.vm.findClass RX2 = some m.cls := findClass_of_methodNamed B.named
  have hlocks := B.notSynchronized
  subst hsz
  have hD := hD0.self (sz := z.heap.size)
  generalize hAe : va_A (tm_wMailT cI cZ a s0) z.heap.size = A at hD ⊢
  have hA : ∀ q : Nat, z.heap.size ≤ q → A q := fun q h => by rw [← hAe]; exact Or.inr h
  have hS : va_S A z.heap z.heap [] := va_S.rf
  have h_f20 := hts (.fieldLink RX2 20 "TwoModems$Mail" "taken" "I") (by decide +kernel)
  have h_in2 : ∀ w ∈ u_ws RX2 TX2 8, w ∈ wsX2_take := by decide +kernel
  have h_f23 := hts (.fieldLink RX2 23 "TwoModems$Mail" "told" "I") (by decide +kernel)
  have h_m50 := hts (.methodLink RX2 50 Lib.Math.max.name) (by decide +kernel)
  have h_ms_max := hts (.static Lib.Math.max.name) (by decide +kernel)
  have h_mi := hts (.initialized "java/lang/Math") (by decide +kernel)
  have h_mc_max := hts (.code Lib.Math.max.name Lib.Math.max.code 2 (some .int)) (by decide +kernel)
  have h_f13 := hts (.fieldLink RX2 13 "TwoModems$Mail" "takenCodes" "[I") (by decide +kernel)
  have b13 : ∀ (n : Nat) (v2 : Int32) (s : tm_St) (H : Heap) (locs : List Loc) (ls : Array Slot), wp_X2_take_13 K n v2 s → va_P (dC, dI) vwCl (tm_wMailT cI cZ a s) H → va_D A (tm_wMailT cI cZ a s) → va_S A z.heap H locs → lv_has ls 3 [(0, .ref (a 0)), (1, .ref (a 3)), (2, .int v2)] → W p l e (headSpec wsX2_take ({ frames := 1, cells := 0, slots := 0, locals := 21 })).room z m (([.ref (a 0), .ref (a 3)] : List Value).toArray) below meth c H locs 0 0 (MQ below (va_Qv (fun (u : tm_St) => K u) (fun (u : tm_St) t => tm_At dC dI cI cZ A (tm_wMailT cI cZ a u) t) A) (([.ref (a 0), .ref (a 3)] : List Value).toArray) z 0 0 A) (F0 m 13 ls []) := by
    intro n
    induction n with
    | zero => intro v2 s H locs ls hw hP hD hS hl; unfold wp_X2_take_13 at hw; exact hw.elim
    | succ n ih =>
      intro v2 s H locs ls hw hP hD hS hl
      unfold wp_X2_take_13 at hw
      refine lv_iload_n hx hb dX2_take_13 rfl (lv_at hl 2 rfl) ?_
      refine lv_aload_n hx hb dX2_take_14 rfl (lv_at hl 1 rfl) ?_
      have hPc := hP.sub (ws' := (tm_wWay cI cZ (tm_pj [3, 4, 5, 6, 7] a) (tm_pj [3, 4, 5, 6, 7] s))) [3, 4, 5, 6, 7] rfl
      have hDc := hD.sub (ws' := (tm_wWay cI cZ (tm_pj [3, 4, 5, 6, 7] a) (tm_pj [3, 4, 5, 6, 7] s))) [3, 4, 5, 6, 7] (by decide) rfl
      have hFc := va_free (wc := (tm_wWay cI cZ (tm_pj [3, 4, 5, 6, 7] a) (tm_pj [3, 4, 5, 6, 7] s))) hD hS hA [3, 4, 5, 6, 7] rfl
      refine va_calli (va_runV (As := []) (rest := [.int v2]) ⟨hx, hb, hml, hown, hts⟩ (kk_X7_letters l dC dI cI cZ (tm_pj [3, 4, 5, 6, 7] a) (tm_pj [3, 4, 5, 6, 7] s) H.size  _ hw) (cwV 0 hts gX2_take_X7_letters rfl rfl rfl (by decide +kernel) ⟨Nat.le_of_ble_eq_true rfl, Nat.le_of_ble_eq_true rfl⟩) ⟨tm_blind, va_recv hK hPc (ci := 5) (q0 := 0) rfl rfl, fun U hU hW => ⟨rfl, by rw [hU], by rw [hU]; exact hPc, va_K.moved hW.alike hK, hDc.weaken (fun _ _ _ _ => trivial)⟩⟩ rfl rfl hl.1 rfl (lv_room (Nat.le_of_ble_eq_true rfl)) dX2_take_15 ⟨Nat.zero_le _, Nat.zero_le _⟩) hS (fun q _ h => hFc q h) hFc (fun r10 u t H1 locs ht hvm hw hB hz1 hk1 hS => ?_)
      obtain ⟨hP1, hK1, hD1⟩ := hB
      rw [ht] at hP1
      obtain ⟨hP, hD⟩ := va_join (wr := ([0, 1, 2] : List Nat).filterMap (fun i => (tm_wMailT cI cZ a s)[i]?)) (w1 := (tm_wWay cI cZ (tm_pj [3, 4, 5, 6, 7] a) u)) hP hD [3, 4, 5, 6, 7] [0, 1, 2] rfl rfl (by decide) (by decide) hk1 hFc hP1 hD1
      generalize H1 = H at hP hS ⊢
      obtain ⟨s11, es11⟩ : ∃ y : tm_St, y = tm_pk [3, 4, 5, 6, 7] s u := ⟨_, rfl⟩
      have hw := hw s11 es11
      have hP : va_P (dC, dI) vwCl (tm_wMailT cI cZ a s11) H := by rw [es11]; exact hP.sub [0, 1, 2, 3, 4, 5, 6, 7] rfl
      have hD : va_D A (tm_wMailT cI cZ a s11) := by rw [es11]; exact hD.sub [0, 1, 2, 3, 4, 5, 6, 7] (by decide) rfl
      refine lv_icmp_ge (tgt := 68) hx hb dX2_take_18 (by decide) (fun c13 => ?_) (fun c13 => ?_)
      · have hw := hw.1 c13
        refine lv_aload_n hx hb dX2_take_68 rfl (lv_at hl 0 rfl) ?_
        refine lv_aload_n hx hb dX2_take_69 rfl (lv_at hl 0 rfl) ?_
        refine va_get (D := (dC, dI)) (ci := 2) (v := .int (s11 0 4)) (C := RX2) (T := TX2) (N := 8) hx hb hts h_in2 hown hK hP 0 rfl rfl 4 (by decide) h_f23 (fun _ h9 => h9) rfl dX2_take_70 ?_
        refine lv_aload_n hx hb dX2_take_73 rfl (lv_at hl 1 rfl) ?_
        have hPc := hP.sub (ws' := (tm_wWay cI cZ (tm_pj [3, 4, 5, 6, 7] a) (tm_pj [3, 4, 5, 6, 7] s11))) [3, 4, 5, 6, 7] rfl
        have hDc := hD.sub (ws' := (tm_wWay cI cZ (tm_pj [3, 4, 5, 6, 7] a) (tm_pj [3, 4, 5, 6, 7] s11))) [3, 4, 5, 6, 7] (by decide) rfl
        have hFc := va_free (wc := (tm_wWay cI cZ (tm_pj [3, 4, 5, 6, 7] a) (tm_pj [3, 4, 5, 6, 7] s11))) hD hS hA [3, 4, 5, 6, 7] rfl
        refine va_calli (va_runV (As := []) (rest := [.int (s11 0 4), .ref (a 0)]) ⟨hx, hb, hml, hown, hts⟩ (kk_X7_told l dC dI cI cZ (tm_pj [3, 4, 5, 6, 7] a) (tm_pj [3, 4, 5, 6, 7] s11) H.size  _ hw) (cwV 0 hts gX2_take_X7_told rfl rfl rfl (by decide +kernel) ⟨Nat.le_of_ble_eq_true rfl, Nat.le_of_ble_eq_true rfl⟩) ⟨tm_blind, va_recv hK hPc (ci := 5) (q0 := 0) rfl rfl, fun U hU hW => ⟨rfl, by rw [hU], by rw [hU]; exact hPc, va_K.moved hW.alike hK, hDc.weaken (fun _ _ _ _ => trivial)⟩⟩ rfl rfl hl.1 rfl (lv_room (Nat.le_of_ble_eq_true rfl)) dX2_take_74 ⟨Nat.zero_le _, Nat.zero_le _⟩) hS (fun q _ h => hFc q h) hFc (fun r14 u t H1 locs ht hvm hw hB hz1 hk1 hS => ?_)
        obtain ⟨hP1, hK1, hD1⟩ := hB
        rw [ht] at hP1
        obtain ⟨hP, hD⟩ := va_join (wr := ([0, 1, 2] : List Nat).filterMap (fun i => (tm_wMailT cI cZ a s11)[i]?)) (w1 := (tm_wWay cI cZ (tm_pj [3, 4, 5, 6, 7] a) u)) hP hD [3, 4, 5, 6, 7] [0, 1, 2] rfl rfl (by decide) (by decide) hk1 hFc hP1 hD1
        generalize H1 = H at hP hS ⊢
        obtain ⟨s15, es15⟩ : ∃ y : tm_St, y = tm_pk [3, 4, 5, 6, 7] s11 u := ⟨_, rfl⟩
        have hw := hw s15 es15
        have hP : va_P (dC, dI) vwCl (tm_wMailT cI cZ a s15) H := by rw [es15]; exact hP.sub [0, 1, 2, 3, 4, 5, 6, 7] rfl
        have hD : va_D A (tm_wMailT cI cZ a s15) := by rw [es15]; exact hD.sub [0, 1, 2, 3, 4, 5, 6, 7] (by decide) rfl
        refine va_mmax hx hb (hml.trans hl.1.symm) hown h_m50 h_ms_max h_mi h_mc_max (Nat.le_of_ble_eq_true rfl) (Nat.le_of_ble_eq_true rfl) (Nat.zero_le _) (Nat.zero_le _) dX2_take_77 ?_
        refine lv_topi (fun x17 ex17 => ?_)
        have hw := hw x17 ex17
        refine va_put (D := (dC, dI)) (ci := 2) (v := .int x17) (ty := .int) (C := RX2) (T := TX2) (N := 8) hx hb hts h_in2 tyX2 tyX2_ok nmX2 hown hK hP hD hS 0 rfl rfl 4 (by decide) h_f23 (fun _ h9 => h9) rfl (by decide +kernel) rfl rfl (Nat.le_of_ble_eq_true rfl) dX2_take_80 (fun H locs hP hD hS => ?_)
        obtain ⟨s18, es18⟩ : ∃ y : tm_St, y = tm_s s15 0 (tm_u (s15 0) 4 x17) := ⟨_, rfl⟩
        have hw := hw s18 es18
        have hP : va_P (dC, dI) vwCl (tm_wMailT cI cZ a s18) H := by rw [es18]; exact hP
        have hD : va_D A (tm_wMailT cI cZ a s18) := by rw [es18]; exact hD
        exact W.vret hx hb hr (fun t ht hW => ⟨⟨s18, rfl, hw, by rw [ht]; exact hP, va_K.moved hW.alike hK, hD⟩, hS.F ht⟩) hS.2.2 dX2_take_83
      · have hw := hw.2 c13
        refine lv_aload_n hx hb dX2_take_21 rfl (lv_at hl 0 rfl) ?_
        refine va_get (D := (dC, dI)) (ci := 2) (v := .int (s11 0 3)) (C := RX2) (T := TX2) (N := 8) hx hb hts h_in2 hown hK hP 0 rfl rfl 3 (by decide) h_f20 (fun _ h9 => h9) rfl dX2_take_22 ?_
        refine lv_if_lt (tgt := 68) hx hb dX2_take_25 (by decide) (fun c19 => ?_) (fun c19 => ?_)
        · have hw := hw.1 c19
          refine lv_aload_n hx hb dX2_take_68 rfl (lv_at hl 0 rfl) ?_
          refine lv_aload_n hx hb dX2_take_69 rfl (lv_at hl 0 rfl) ?_
          refine va_get (D := (dC, dI)) (ci := 2) (v := .int (s11 0 4)) (C := RX2) (T := TX2) (N := 8) hx hb hts h_in2 hown hK hP 0 rfl rfl 4 (by decide) h_f23 (fun _ h9 => h9) rfl dX2_take_70 ?_
          refine lv_aload_n hx hb dX2_take_73 rfl (lv_at hl 1 rfl) ?_
          have hPc := hP.sub (ws' := (tm_wWay cI cZ (tm_pj [3, 4, 5, 6, 7] a) (tm_pj [3, 4, 5, 6, 7] s11))) [3, 4, 5, 6, 7] rfl
          have hDc := hD.sub (ws' := (tm_wWay cI cZ (tm_pj [3, 4, 5, 6, 7] a) (tm_pj [3, 4, 5, 6, 7] s11))) [3, 4, 5, 6, 7] (by decide) rfl
          have hFc := va_free (wc := (tm_wWay cI cZ (tm_pj [3, 4, 5, 6, 7] a) (tm_pj [3, 4, 5, 6, 7] s11))) hD hS hA [3, 4, 5, 6, 7] rfl
          refine va_calli (va_runV (As := []) (rest := [.int (s11 0 4), .ref (a 0)]) ⟨hx, hb, hml, hown, hts⟩ (kk_X7_told l dC dI cI cZ (tm_pj [3, 4, 5, 6, 7] a) (tm_pj [3, 4, 5, 6, 7] s11) H.size  _ hw) (cwV 0 hts gX2_take_X7_told rfl rfl rfl (by decide +kernel) ⟨Nat.le_of_ble_eq_true rfl, Nat.le_of_ble_eq_true rfl⟩) ⟨tm_blind, va_recv hK hPc (ci := 5) (q0 := 0) rfl rfl, fun U hU hW => ⟨rfl, by rw [hU], by rw [hU]; exact hPc, va_K.moved hW.alike hK, hDc.weaken (fun _ _ _ _ => trivial)⟩⟩ rfl rfl hl.1 rfl (lv_room (Nat.le_of_ble_eq_true rfl)) dX2_take_74 ⟨Nat.zero_le _, Nat.zero_le _⟩) hS (fun q _ h => hFc q h) hFc (fun r20 u t H1 locs ht hvm hw hB hz1 hk1 hS => ?_)
          obtain ⟨hP1, hK1, hD1⟩ := hB
          rw [ht] at hP1
          obtain ⟨hP, hD⟩ := va_join (wr := ([0, 1, 2] : List Nat).filterMap (fun i => (tm_wMailT cI cZ a s11)[i]?)) (w1 := (tm_wWay cI cZ (tm_pj [3, 4, 5, 6, 7] a) u)) hP hD [3, 4, 5, 6, 7] [0, 1, 2] rfl rfl (by decide) (by decide) hk1 hFc hP1 hD1
          generalize H1 = H at hP hS ⊢
          obtain ⟨s21, es21⟩ : ∃ y : tm_St, y = tm_pk [3, 4, 5, 6, 7] s11 u := ⟨_, rfl⟩
          have hw := hw s21 es21
          have hP : va_P (dC, dI) vwCl (tm_wMailT cI cZ a s21) H := by rw [es21]; exact hP.sub [0, 1, 2, 3, 4, 5, 6, 7] rfl
          have hD : va_D A (tm_wMailT cI cZ a s21) := by rw [es21]; exact hD.sub [0, 1, 2, 3, 4, 5, 6, 7] (by decide) rfl
          refine va_mmax hx hb (hml.trans hl.1.symm) hown h_m50 h_ms_max h_mi h_mc_max (Nat.le_of_ble_eq_true rfl) (Nat.le_of_ble_eq_true rfl) (Nat.zero_le _) (Nat.zero_le _) dX2_take_77 ?_
          refine lv_topi (fun x23 ex23 => ?_)
          have hw := hw x23 ex23
          refine va_put (D := (dC, dI)) (ci := 2) (v := .int x23) (ty := .int) (C := RX2) (T := TX2) (N := 8) hx hb hts h_in2 tyX2 tyX2_ok nmX2 hown hK hP hD hS 0 rfl rfl 4 (by decide) h_f23 (fun _ h9 => h9) rfl (by decide +kernel) rfl rfl (Nat.le_of_ble_eq_true rfl) dX2_take_80 (fun H locs hP hD hS => ?_)
          obtain ⟨s24, es24⟩ : ∃ y : tm_St, y = tm_s s21 0 (tm_u (s21 0) 4 x23) := ⟨_, rfl⟩
          have hw := hw s24 es24
          have hP : va_P (dC, dI) vwCl (tm_wMailT cI cZ a s24) H := by rw [es24]; exact hP
          have hD : va_D A (tm_wMailT cI cZ a s24) := by rw [es24]; exact hD
          exact W.vret hx hb hr (fun t ht hW => ⟨⟨s24, rfl, hw, by rw [ht]; exact hP, va_K.moved hW.alike hK, hD⟩, hS.F ht⟩) hS.2.2 dX2_take_83
        · have hw := hw.2 c19
          refine lv_aload_n hx hb dX2_take_28 rfl (lv_at hl 0 rfl) ?_
          refine va_get (D := (dC, dI)) (ci := 2) (v := .int (s11 0 3)) (C := RX2) (T := TX2) (N := 8) hx hb hts h_in2 hown hK hP 0 rfl rfl 3 (by decide) h_f20 (fun _ h9 => h9) rfl dX2_take_29 ?_
          refine lv_sipush (v := 200) hx hb dX2_take_32 (by decide) ?_
          refine lv_icmp_ge (tgt := 68) hx hb dX2_take_35 (by decide) (fun c25 => ?_) (fun c25 => ?_)
          · have hw := hw.1 c25
            refine lv_aload_n hx hb dX2_take_68 rfl (lv_at hl 0 rfl) ?_
            refine lv_aload_n hx hb dX2_take_69 rfl (lv_at hl 0 rfl) ?_
            refine va_get (D := (dC, dI)) (ci := 2) (v := .int (s11 0 4)) (C := RX2) (T := TX2) (N := 8) hx hb hts h_in2 hown hK hP 0 rfl rfl 4 (by decide) h_f23 (fun _ h9 => h9) rfl dX2_take_70 ?_
            refine lv_aload_n hx hb dX2_take_73 rfl (lv_at hl 1 rfl) ?_
            have hPc := hP.sub (ws' := (tm_wWay cI cZ (tm_pj [3, 4, 5, 6, 7] a) (tm_pj [3, 4, 5, 6, 7] s11))) [3, 4, 5, 6, 7] rfl
            have hDc := hD.sub (ws' := (tm_wWay cI cZ (tm_pj [3, 4, 5, 6, 7] a) (tm_pj [3, 4, 5, 6, 7] s11))) [3, 4, 5, 6, 7] (by decide) rfl
            have hFc := va_free (wc := (tm_wWay cI cZ (tm_pj [3, 4, 5, 6, 7] a) (tm_pj [3, 4, 5, 6, 7] s11))) hD hS hA [3, 4, 5, 6, 7] rfl
            refine va_calli (va_runV (As := []) (rest := [.int (s11 0 4), .ref (a 0)]) ⟨hx, hb, hml, hown, hts⟩ (kk_X7_told l dC dI cI cZ (tm_pj [3, 4, 5, 6, 7] a) (tm_pj [3, 4, 5, 6, 7] s11) H.size  _ hw) (cwV 0 hts gX2_take_X7_told rfl rfl rfl (by decide +kernel) ⟨Nat.le_of_ble_eq_true rfl, Nat.le_of_ble_eq_true rfl⟩) ⟨tm_blind, va_recv hK hPc (ci := 5) (q0 := 0) rfl rfl, fun U hU hW => ⟨rfl, by rw [hU], by rw [hU]; exact hPc, va_K.moved hW.alike hK, hDc.weaken (fun _ _ _ _ => trivial)⟩⟩ rfl rfl hl.1 rfl (lv_room (Nat.le_of_ble_eq_true rfl)) dX2_take_74 ⟨Nat.zero_le _, Nat.zero_le _⟩) hS (fun q _ h => hFc q h) hFc (fun r26 u t H1 locs ht hvm hw hB hz1 hk1 hS => ?_)
            obtain ⟨hP1, hK1, hD1⟩ := hB
            rw [ht] at hP1
            obtain ⟨hP, hD⟩ := va_join (wr := ([0, 1, 2] : List Nat).filterMap (fun i => (tm_wMailT cI cZ a s11)[i]?)) (w1 := (tm_wWay cI cZ (tm_pj [3, 4, 5, 6, 7] a) u)) hP hD [3, 4, 5, 6, 7] [0, 1, 2] rfl rfl (by decide) (by decide) hk1 hFc hP1 hD1
            generalize H1 = H at hP hS ⊢
            obtain ⟨s27, es27⟩ : ∃ y : tm_St, y = tm_pk [3, 4, 5, 6, 7] s11 u := ⟨_, rfl⟩
            have hw := hw s27 es27
            have hP : va_P (dC, dI) vwCl (tm_wMailT cI cZ a s27) H := by rw [es27]; exact hP.sub [0, 1, 2, 3, 4, 5, 6, 7] rfl
            have hD : va_D A (tm_wMailT cI cZ a s27) := by rw [es27]; exact hD.sub [0, 1, 2, 3, 4, 5, 6, 7] (by decide) rfl
            refine va_mmax hx hb (hml.trans hl.1.symm) hown h_m50 h_ms_max h_mi h_mc_max (Nat.le_of_ble_eq_true rfl) (Nat.le_of_ble_eq_true rfl) (Nat.zero_le _) (Nat.zero_le _) dX2_take_77 ?_
            refine lv_topi (fun x29 ex29 => ?_)
            have hw := hw x29 ex29
            refine va_put (D := (dC, dI)) (ci := 2) (v := .int x29) (ty := .int) (C := RX2) (T := TX2) (N := 8) hx hb hts h_in2 tyX2 tyX2_ok nmX2 hown hK hP hD hS 0 rfl rfl 4 (by decide) h_f23 (fun _ h9 => h9) rfl (by decide +kernel) rfl rfl (Nat.le_of_ble_eq_true rfl) dX2_take_80 (fun H locs hP hD hS => ?_)
            obtain ⟨s30, es30⟩ : ∃ y : tm_St, y = tm_s s27 0 (tm_u (s27 0) 4 x29) := ⟨_, rfl⟩
            have hw := hw s30 es30
            have hP : va_P (dC, dI) vwCl (tm_wMailT cI cZ a s30) H := by rw [es30]; exact hP
            have hD : va_D A (tm_wMailT cI cZ a s30) := by rw [es30]; exact hD
            exact W.vret hx hb hr (fun t ht hW => ⟨⟨s30, rfl, hw, by rw [ht]; exact hP, va_K.moved hW.alike hK, hD⟩, hS.F ht⟩) hS.2.2 dX2_take_83
          · have hw := hw.2 c25
            refine lv_aload_n hx hb dX2_take_38 rfl (lv_at hl 0 rfl) ?_
            refine va_get (D := (dC, dI)) (ci := 2) (v := .ref (a 2)) (C := RX2) (T := TX2) (N := 8) hx hb hts h_in2 hown hK hP 0 rfl rfl 1 (by decide) h_f13 (fun _ h9 => h9) rfl dX2_take_39 ?_
            refine lv_aload_n hx hb dX2_take_42 rfl (lv_at hl 0 rfl) ?_
            refine va_get (D := (dC, dI)) (ci := 2) (v := .int (s11 0 3)) (C := RX2) (T := TX2) (N := 8) hx hb hts h_in2 hown hK hP 0 rfl rfl 3 (by decide) h_f20 (fun _ h9 => h9) rfl dX2_take_43 ?_
            refine lv_aload_n hx hb dX2_take_46 rfl (lv_at hl 1 rfl) ?_
            refine lv_iload_n hx hb dX2_take_47 rfl (lv_at hl 2 rfl) ?_
            have hPc := hP.sub (ws' := (tm_wWay cI cZ (tm_pj [3, 4, 5, 6, 7] a) (tm_pj [3, 4, 5, 6, 7] s11))) [3, 4, 5, 6, 7] rfl
            have hDc := hD.sub (ws' := (tm_wWay cI cZ (tm_pj [3, 4, 5, 6, 7] a) (tm_pj [3, 4, 5, 6, 7] s11))) [3, 4, 5, 6, 7] (by decide) rfl
            have hFc := va_free (wc := (tm_wWay cI cZ (tm_pj [3, 4, 5, 6, 7] a) (tm_pj [3, 4, 5, 6, 7] s11))) hD hS hA [3, 4, 5, 6, 7] rfl
            refine va_calli (va_runV (As := [.int v2]) (rest := [.int (s11 0 3), .ref (a 2)]) ⟨hx, hb, hml, hown, hts⟩ (kk_X7_enclosed l dC dI cI cZ (tm_pj [3, 4, 5, 6, 7] a) (tm_pj [3, 4, 5, 6, 7] s11) H.size v2 _ hw) (cwV 1 hts gX2_take_X7_enclosed rfl rfl rfl (by decide +kernel) ⟨Nat.le_of_ble_eq_true rfl, Nat.le_of_ble_eq_true rfl⟩) ⟨tm_blind, va_recv hK hPc (ci := 5) (q0 := 0) rfl rfl, fun U hU hW => ⟨rfl, by rw [hU], by rw [hU]; exact hPc, va_K.moved hW.alike hK, hDc.weaken (fun _ _ _ _ => trivial)⟩⟩ rfl rfl hl.1 rfl (lv_room (Nat.le_of_ble_eq_true rfl)) dX2_take_48 ⟨Nat.zero_le _, Nat.zero_le _⟩) hS (fun q _ h => hFc q h) hFc (fun r31 u t H1 locs ht hvm hw hB hz1 hk1 hS => ?_)
            obtain ⟨hP1, hK1, hD1⟩ := hB
            rw [ht] at hP1
            obtain ⟨hP, hD⟩ := va_join (wr := ([0, 1, 2] : List Nat).filterMap (fun i => (tm_wMailT cI cZ a s11)[i]?)) (w1 := (tm_wWay cI cZ (tm_pj [3, 4, 5, 6, 7] a) u)) hP hD [3, 4, 5, 6, 7] [0, 1, 2] rfl rfl (by decide) (by decide) hk1 hFc hP1 hD1
            generalize H1 = H at hP hS ⊢
            obtain ⟨s32, es32⟩ : ∃ y : tm_St, y = tm_pk [3, 4, 5, 6, 7] s11 u := ⟨_, rfl⟩
            have hw := hw s32 es32
            have hP : va_P (dC, dI) vwCl (tm_wMailT cI cZ a s32) H := by rw [es32]; exact hP.sub [0, 1, 2, 3, 4, 5, 6, 7] rfl
            have hD : va_D A (tm_wMailT cI cZ a s32) := by rw [es32]; exact hD.sub [0, 1, 2, 3, 4, 5, 6, 7] (by decide) rfl
            have c34 := hw.1
            have hw := hw.2
            refine va_iast hx hb hK hP hD hS 2 0 rfl rfl c34 dX2_take_51 (fun H locs hP hD hS => ?_)
            obtain ⟨s35, es35⟩ : ∃ y : tm_St, y = tm_s s32 2 (upd (s32 2) ((s11 0 3) : Int32).toNatClampNeg r31) := ⟨_, rfl⟩
            have hw := hw s35 es35
            have hP : va_P (dC, dI) vwCl (tm_wMailT cI cZ a s35) H := by rw [es35]; exact hP
            have hD : va_D A (tm_wMailT cI cZ a s35) := by rw [es35]; exact hD
            refine lv_aload_n hx hb dX2_take_52 rfl (lv_at hl 0 rfl) ?_
            refine lv_dup hx hb dX2_take_53 rfl ?_
            refine va_get (D := (dC, dI)) (ci := 2) (v := .int (s35 0 3)) (C := RX2) (T := TX2) (N := 8) hx hb hts h_in2 hown hK hP 0 rfl rfl 3 (by decide) h_f20 (fun _ h9 => h9) rfl dX2_take_54 ?_
            refine lv_iconst (v := 1) hx hb dX2_take_57 (by decide) ?_
            refine lv_iadd hx hb dX2_take_58 ?_
            refine va_put (D := (dC, dI)) (ci := 2) (v := .int ((s35 0 3) + 1)) (ty := .int) (C := RX2) (T := TX2) (N := 8) hx hb hts h_in2 tyX2 tyX2_ok nmX2 hown hK hP hD hS 0 rfl rfl 3 (by decide) h_f20 (fun _ h9 => h9) rfl (by decide +kernel) rfl rfl (Nat.le_of_ble_eq_true rfl) dX2_take_59 (fun H locs hP hD hS => ?_)
            obtain ⟨s36, es36⟩ : ∃ y : tm_St, y = tm_s s35 0 (tm_u (s35 0) 3 ((s35 0 3) + 1)) := ⟨_, rfl⟩
            have hw := hw s36 es36
            have hP : va_P (dC, dI) vwCl (tm_wMailT cI cZ a s36) H := by rw [es36]; exact hP
            have hD : va_D A (tm_wMailT cI cZ a s36) := by rw [es36]; exact hD
            obtain ⟨x37, ex37⟩ : ∃ y : Int32, y = v2 + 1 := ⟨_, rfl⟩
            have hw := hw x37 ex37
            refine lv_iinc (v := x37) (lv' := [(2, .int x37), (0, .ref (a 0)), (1, .ref (a 3))]) hx hb dX2_take_62 hl (k := 2) rfl (by rw [ex37]; rfl) (by decide) rfl (fun ls hl => ?_)
            refine lv_goto (tgt := 13) hx hb dX2_take_65 (by decide) ?_
            exact ih x37 s36 _ _ _ hw hP hD hS (lv_sub hl [1, 2, 0] rfl)
  have hl := lv_entry ([.ref (a 0), .ref (a 3)]) (n := 3) (Nat.le_of_ble_eq_true rfl)
  rw [lg_entry_eq]
  generalize (lg_sl ([.ref (a 0), .ref (a 3)]) ++ List.replicate (3 - (lg_sl ([.ref (a 0), .ref (a 3)])).length) Slot.unset).toArray = ls at hl ⊢
  have hl : lv_has ls 3 [(0, .ref (a 0)), (1, .ref (a 3))] := hl
  unfold wp_X2_take at hw
  refine lv_aload_n hx hb dX2_take_0 rfl (lv_at hl 1 rfl) ?_
  have hPc := hP.sub (ws' := (tm_wWay cI cZ (tm_pj [3, 4, 5, 6, 7] a) (tm_pj [3, 4, 5, 6, 7] s0))) [3, 4, 5, 6, 7] rfl
  have hDc := hD.sub (ws' := (tm_wWay cI cZ (tm_pj [3, 4, 5, 6, 7] a) (tm_pj [3, 4, 5, 6, 7] s0))) [3, 4, 5, 6, 7] (by decide) rfl
  have hFc := va_free (wc := (tm_wWay cI cZ (tm_pj [3, 4, 5, 6, 7] a) (tm_pj [3, 4, 5, 6, 7] s0))) hD hS hA [3, 4, 5, 6, 7] rfl
  refine va_calli (va_runV (As := []) (rest := []) ⟨hx, hb, hml, hown, hts⟩ (kk_X7_second l dC dI cI cZ (tm_pj [3, 4, 5, 6, 7] a) (tm_pj [3, 4, 5, 6, 7] s0) z.heap.size  _ hw) (cwV 0 hts gX2_take_X7_second rfl rfl rfl (by decide +kernel) ⟨Nat.le_of_ble_eq_true rfl, Nat.le_of_ble_eq_true rfl⟩) ⟨tm_blind, va_recv hK hPc (ci := 5) (q0 := 0) rfl rfl, fun U hU hW => ⟨rfl, by rw [hU], by rw [hU]; exact hPc, va_K.moved hW.alike hK, hDc.weaken (fun _ _ _ _ => trivial)⟩⟩ rfl rfl hl.1 rfl (lv_room (Nat.le_of_ble_eq_true rfl)) dX2_take_1 ⟨Nat.zero_le _, Nat.zero_le _⟩) hS (fun q _ h => hFc q h) hFc (fun r1 u t H1 locs ht hvm hw hB hz1 hk1 hS => ?_)
  obtain ⟨hP1, hK1, hD1⟩ := hB
  rw [ht] at hP1
  obtain ⟨hP, hD⟩ := va_join (wr := ([0, 1, 2] : List Nat).filterMap (fun i => (tm_wMailT cI cZ a s0)[i]?)) (w1 := (tm_wWay cI cZ (tm_pj [3, 4, 5, 6, 7] a) u)) hP hD [3, 4, 5, 6, 7] [0, 1, 2] rfl rfl (by decide) (by decide) hk1 hFc hP1 hD1
  generalize H1 = H at hP hS ⊢
  obtain ⟨s2, es2⟩ : ∃ y : tm_St, y = tm_pk [3, 4, 5, 6, 7] s0 u := ⟨_, rfl⟩
  have hw := hw s2 es2
  have hP : va_P (dC, dI) vwCl (tm_wMailT cI cZ a s2) H := by rw [es2]; exact hP.sub [0, 1, 2, 3, 4, 5, 6, 7] rfl
  have hD : va_D A (tm_wMailT cI cZ a s2) := by rw [es2]; exact hD.sub [0, 1, 2, 3, 4, 5, 6, 7] (by decide) rfl
  refine lv_aload_n hx hb dX2_take_4 rfl (lv_at hl 0 rfl) ?_
  refine va_get (D := (dC, dI)) (ci := 2) (v := .int (s2 0 3)) (C := RX2) (T := TX2) (N := 8) hx hb hts h_in2 hown hK hP 0 rfl rfl 3 (by decide) h_f20 (fun _ h9 => h9) rfl dX2_take_5 ?_
  refine lv_icmp_ne (tgt := 68) hx hb dX2_take_8 (by decide) (fun c4 => ?_) (fun c4 => ?_)
  · have hw := hw.1 c4
    refine lv_aload_n hx hb dX2_take_68 rfl (lv_at hl 0 rfl) ?_
    refine lv_aload_n hx hb dX2_take_69 rfl (lv_at hl 0 rfl) ?_
    refine va_get (D := (dC, dI)) (ci := 2) (v := .int (s2 0 4)) (C := RX2) (T := TX2) (N := 8) hx hb hts h_in2 hown hK hP 0 rfl rfl 4 (by decide) h_f23 (fun _ h9 => h9) rfl dX2_take_70 ?_
    refine lv_aload_n hx hb dX2_take_73 rfl (lv_at hl 1 rfl) ?_
    have hPc := hP.sub (ws' := (tm_wWay cI cZ (tm_pj [3, 4, 5, 6, 7] a) (tm_pj [3, 4, 5, 6, 7] s2))) [3, 4, 5, 6, 7] rfl
    have hDc := hD.sub (ws' := (tm_wWay cI cZ (tm_pj [3, 4, 5, 6, 7] a) (tm_pj [3, 4, 5, 6, 7] s2))) [3, 4, 5, 6, 7] (by decide) rfl
    have hFc := va_free (wc := (tm_wWay cI cZ (tm_pj [3, 4, 5, 6, 7] a) (tm_pj [3, 4, 5, 6, 7] s2))) hD hS hA [3, 4, 5, 6, 7] rfl
    refine va_calli (va_runV (As := []) (rest := [.int (s2 0 4), .ref (a 0)]) ⟨hx, hb, hml, hown, hts⟩ (kk_X7_told l dC dI cI cZ (tm_pj [3, 4, 5, 6, 7] a) (tm_pj [3, 4, 5, 6, 7] s2) H.size  _ hw) (cwV 0 hts gX2_take_X7_told rfl rfl rfl (by decide +kernel) ⟨Nat.le_of_ble_eq_true rfl, Nat.le_of_ble_eq_true rfl⟩) ⟨tm_blind, va_recv hK hPc (ci := 5) (q0 := 0) rfl rfl, fun U hU hW => ⟨rfl, by rw [hU], by rw [hU]; exact hPc, va_K.moved hW.alike hK, hDc.weaken (fun _ _ _ _ => trivial)⟩⟩ rfl rfl hl.1 rfl (lv_room (Nat.le_of_ble_eq_true rfl)) dX2_take_74 ⟨Nat.zero_le _, Nat.zero_le _⟩) hS (fun q _ h => hFc q h) hFc (fun r5 u t H1 locs ht hvm hw hB hz1 hk1 hS => ?_)
    obtain ⟨hP1, hK1, hD1⟩ := hB
    rw [ht] at hP1
    obtain ⟨hP, hD⟩ := va_join (wr := ([0, 1, 2] : List Nat).filterMap (fun i => (tm_wMailT cI cZ a s2)[i]?)) (w1 := (tm_wWay cI cZ (tm_pj [3, 4, 5, 6, 7] a) u)) hP hD [3, 4, 5, 6, 7] [0, 1, 2] rfl rfl (by decide) (by decide) hk1 hFc hP1 hD1
    generalize H1 = H at hP hS ⊢
    obtain ⟨s6, es6⟩ : ∃ y : tm_St, y = tm_pk [3, 4, 5, 6, 7] s2 u := ⟨_, rfl⟩
    have hw := hw s6 es6
    have hP : va_P (dC, dI) vwCl (tm_wMailT cI cZ a s6) H := by rw [es6]; exact hP.sub [0, 1, 2, 3, 4, 5, 6, 7] rfl
    have hD : va_D A (tm_wMailT cI cZ a s6) := by rw [es6]; exact hD.sub [0, 1, 2, 3, 4, 5, 6, 7] (by decide) rfl
    refine va_mmax hx hb (hml.trans hl.1.symm) hown h_m50 h_ms_max h_mi h_mc_max (Nat.le_of_ble_eq_true rfl) (Nat.le_of_ble_eq_true rfl) (Nat.zero_le _) (Nat.zero_le _) dX2_take_77 ?_
    refine lv_topi (fun x8 ex8 => ?_)
    have hw := hw x8 ex8
    refine va_put (D := (dC, dI)) (ci := 2) (v := .int x8) (ty := .int) (C := RX2) (T := TX2) (N := 8) hx hb hts h_in2 tyX2 tyX2_ok nmX2 hown hK hP hD hS 0 rfl rfl 4 (by decide) h_f23 (fun _ h9 => h9) rfl (by decide +kernel) rfl rfl (Nat.le_of_ble_eq_true rfl) dX2_take_80 (fun H locs hP hD hS => ?_)
    obtain ⟨s9, es9⟩ : ∃ y : tm_St, y = tm_s s6 0 (tm_u (s6 0) 4 x8) := ⟨_, rfl⟩
    have hw := hw s9 es9
    have hP : va_P (dC, dI) vwCl (tm_wMailT cI cZ a s9) H := by rw [es9]; exact hP
    have hD : va_D A (tm_wMailT cI cZ a s9) := by rw [es9]; exact hD
    exact W.vret hx hb hr (fun t ht hW => ⟨⟨s9, rfl, hw, by rw [ht]; exact hP, va_K.moved hW.alike hK, hD⟩, hS.F ht⟩) hS.2.2 dX2_take_83
  · have hw := hw.2 c4
    refine lv_iconst (v := 0) hx hb dX2_take_11 (by decide) ?_
    refine lv_istore_n (lv' := [(2, .int 0), (0, .ref (a 0)), (1, .ref (a 3))]) hx hb dX2_take_12 rfl hl (by decide) rfl (fun ls hl => ?_)
    obtain ⟨nf, hw⟩ := hw
    exact b13 nf 0 s2 _ _ _ hw hP hD hS (lv_sub hl [1, 2, 0] rfl)
def wp_X2_takenAt (p0 : Int32) (s0 : tm_St) (K : Int32 → tm_St → Prop) : Prop := ((p0 < 0 → K 0 s0) ∧ (¬ p0 < 0 → (((s0 0 3) ≤ p0 → K 0 s0) ∧ (¬ (s0 0 3) ≤ p0 → (((200 : Int32) ≤ p0 → K 0 s0) ∧ (¬ (200 : Int32) ≤ p0 → (vp_in p0 200 ∧ K (s0 2 (p0 : Int32).toNatClampNeg) s0)))))))
set_option maxRecDepth 100000 in
set_option maxHeartbeats 4000000 in
theorem kk_X2_takenAt (l : Launch) (dC : Nat → ClassId) (dI : Nat → Nat → Nat) (cI cZ : ClassId) (a : Nat → Nat) (s0 : tm_St) (sz : Nat) (p0 : Int32) (K : Int32 → tm_St → Prop) (hw : wp_X2_takenAt p0 s0 K) : Met l yX2_takenAt wsX2_takenAt ({ frames := 0, cells := 0, slots := 0, locals := 0 }) (va_Pc [.ref (a 0), .int p0] (tm_Pre dC dI cI cZ (tm_wMail cI cZ a s0) sz)) (va_Qi (fun (r : Int32) (u : tm_St) => K r u) (fun (u : tm_St) t => tm_At dC dI cI cZ (va_A (tm_wMail cI cZ a s0) sz) (tm_wMail cI cZ a u) t) (va_A (tm_wMail cI cZ a s0) sz)) 0 0 (va_A (tm_wMail cI cZ a s0) sz) := by
  refine Met.ofW (cc := cX2_takenAt) (maxL := 2) (ret := (some .int)) (by decide +kernel) rfl ?_
  intro p e z m args below meth c z₁ B hml hv
  obtain ⟨rfl, hsz, hP, hK, hD0⟩ := hv
  have hx := B.exec
  have hb := B.bytes
  have hr := B.returns
  have hts := atoms_spec (ws := wsX2_takenAt) B.pre
  have hown : z.vm.findClass RX2 = some m.cls := findClass_of_methodNamed B.named
  have hlocks := B.notSynchronized
  subst hsz
  have hD := hD0.self (sz := z.heap.size)
  generalize hAe : va_A (tm_wMail cI cZ a s0) z.heap.size = A at hD ⊢
  have hA : ∀ q : Nat, z.heap.size ≤ q → A q := fun q h => by rw [← hAe]; exact Or.inr h
  have hS : va_S A z.heap z.heap [] := va_S.rf
  have h_f20 := hts (.fieldLink RX2 20 "TwoModems$Mail" "taken" "I") (by decide +kernel)
  have h_in2 : ∀ w ∈ u_ws RX2 TX2 8, w ∈ wsX2_takenAt := by decide +kernel
  have h_f13 := hts (.fieldLink RX2 13 "TwoModems$Mail" "takenCodes" "[I") (by decide +kernel)
  have hl := lv_entry ([.ref (a 0), .int p0]) (n := 2) (Nat.le_of_ble_eq_true rfl)
  rw [lg_entry_eq]
  generalize (lg_sl ([.ref (a 0), .int p0]) ++ List.replicate (2 - (lg_sl ([.ref (a 0), .int p0])).length) Slot.unset).toArray = ls at hl ⊢
  have hl : lv_has ls 2 [(0, .ref (a 0)), (1, .int p0)] := hl
  unfold wp_X2_takenAt at hw
  refine lv_iload_n hx hb dX2_takenAt_0 rfl (lv_at hl 1 rfl) ?_
  refine lv_if_lt (tgt := 28) hx hb dX2_takenAt_1 (by decide) (fun c1 => ?_) (fun c1 => ?_)
  · have hw := hw.1 c1
    refine lv_iconst (v := 0) hx hb dX2_takenAt_28 (by decide) ?_
    exact W.iret (v := 0) hx hb hr (fun t ht hW => ⟨⟨0, s0, rfl, hw, by rw [ht]; exact hP, va_K.moved hW.alike hK, hD⟩, hS.F ht⟩) hS.2.2 dX2_takenAt_29
  · have hw := hw.2 c1
    refine lv_iload_n hx hb dX2_takenAt_4 rfl (lv_at hl 1 rfl) ?_
    refine lv_aload_n hx hb dX2_takenAt_5 rfl (lv_at hl 0 rfl) ?_
    refine va_get (D := (dC, dI)) (ci := 2) (v := .int (s0 0 3)) (C := RX2) (T := TX2) (N := 8) hx hb hts h_in2 hown hK hP 0 rfl rfl 3 (by decide) h_f20 (fun _ h9 => h9) rfl dX2_takenAt_6 ?_
    refine lv_icmp_ge (tgt := 28) hx hb dX2_takenAt_9 (by decide) (fun c2 => ?_) (fun c2 => ?_)
    · have hw := hw.1 c2
      refine lv_iconst (v := 0) hx hb dX2_takenAt_28 (by decide) ?_
      exact W.iret (v := 0) hx hb hr (fun t ht hW => ⟨⟨0, s0, rfl, hw, by rw [ht]; exact hP, va_K.moved hW.alike hK, hD⟩, hS.F ht⟩) hS.2.2 dX2_takenAt_29
    · have hw := hw.2 c2
      refine lv_iload_n hx hb dX2_takenAt_12 rfl (lv_at hl 1 rfl) ?_
      refine lv_sipush (v := 200) hx hb dX2_takenAt_13 (by decide) ?_
      refine lv_icmp_ge (tgt := 28) hx hb dX2_takenAt_16 (by decide) (fun c3 => ?_) (fun c3 => ?_)
      · have hw := hw.1 c3
        refine lv_iconst (v := 0) hx hb dX2_takenAt_28 (by decide) ?_
        exact W.iret (v := 0) hx hb hr (fun t ht hW => ⟨⟨0, s0, rfl, hw, by rw [ht]; exact hP, va_K.moved hW.alike hK, hD⟩, hS.F ht⟩) hS.2.2 dX2_takenAt_29
      · have hw := hw.2 c3
        refine lv_aload_n hx hb dX2_takenAt_19 rfl (lv_at hl 0 rfl) ?_
        refine va_get (D := (dC, dI)) (ci := 2) (v := .ref (a 2)) (C := RX2) (T := TX2) (N := 8) hx hb hts h_in2 hown hK hP 0 rfl rfl 1 (by decide) h_f13 (fun _ h9 => h9) rfl dX2_takenAt_20 ?_
        refine lv_iload_n hx hb dX2_takenAt_23 rfl (lv_at hl 1 rfl) ?_
        have c4 := hw.1
        have hw := hw.2
        refine va_iald hx hb hK hP 2 0 rfl rfl c4 dX2_takenAt_24 ?_
        refine lv_goto (tgt := 29) hx hb dX2_takenAt_25 (by decide) ?_
        exact W.iret (v := (s0 2 (p0 : Int32).toNatClampNeg)) hx hb hr (fun t ht hW => ⟨⟨(s0 2 (p0 : Int32).toNatClampNeg), s0, rfl, hw, by rw [ht]; exact hP, va_K.moved hW.alike hK, hD⟩, hS.F ht⟩) hS.2.2 dX2_takenAt_29
