def wp_X0_forget_2 (K : tm_St → Prop) : Nat → Int32 → tm_St → Prop
  | 0, _, _ => False
  | n + 1, v1, s => (((4 : Int32) ≤ v1 → K s) ∧ (¬ (4 : Int32) ≤ v1 → (vp_in v1 4 ∧ (∀ s3 : tm_St, s3 = tm_s s 2 (upd (s 2) (v1 : Int32).toNatClampNeg 0) → (∀ x4 : Int32, x4 = v1 + 1 → wp_X0_forget_2 K n x4 s3)))))
def wp_X0_forget  (s0 : tm_St) (K : tm_St → Prop) : Prop := ∃ nf : Nat, wp_X0_forget_2 K nf 0 s0
set_option maxRecDepth 100000 in
set_option maxHeartbeats 4000000 in
theorem kk_X0_forget (l : Launch) (dC : Nat → ClassId) (dI : Nat → Nat → Nat) (cI cZ : ClassId) (a : Nat → Nat) (s0 : tm_St) (sz : Nat)  (K : tm_St → Prop) (hw : wp_X0_forget s0 K) : Met l yX0_forget wsX0_forget ({ frames := 0, cells := 0, slots := 0, locals := 0 }) (va_Pc [.ref (a 0)] (tm_Pre dC dI cI cZ (tm_wEcho cI cZ a s0) sz)) (va_Qv (fun (u : tm_St) => K u) (fun (u : tm_St) t => tm_At dC dI cI cZ (va_A (tm_wEcho cI cZ a s0) sz) (tm_wEcho cI cZ a u) t) (va_A (tm_wEcho cI cZ a s0) sz)) 0 0 (va_A (tm_wEcho cI cZ a s0) sz) := by
  refine Met.ofW (cc := cX0_forget) (maxL := 2) (ret := none) (by decide +kernel) rfl ?_
  intro p e z m args below meth c z₁ B hml hv
  obtain ⟨rfl, hsz, hP, hK, hD0⟩ := hv
  have hx := B.exec
  have hb := B.bytes
  have hr := B.returns
  have hts := atoms_spec (ws := wsX0_forget) B.pre
  have hown : z.vm.findClass RX0 = some m.cls := findClass_of_methodNamed B.named
  have hlocks := B.notSynchronized
  subst hsz
  have hD := hD0.self (sz := z.heap.size)
  generalize hAe : va_A (tm_wEcho cI cZ a s0) z.heap.size = A at hD ⊢
  have hA : ∀ q : Nat, z.heap.size ≤ q → A q := fun q h => by rw [← hAe]; exact Or.inr h
  have hS : va_S A z.heap z.heap [] := va_S.rf
  have h_f15 := hts (.fieldLink RX0 15 "TwoModems$Echo" "learnt" "[I") (by decide +kernel)
  have h_in0 : ∀ w ∈ u_ws RX0 TX0 2, w ∈ wsX0_forget := by decide +kernel
  have b2 : ∀ (n : Nat) (v1 : Int32) (s : tm_St) (H : Heap) (locs : List Loc) (ls : Array Slot), wp_X0_forget_2 K n v1 s → va_P (dC, dI) vwCl (tm_wEcho cI cZ a s) H → va_D A (tm_wEcho cI cZ a s) → va_S A z.heap H locs → lv_has ls 2 [(0, .ref (a 0)), (1, .int v1)] → W p l e (headSpec wsX0_forget ({ frames := 0, cells := 0, slots := 0, locals := 0 })).room z m (([.ref (a 0)] : List Value).toArray) below meth c H locs 0 0 (MQ below (va_Qv (fun (u : tm_St) => K u) (fun (u : tm_St) t => tm_At dC dI cI cZ A (tm_wEcho cI cZ a u) t) A) (([.ref (a 0)] : List Value).toArray) z 0 0 A) (F0 m 2 ls []) := by
    intro n
    induction n with
    | zero => intro v1 s H locs ls hw hP hD hS hl; unfold wp_X0_forget_2 at hw; exact hw.elim
    | succ n ih =>
      intro v1 s H locs ls hw hP hD hS hl
      unfold wp_X0_forget_2 at hw
      refine lv_iload_n hx hb dX0_forget_2 rfl (lv_at hl 1 rfl) ?_
      refine lv_iconst (v := 4) hx hb dX0_forget_3 (by decide) ?_
      refine lv_icmp_ge (tgt := 20) hx hb dX0_forget_4 (by decide) (fun c1 => ?_) (fun c1 => ?_)
      · have hw := hw.1 c1
        exact W.vret hx hb hr (fun t ht hW => ⟨⟨s, rfl, hw, by rw [ht]; exact hP, va_K.moved hW.alike hK, hD⟩, hS.F ht⟩) hS.2.2 dX0_forget_20
      · have hw := hw.2 c1
        refine lv_aload_n hx hb dX0_forget_7 rfl (lv_at hl 0 rfl) ?_
        refine va_get (D := (dC, dI)) (ci := 0) (v := .ref (a 2)) (C := RX0) (T := TX0) (N := 2) hx hb hts h_in0 hown hK hP 0 rfl rfl 1 (by decide) h_f15 (fun _ h9 => h9) rfl dX0_forget_8 ?_
        refine lv_iload_n hx hb dX0_forget_11 rfl (lv_at hl 1 rfl) ?_
        refine lv_iconst (v := 0) hx hb dX0_forget_12 (by decide) ?_
        have c2 := hw.1
        have hw := hw.2
        refine va_iast hx hb hK hP hD hS 2 0 rfl rfl c2 dX0_forget_13 (fun H locs hP hD hS => ?_)
        obtain ⟨s3, es3⟩ : ∃ y : tm_St, y = tm_s s 2 (upd (s 2) (v1 : Int32).toNatClampNeg 0) := ⟨_, rfl⟩
        have hw := hw s3 es3
        have hP : va_P (dC, dI) vwCl (tm_wEcho cI cZ a s3) H := by rw [es3]; exact hP
        have hD : va_D A (tm_wEcho cI cZ a s3) := by rw [es3]; exact hD
        obtain ⟨x4, ex4⟩ : ∃ y : Int32, y = v1 + 1 := ⟨_, rfl⟩
        have hw := hw x4 ex4
        refine lv_iinc (v := x4) (lv' := [(1, .int x4), (0, .ref (a 0))]) hx hb dX0_forget_14 hl (k := 1) rfl (by rw [ex4]; rfl) (by decide) rfl (fun ls hl => ?_)
        refine lv_goto (tgt := 2) hx hb dX0_forget_17 (by decide) ?_
        exact ih x4 s3 _ _ _ hw hP hD hS (lv_sub hl [1, 0] rfl)
  have hl := lv_entry ([.ref (a 0)]) (n := 2) (Nat.le_of_ble_eq_true rfl)
  rw [lg_entry_eq]
  generalize (lg_sl ([.ref (a 0)]) ++ List.replicate (2 - (lg_sl ([.ref (a 0)])).length) Slot.unset).toArray = ls at hl ⊢
  have hl : lv_has ls 2 [(0, .ref (a 0))] := hl
  unfold wp_X0_forget at hw
  refine lv_iconst (v := 0) hx hb dX0_forget_0 (by decide) ?_
  refine lv_istore_n (lv' := [(1, .int 0), (0, .ref (a 0))]) hx hb dX0_forget_1 rfl hl (by decide) rfl (fun ls hl => ?_)
  obtain ⟨nf, hw⟩ := hw
  exact b2 nf 0 s0 _ _ _ hw hP hD hS (lv_sub hl [1, 0] rfl)
def wp_X0_sign (p0 : Int32) (s0 : tm_St) (K : Int32 → tm_St → Prop) : Prop := (((0 : Int32) ≤ p0 → (((p0 - p0 / 3 * 3) = 0 → K 1 s0) ∧ (¬ (p0 - p0 / 3 * 3) = 0 → ((¬ (p0 - p0 / 5 * 5) = 0 → K (-1) s0) ∧ ((p0 - p0 / 5 * 5) = 0 → K 1 s0))))) ∧ (¬ (0 : Int32) ≤ p0 → K 0 s0))
set_option maxRecDepth 100000 in
set_option maxHeartbeats 4000000 in
theorem kk_X0_sign (l : Launch) (dC : Nat → ClassId) (dI : Nat → Nat → Nat) (cI cZ : ClassId) (a : Nat → Nat) (s0 : tm_St) (sz : Nat) (p0 : Int32) (K : Int32 → tm_St → Prop) (hw : wp_X0_sign p0 s0 K) : Met l yX0_sign wsX0_sign ({ frames := 0, cells := 0, slots := 0, locals := 0 }) (va_Pc [.ref (a 0), .int p0] (tm_Pre dC dI cI cZ (tm_wEcho cI cZ a s0) sz)) (va_Qi (fun (r : Int32) (u : tm_St) => K r u) (fun (u : tm_St) t => tm_At dC dI cI cZ (va_A (tm_wEcho cI cZ a s0) sz) (tm_wEcho cI cZ a u) t) (va_A (tm_wEcho cI cZ a s0) sz)) 0 0 (va_A (tm_wEcho cI cZ a s0) sz) := by
  refine Met.ofW (cc := cX0_sign) (maxL := 2) (ret := (some .int)) (by decide +kernel) rfl ?_
  intro p e z m args below meth c z₁ B hml hv
  obtain ⟨rfl, hsz, hP, hK, hD0⟩ := hv
  have hx := B.exec
  have hb := B.bytes
  have hr := B.returns
  have hts := atoms_spec (ws := wsX0_sign) B.pre
  have hown : z.vm.findClass RX0 = some m.cls := findClass_of_methodNamed B.named
  have hlocks := B.notSynchronized
  subst hsz
  have hD := hD0.self (sz := z.heap.size)
  generalize hAe : va_A (tm_wEcho cI cZ a s0) z.heap.size = A at hD ⊢
  have hA : ∀ q : Nat, z.heap.size ≤ q → A q := fun q h => by rw [← hAe]; exact Or.inr h
  have hS : va_S A z.heap z.heap [] := va_S.rf
  have hl := lv_entry ([.ref (a 0), .int p0]) (n := 2) (Nat.le_of_ble_eq_true rfl)
  rw [lg_entry_eq]
  generalize (lg_sl ([.ref (a 0), .int p0]) ++ List.replicate (2 - (lg_sl ([.ref (a 0), .int p0])).length) Slot.unset).toArray = ls at hl ⊢
  have hl : lv_has ls 2 [(0, .ref (a 0)), (1, .int p0)] := hl
  unfold wp_X0_sign at hw
  refine lv_iload_n hx hb dX0_sign_0 rfl (lv_at hl 1 rfl) ?_
  refine lv_if_ge (tgt := 6) hx hb dX0_sign_1 (by decide) (fun c1 => ?_) (fun c1 => ?_)
  · have hw := hw.1 c1
    refine lv_iload_n hx hb dX0_sign_6 rfl (lv_at hl 1 rfl) ?_
    refine lv_iconst (v := 3) hx hb dX0_sign_7 (by decide) ?_
    refine lv_irem hx hb dX0_sign_8 (by decide) ?_
    refine lv_if_eq (tgt := 18) hx hb dX0_sign_9 (by decide) (fun c2 => ?_) (fun c2 => ?_)
    · have hw := hw.1 c2
      refine lv_iconst (v := 1) hx hb dX0_sign_18 (by decide) ?_
      refine lv_goto (tgt := 23) hx hb dX0_sign_19 (by decide) ?_
      exact W.iret (v := 1) hx hb hr (fun t ht hW => ⟨⟨1, s0, rfl, hw, by rw [ht]; exact hP, va_K.moved hW.alike hK, hD⟩, hS.F ht⟩) hS.2.2 dX0_sign_23
    · have hw := hw.2 c2
      refine lv_iload_n hx hb dX0_sign_12 rfl (lv_at hl 1 rfl) ?_
      refine lv_iconst (v := 5) hx hb dX0_sign_13 (by decide) ?_
      refine lv_irem hx hb dX0_sign_14 (by decide) ?_
      refine lv_if_ne (tgt := 22) hx hb dX0_sign_15 (by decide) (fun c3 => ?_) (fun c3 => ?_)
      · have hw := hw.1 c3
        refine lv_iconst (v := (-1)) hx hb dX0_sign_22 (by decide) ?_
        exact W.iret (v := (-1)) hx hb hr (fun t ht hW => ⟨⟨(-1), s0, rfl, hw, by rw [ht]; exact hP, va_K.moved hW.alike hK, hD⟩, hS.F ht⟩) hS.2.2 dX0_sign_23
      · have hw := hw.2 c3
        refine lv_iconst (v := 1) hx hb dX0_sign_18 (by decide) ?_
        refine lv_goto (tgt := 23) hx hb dX0_sign_19 (by decide) ?_
        exact W.iret (v := 1) hx hb hr (fun t ht hW => ⟨⟨1, s0, rfl, hw, by rw [ht]; exact hP, va_K.moved hW.alike hK, hD⟩, hS.F ht⟩) hS.2.2 dX0_sign_23
  · have hw := hw.2 c1
    refine lv_iconst (v := 0) hx hb dX0_sign_4 (by decide) ?_
    exact W.iret (v := 0) hx hb hr (fun t ht hW => ⟨⟨0, s0, rfl, hw, by rw [ht]; exact hP, va_K.moved hW.alike hK, hD⟩, hS.F ht⟩) hS.2.2 dX0_sign_5
def wp_X0_follow_44 (K : tm_St → Prop) : Nat → Int32 → Int32 → Int32 → tm_St → Prop
  | 0, _, _, _, _ => False
  | n + 1, v1, v2, v3, s => (((4 : Int32) ≤ v3 → K s) ∧ (¬ (4 : Int32) ≤ v3 → (vp_in v3 4 ∧ (wp_X0_sign (v1 - v3) s (fun r4 s5 => (vp_in v3 4 ∧ (∀ s7 : tm_St, s7 = tm_s s5 2 (upd (s5 2) (v3 : Int32).toNatClampNeg ((s 2 (v3 : Int32).toNatClampNeg) + ((v2 * r4) / 8))) → (∀ x8 : Int32, x8 = v3 + 1 → wp_X0_follow_44 K n v1 v2 x8 s7))))))))
def wp_X0_follow_4 (K : tm_St → Prop) : Nat → Int32 → Int32 → Int32 → tm_St → Prop
  | 0, _, _, _, _ => False
  | n + 1, v1, v2, v3, s => (((4 : Int32) ≤ v3 → ∃ nf : Nat, wp_X0_follow_44 K nf v1 v2 0 s) ∧ (¬ (4 : Int32) ≤ v3 → (vp_in v3 4 ∧ (vp_in v3 4 ∧ (wp_X0_sign (v1 - v3) s (fun r11 s12 => (∀ x13 : Int32, x13 = (v2 + (((16 * (s 1 (v3 : Int32).toNatClampNeg)) - (s 2 (v3 : Int32).toNatClampNeg)) * r11)) → (∀ x14 : Int32, x14 = v3 + 1 → wp_X0_follow_4 K n v1 x13 x14 s12))))))))
def wp_X0_follow (p0 : Int32) (s0 : tm_St) (K : tm_St → Prop) : Prop := ∃ nf : Nat, wp_X0_follow_4 K nf p0 0 0 s0
set_option maxRecDepth 100000 in
set_option maxHeartbeats 4000000 in
theorem kk_X0_follow (l : Launch) (dC : Nat → ClassId) (dI : Nat → Nat → Nat) (cI cZ : ClassId) (a : Nat → Nat) (s0 : tm_St) (sz : Nat) (p0 : Int32) (K : tm_St → Prop) (hw : wp_X0_follow p0 s0 K) : Met l yX0_follow wsX0_follow ({ frames := 1, cells := 0, slots := 0, locals := 21 }) (va_Pc [.ref (a 0), .int p0] (tm_Pre dC dI cI cZ (tm_wEcho cI cZ a s0) sz)) (va_Qv (fun (u : tm_St) => K u) (fun (u : tm_St) t => tm_At dC dI cI cZ (va_A (tm_wEcho cI cZ a s0) sz) (tm_wEcho cI cZ a u) t) (va_A (tm_wEcho cI cZ a s0) sz)) 0 0 (va_A (tm_wEcho cI cZ a s0) sz) := by
  refine Met.ofW (cc := cX0_follow) (maxL := 4) (ret := none) (by decide +kernel) rfl ?_
  intro p e z m args below meth c z₁ B hml hv
  obtain ⟨rfl, hsz, hP, hK, hD0⟩ := hv
  have hx := B.exec
  have hb := B.bytes
  have hr := B.returns
  have hts := atoms_spec (ws := wsX0_follow) B.pre
  have hown : z.vm.findClass RX0 = some m.cls := findClass_of_methodNamed B.named
  have hlocks := B.notSynchronized
  subst hsz
  have hD := hD0.self (sz := z.heap.size)
  generalize hAe : va_A (tm_wEcho cI cZ a s0) z.heap.size = A at hD ⊢
  have hA : ∀ q : Nat, z.heap.size ≤ q → A q := fun q h => by rw [← hAe]; exact Or.inr h
  have hS : va_S A z.heap z.heap [] := va_S.rf
  have h_f15 := hts (.fieldLink RX0 15 "TwoModems$Echo" "learnt" "[I") (by decide +kernel)
  have h_in0 : ∀ w ∈ u_ws RX0 TX0 2, w ∈ wsX0_follow := by decide +kernel
  have h_f9 := hts (.fieldLink RX0 9 "TwoModems$Echo" "taps" "[I") (by decide +kernel)
  have b44 : ∀ (n : Nat) (v1 : Int32) (v2 : Int32) (v3 : Int32) (s : tm_St) (H : Heap) (locs : List Loc) (ls : Array Slot), wp_X0_follow_44 K n v1 v2 v3 s → va_P (dC, dI) vwCl (tm_wEcho cI cZ a s) H → va_D A (tm_wEcho cI cZ a s) → va_S A z.heap H locs → lv_has ls 4 [(0, .ref (a 0)), (1, .int v1), (2, .int v2), (3, .int v3)] → W p l e (headSpec wsX0_follow ({ frames := 1, cells := 0, slots := 0, locals := 21 })).room z m (([.ref (a 0), .int p0] : List Value).toArray) below meth c H locs 0 0 (MQ below (va_Qv (fun (u : tm_St) => K u) (fun (u : tm_St) t => tm_At dC dI cI cZ A (tm_wEcho cI cZ a u) t) A) (([.ref (a 0), .int p0] : List Value).toArray) z 0 0 A) (F0 m 44 ls []) := by
    intro n
    induction n with
    | zero => intro v1 v2 v3 s H locs ls hw hP hD hS hl; unfold wp_X0_follow_44 at hw; exact hw.elim
    | succ n ih =>
      intro v1 v2 v3 s H locs ls hw hP hD hS hl
      unfold wp_X0_follow_44 at hw
      refine lv_iload_n hx hb dX0_follow_44 rfl (lv_at hl 3 rfl) ?_
      refine lv_iconst (v := 4) hx hb dX0_follow_45 (by decide) ?_
      refine lv_icmp_ge (tgt := 76) hx hb dX0_follow_46 (by decide) (fun c2 => ?_) (fun c2 => ?_)
      · have hw := hw.1 c2
        exact W.vret hx hb hr (fun t ht hW => ⟨⟨s, rfl, hw, by rw [ht]; exact hP, va_K.moved hW.alike hK, hD⟩, hS.F ht⟩) hS.2.2 dX0_follow_76
      · have hw := hw.2 c2
        refine lv_aload_n hx hb dX0_follow_49 rfl (lv_at hl 0 rfl) ?_
        refine va_get (D := (dC, dI)) (ci := 0) (v := .ref (a 2)) (C := RX0) (T := TX0) (N := 2) hx hb hts h_in0 hown hK hP 0 rfl rfl 1 (by decide) h_f15 (fun _ h9 => h9) rfl dX0_follow_50 ?_
        refine lv_iload_n hx hb dX0_follow_53 rfl (lv_at hl 3 rfl) ?_
        refine lv_dup2_11 hx hb dX0_follow_54 rfl rfl ?_
        have c3 := hw.1
        have hw := hw.2
        refine va_iald hx hb hK hP 2 0 rfl rfl c3 dX0_follow_55 ?_
        refine lv_iload_n hx hb dX0_follow_56 rfl (lv_at hl 2 rfl) ?_
        refine lv_aload_n hx hb dX0_follow_57 rfl (lv_at hl 0 rfl) ?_
        refine lv_iload_n hx hb dX0_follow_58 rfl (lv_at hl 1 rfl) ?_
        refine lv_iload_n hx hb dX0_follow_59 rfl (lv_at hl 3 rfl) ?_
        refine lv_isub hx hb dX0_follow_60 ?_
        have hPc := hP
        have hDc := hD
        have hFc := va_free (wc := (tm_wEcho cI cZ a s)) hD hS hA [0, 1, 2] rfl
        refine va_calli (va_runV (As := [.int (v1 - v3)]) (rest := [.int v2, .int (s 2 (v3 : Int32).toNatClampNeg), .int v3, .ref (a 2)]) ⟨hx, hb, hml, hown, hts⟩ (kk_X0_sign l dC dI cI cZ a s H.size (v1 - v3) _ hw) (cwV 1 hts gX0_follow_X0_sign rfl rfl rfl (by decide +kernel) ⟨Nat.le_of_ble_eq_true rfl, Nat.le_of_ble_eq_true rfl⟩) ⟨tm_blind, va_recv hK hPc (ci := 0) (q0 := 0) rfl rfl, fun U hU hW => ⟨rfl, by rw [hU], by rw [hU]; exact hPc, va_K.moved hW.alike hK, hDc.weaken (fun _ _ _ _ => trivial)⟩⟩ rfl rfl hl.1 rfl (lv_room (Nat.le_of_ble_eq_true rfl)) dX0_follow_61 ⟨Nat.zero_le _, Nat.zero_le _⟩) hS (fun q _ h => hFc q h) hFc (fun r4 s5 t H1 locs ht hvm hw hB hz1 hk1 hS => ?_)
        obtain ⟨hP1, hK1, hD1⟩ := hB
        rw [ht] at hP1
        obtain ⟨hP, hD⟩ := va_join (wr := []) (w1 := (tm_wEcho cI cZ a s5)) hP hD [0, 1, 2] [] rfl rfl (by decide) (by decide) hk1 hFc hP1 hD1
        generalize H1 = H at hP hS ⊢
        have hP : va_P (dC, dI) vwCl (tm_wEcho cI cZ a s5) H := hP
        have hD : va_D A (tm_wEcho cI cZ a s5) := hD
        refine lv_imul hx hb dX0_follow_64 ?_
        refine lv_bipush (v := 8) hx hb dX0_follow_65 (by decide) ?_
        refine lv_idiv hx hb dX0_follow_67 (by decide) ?_
        refine lv_iadd hx hb dX0_follow_68 ?_
        have c6 := hw.1
        have hw := hw.2
        refine va_iast hx hb hK hP hD hS 2 0 rfl rfl c6 dX0_follow_69 (fun H locs hP hD hS => ?_)
        obtain ⟨s7, es7⟩ : ∃ y : tm_St, y = tm_s s5 2 (upd (s5 2) (v3 : Int32).toNatClampNeg ((s 2 (v3 : Int32).toNatClampNeg) + ((v2 * r4) / 8))) := ⟨_, rfl⟩
        have hw := hw s7 es7
        have hP : va_P (dC, dI) vwCl (tm_wEcho cI cZ a s7) H := by rw [es7]; exact hP
        have hD : va_D A (tm_wEcho cI cZ a s7) := by rw [es7]; exact hD
        obtain ⟨x8, ex8⟩ : ∃ y : Int32, y = v3 + 1 := ⟨_, rfl⟩
        have hw := hw x8 ex8
        refine lv_iinc (v := x8) (lv' := [(3, .int x8), (0, .ref (a 0)), (1, .int v1), (2, .int v2)]) hx hb dX0_follow_70 hl (k := 3) rfl (by rw [ex8]; rfl) (by decide) rfl (fun ls hl => ?_)
        refine lv_goto (tgt := 44) hx hb dX0_follow_73 (by decide) ?_
        exact ih v1 v2 x8 s7 _ _ _ hw hP hD hS (lv_sub hl [1, 2, 3, 0] rfl)
  have b4 : ∀ (n : Nat) (v1 : Int32) (v2 : Int32) (v3 : Int32) (s : tm_St) (H : Heap) (locs : List Loc) (ls : Array Slot), wp_X0_follow_4 K n v1 v2 v3 s → va_P (dC, dI) vwCl (tm_wEcho cI cZ a s) H → va_D A (tm_wEcho cI cZ a s) → va_S A z.heap H locs → lv_has ls 4 [(0, .ref (a 0)), (1, .int v1), (2, .int v2), (3, .int v3)] → W p l e (headSpec wsX0_follow ({ frames := 1, cells := 0, slots := 0, locals := 21 })).room z m (([.ref (a 0), .int p0] : List Value).toArray) below meth c H locs 0 0 (MQ below (va_Qv (fun (u : tm_St) => K u) (fun (u : tm_St) t => tm_At dC dI cI cZ A (tm_wEcho cI cZ a u) t) A) (([.ref (a 0), .int p0] : List Value).toArray) z 0 0 A) (F0 m 4 ls []) := by
    intro n
    induction n with
    | zero => intro v1 v2 v3 s H locs ls hw hP hD hS hl; unfold wp_X0_follow_4 at hw; exact hw.elim
    | succ n ih =>
      intro v1 v2 v3 s H locs ls hw hP hD hS hl
      unfold wp_X0_follow_4 at hw
      refine lv_iload_n hx hb dX0_follow_4 rfl (lv_at hl 3 rfl) ?_
      refine lv_iconst (v := 4) hx hb dX0_follow_5 (by decide) ?_
      refine lv_icmp_ge (tgt := 42) hx hb dX0_follow_6 (by decide) (fun c1 => ?_) (fun c1 => ?_)
      · have hw := hw.1 c1
        refine lv_iconst (v := 0) hx hb dX0_follow_42 (by decide) ?_
        refine lv_istore_n (lv' := [(3, .int 0), (0, .ref (a 0)), (1, .int v1), (2, .int v2)]) hx hb dX0_follow_43 rfl hl (by decide) rfl (fun ls hl => ?_)
        obtain ⟨nf, hw⟩ := hw
        exact b44 nf v1 v2 0 s _ _ _ hw hP hD hS (lv_sub hl [1, 2, 3, 0] rfl)
      · have hw := hw.2 c1
        refine lv_iload_n hx hb dX0_follow_9 rfl (lv_at hl 2 rfl) ?_
        refine lv_bipush (v := 16) hx hb dX0_follow_10 (by decide) ?_
        refine lv_aload_n hx hb dX0_follow_12 rfl (lv_at hl 0 rfl) ?_
        refine va_get (D := (dC, dI)) (ci := 0) (v := .ref (a 1)) (C := RX0) (T := TX0) (N := 2) hx hb hts h_in0 hown hK hP 0 rfl rfl 0 (by decide) h_f9 (fun _ h9 => h9) rfl dX0_follow_13 ?_
        refine lv_iload_n hx hb dX0_follow_16 rfl (lv_at hl 3 rfl) ?_
        have c9 := hw.1
        have hw := hw.2
        refine va_iald hx hb hK hP 1 0 rfl rfl c9 dX0_follow_17 ?_
        refine lv_imul hx hb dX0_follow_18 ?_
        refine lv_aload_n hx hb dX0_follow_19 rfl (lv_at hl 0 rfl) ?_
        refine va_get (D := (dC, dI)) (ci := 0) (v := .ref (a 2)) (C := RX0) (T := TX0) (N := 2) hx hb hts h_in0 hown hK hP 0 rfl rfl 1 (by decide) h_f15 (fun _ h9 => h9) rfl dX0_follow_20 ?_
        refine lv_iload_n hx hb dX0_follow_23 rfl (lv_at hl 3 rfl) ?_
        have c10 := hw.1
        have hw := hw.2
        refine va_iald hx hb hK hP 2 0 rfl rfl c10 dX0_follow_24 ?_
        refine lv_isub hx hb dX0_follow_25 ?_
        refine lv_aload_n hx hb dX0_follow_26 rfl (lv_at hl 0 rfl) ?_
        refine lv_iload_n hx hb dX0_follow_27 rfl (lv_at hl 1 rfl) ?_
        refine lv_iload_n hx hb dX0_follow_28 rfl (lv_at hl 3 rfl) ?_
        refine lv_isub hx hb dX0_follow_29 ?_
        have hPc := hP
        have hDc := hD
        have hFc := va_free (wc := (tm_wEcho cI cZ a s)) hD hS hA [0, 1, 2] rfl
        refine va_calli (va_runV (As := [.int (v1 - v3)]) (rest := [.int ((16 * (s 1 (v3 : Int32).toNatClampNeg)) - (s 2 (v3 : Int32).toNatClampNeg)), .int v2]) ⟨hx, hb, hml, hown, hts⟩ (kk_X0_sign l dC dI cI cZ a s H.size (v1 - v3) _ hw) (cwV 1 hts gX0_follow_X0_sign rfl rfl rfl (by decide +kernel) ⟨Nat.le_of_ble_eq_true rfl, Nat.le_of_ble_eq_true rfl⟩) ⟨tm_blind, va_recv hK hPc (ci := 0) (q0 := 0) rfl rfl, fun U hU hW => ⟨rfl, by rw [hU], by rw [hU]; exact hPc, va_K.moved hW.alike hK, hDc.weaken (fun _ _ _ _ => trivial)⟩⟩ rfl rfl hl.1 rfl (lv_room (Nat.le_of_ble_eq_true rfl)) dX0_follow_30 ⟨Nat.zero_le _, Nat.zero_le _⟩) hS (fun q _ h => hFc q h) hFc (fun r11 s12 t H1 locs ht hvm hw hB hz1 hk1 hS => ?_)
        obtain ⟨hP1, hK1, hD1⟩ := hB
        rw [ht] at hP1
        obtain ⟨hP, hD⟩ := va_join (wr := []) (w1 := (tm_wEcho cI cZ a s12)) hP hD [0, 1, 2] [] rfl rfl (by decide) (by decide) hk1 hFc hP1 hD1
        generalize H1 = H at hP hS ⊢
        have hP : va_P (dC, dI) vwCl (tm_wEcho cI cZ a s12) H := hP
        have hD : va_D A (tm_wEcho cI cZ a s12) := hD
        refine lv_imul hx hb dX0_follow_33 ?_
        refine lv_iadd hx hb dX0_follow_34 ?_
        refine lv_topi (fun x13 ex13 => ?_)
        have hw := hw x13 ex13
        refine lv_istore_n (lv' := [(2, .int x13), (0, .ref (a 0)), (1, .int v1), (3, .int v3)]) hx hb dX0_follow_35 rfl hl (by decide) rfl (fun ls hl => ?_)
        obtain ⟨x14, ex14⟩ : ∃ y : Int32, y = v3 + 1 := ⟨_, rfl⟩
        have hw := hw x14 ex14
        refine lv_iinc (v := x14) (lv' := [(3, .int x14), (2, .int x13), (0, .ref (a 0)), (1, .int v1)]) hx hb dX0_follow_36 hl (k := 3) rfl (by rw [ex14]; rfl) (by decide) rfl (fun ls hl => ?_)
        refine lv_goto (tgt := 4) hx hb dX0_follow_39 (by decide) ?_
        exact ih v1 x13 x14 s12 _ _ _ hw hP hD hS (lv_sub hl [2, 3, 1, 0] rfl)
  have hl := lv_entry ([.ref (a 0), .int p0]) (n := 4) (Nat.le_of_ble_eq_true rfl)
  rw [lg_entry_eq]
  generalize (lg_sl ([.ref (a 0), .int p0]) ++ List.replicate (4 - (lg_sl ([.ref (a 0), .int p0])).length) Slot.unset).toArray = ls at hl ⊢
  have hl : lv_has ls 4 [(0, .ref (a 0)), (1, .int p0)] := hl
  unfold wp_X0_follow at hw
  refine lv_iconst (v := 0) hx hb dX0_follow_0 (by decide) ?_
  refine lv_istore_n (lv' := [(2, .int 0), (0, .ref (a 0)), (1, .int p0)]) hx hb dX0_follow_1 rfl hl (by decide) rfl (fun ls hl => ?_)
  refine lv_iconst (v := 0) hx hb dX0_follow_2 (by decide) ?_
  refine lv_istore_n (lv' := [(3, .int 0), (2, .int 0), (0, .ref (a 0)), (1, .int p0)]) hx hb dX0_follow_3 rfl hl (by decide) rfl (fun ls hl => ?_)
  obtain ⟨nf, hw⟩ := hw
  exact b4 nf p0 0 0 s0 _ _ _ hw hP hD hS (lv_sub hl [2, 3, 1, 0] rfl)
def wp_X0_remains_4 (K : Int32 → tm_St → Prop) : Nat → Int32 → Int32 → tm_St → Prop
  | 0, _, _, _ => False
  | n + 1, v1, v2, s => (((4 : Int32) ≤ v2 → K (v1 / 16) s) ∧ (¬ (4 : Int32) ≤ v2 → (vp_in v2 4 ∧ (vp_in v2 4 ∧ (∀ x4 : Int32, x4 = (if 0 ≤ ((16 * (s 1 (v2 : Int32).toNatClampNeg)) - (s 2 (v2 : Int32).toNatClampNeg)) then ((16 * (s 1 (v2 : Int32).toNatClampNeg)) - (s 2 (v2 : Int32).toNatClampNeg)) else 0 - ((16 * (s 1 (v2 : Int32).toNatClampNeg)) - (s 2 (v2 : Int32).toNatClampNeg))) → (∀ x5 : Int32, x5 = (v1 + x4) → (∀ x6 : Int32, x6 = v2 + 1 → wp_X0_remains_4 K n x5 x6 s)))))))
def wp_X0_remains  (s0 : tm_St) (K : Int32 → tm_St → Prop) : Prop := ∃ nf : Nat, wp_X0_remains_4 K nf 0 0 s0
set_option maxRecDepth 100000 in
set_option maxHeartbeats 4000000 in
theorem kk_X0_remains (l : Launch) (dC : Nat → ClassId) (dI : Nat → Nat → Nat) (cI cZ : ClassId) (a : Nat → Nat) (s0 : tm_St) (sz : Nat)  (K : Int32 → tm_St → Prop) (hw : wp_X0_remains s0 K) : Met l yX0_remains wsX0_remains ({ frames := 1, cells := 0, slots := 0, locals := 14 }) (va_Pc [.ref (a 0)] (tm_Pre dC dI cI cZ (tm_wEcho cI cZ a s0) sz)) (va_Qi (fun (r : Int32) (u : tm_St) => K r u) (fun (u : tm_St) t => tm_At dC dI cI cZ (va_A (tm_wEcho cI cZ a s0) sz) (tm_wEcho cI cZ a u) t) (va_A (tm_wEcho cI cZ a s0) sz)) 0 0 (va_A (tm_wEcho cI cZ a s0) sz) := by
  refine Met.ofW (cc := cX0_remains) (maxL := 3) (ret := (some .int)) (by decide +kernel) rfl ?_
  intro p e z m args below meth c z₁ B hml hv
  obtain ⟨rfl, hsz, hP, hK, hD0⟩ := hv
  have hx := B.exec
  have hb := B.bytes
  have hr := B.returns
  have hts := atoms_spec (ws := wsX0_remains) B.pre
  have hown : z.vm.findClass RX0 = some m.cls := findClass_of_methodNamed B.named
  have hlocks := B.notSynchronized
  subst hsz
  have hD := hD0.self (sz := z.heap.size)
  generalize hAe : va_A (tm_wEcho cI cZ a s0) z.heap.size = A at hD ⊢
  have hA : ∀ q : Nat, z.heap.size ≤ q → A q := fun q h => by rw [← hAe]; exact Or.inr h
  have hS : va_S A z.heap z.heap [] := va_S.rf
  have h_f9 := hts (.fieldLink RX0 9 "TwoModems$Echo" "taps" "[I") (by decide +kernel)
  have h_in0 : ∀ w ∈ u_ws RX0 TX0 2, w ∈ wsX0_remains := by decide +kernel
  have h_f15 := hts (.fieldLink RX0 15 "TwoModems$Echo" "learnt" "[I") (by decide +kernel)
  have h_m22 := hts (.methodLink RX0 22 Lib.Math.abs.name) (by decide +kernel)
  have h_ms_abs := hts (.static Lib.Math.abs.name) (by decide +kernel)
  have h_mi := hts (.initialized "java/lang/Math") (by decide +kernel)
  have h_mc_abs := hts (.code Lib.Math.abs.name Lib.Math.abs.code 1 (some .int)) (by decide +kernel)
  have b4 : ∀ (n : Nat) (v1 : Int32) (v2 : Int32) (s : tm_St) (H : Heap) (locs : List Loc) (ls : Array Slot), wp_X0_remains_4 K n v1 v2 s → va_P (dC, dI) vwCl (tm_wEcho cI cZ a s) H → va_D A (tm_wEcho cI cZ a s) → va_S A z.heap H locs → lv_has ls 3 [(0, .ref (a 0)), (1, .int v1), (2, .int v2)] → W p l e (headSpec wsX0_remains ({ frames := 1, cells := 0, slots := 0, locals := 14 })).room z m (([.ref (a 0)] : List Value).toArray) below meth c H locs 0 0 (MQ below (va_Qi (fun (r : Int32) (u : tm_St) => K r u) (fun (u : tm_St) t => tm_At dC dI cI cZ A (tm_wEcho cI cZ a u) t) A) (([.ref (a 0)] : List Value).toArray) z 0 0 A) (F0 m 4 ls []) := by
    intro n
    induction n with
    | zero => intro v1 v2 s H locs ls hw hP hD hS hl; unfold wp_X0_remains_4 at hw; exact hw.elim
    | succ n ih =>
      intro v1 v2 s H locs ls hw hP hD hS hl
      unfold wp_X0_remains_4 at hw
      refine lv_iload_n hx hb dX0_remains_4 rfl (lv_at hl 2 rfl) ?_
      refine lv_iconst (v := 4) hx hb dX0_remains_5 (by decide) ?_
      refine lv_icmp_ge (tgt := 37) hx hb dX0_remains_6 (by decide) (fun c1 => ?_) (fun c1 => ?_)
      · have hw := hw.1 c1
        refine lv_iload_n hx hb dX0_remains_37 rfl (lv_at hl 1 rfl) ?_
        refine lv_bipush (v := 16) hx hb dX0_remains_38 (by decide) ?_
        refine lv_idiv hx hb dX0_remains_40 (by decide) ?_
        exact W.iret (v := (v1 / 16)) hx hb hr (fun t ht hW => ⟨⟨(v1 / 16), s, rfl, hw, by rw [ht]; exact hP, va_K.moved hW.alike hK, hD⟩, hS.F ht⟩) hS.2.2 dX0_remains_41
      · have hw := hw.2 c1
        refine lv_iload_n hx hb dX0_remains_9 rfl (lv_at hl 1 rfl) ?_
        refine lv_bipush (v := 16) hx hb dX0_remains_10 (by decide) ?_
        refine lv_aload_n hx hb dX0_remains_12 rfl (lv_at hl 0 rfl) ?_
        refine va_get (D := (dC, dI)) (ci := 0) (v := .ref (a 1)) (C := RX0) (T := TX0) (N := 2) hx hb hts h_in0 hown hK hP 0 rfl rfl 0 (by decide) h_f9 (fun _ h9 => h9) rfl dX0_remains_13 ?_
        refine lv_iload_n hx hb dX0_remains_16 rfl (lv_at hl 2 rfl) ?_
        have c2 := hw.1
        have hw := hw.2
        refine va_iald hx hb hK hP 1 0 rfl rfl c2 dX0_remains_17 ?_
        refine lv_imul hx hb dX0_remains_18 ?_
        refine lv_aload_n hx hb dX0_remains_19 rfl (lv_at hl 0 rfl) ?_
        refine va_get (D := (dC, dI)) (ci := 0) (v := .ref (a 2)) (C := RX0) (T := TX0) (N := 2) hx hb hts h_in0 hown hK hP 0 rfl rfl 1 (by decide) h_f15 (fun _ h9 => h9) rfl dX0_remains_20 ?_
        refine lv_iload_n hx hb dX0_remains_23 rfl (lv_at hl 2 rfl) ?_
        have c3 := hw.1
        have hw := hw.2
        refine va_iald hx hb hK hP 2 0 rfl rfl c3 dX0_remains_24 ?_
        refine lv_isub hx hb dX0_remains_25 ?_
        refine va_mabs hx hb (hml.trans hl.1.symm) hown h_m22 h_ms_abs h_mi h_mc_abs (Nat.le_of_ble_eq_true rfl) (Nat.le_of_ble_eq_true rfl) (Nat.zero_le _) (Nat.zero_le _) dX0_remains_26 ?_
        refine lv_topi (fun x4 ex4 => ?_)
        have hw := hw x4 ex4
        refine lv_iadd hx hb dX0_remains_29 ?_
        refine lv_topi (fun x5 ex5 => ?_)
        have hw := hw x5 ex5
        refine lv_istore_n (lv' := [(1, .int x5), (0, .ref (a 0)), (2, .int v2)]) hx hb dX0_remains_30 rfl hl (by decide) rfl (fun ls hl => ?_)
        obtain ⟨x6, ex6⟩ : ∃ y : Int32, y = v2 + 1 := ⟨_, rfl⟩
        have hw := hw x6 ex6
        refine lv_iinc (v := x6) (lv' := [(2, .int x6), (1, .int x5), (0, .ref (a 0))]) hx hb dX0_remains_31 hl (k := 2) rfl (by rw [ex6]; rfl) (by decide) rfl (fun ls hl => ?_)
        refine lv_goto (tgt := 4) hx hb dX0_remains_34 (by decide) ?_
        exact ih x5 x6 s _ _ _ hw hP hD hS (lv_sub hl [2, 1, 0] rfl)
  have hl := lv_entry ([.ref (a 0)]) (n := 3) (Nat.le_of_ble_eq_true rfl)
  rw [lg_entry_eq]
  generalize (lg_sl ([.ref (a 0)]) ++ List.replicate (3 - (lg_sl ([.ref (a 0)])).length) Slot.unset).toArray = ls at hl ⊢
  have hl : lv_has ls 3 [(0, .ref (a 0))] := hl
  unfold wp_X0_remains at hw
  refine lv_iconst (v := 0) hx hb dX0_remains_0 (by decide) ?_
  refine lv_istore_n (lv' := [(1, .int 0), (0, .ref (a 0))]) hx hb dX0_remains_1 rfl hl (by decide) rfl (fun ls hl => ?_)
  refine lv_iconst (v := 0) hx hb dX0_remains_2 (by decide) ?_
  refine lv_istore_n (lv' := [(2, .int 0), (1, .int 0), (0, .ref (a 0))]) hx hb dX0_remains_3 rfl hl (by decide) rfl (fun ls hl => ?_)
  obtain ⟨nf, hw⟩ := hw
  exact b4 nf 0 0 s0 _ _ _ hw hP hD hS (lv_sub hl [2, 1, 0] rfl)
