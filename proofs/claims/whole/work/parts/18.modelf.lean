def wp_X9_mixEnd_141 (K : tm_St → Int64 → Prop) : Nat → Int32 → Int32 → tm_St → Int64 → Prop
  | 0, _, _, _, _ => False
  | n + 1, v1, v2, s, hh => (wp_X9_of v1 9 s (fun r6 s7 => ((r6 ≤ v2 → K s7 hh) ∧ (¬ r6 ≤ v2 → (vp_in ((200 * v1) + v2) 400 ∧ (wp_X9_mix (((s7 6 (((200 * v1) + v2) : Int32).toNatClampNeg) : Int32).toInt64) s7 hh (fun s10 hh11 => (∀ x12 : Int32, x12 = v2 + 1 → wp_X9_mixEnd_141 K n v1 x12 s10 hh11))))))))
def wp_X9_mixEnd_113 (K : tm_St → Int64 → Prop) : Nat → Int32 → Int32 → tm_St → Int64 → Prop
  | 0, _, _, _, _ => False
  | n + 1, v1, v2, s, hh => (((5 : Int32) ≤ v2 → ∃ nf : Nat, wp_X9_mixEnd_141 K nf v1 0 s hh) ∧ (¬ (5 : Int32) ≤ v2 → (vp_in ((5 * v1) + v2) 10 ∧ (wp_X9_mix (((s 7 (((5 * v1) + v2) : Int32).toNatClampNeg) : Int32).toInt64) s hh (fun s14 hh15 => (∀ x16 : Int32, x16 = v2 + 1 → wp_X9_mixEnd_113 K n v1 x16 s14 hh15))))))
def wp_X9_mixEnd_85 (K : tm_St → Int64 → Prop) : Nat → Int32 → Int32 → tm_St → Int64 → Prop
  | 0, _, _, _, _ => False
  | n + 1, v1, v2, s, hh => (((4 : Int32) ≤ v2 → ∃ nf : Nat, wp_X9_mixEnd_113 K nf v1 0 s hh) ∧ (¬ (4 : Int32) ≤ v2 → (vp_in ((4 * v1) + v2) 8 ∧ (wp_X9_mix (((s 4 (((4 * v1) + v2) : Int32).toNatClampNeg) : Int32).toInt64) s hh (fun s18 hh19 => (∀ x20 : Int32, x20 = v2 + 1 → wp_X9_mixEnd_85 K n v1 x20 s18 hh19))))))
def wp_X9_mixEnd_57 (K : tm_St → Int64 → Prop) : Nat → Int32 → Int32 → tm_St → Int64 → Prop
  | 0, _, _, _, _ => False
  | n + 1, v1, v2, s, hh => (((4 : Int32) ≤ v2 → ∃ nf : Nat, wp_X9_mixEnd_85 K nf v1 0 s hh) ∧ (¬ (4 : Int32) ≤ v2 → (vp_in ((4 * v1) + v2) 8 ∧ (wp_X9_mix (((s 3 (((4 * v1) + v2) : Int32).toNatClampNeg) : Int32).toInt64) s hh (fun s22 hh23 => (∀ x24 : Int32, x24 = v2 + 1 → wp_X9_mixEnd_57 K n v1 x24 s22 hh23))))))
def wp_X9_mixEnd_27 (K : tm_St → Int64 → Prop) : Nat → Int32 → Int32 → tm_St → Int64 → Prop
  | 0, _, _, _, _ => False
  | n + 1, v1, v2, s, hh => (((8 : Int32) ≤ v2 → ∃ nf : Nat, wp_X9_mixEnd_57 K nf v1 0 s hh) ∧ (¬ (8 : Int32) ≤ v2 → (vp_in ((8 * v1) + v2) 16 ∧ (wp_X9_mix (((s 2 (((8 * v1) + v2) : Int32).toNatClampNeg) : Int32).toInt64) s hh (fun s26 hh27 => (∀ x28 : Int32, x28 = v2 + 1 → wp_X9_mixEnd_27 K n v1 x28 s26 hh27))))))
def wp_X9_mixEnd_2 (K : tm_St → Int64 → Prop) : Nat → Int32 → Int32 → tm_St → Int64 → Prop
  | 0, _, _, _, _ => False
  | n + 1, v1, v2, s, hh => (((16 : Int32) ≤ v2 → ∃ nf : Nat, wp_X9_mixEnd_27 K nf v1 0 s hh) ∧ (¬ (16 : Int32) ≤ v2 → (wp_X9_of v1 v2 s (fun r29 s30 => (wp_X9_mix r29.toInt64 s30 hh (fun s31 hh32 => (∀ x33 : Int32, x33 = v2 + 1 → wp_X9_mixEnd_2 K n v1 x33 s31 hh32)))))))
def wp_X9_mixEnd (p0 : Int32) (s0 : tm_St) (hh : Int64) (K : tm_St → Int64 → Prop) : Prop := ∃ nf : Nat, wp_X9_mixEnd_2 K nf p0 0 s0 hh
set_option maxRecDepth 100000 in
set_option maxHeartbeats 4000000 in
theorem kk_X9_mixEnd (l : Launch) (dC : Nat → ClassId) (dI : Nat → Nat → Nat) (cI cZ : ClassId) (a : Nat → Nat) (s0 : tm_St) (hh : Int64) (sz : Nat) (p0 : Int32) (K : tm_St → Int64 → Prop) (hw : wp_X9_mixEnd p0 s0 hh K) : Met l yX9_mixEnd wsX9_mixEnd ({ frames := 1, cells := 0, slots := 0, locals := 22 }) (va_Pc [.ref (a 0), .int p0] (tm_Pre dC dI cI cZ (tm_wModel cI cZ a s0 hh) sz)) (va_Qv (fun (u : tm_St × Int64) => K u.1 u.2) (fun (u : tm_St × Int64) t => tm_At dC dI cI cZ (va_A (tm_wModel cI cZ a s0 hh) sz) (tm_wModel cI cZ a u.1 u.2) t) (va_A (tm_wModel cI cZ a s0 hh) sz)) 0 0 (va_A (tm_wModel cI cZ a s0 hh) sz) := by
  refine Met.ofW (cc := cX9_mixEnd) (maxL := 3) (ret := none) (by decide +kernel) rfl ?_
  intro p e z m args below meth c z₁ B hml hv
  obtain ⟨rfl, hsz, hP, hK, hD0⟩ := hv
  have hx := B.exec
  have hb := B.bytes
  have hr := B.returns
  have hts := atoms_spec (ws := wsX9_mixEnd) B.pre
  have hown : z.vm.findClass RX9 = some m.cls := findClass_of_methodNamed B.named
  have hlocks := B.notSynchronized
  subst hsz
  have hD := hD0.self (sz := z.heap.size)
  generalize hAe : va_A (tm_wModel cI cZ a s0 hh) z.heap.size = A at hD ⊢
  have hA : ∀ q : Nat, z.heap.size ≤ q → A q := fun q h => by rw [← hAe]; exact Or.inr h
  have hS : va_S A z.heap z.heap [] := va_S.rf
  have h_f25 := hts (.fieldLink RX9 25 "TwoModemsModel" "gotten" "[I") (by decide +kernel)
  have h_in9 : ∀ w ∈ u_ws RX9 TX9 30, w ∈ wsX9_mixEnd := by decide +kernel
  have h_f28 := hts (.fieldLink RX9 28 "TwoModemsModel" "hears" "[I") (by decide +kernel)
  have h_f19 := hts (.fieldLink RX9 19 "TwoModemsModel" "taps" "[I") (by decide +kernel)
  have h_f16 := hts (.fieldLink RX9 16 "TwoModemsModel" "learnts" "[I") (by decide +kernel)
  have h_f13 := hts (.fieldLink RX9 13 "TwoModemsModel" "noted" "[I") (by decide +kernel)
  have b141 : ∀ (n : Nat) (v1 : Int32) (v2 : Int32) (s : tm_St) (hh : Int64) (H : Heap) (locs : List Loc) (ls : Array Slot), wp_X9_mixEnd_141 K n v1 v2 s hh → va_P (dC, dI) vwCl (tm_wModel cI cZ a s hh) H → va_D A (tm_wModel cI cZ a s hh) → va_S A z.heap H locs → lv_has ls 3 [(0, .ref (a 0)), (1, .int v1), (2, .int v2)] → W p l e (headSpec wsX9_mixEnd ({ frames := 1, cells := 0, slots := 0, locals := 22 })).room z m (([.ref (a 0), .int p0] : List Value).toArray) below meth c H locs 0 0 (MQ below (va_Qv (fun (u : tm_St × Int64) => K u.1 u.2) (fun (u : tm_St × Int64) t => tm_At dC dI cI cZ A (tm_wModel cI cZ a u.1 u.2) t) A) (([.ref (a 0), .int p0] : List Value).toArray) z 0 0 A) (F0 m 141 ls []) := by
    intro n
    induction n with
    | zero => intro v1 v2 s hh H locs ls hw hP hD hS hl; unfold wp_X9_mixEnd_141 at hw; exact hw.elim
    | succ n ih =>
      intro v1 v2 s hh H locs ls hw hP hD hS hl
      unfold wp_X9_mixEnd_141 at hw
      refine lv_iload_n hx hb dX9_mixEnd_141 rfl (lv_at hl 2 rfl) ?_
      refine lv_aload_n hx hb dX9_mixEnd_142 rfl (lv_at hl 0 rfl) ?_
      refine lv_iload_n hx hb dX9_mixEnd_143 rfl (lv_at hl 1 rfl) ?_
      refine lv_bipush (v := 9) hx hb dX9_mixEnd_144 (by decide) ?_
      have hPc := hP
      have hDc := hD
      have hFc := va_free (wc := (tm_wModel cI cZ a s hh)) hD hS hA [0, 1, 2, 3, 4, 5, 6, 7, 8, 9, 10, 11, 12, 13, 14, 15, 16, 17] rfl
      refine va_calli (va_runV (As := [.int v1, .int 9]) (rest := [.int v2]) ⟨hx, hb, hml, hown, hts⟩ (kk_X9_of l dC dI cI cZ a s hh H.size v1 9 _ hw) (cwV 2 hts gX9_mixEnd_X9_of rfl rfl rfl (by decide +kernel) ⟨Nat.le_of_ble_eq_true rfl, Nat.le_of_ble_eq_true rfl⟩) ⟨tm_blind, va_recv hK hPc (ci := 7) (q0 := 0) rfl rfl, fun U hU hW => ⟨rfl, by rw [hU], by rw [hU]; exact hPc, va_K.moved hW.alike hK, hDc.weaken (fun _ _ _ _ => trivial)⟩⟩ rfl rfl hl.1 rfl (lv_room (Nat.le_of_ble_eq_true rfl)) dX9_mixEnd_146 ⟨Nat.zero_le _, Nat.zero_le _⟩) hS (fun q _ h => hFc q h) hFc (fun r6 s7 t H1 locs ht hvm hw hB hz1 hk1 hS => ?_)
      obtain ⟨hP1, hK1, hD1⟩ := hB
      rw [ht] at hP1
      obtain ⟨hP, hD⟩ := va_join (wr := []) (w1 := (tm_wModel cI cZ a s7 hh)) hP hD [0, 1, 2, 3, 4, 5, 6, 7, 8, 9, 10, 11, 12, 13, 14, 15, 16, 17] [] rfl rfl (by decide) (by decide) hk1 hFc hP1 hD1
      generalize H1 = H at hP hS ⊢
      have hP : va_P (dC, dI) vwCl (tm_wModel cI cZ a s7 hh) H := hP
      have hD : va_D A (tm_wModel cI cZ a s7 hh) := hD
      refine lv_icmp_ge (tgt := 175) hx hb dX9_mixEnd_149 (by decide) (fun c8 => ?_) (fun c8 => ?_)
      · have hw := hw.1 c8
        exact W.vret hx hb hr (fun t ht hW => ⟨⟨(s7, hh), rfl, hw, by rw [ht]; exact hP, va_K.moved hW.alike hK, hD⟩, hS.F ht⟩) hS.2.2 dX9_mixEnd_175
      · have hw := hw.2 c8
        refine lv_aload_n hx hb dX9_mixEnd_152 rfl (lv_at hl 0 rfl) ?_
        refine lv_aload_n hx hb dX9_mixEnd_153 rfl (lv_at hl 0 rfl) ?_
        refine va_get (D := (dC, dI)) (ci := 7) (v := .ref (a 6)) (C := RX9) (T := TX9) (N := 30) hx hb hts h_in9 hown hK hP 0 rfl rfl 5 (by decide) h_f25 (fun _ h9 => h9) rfl dX9_mixEnd_154 ?_
        refine lv_sipush (v := 200) hx hb dX9_mixEnd_157 (by decide) ?_
        refine lv_iload_n hx hb dX9_mixEnd_160 rfl (lv_at hl 1 rfl) ?_
        refine lv_imul hx hb dX9_mixEnd_161 ?_
        refine lv_iload_n hx hb dX9_mixEnd_162 rfl (lv_at hl 2 rfl) ?_
        refine lv_iadd hx hb dX9_mixEnd_163 ?_
        have c9 := hw.1
        have hw := hw.2
        refine va_iald hx hb hK hP 6 0 rfl rfl c9 dX9_mixEnd_164 ?_
        refine lv_i2l hx hb dX9_mixEnd_165 rfl ?_
        have hPc := hP
        have hDc := hD
        have hFc := va_free (wc := (tm_wModel cI cZ a s7 hh)) hD hS hA [0, 1, 2, 3, 4, 5, 6, 7, 8, 9, 10, 11, 12, 13, 14, 15, 16, 17] rfl
        refine va_callv (va_runV (As := [.long (((s7 6 (((200 * v1) + v2) : Int32).toNatClampNeg) : Int32).toInt64)]) (rest := []) ⟨hx, hb, hml, hown, hts⟩ (kk_X9_mix l dC dI cI cZ a s7 hh H.size (((s7 6 (((200 * v1) + v2) : Int32).toNatClampNeg) : Int32).toInt64) _ hw) (cwV 1 hts gX9_mixEnd_X9_mix rfl rfl rfl (by decide +kernel) ⟨Nat.le_of_ble_eq_true rfl, Nat.le_of_ble_eq_true rfl⟩) ⟨tm_blind, va_recv hK hPc (ci := 7) (q0 := 0) rfl rfl, fun U hU hW => ⟨rfl, by rw [hU], by rw [hU]; exact hPc, va_K.moved hW.alike hK, hDc.weaken (fun _ _ _ _ => trivial)⟩⟩ rfl rfl hl.1 rfl (lv_room (Nat.le_of_ble_eq_true rfl)) dX9_mixEnd_166 ⟨Nat.zero_le _, Nat.zero_le _⟩) hS (fun q _ h => hFc q h) hFc (fun u t H1 locs ht hvm hw hB hz1 hk1 hS => ?_)
        obtain ⟨hP1, hK1, hD1⟩ := hB
        rw [ht] at hP1
        obtain ⟨s10, hh11⟩ := u
        obtain ⟨hP, hD⟩ := va_join (wr := []) (w1 := (tm_wModel cI cZ a s10 hh11)) hP hD [0, 1, 2, 3, 4, 5, 6, 7, 8, 9, 10, 11, 12, 13, 14, 15, 16, 17] [] rfl rfl (by decide) (by decide) hk1 hFc hP1 hD1
        generalize H1 = H at hP hS ⊢
        have hP : va_P (dC, dI) vwCl (tm_wModel cI cZ a s10 hh11) H := hP
        have hD : va_D A (tm_wModel cI cZ a s10 hh11) := hD
        obtain ⟨x12, ex12⟩ : ∃ y : Int32, y = v2 + 1 := ⟨_, rfl⟩
        have hw := hw x12 ex12
        refine lv_iinc (v := x12) (lv' := [(2, .int x12), (0, .ref (a 0)), (1, .int v1)]) hx hb dX9_mixEnd_169 hl (k := 2) rfl (by rw [ex12]; rfl) (by decide) rfl (fun ls hl => ?_)
        refine lv_goto (tgt := 141) hx hb dX9_mixEnd_172 (by decide) ?_
        exact ih v1 x12 s10 hh11 _ _ _ hw hP hD hS (lv_sub hl [1, 2, 0] rfl)
  have b113 : ∀ (n : Nat) (v1 : Int32) (v2 : Int32) (s : tm_St) (hh : Int64) (H : Heap) (locs : List Loc) (ls : Array Slot), wp_X9_mixEnd_113 K n v1 v2 s hh → va_P (dC, dI) vwCl (tm_wModel cI cZ a s hh) H → va_D A (tm_wModel cI cZ a s hh) → va_S A z.heap H locs → lv_has ls 3 [(0, .ref (a 0)), (1, .int v1), (2, .int v2)] → W p l e (headSpec wsX9_mixEnd ({ frames := 1, cells := 0, slots := 0, locals := 22 })).room z m (([.ref (a 0), .int p0] : List Value).toArray) below meth c H locs 0 0 (MQ below (va_Qv (fun (u : tm_St × Int64) => K u.1 u.2) (fun (u : tm_St × Int64) t => tm_At dC dI cI cZ A (tm_wModel cI cZ a u.1 u.2) t) A) (([.ref (a 0), .int p0] : List Value).toArray) z 0 0 A) (F0 m 113 ls []) := by
    intro n
    induction n with
    | zero => intro v1 v2 s hh H locs ls hw hP hD hS hl; unfold wp_X9_mixEnd_113 at hw; exact hw.elim
    | succ n ih =>
      intro v1 v2 s hh H locs ls hw hP hD hS hl
      unfold wp_X9_mixEnd_113 at hw
      refine lv_iload_n hx hb dX9_mixEnd_113 rfl (lv_at hl 2 rfl) ?_
      refine lv_iconst (v := 5) hx hb dX9_mixEnd_114 (by decide) ?_
      refine lv_icmp_ge (tgt := 139) hx hb dX9_mixEnd_115 (by decide) (fun c5 => ?_) (fun c5 => ?_)
      · have hw := hw.1 c5
        refine lv_iconst (v := 0) hx hb dX9_mixEnd_139 (by decide) ?_
        refine lv_istore_n (lv' := [(2, .int 0), (0, .ref (a 0)), (1, .int v1)]) hx hb dX9_mixEnd_140 rfl hl (by decide) rfl (fun ls hl => ?_)
        obtain ⟨nf, hw⟩ := hw
        exact b141 nf v1 0 s hh _ _ _ hw hP hD hS (lv_sub hl [1, 2, 0] rfl)
      · have hw := hw.2 c5
        refine lv_aload_n hx hb dX9_mixEnd_118 rfl (lv_at hl 0 rfl) ?_
        refine lv_aload_n hx hb dX9_mixEnd_119 rfl (lv_at hl 0 rfl) ?_
        refine va_get (D := (dC, dI)) (ci := 7) (v := .ref (a 7)) (C := RX9) (T := TX9) (N := 30) hx hb hts h_in9 hown hK hP 0 rfl rfl 6 (by decide) h_f28 (fun _ h9 => h9) rfl dX9_mixEnd_120 ?_
        refine lv_iconst (v := 5) hx hb dX9_mixEnd_123 (by decide) ?_
        refine lv_iload_n hx hb dX9_mixEnd_124 rfl (lv_at hl 1 rfl) ?_
        refine lv_imul hx hb dX9_mixEnd_125 ?_
        refine lv_iload_n hx hb dX9_mixEnd_126 rfl (lv_at hl 2 rfl) ?_
        refine lv_iadd hx hb dX9_mixEnd_127 ?_
        have c13 := hw.1
        have hw := hw.2
        refine va_iald hx hb hK hP 7 0 rfl rfl c13 dX9_mixEnd_128 ?_
        refine lv_i2l hx hb dX9_mixEnd_129 rfl ?_
        have hPc := hP
        have hDc := hD
        have hFc := va_free (wc := (tm_wModel cI cZ a s hh)) hD hS hA [0, 1, 2, 3, 4, 5, 6, 7, 8, 9, 10, 11, 12, 13, 14, 15, 16, 17] rfl
        refine va_callv (va_runV (As := [.long (((s 7 (((5 * v1) + v2) : Int32).toNatClampNeg) : Int32).toInt64)]) (rest := []) ⟨hx, hb, hml, hown, hts⟩ (kk_X9_mix l dC dI cI cZ a s hh H.size (((s 7 (((5 * v1) + v2) : Int32).toNatClampNeg) : Int32).toInt64) _ hw) (cwV 1 hts gX9_mixEnd_X9_mix rfl rfl rfl (by decide +kernel) ⟨Nat.le_of_ble_eq_true rfl, Nat.le_of_ble_eq_true rfl⟩) ⟨tm_blind, va_recv hK hPc (ci := 7) (q0 := 0) rfl rfl, fun U hU hW => ⟨rfl, by rw [hU], by rw [hU]; exact hPc, va_K.moved hW.alike hK, hDc.weaken (fun _ _ _ _ => trivial)⟩⟩ rfl rfl hl.1 rfl (lv_room (Nat.le_of_ble_eq_true rfl)) dX9_mixEnd_130 ⟨Nat.zero_le _, Nat.zero_le _⟩) hS (fun q _ h => hFc q h) hFc (fun u t H1 locs ht hvm hw hB hz1 hk1 hS => ?_)
        obtain ⟨hP1, hK1, hD1⟩ := hB
        rw [ht] at hP1
        obtain ⟨s14, hh15⟩ := u
        obtain ⟨hP, hD⟩ := va_join (wr := []) (w1 := (tm_wModel cI cZ a s14 hh15)) hP hD [0, 1, 2, 3, 4, 5, 6, 7, 8, 9, 10, 11, 12, 13, 14, 15, 16, 17] [] rfl rfl (by decide) (by decide) hk1 hFc hP1 hD1
        generalize H1 = H at hP hS ⊢
        have hP : va_P (dC, dI) vwCl (tm_wModel cI cZ a s14 hh15) H := hP
        have hD : va_D A (tm_wModel cI cZ a s14 hh15) := hD
        obtain ⟨x16, ex16⟩ : ∃ y : Int32, y = v2 + 1 := ⟨_, rfl⟩
        have hw := hw x16 ex16
        refine lv_iinc (v := x16) (lv' := [(2, .int x16), (0, .ref (a 0)), (1, .int v1)]) hx hb dX9_mixEnd_133 hl (k := 2) rfl (by rw [ex16]; rfl) (by decide) rfl (fun ls hl => ?_)
        refine lv_goto (tgt := 113) hx hb dX9_mixEnd_136 (by decide) ?_
        exact ih v1 x16 s14 hh15 _ _ _ hw hP hD hS (lv_sub hl [1, 2, 0] rfl)
  have b85 : ∀ (n : Nat) (v1 : Int32) (v2 : Int32) (s : tm_St) (hh : Int64) (H : Heap) (locs : List Loc) (ls : Array Slot), wp_X9_mixEnd_85 K n v1 v2 s hh → va_P (dC, dI) vwCl (tm_wModel cI cZ a s hh) H → va_D A (tm_wModel cI cZ a s hh) → va_S A z.heap H locs → lv_has ls 3 [(0, .ref (a 0)), (1, .int v1), (2, .int v2)] → W p l e (headSpec wsX9_mixEnd ({ frames := 1, cells := 0, slots := 0, locals := 22 })).room z m (([.ref (a 0), .int p0] : List Value).toArray) below meth c H locs 0 0 (MQ below (va_Qv (fun (u : tm_St × Int64) => K u.1 u.2) (fun (u : tm_St × Int64) t => tm_At dC dI cI cZ A (tm_wModel cI cZ a u.1 u.2) t) A) (([.ref (a 0), .int p0] : List Value).toArray) z 0 0 A) (F0 m 85 ls []) := by
    intro n
    induction n with
    | zero => intro v1 v2 s hh H locs ls hw hP hD hS hl; unfold wp_X9_mixEnd_85 at hw; exact hw.elim
    | succ n ih =>
      intro v1 v2 s hh H locs ls hw hP hD hS hl
      unfold wp_X9_mixEnd_85 at hw
      refine lv_iload_n hx hb dX9_mixEnd_85 rfl (lv_at hl 2 rfl) ?_
      refine lv_iconst (v := 4) hx hb dX9_mixEnd_86 (by decide) ?_
      refine lv_icmp_ge (tgt := 111) hx hb dX9_mixEnd_87 (by decide) (fun c4 => ?_) (fun c4 => ?_)
      · have hw := hw.1 c4
        refine lv_iconst (v := 0) hx hb dX9_mixEnd_111 (by decide) ?_
        refine lv_istore_n (lv' := [(2, .int 0), (0, .ref (a 0)), (1, .int v1)]) hx hb dX9_mixEnd_112 rfl hl (by decide) rfl (fun ls hl => ?_)
        obtain ⟨nf, hw⟩ := hw
        exact b113 nf v1 0 s hh _ _ _ hw hP hD hS (lv_sub hl [1, 2, 0] rfl)
      · have hw := hw.2 c4
        refine lv_aload_n hx hb dX9_mixEnd_90 rfl (lv_at hl 0 rfl) ?_
        refine lv_aload_n hx hb dX9_mixEnd_91 rfl (lv_at hl 0 rfl) ?_
        refine va_get (D := (dC, dI)) (ci := 7) (v := .ref (a 4)) (C := RX9) (T := TX9) (N := 30) hx hb hts h_in9 hown hK hP 0 rfl rfl 3 (by decide) h_f19 (fun _ h9 => h9) rfl dX9_mixEnd_92 ?_
        refine lv_iconst (v := 4) hx hb dX9_mixEnd_95 (by decide) ?_
        refine lv_iload_n hx hb dX9_mixEnd_96 rfl (lv_at hl 1 rfl) ?_
        refine lv_imul hx hb dX9_mixEnd_97 ?_
        refine lv_iload_n hx hb dX9_mixEnd_98 rfl (lv_at hl 2 rfl) ?_
        refine lv_iadd hx hb dX9_mixEnd_99 ?_
        have c17 := hw.1
        have hw := hw.2
        refine va_iald hx hb hK hP 4 0 rfl rfl c17 dX9_mixEnd_100 ?_
        refine lv_i2l hx hb dX9_mixEnd_101 rfl ?_
        have hPc := hP
        have hDc := hD
        have hFc := va_free (wc := (tm_wModel cI cZ a s hh)) hD hS hA [0, 1, 2, 3, 4, 5, 6, 7, 8, 9, 10, 11, 12, 13, 14, 15, 16, 17] rfl
        refine va_callv (va_runV (As := [.long (((s 4 (((4 * v1) + v2) : Int32).toNatClampNeg) : Int32).toInt64)]) (rest := []) ⟨hx, hb, hml, hown, hts⟩ (kk_X9_mix l dC dI cI cZ a s hh H.size (((s 4 (((4 * v1) + v2) : Int32).toNatClampNeg) : Int32).toInt64) _ hw) (cwV 1 hts gX9_mixEnd_X9_mix rfl rfl rfl (by decide +kernel) ⟨Nat.le_of_ble_eq_true rfl, Nat.le_of_ble_eq_true rfl⟩) ⟨tm_blind, va_recv hK hPc (ci := 7) (q0 := 0) rfl rfl, fun U hU hW => ⟨rfl, by rw [hU], by rw [hU]; exact hPc, va_K.moved hW.alike hK, hDc.weaken (fun _ _ _ _ => trivial)⟩⟩ rfl rfl hl.1 rfl (lv_room (Nat.le_of_ble_eq_true rfl)) dX9_mixEnd_102 ⟨Nat.zero_le _, Nat.zero_le _⟩) hS (fun q _ h => hFc q h) hFc (fun u t H1 locs ht hvm hw hB hz1 hk1 hS => ?_)
        obtain ⟨hP1, hK1, hD1⟩ := hB
        rw [ht] at hP1
        obtain ⟨s18, hh19⟩ := u
        obtain ⟨hP, hD⟩ := va_join (wr := []) (w1 := (tm_wModel cI cZ a s18 hh19)) hP hD [0, 1, 2, 3, 4, 5, 6, 7, 8, 9, 10, 11, 12, 13, 14, 15, 16, 17] [] rfl rfl (by decide) (by decide) hk1 hFc hP1 hD1
        generalize H1 = H at hP hS ⊢
        have hP : va_P (dC, dI) vwCl (tm_wModel cI cZ a s18 hh19) H := hP
        have hD : va_D A (tm_wModel cI cZ a s18 hh19) := hD
        obtain ⟨x20, ex20⟩ : ∃ y : Int32, y = v2 + 1 := ⟨_, rfl⟩
        have hw := hw x20 ex20
        refine lv_iinc (v := x20) (lv' := [(2, .int x20), (0, .ref (a 0)), (1, .int v1)]) hx hb dX9_mixEnd_105 hl (k := 2) rfl (by rw [ex20]; rfl) (by decide) rfl (fun ls hl => ?_)
        refine lv_goto (tgt := 85) hx hb dX9_mixEnd_108 (by decide) ?_
        exact ih v1 x20 s18 hh19 _ _ _ hw hP hD hS (lv_sub hl [1, 2, 0] rfl)
  have b57 : ∀ (n : Nat) (v1 : Int32) (v2 : Int32) (s : tm_St) (hh : Int64) (H : Heap) (locs : List Loc) (ls : Array Slot), wp_X9_mixEnd_57 K n v1 v2 s hh → va_P (dC, dI) vwCl (tm_wModel cI cZ a s hh) H → va_D A (tm_wModel cI cZ a s hh) → va_S A z.heap H locs → lv_has ls 3 [(0, .ref (a 0)), (1, .int v1), (2, .int v2)] → W p l e (headSpec wsX9_mixEnd ({ frames := 1, cells := 0, slots := 0, locals := 22 })).room z m (([.ref (a 0), .int p0] : List Value).toArray) below meth c H locs 0 0 (MQ below (va_Qv (fun (u : tm_St × Int64) => K u.1 u.2) (fun (u : tm_St × Int64) t => tm_At dC dI cI cZ A (tm_wModel cI cZ a u.1 u.2) t) A) (([.ref (a 0), .int p0] : List Value).toArray) z 0 0 A) (F0 m 57 ls []) := by
    intro n
    induction n with
    | zero => intro v1 v2 s hh H locs ls hw hP hD hS hl; unfold wp_X9_mixEnd_57 at hw; exact hw.elim
    | succ n ih =>
      intro v1 v2 s hh H locs ls hw hP hD hS hl
      unfold wp_X9_mixEnd_57 at hw
      refine lv_iload_n hx hb dX9_mixEnd_57 rfl (lv_at hl 2 rfl) ?_
      refine lv_iconst (v := 4) hx hb dX9_mixEnd_58 (by decide) ?_
      refine lv_icmp_ge (tgt := 83) hx hb dX9_mixEnd_59 (by decide) (fun c3 => ?_) (fun c3 => ?_)
      · have hw := hw.1 c3
        refine lv_iconst (v := 0) hx hb dX9_mixEnd_83 (by decide) ?_
        refine lv_istore_n (lv' := [(2, .int 0), (0, .ref (a 0)), (1, .int v1)]) hx hb dX9_mixEnd_84 rfl hl (by decide) rfl (fun ls hl => ?_)
        obtain ⟨nf, hw⟩ := hw
        exact b85 nf v1 0 s hh _ _ _ hw hP hD hS (lv_sub hl [1, 2, 0] rfl)
      · have hw := hw.2 c3
        refine lv_aload_n hx hb dX9_mixEnd_62 rfl (lv_at hl 0 rfl) ?_
        refine lv_aload_n hx hb dX9_mixEnd_63 rfl (lv_at hl 0 rfl) ?_
        refine va_get (D := (dC, dI)) (ci := 7) (v := .ref (a 3)) (C := RX9) (T := TX9) (N := 30) hx hb hts h_in9 hown hK hP 0 rfl rfl 2 (by decide) h_f16 (fun _ h9 => h9) rfl dX9_mixEnd_64 ?_
        refine lv_iconst (v := 4) hx hb dX9_mixEnd_67 (by decide) ?_
        refine lv_iload_n hx hb dX9_mixEnd_68 rfl (lv_at hl 1 rfl) ?_
        refine lv_imul hx hb dX9_mixEnd_69 ?_
        refine lv_iload_n hx hb dX9_mixEnd_70 rfl (lv_at hl 2 rfl) ?_
        refine lv_iadd hx hb dX9_mixEnd_71 ?_
        have c21 := hw.1
        have hw := hw.2
        refine va_iald hx hb hK hP 3 0 rfl rfl c21 dX9_mixEnd_72 ?_
        refine lv_i2l hx hb dX9_mixEnd_73 rfl ?_
        have hPc := hP
        have hDc := hD
        have hFc := va_free (wc := (tm_wModel cI cZ a s hh)) hD hS hA [0, 1, 2, 3, 4, 5, 6, 7, 8, 9, 10, 11, 12, 13, 14, 15, 16, 17] rfl
        refine va_callv (va_runV (As := [.long (((s 3 (((4 * v1) + v2) : Int32).toNatClampNeg) : Int32).toInt64)]) (rest := []) ⟨hx, hb, hml, hown, hts⟩ (kk_X9_mix l dC dI cI cZ a s hh H.size (((s 3 (((4 * v1) + v2) : Int32).toNatClampNeg) : Int32).toInt64) _ hw) (cwV 1 hts gX9_mixEnd_X9_mix rfl rfl rfl (by decide +kernel) ⟨Nat.le_of_ble_eq_true rfl, Nat.le_of_ble_eq_true rfl⟩) ⟨tm_blind, va_recv hK hPc (ci := 7) (q0 := 0) rfl rfl, fun U hU hW => ⟨rfl, by rw [hU], by rw [hU]; exact hPc, va_K.moved hW.alike hK, hDc.weaken (fun _ _ _ _ => trivial)⟩⟩ rfl rfl hl.1 rfl (lv_room (Nat.le_of_ble_eq_true rfl)) dX9_mixEnd_74 ⟨Nat.zero_le _, Nat.zero_le _⟩) hS (fun q _ h => hFc q h) hFc (fun u t H1 locs ht hvm hw hB hz1 hk1 hS => ?_)
        obtain ⟨hP1, hK1, hD1⟩ := hB
        rw [ht] at hP1
        obtain ⟨s22, hh23⟩ := u
        obtain ⟨hP, hD⟩ := va_join (wr := []) (w1 := (tm_wModel cI cZ a s22 hh23)) hP hD [0, 1, 2, 3, 4, 5, 6, 7, 8, 9, 10, 11, 12, 13, 14, 15, 16, 17] [] rfl rfl (by decide) (by decide) hk1 hFc hP1 hD1
        generalize H1 = H at hP hS ⊢
        have hP : va_P (dC, dI) vwCl (tm_wModel cI cZ a s22 hh23) H := hP
        have hD : va_D A (tm_wModel cI cZ a s22 hh23) := hD
        obtain ⟨x24, ex24⟩ : ∃ y : Int32, y = v2 + 1 := ⟨_, rfl⟩
        have hw := hw x24 ex24
        refine lv_iinc (v := x24) (lv' := [(2, .int x24), (0, .ref (a 0)), (1, .int v1)]) hx hb dX9_mixEnd_77 hl (k := 2) rfl (by rw [ex24]; rfl) (by decide) rfl (fun ls hl => ?_)
        refine lv_goto (tgt := 57) hx hb dX9_mixEnd_80 (by decide) ?_
        exact ih v1 x24 s22 hh23 _ _ _ hw hP hD hS (lv_sub hl [1, 2, 0] rfl)
  have b27 : ∀ (n : Nat) (v1 : Int32) (v2 : Int32) (s : tm_St) (hh : Int64) (H : Heap) (locs : List Loc) (ls : Array Slot), wp_X9_mixEnd_27 K n v1 v2 s hh → va_P (dC, dI) vwCl (tm_wModel cI cZ a s hh) H → va_D A (tm_wModel cI cZ a s hh) → va_S A z.heap H locs → lv_has ls 3 [(0, .ref (a 0)), (1, .int v1), (2, .int v2)] → W p l e (headSpec wsX9_mixEnd ({ frames := 1, cells := 0, slots := 0, locals := 22 })).room z m (([.ref (a 0), .int p0] : List Value).toArray) below meth c H locs 0 0 (MQ below (va_Qv (fun (u : tm_St × Int64) => K u.1 u.2) (fun (u : tm_St × Int64) t => tm_At dC dI cI cZ A (tm_wModel cI cZ a u.1 u.2) t) A) (([.ref (a 0), .int p0] : List Value).toArray) z 0 0 A) (F0 m 27 ls []) := by
    intro n
    induction n with
    | zero => intro v1 v2 s hh H locs ls hw hP hD hS hl; unfold wp_X9_mixEnd_27 at hw; exact hw.elim
    | succ n ih =>
      intro v1 v2 s hh H locs ls hw hP hD hS hl
      unfold wp_X9_mixEnd_27 at hw
      refine lv_iload_n hx hb dX9_mixEnd_27 rfl (lv_at hl 2 rfl) ?_
      refine lv_bipush (v := 8) hx hb dX9_mixEnd_28 (by decide) ?_
      refine lv_icmp_ge (tgt := 55) hx hb dX9_mixEnd_30 (by decide) (fun c2 => ?_) (fun c2 => ?_)
      · have hw := hw.1 c2
        refine lv_iconst (v := 0) hx hb dX9_mixEnd_55 (by decide) ?_
        refine lv_istore_n (lv' := [(2, .int 0), (0, .ref (a 0)), (1, .int v1)]) hx hb dX9_mixEnd_56 rfl hl (by decide) rfl (fun ls hl => ?_)
        obtain ⟨nf, hw⟩ := hw
        exact b57 nf v1 0 s hh _ _ _ hw hP hD hS (lv_sub hl [1, 2, 0] rfl)
      · have hw := hw.2 c2
        refine lv_aload_n hx hb dX9_mixEnd_33 rfl (lv_at hl 0 rfl) ?_
        refine lv_aload_n hx hb dX9_mixEnd_34 rfl (lv_at hl 0 rfl) ?_
        refine va_get (D := (dC, dI)) (ci := 7) (v := .ref (a 2)) (C := RX9) (T := TX9) (N := 30) hx hb hts h_in9 hown hK hP 0 rfl rfl 1 (by decide) h_f13 (fun _ h9 => h9) rfl dX9_mixEnd_35 ?_
        refine lv_bipush (v := 8) hx hb dX9_mixEnd_38 (by decide) ?_
        refine lv_iload_n hx hb dX9_mixEnd_40 rfl (lv_at hl 1 rfl) ?_
        refine lv_imul hx hb dX9_mixEnd_41 ?_
        refine lv_iload_n hx hb dX9_mixEnd_42 rfl (lv_at hl 2 rfl) ?_
        refine lv_iadd hx hb dX9_mixEnd_43 ?_
        have c25 := hw.1
        have hw := hw.2
        refine va_iald hx hb hK hP 2 0 rfl rfl c25 dX9_mixEnd_44 ?_
        refine lv_i2l hx hb dX9_mixEnd_45 rfl ?_
        have hPc := hP
        have hDc := hD
        have hFc := va_free (wc := (tm_wModel cI cZ a s hh)) hD hS hA [0, 1, 2, 3, 4, 5, 6, 7, 8, 9, 10, 11, 12, 13, 14, 15, 16, 17] rfl
        refine va_callv (va_runV (As := [.long (((s 2 (((8 * v1) + v2) : Int32).toNatClampNeg) : Int32).toInt64)]) (rest := []) ⟨hx, hb, hml, hown, hts⟩ (kk_X9_mix l dC dI cI cZ a s hh H.size (((s 2 (((8 * v1) + v2) : Int32).toNatClampNeg) : Int32).toInt64) _ hw) (cwV 1 hts gX9_mixEnd_X9_mix rfl rfl rfl (by decide +kernel) ⟨Nat.le_of_ble_eq_true rfl, Nat.le_of_ble_eq_true rfl⟩) ⟨tm_blind, va_recv hK hPc (ci := 7) (q0 := 0) rfl rfl, fun U hU hW => ⟨rfl, by rw [hU], by rw [hU]; exact hPc, va_K.moved hW.alike hK, hDc.weaken (fun _ _ _ _ => trivial)⟩⟩ rfl rfl hl.1 rfl (lv_room (Nat.le_of_ble_eq_true rfl)) dX9_mixEnd_46 ⟨Nat.zero_le _, Nat.zero_le _⟩) hS (fun q _ h => hFc q h) hFc (fun u t H1 locs ht hvm hw hB hz1 hk1 hS => ?_)
        obtain ⟨hP1, hK1, hD1⟩ := hB
        rw [ht] at hP1
        obtain ⟨s26, hh27⟩ := u
        obtain ⟨hP, hD⟩ := va_join (wr := []) (w1 := (tm_wModel cI cZ a s26 hh27)) hP hD [0, 1, 2, 3, 4, 5, 6, 7, 8, 9, 10, 11, 12, 13, 14, 15, 16, 17] [] rfl rfl (by decide) (by decide) hk1 hFc hP1 hD1
        generalize H1 = H at hP hS ⊢
        have hP : va_P (dC, dI) vwCl (tm_wModel cI cZ a s26 hh27) H := hP
        have hD : va_D A (tm_wModel cI cZ a s26 hh27) := hD
        obtain ⟨x28, ex28⟩ : ∃ y : Int32, y = v2 + 1 := ⟨_, rfl⟩
        have hw := hw x28 ex28
        refine lv_iinc (v := x28) (lv' := [(2, .int x28), (0, .ref (a 0)), (1, .int v1)]) hx hb dX9_mixEnd_49 hl (k := 2) rfl (by rw [ex28]; rfl) (by decide) rfl (fun ls hl => ?_)
        refine lv_goto (tgt := 27) hx hb dX9_mixEnd_52 (by decide) ?_
        exact ih v1 x28 s26 hh27 _ _ _ hw hP hD hS (lv_sub hl [1, 2, 0] rfl)
  have b2 : ∀ (n : Nat) (v1 : Int32) (v2 : Int32) (s : tm_St) (hh : Int64) (H : Heap) (locs : List Loc) (ls : Array Slot), wp_X9_mixEnd_2 K n v1 v2 s hh → va_P (dC, dI) vwCl (tm_wModel cI cZ a s hh) H → va_D A (tm_wModel cI cZ a s hh) → va_S A z.heap H locs → lv_has ls 3 [(0, .ref (a 0)), (1, .int v1), (2, .int v2)] → W p l e (headSpec wsX9_mixEnd ({ frames := 1, cells := 0, slots := 0, locals := 22 })).room z m (([.ref (a 0), .int p0] : List Value).toArray) below meth c H locs 0 0 (MQ below (va_Qv (fun (u : tm_St × Int64) => K u.1 u.2) (fun (u : tm_St × Int64) t => tm_At dC dI cI cZ A (tm_wModel cI cZ a u.1 u.2) t) A) (([.ref (a 0), .int p0] : List Value).toArray) z 0 0 A) (F0 m 2 ls []) := by
    intro n
    induction n with
    | zero => intro v1 v2 s hh H locs ls hw hP hD hS hl; unfold wp_X9_mixEnd_2 at hw; exact hw.elim
    | succ n ih =>
      intro v1 v2 s hh H locs ls hw hP hD hS hl
      unfold wp_X9_mixEnd_2 at hw
      refine lv_iload_n hx hb dX9_mixEnd_2 rfl (lv_at hl 2 rfl) ?_
      refine lv_bipush (v := 16) hx hb dX9_mixEnd_3 (by decide) ?_
      refine lv_icmp_ge (tgt := 25) hx hb dX9_mixEnd_5 (by decide) (fun c1 => ?_) (fun c1 => ?_)
      · have hw := hw.1 c1
        refine lv_iconst (v := 0) hx hb dX9_mixEnd_25 (by decide) ?_
        refine lv_istore_n (lv' := [(2, .int 0), (0, .ref (a 0)), (1, .int v1)]) hx hb dX9_mixEnd_26 rfl hl (by decide) rfl (fun ls hl => ?_)
        obtain ⟨nf, hw⟩ := hw
        exact b27 nf v1 0 s hh _ _ _ hw hP hD hS (lv_sub hl [1, 2, 0] rfl)
      · have hw := hw.2 c1
        refine lv_aload_n hx hb dX9_mixEnd_8 rfl (lv_at hl 0 rfl) ?_
        refine lv_aload_n hx hb dX9_mixEnd_9 rfl (lv_at hl 0 rfl) ?_
        refine lv_iload_n hx hb dX9_mixEnd_10 rfl (lv_at hl 1 rfl) ?_
        refine lv_iload_n hx hb dX9_mixEnd_11 rfl (lv_at hl 2 rfl) ?_
        have hPc := hP
        have hDc := hD
        have hFc := va_free (wc := (tm_wModel cI cZ a s hh)) hD hS hA [0, 1, 2, 3, 4, 5, 6, 7, 8, 9, 10, 11, 12, 13, 14, 15, 16, 17] rfl
        refine va_calli (va_runV (As := [.int v1, .int v2]) (rest := [.ref (a 0)]) ⟨hx, hb, hml, hown, hts⟩ (kk_X9_of l dC dI cI cZ a s hh H.size v1 v2 _ hw) (cwV 2 hts gX9_mixEnd_X9_of rfl rfl rfl (by decide +kernel) ⟨Nat.le_of_ble_eq_true rfl, Nat.le_of_ble_eq_true rfl⟩) ⟨tm_blind, va_recv hK hPc (ci := 7) (q0 := 0) rfl rfl, fun U hU hW => ⟨rfl, by rw [hU], by rw [hU]; exact hPc, va_K.moved hW.alike hK, hDc.weaken (fun _ _ _ _ => trivial)⟩⟩ rfl rfl hl.1 rfl (lv_room (Nat.le_of_ble_eq_true rfl)) dX9_mixEnd_12 ⟨Nat.zero_le _, Nat.zero_le _⟩) hS (fun q _ h => hFc q h) hFc (fun r29 s30 t H1 locs ht hvm hw hB hz1 hk1 hS => ?_)
        obtain ⟨hP1, hK1, hD1⟩ := hB
        rw [ht] at hP1
        obtain ⟨hP, hD⟩ := va_join (wr := []) (w1 := (tm_wModel cI cZ a s30 hh)) hP hD [0, 1, 2, 3, 4, 5, 6, 7, 8, 9, 10, 11, 12, 13, 14, 15, 16, 17] [] rfl rfl (by decide) (by decide) hk1 hFc hP1 hD1
        generalize H1 = H at hP hS ⊢
        have hP : va_P (dC, dI) vwCl (tm_wModel cI cZ a s30 hh) H := hP
        have hD : va_D A (tm_wModel cI cZ a s30 hh) := hD
        refine lv_i2l hx hb dX9_mixEnd_15 rfl ?_
        have hPc := hP
        have hDc := hD
        have hFc := va_free (wc := (tm_wModel cI cZ a s30 hh)) hD hS hA [0, 1, 2, 3, 4, 5, 6, 7, 8, 9, 10, 11, 12, 13, 14, 15, 16, 17] rfl
        refine va_callv (va_runV (As := [.long r29.toInt64]) (rest := []) ⟨hx, hb, hml, hown, hts⟩ (kk_X9_mix l dC dI cI cZ a s30 hh H.size r29.toInt64 _ hw) (cwV 1 hts gX9_mixEnd_X9_mix rfl rfl rfl (by decide +kernel) ⟨Nat.le_of_ble_eq_true rfl, Nat.le_of_ble_eq_true rfl⟩) ⟨tm_blind, va_recv hK hPc (ci := 7) (q0 := 0) rfl rfl, fun U hU hW => ⟨rfl, by rw [hU], by rw [hU]; exact hPc, va_K.moved hW.alike hK, hDc.weaken (fun _ _ _ _ => trivial)⟩⟩ rfl rfl hl.1 rfl (lv_room (Nat.le_of_ble_eq_true rfl)) dX9_mixEnd_16 ⟨Nat.zero_le _, Nat.zero_le _⟩) hS (fun q _ h => hFc q h) hFc (fun u t H1 locs ht hvm hw hB hz1 hk1 hS => ?_)
        obtain ⟨hP1, hK1, hD1⟩ := hB
        rw [ht] at hP1
        obtain ⟨s31, hh32⟩ := u
        obtain ⟨hP, hD⟩ := va_join (wr := []) (w1 := (tm_wModel cI cZ a s31 hh32)) hP hD [0, 1, 2, 3, 4, 5, 6, 7, 8, 9, 10, 11, 12, 13, 14, 15, 16, 17] [] rfl rfl (by decide) (by decide) hk1 hFc hP1 hD1
        generalize H1 = H at hP hS ⊢
        have hP : va_P (dC, dI) vwCl (tm_wModel cI cZ a s31 hh32) H := hP
        have hD : va_D A (tm_wModel cI cZ a s31 hh32) := hD
        obtain ⟨x33, ex33⟩ : ∃ y : Int32, y = v2 + 1 := ⟨_, rfl⟩
        have hw := hw x33 ex33
        refine lv_iinc (v := x33) (lv' := [(2, .int x33), (0, .ref (a 0)), (1, .int v1)]) hx hb dX9_mixEnd_19 hl (k := 2) rfl (by rw [ex33]; rfl) (by decide) rfl (fun ls hl => ?_)
        refine lv_goto (tgt := 2) hx hb dX9_mixEnd_22 (by decide) ?_
        exact ih v1 x33 s31 hh32 _ _ _ hw hP hD hS (lv_sub hl [1, 2, 0] rfl)
  have hl := lv_entry ([.ref (a 0), .int p0]) (n := 3) (Nat.le_of_ble_eq_true rfl)
  rw [lg_entry_eq]
  generalize (lg_sl ([.ref (a 0), .int p0]) ++ List.replicate (3 - (lg_sl ([.ref (a 0), .int p0])).length) Slot.unset).toArray = ls at hl ⊢
  have hl : lv_has ls 3 [(0, .ref (a 0)), (1, .int p0)] := hl
  unfold wp_X9_mixEnd at hw
  refine lv_iconst (v := 0) hx hb dX9_mixEnd_0 (by decide) ?_
  refine lv_istore_n (lv' := [(2, .int 0), (0, .ref (a 0)), (1, .int p0)]) hx hb dX9_mixEnd_1 rfl hl (by decide) rfl (fun ls hl => ?_)
  obtain ⟨nf, hw⟩ := hw
  exact b2 nf p0 0 s0 hh _ _ _ hw hP hD hS (lv_sub hl [1, 2, 0] rfl)
def wp_X9_digest_101 (K : Int64 → tm_St → Int64 → Prop) : Nat → Int32 → tm_St → Int64 → Prop
  | 0, _, _, _ => False
  | n + 1, v1, s, hh => (((9 : Int32) ≤ v1 → K hh s hh) ∧ (¬ (9 : Int32) ≤ v1 → (wp_X9_howMany v1 s (fun r9 s10 => (wp_X9_mix r9.toInt64 s10 hh (fun s11 hh12 => (∀ x13 : Int32, x13 = v1 + 1 → wp_X9_digest_101 K n x13 s11 hh12)))))))
def wp_X9_digest_74 (K : Int64 → tm_St → Int64 → Prop) : Nat → Int32 → tm_St → Int64 → Prop
  | 0, _, _, _ => False
  | n + 1, v1, s, hh => (((s 0 18) ≤ v1 → ∃ nf : Nat, wp_X9_digest_101 K nf 0 s hh) ∧ (¬ (s 0 18) ≤ v1 → (vp_in v1 30 ∧ (wp_X9_mix (((s 14 (v1 : Int32).toNatClampNeg) : Int32).toInt64) s hh (fun s15 hh16 => (∀ x17 : Int32, x17 = v1 + 1 → wp_X9_digest_74 K n x17 s15 hh16))))))
def wp_X9_digest_19 (K : Int64 → tm_St → Int64 → Prop) : Nat → Int32 → tm_St → Int64 → Prop
  | 0, _, _, _ => False
  | n + 1, v1, s, hh => (((28 : Int32) ≤ v1 → ∃ nf : Nat, wp_X9_digest_74 K nf 0 s hh) ∧ (¬ (28 : Int32) ≤ v1 → (wp_X9_within v1 0 3 (fun r18 => ((¬ r18 = 0 → (wp_X9_aboutNow v1 s (fun r21 s22 => (wp_X9_mix r21.toInt64 s22 hh (fun s23 hh24 => (∀ x25 : Int32, x25 = v1 + 1 → wp_X9_digest_19 K n x25 s23 hh24)))))) ∧ (r18 = 0 → (wp_X9_within v1 10 17 (fun r26 => ((¬ r26 = 0 → (wp_X9_aboutNow v1 s (fun r29 s30 => (wp_X9_mix r29.toInt64 s30 hh (fun s31 hh32 => (∀ x33 : Int32, x33 = v1 + 1 → wp_X9_digest_19 K n x33 s31 hh32)))))) ∧ (r26 = 0 → (wp_X9_within v1 20 27 (fun r34 => ((r34 = 0 → (∀ x37 : Int32, x37 = v1 + 1 → wp_X9_digest_19 K n x37 s hh)) ∧ (¬ r34 = 0 → (wp_X9_aboutNow v1 s (fun r38 s39 => (wp_X9_mix r38.toInt64 s39 hh (fun s40 hh41 => (∀ x42 : Int32, x42 = v1 + 1 → wp_X9_digest_19 K n x42 s40 hh41)))))))))))))))))))
def wp_X9_digest  (s0 : tm_St) (hh : Int64) (K : Int64 → tm_St → Int64 → Prop) : Prop := (∀ hh1 : Int64, hh1 = 1613 → (wp_X9_mixEnd 0 s0 hh1 (fun s2 hh3 => (wp_X9_mixEnd 1 s2 hh3 (fun s4 hh5 => ∃ nf : Nat, wp_X9_digest_19 K nf 0 s4 hh5)))))
set_option maxRecDepth 100000 in
set_option maxHeartbeats 4000000 in
theorem kk_X9_digest (l : Launch) (dC : Nat → ClassId) (dI : Nat → Nat → Nat) (cI cZ : ClassId) (a : Nat → Nat) (s0 : tm_St) (hh : Int64) (sz : Nat)  (K : Int64 → tm_St → Int64 → Prop) (hw : wp_X9_digest s0 hh K) : Met l yX9_digest wsX9_digest ({ frames := 2, cells := 0, slots := 0, locals := 44 }) (va_Pc [.ref (a 0)] (tm_Pre dC dI cI cZ (tm_wModel cI cZ a s0 hh) sz)) (va_Ql (fun (r : Int64) (u : tm_St × Int64) => K r u.1 u.2) (fun (u : tm_St × Int64) t => tm_At dC dI cI cZ (va_A (tm_wModel cI cZ a s0 hh) sz) (tm_wModel cI cZ a u.1 u.2) t) (va_A (tm_wModel cI cZ a s0 hh) sz)) 0 0 (va_A (tm_wModel cI cZ a s0 hh) sz) := by
  refine Met.ofW (cc := cX9_digest) (maxL := 2) (ret := (some .long)) (by decide +kernel) rfl ?_
  intro p e z m args below meth c z₁ B hml hv
  obtain ⟨rfl, hsz, hP, hK, hD0⟩ := hv
  have hx := B.exec
  have hb := B.bytes
  have hr := B.returns
  have hts := atoms_spec (ws := wsX9_digest) B.pre
  have hown : z.vm.findClass RX9 = some m.cls := findClass_of_methodNamed B.named
  have hlocks := B.notSynchronized
  subst hsz
  have hD := hD0.self (sz := z.heap.size)
  generalize hAe : va_A (tm_wModel cI cZ a s0 hh) z.heap.size = A at hD ⊢
  have hA : ∀ q : Nat, z.heap.size ≤ q → A q := fun q h => by rw [← hAe]; exact Or.inr h
  have hS : va_S A z.heap z.heap [] := va_S.rf
  have h_c239 := hts (.constantLong RX9 239 (1613)) (by decide +kernel)
  have h_f231 := hts (.fieldLink RX9 231 "TwoModemsModel" "h" "J") (by decide +kernel)
  have h_in9 : ∀ w ∈ u_ws RX9 TX9 30, w ∈ wsX9_digest := by decide +kernel
  have h_f69 := hts (.fieldLink RX9 69 "TwoModemsModel" "pageLength" "I") (by decide +kernel)
  have h_f53 := hts (.fieldLink RX9 53 "TwoModemsModel" "page" "[I") (by decide +kernel)
  have b101 : ∀ (n : Nat) (v1 : Int32) (s : tm_St) (hh : Int64) (H : Heap) (locs : List Loc) (ls : Array Slot), wp_X9_digest_101 K n v1 s hh → va_P (dC, dI) vwCl (tm_wModel cI cZ a s hh) H → va_D A (tm_wModel cI cZ a s hh) → va_S A z.heap H locs → lv_has ls 2 [(0, .ref (a 0)), (1, .int v1)] → W p l e (headSpec wsX9_digest ({ frames := 2, cells := 0, slots := 0, locals := 44 })).room z m (([.ref (a 0)] : List Value).toArray) below meth c H locs 0 0 (MQ below (va_Ql (fun (r : Int64) (u : tm_St × Int64) => K r u.1 u.2) (fun (u : tm_St × Int64) t => tm_At dC dI cI cZ A (tm_wModel cI cZ a u.1 u.2) t) A) (([.ref (a 0)] : List Value).toArray) z 0 0 A) (F0 m 101 ls []) := by
    intro n
    induction n with
    | zero => intro v1 s hh H locs ls hw hP hD hS hl; unfold wp_X9_digest_101 at hw; exact hw.elim
    | succ n ih =>
      intro v1 s hh H locs ls hw hP hD hS hl
      unfold wp_X9_digest_101 at hw
      refine lv_iload_n hx hb dX9_digest_101 rfl (lv_at hl 1 rfl) ?_
      refine lv_bipush (v := 9) hx hb dX9_digest_102 (by decide) ?_
      refine lv_icmp_ge (tgt := 123) hx hb dX9_digest_104 (by decide) (fun c8 => ?_) (fun c8 => ?_)
      · have hw := hw.1 c8
        refine lv_aload_n hx hb dX9_digest_123 rfl (lv_at hl 0 rfl) ?_
        refine va_get (D := (dC, dI)) (ci := 7) (v := .long hh) (C := RX9) (T := TX9) (N := 30) hx hb hts h_in9 hown hK hP 0 rfl rfl 29 (by decide) h_f231 (fun _ h9 => h9) rfl dX9_digest_124 ?_
        exact W.lret (v := hh) hx hb hr (fun t ht hW => ⟨⟨hh, (s, hh), rfl, hw, by rw [ht]; exact hP, va_K.moved hW.alike hK, hD⟩, hS.F ht⟩) hS.2.2 dX9_digest_127
      · have hw := hw.2 c8
        refine lv_aload_n hx hb dX9_digest_107 rfl (lv_at hl 0 rfl) ?_
        refine lv_aload_n hx hb dX9_digest_108 rfl (lv_at hl 0 rfl) ?_
        refine lv_iload_n hx hb dX9_digest_109 rfl (lv_at hl 1 rfl) ?_
        have hPc := hP
        have hDc := hD
        have hFc := va_free (wc := (tm_wModel cI cZ a s hh)) hD hS hA [0, 1, 2, 3, 4, 5, 6, 7, 8, 9, 10, 11, 12, 13, 14, 15, 16, 17] rfl
        refine va_calli (va_runV (As := [.int v1]) (rest := [.ref (a 0)]) ⟨hx, hb, hml, hown, hts⟩ (kk_X9_howMany l dC dI cI cZ a s hh H.size v1 _ hw) (cwV 1 hts gX9_digest_X9_howMany rfl rfl rfl (by decide +kernel) ⟨Nat.le_of_ble_eq_true rfl, Nat.le_of_ble_eq_true rfl⟩) ⟨tm_blind, va_recv hK hPc (ci := 7) (q0 := 0) rfl rfl, fun U hU hW => ⟨rfl, by rw [hU], by rw [hU]; exact hPc, va_K.moved hW.alike hK, hDc.weaken (fun _ _ _ _ => trivial)⟩⟩ rfl rfl hl.1 rfl (lv_room (Nat.le_of_ble_eq_true rfl)) dX9_digest_110 ⟨Nat.zero_le _, Nat.zero_le _⟩) hS (fun q _ h => hFc q h) hFc (fun r9 s10 t H1 locs ht hvm hw hB hz1 hk1 hS => ?_)
        obtain ⟨hP1, hK1, hD1⟩ := hB
        rw [ht] at hP1
        obtain ⟨hP, hD⟩ := va_join (wr := []) (w1 := (tm_wModel cI cZ a s10 hh)) hP hD [0, 1, 2, 3, 4, 5, 6, 7, 8, 9, 10, 11, 12, 13, 14, 15, 16, 17] [] rfl rfl (by decide) (by decide) hk1 hFc hP1 hD1
        generalize H1 = H at hP hS ⊢
        have hP : va_P (dC, dI) vwCl (tm_wModel cI cZ a s10 hh) H := hP
        have hD : va_D A (tm_wModel cI cZ a s10 hh) := hD
        refine lv_i2l hx hb dX9_digest_113 rfl ?_
        have hPc := hP
        have hDc := hD
        have hFc := va_free (wc := (tm_wModel cI cZ a s10 hh)) hD hS hA [0, 1, 2, 3, 4, 5, 6, 7, 8, 9, 10, 11, 12, 13, 14, 15, 16, 17] rfl
        refine va_callv (va_runV (As := [.long r9.toInt64]) (rest := []) ⟨hx, hb, hml, hown, hts⟩ (kk_X9_mix l dC dI cI cZ a s10 hh H.size r9.toInt64 _ hw) (cwV 1 hts gX9_digest_X9_mix rfl rfl rfl (by decide +kernel) ⟨Nat.le_of_ble_eq_true rfl, Nat.le_of_ble_eq_true rfl⟩) ⟨tm_blind, va_recv hK hPc (ci := 7) (q0 := 0) rfl rfl, fun U hU hW => ⟨rfl, by rw [hU], by rw [hU]; exact hPc, va_K.moved hW.alike hK, hDc.weaken (fun _ _ _ _ => trivial)⟩⟩ rfl rfl hl.1 rfl (lv_room (Nat.le_of_ble_eq_true rfl)) dX9_digest_114 ⟨Nat.zero_le _, Nat.zero_le _⟩) hS (fun q _ h => hFc q h) hFc (fun u t H1 locs ht hvm hw hB hz1 hk1 hS => ?_)
        obtain ⟨hP1, hK1, hD1⟩ := hB
        rw [ht] at hP1
        obtain ⟨s11, hh12⟩ := u
        obtain ⟨hP, hD⟩ := va_join (wr := []) (w1 := (tm_wModel cI cZ a s11 hh12)) hP hD [0, 1, 2, 3, 4, 5, 6, 7, 8, 9, 10, 11, 12, 13, 14, 15, 16, 17] [] rfl rfl (by decide) (by decide) hk1 hFc hP1 hD1
        generalize H1 = H at hP hS ⊢
        have hP : va_P (dC, dI) vwCl (tm_wModel cI cZ a s11 hh12) H := hP
        have hD : va_D A (tm_wModel cI cZ a s11 hh12) := hD
        obtain ⟨x13, ex13⟩ : ∃ y : Int32, y = v1 + 1 := ⟨_, rfl⟩
        have hw := hw x13 ex13
        refine lv_iinc (v := x13) (lv' := [(1, .int x13), (0, .ref (a 0))]) hx hb dX9_digest_117 hl (k := 1) rfl (by rw [ex13]; rfl) (by decide) rfl (fun ls hl => ?_)
        refine lv_goto (tgt := 101) hx hb dX9_digest_120 (by decide) ?_
        exact ih x13 s11 hh12 _ _ _ hw hP hD hS (lv_sub hl [1, 0] rfl)
  have b74 : ∀ (n : Nat) (v1 : Int32) (s : tm_St) (hh : Int64) (H : Heap) (locs : List Loc) (ls : Array Slot), wp_X9_digest_74 K n v1 s hh → va_P (dC, dI) vwCl (tm_wModel cI cZ a s hh) H → va_D A (tm_wModel cI cZ a s hh) → va_S A z.heap H locs → lv_has ls 2 [(0, .ref (a 0)), (1, .int v1)] → W p l e (headSpec wsX9_digest ({ frames := 2, cells := 0, slots := 0, locals := 44 })).room z m (([.ref (a 0)] : List Value).toArray) below meth c H locs 0 0 (MQ below (va_Ql (fun (r : Int64) (u : tm_St × Int64) => K r u.1 u.2) (fun (u : tm_St × Int64) t => tm_At dC dI cI cZ A (tm_wModel cI cZ a u.1 u.2) t) A) (([.ref (a 0)] : List Value).toArray) z 0 0 A) (F0 m 74 ls []) := by
    intro n
    induction n with
    | zero => intro v1 s hh H locs ls hw hP hD hS hl; unfold wp_X9_digest_74 at hw; exact hw.elim
    | succ n ih =>
      intro v1 s hh H locs ls hw hP hD hS hl
      unfold wp_X9_digest_74 at hw
      refine lv_iload_n hx hb dX9_digest_74 rfl (lv_at hl 1 rfl) ?_
      refine lv_aload_n hx hb dX9_digest_75 rfl (lv_at hl 0 rfl) ?_
      refine va_get (D := (dC, dI)) (ci := 7) (v := .int (s 0 18)) (C := RX9) (T := TX9) (N := 30) hx hb hts h_in9 hown hK hP 0 rfl rfl 18 (by decide) h_f69 (fun _ h9 => h9) rfl dX9_digest_76 ?_
      refine lv_icmp_ge (tgt := 99) hx hb dX9_digest_79 (by decide) (fun c7 => ?_) (fun c7 => ?_)
      · have hw := hw.1 c7
        refine lv_iconst (v := 0) hx hb dX9_digest_99 (by decide) ?_
        refine lv_istore_n (lv' := [(1, .int 0), (0, .ref (a 0))]) hx hb dX9_digest_100 rfl hl (by decide) rfl (fun ls hl => ?_)
        obtain ⟨nf, hw⟩ := hw
        exact b101 nf 0 s hh _ _ _ hw hP hD hS (lv_sub hl [1, 0] rfl)
      · have hw := hw.2 c7
        refine lv_aload_n hx hb dX9_digest_82 rfl (lv_at hl 0 rfl) ?_
        refine lv_aload_n hx hb dX9_digest_83 rfl (lv_at hl 0 rfl) ?_
        refine va_get (D := (dC, dI)) (ci := 7) (v := .ref (a 14)) (C := RX9) (T := TX9) (N := 30) hx hb hts h_in9 hown hK hP 0 rfl rfl 19 (by decide) h_f53 (fun _ h9 => h9) rfl dX9_digest_84 ?_
        refine lv_iload_n hx hb dX9_digest_87 rfl (lv_at hl 1 rfl) ?_
        have c14 := hw.1
        have hw := hw.2
        refine va_iald hx hb hK hP 14 0 rfl rfl c14 dX9_digest_88 ?_
        refine lv_i2l hx hb dX9_digest_89 rfl ?_
        have hPc := hP
        have hDc := hD
        have hFc := va_free (wc := (tm_wModel cI cZ a s hh)) hD hS hA [0, 1, 2, 3, 4, 5, 6, 7, 8, 9, 10, 11, 12, 13, 14, 15, 16, 17] rfl
        refine va_callv (va_runV (As := [.long (((s 14 (v1 : Int32).toNatClampNeg) : Int32).toInt64)]) (rest := []) ⟨hx, hb, hml, hown, hts⟩ (kk_X9_mix l dC dI cI cZ a s hh H.size (((s 14 (v1 : Int32).toNatClampNeg) : Int32).toInt64) _ hw) (cwV 1 hts gX9_digest_X9_mix rfl rfl rfl (by decide +kernel) ⟨Nat.le_of_ble_eq_true rfl, Nat.le_of_ble_eq_true rfl⟩) ⟨tm_blind, va_recv hK hPc (ci := 7) (q0 := 0) rfl rfl, fun U hU hW => ⟨rfl, by rw [hU], by rw [hU]; exact hPc, va_K.moved hW.alike hK, hDc.weaken (fun _ _ _ _ => trivial)⟩⟩ rfl rfl hl.1 rfl (lv_room (Nat.le_of_ble_eq_true rfl)) dX9_digest_90 ⟨Nat.zero_le _, Nat.zero_le _⟩) hS (fun q _ h => hFc q h) hFc (fun u t H1 locs ht hvm hw hB hz1 hk1 hS => ?_)
        obtain ⟨hP1, hK1, hD1⟩ := hB
        rw [ht] at hP1
        obtain ⟨s15, hh16⟩ := u
        obtain ⟨hP, hD⟩ := va_join (wr := []) (w1 := (tm_wModel cI cZ a s15 hh16)) hP hD [0, 1, 2, 3, 4, 5, 6, 7, 8, 9, 10, 11, 12, 13, 14, 15, 16, 17] [] rfl rfl (by decide) (by decide) hk1 hFc hP1 hD1
        generalize H1 = H at hP hS ⊢
        have hP : va_P (dC, dI) vwCl (tm_wModel cI cZ a s15 hh16) H := hP
        have hD : va_D A (tm_wModel cI cZ a s15 hh16) := hD
        obtain ⟨x17, ex17⟩ : ∃ y : Int32, y = v1 + 1 := ⟨_, rfl⟩
        have hw := hw x17 ex17
        refine lv_iinc (v := x17) (lv' := [(1, .int x17), (0, .ref (a 0))]) hx hb dX9_digest_93 hl (k := 1) rfl (by rw [ex17]; rfl) (by decide) rfl (fun ls hl => ?_)
        refine lv_goto (tgt := 74) hx hb dX9_digest_96 (by decide) ?_
        exact ih x17 s15 hh16 _ _ _ hw hP hD hS (lv_sub hl [1, 0] rfl)
  have b19 : ∀ (n : Nat) (v1 : Int32) (s : tm_St) (hh : Int64) (H : Heap) (locs : List Loc) (ls : Array Slot), wp_X9_digest_19 K n v1 s hh → va_P (dC, dI) vwCl (tm_wModel cI cZ a s hh) H → va_D A (tm_wModel cI cZ a s hh) → va_S A z.heap H locs → lv_has ls 2 [(0, .ref (a 0)), (1, .int v1)] → W p l e (headSpec wsX9_digest ({ frames := 2, cells := 0, slots := 0, locals := 44 })).room z m (([.ref (a 0)] : List Value).toArray) below meth c H locs 0 0 (MQ below (va_Ql (fun (r : Int64) (u : tm_St × Int64) => K r u.1 u.2) (fun (u : tm_St × Int64) t => tm_At dC dI cI cZ A (tm_wModel cI cZ a u.1 u.2) t) A) (([.ref (a 0)] : List Value).toArray) z 0 0 A) (F0 m 19 ls []) := by
    intro n
    induction n with
    | zero => intro v1 s hh H locs ls hw hP hD hS hl; unfold wp_X9_digest_19 at hw; exact hw.elim
    | succ n ih =>
      intro v1 s hh H locs ls hw hP hD hS hl
      unfold wp_X9_digest_19 at hw
      refine lv_iload_n hx hb dX9_digest_19 rfl (lv_at hl 1 rfl) ?_
      refine lv_bipush (v := 28) hx hb dX9_digest_20 (by decide) ?_
      refine lv_icmp_ge (tgt := 72) hx hb dX9_digest_22 (by decide) (fun c6 => ?_) (fun c6 => ?_)
      · have hw := hw.1 c6
        refine lv_iconst (v := 0) hx hb dX9_digest_72 (by decide) ?_
        refine lv_istore_n (lv' := [(1, .int 0), (0, .ref (a 0))]) hx hb dX9_digest_73 rfl hl (by decide) rfl (fun ls hl => ?_)
        obtain ⟨nf, hw⟩ := hw
        exact b74 nf 0 s hh _ _ _ hw hP hD hS (lv_sub hl [1, 0] rfl)
      · have hw := hw.2 c6
        refine lv_iload_n hx hb dX9_digest_25 rfl (lv_at hl 1 rfl) ?_
        refine lv_iconst (v := 0) hx hb dX9_digest_26 (by decide) ?_
        refine lv_iconst (v := 3) hx hb dX9_digest_27 (by decide) ?_
        have hPc := hP.sub (ws' := ([] : va_W)) [] rfl
        have hDc := hD.sub (ws' := ([] : va_W)) [] (by decide) rfl
        have hFc := va_free (wc := ([] : va_W)) hD hS hA [] rfl
        refine va_calli (va_runS (As := [.int v1, .int 0, .int 3]) (rest := []) ⟨hx, hb, hml, hown, hts⟩ (kk_X9_within l dC dI cI cZ H.size v1 0 3 _ hw) (va_cwS 3 hts gX9_digest_X9_within rfl rfl rfl (by decide +kernel) ⟨Nat.le_of_ble_eq_true rfl, Nat.le_of_ble_eq_true rfl⟩) ⟨tm_blind, fun U hU hW => ⟨rfl, by rw [hU], by rw [hU]; exact hPc, va_K.moved hW.alike hK, hDc.weaken (fun _ _ _ _ => trivial)⟩⟩ rfl rfl hl.1 rfl (lv_room (Nat.le_of_ble_eq_true rfl)) dX9_digest_28 ⟨Nat.zero_le _, Nat.zero_le _⟩) hS (fun q _ h => hFc q h) hFc (fun r18 u t H1 locs ht hvm hw hB hz1 hk1 hS => ?_)
        obtain ⟨hP1, hK1, hD1⟩ := hB
        rw [ht] at hP1
        have b9_r18 := hw.1
        have hw := hw.2
        obtain ⟨hP, hD⟩ := va_join (wr := (tm_wModel cI cZ a s hh)) (w1 := ([] : va_W)) hP hD [] [0, 1, 2, 3, 4, 5, 6, 7, 8, 9, 10, 11, 12, 13, 14, 15, 16, 17] rfl rfl (by decide) (by decide) hk1 hFc hP1 hD1
        rw [List.append_nil] at hP hD
        generalize H1 = H at hP hS ⊢
        refine lv_if_ne (tgt := 56) hx hb dX9_digest_31 (by decide) (fun c20 => ?_) (fun c20 => ?_)
        · have hw := hw.1 c20
          refine lv_aload_n hx hb dX9_digest_56 rfl (lv_at hl 0 rfl) ?_
          refine lv_aload_n hx hb dX9_digest_57 rfl (lv_at hl 0 rfl) ?_
          refine lv_iload_n hx hb dX9_digest_58 rfl (lv_at hl 1 rfl) ?_
          have hPc := hP
          have hDc := hD
          have hFc := va_free (wc := (tm_wModel cI cZ a s hh)) hD hS hA [0, 1, 2, 3, 4, 5, 6, 7, 8, 9, 10, 11, 12, 13, 14, 15, 16, 17] rfl
          refine va_calli (va_runV (As := [.int v1]) (rest := [.ref (a 0)]) ⟨hx, hb, hml, hown, hts⟩ (kk_X9_aboutNow l dC dI cI cZ a s hh H.size v1 _ hw) (cwV 1 hts gX9_digest_X9_aboutNow rfl rfl rfl (by decide +kernel) ⟨Nat.le_of_ble_eq_true rfl, Nat.le_of_ble_eq_true rfl⟩) ⟨tm_blind, va_recv hK hPc (ci := 7) (q0 := 0) rfl rfl, fun U hU hW => ⟨rfl, by rw [hU], by rw [hU]; exact hPc, va_K.moved hW.alike hK, hDc.weaken (fun _ _ _ _ => trivial)⟩⟩ rfl rfl hl.1 rfl (lv_room (Nat.le_of_ble_eq_true rfl)) dX9_digest_59 ⟨Nat.zero_le _, Nat.zero_le _⟩) hS (fun q _ h => hFc q h) hFc (fun r21 s22 t H1 locs ht hvm hw hB hz1 hk1 hS => ?_)
          obtain ⟨hP1, hK1, hD1⟩ := hB
          rw [ht] at hP1
          obtain ⟨hP, hD⟩ := va_join (wr := []) (w1 := (tm_wModel cI cZ a s22 hh)) hP hD [0, 1, 2, 3, 4, 5, 6, 7, 8, 9, 10, 11, 12, 13, 14, 15, 16, 17] [] rfl rfl (by decide) (by decide) hk1 hFc hP1 hD1
          generalize H1 = H at hP hS ⊢
          have hP : va_P (dC, dI) vwCl (tm_wModel cI cZ a s22 hh) H := hP
          have hD : va_D A (tm_wModel cI cZ a s22 hh) := hD
          refine lv_i2l hx hb dX9_digest_62 rfl ?_
          have hPc := hP
          have hDc := hD
          have hFc := va_free (wc := (tm_wModel cI cZ a s22 hh)) hD hS hA [0, 1, 2, 3, 4, 5, 6, 7, 8, 9, 10, 11, 12, 13, 14, 15, 16, 17] rfl
          refine va_callv (va_runV (As := [.long r21.toInt64]) (rest := []) ⟨hx, hb, hml, hown, hts⟩ (kk_X9_mix l dC dI cI cZ a s22 hh H.size r21.toInt64 _ hw) (cwV 1 hts gX9_digest_X9_mix rfl rfl rfl (by decide +kernel) ⟨Nat.le_of_ble_eq_true rfl, Nat.le_of_ble_eq_true rfl⟩) ⟨tm_blind, va_recv hK hPc (ci := 7) (q0 := 0) rfl rfl, fun U hU hW => ⟨rfl, by rw [hU], by rw [hU]; exact hPc, va_K.moved hW.alike hK, hDc.weaken (fun _ _ _ _ => trivial)⟩⟩ rfl rfl hl.1 rfl (lv_room (Nat.le_of_ble_eq_true rfl)) dX9_digest_63 ⟨Nat.zero_le _, Nat.zero_le _⟩) hS (fun q _ h => hFc q h) hFc (fun u t H1 locs ht hvm hw hB hz1 hk1 hS => ?_)
          obtain ⟨hP1, hK1, hD1⟩ := hB
          rw [ht] at hP1
          obtain ⟨s23, hh24⟩ := u
          obtain ⟨hP, hD⟩ := va_join (wr := []) (w1 := (tm_wModel cI cZ a s23 hh24)) hP hD [0, 1, 2, 3, 4, 5, 6, 7, 8, 9, 10, 11, 12, 13, 14, 15, 16, 17] [] rfl rfl (by decide) (by decide) hk1 hFc hP1 hD1
          generalize H1 = H at hP hS ⊢
          have hP : va_P (dC, dI) vwCl (tm_wModel cI cZ a s23 hh24) H := hP
          have hD : va_D A (tm_wModel cI cZ a s23 hh24) := hD
          obtain ⟨x25, ex25⟩ : ∃ y : Int32, y = v1 + 1 := ⟨_, rfl⟩
          have hw := hw x25 ex25
          refine lv_iinc (v := x25) (lv' := [(1, .int x25), (0, .ref (a 0))]) hx hb dX9_digest_66 hl (k := 1) rfl (by rw [ex25]; rfl) (by decide) rfl (fun ls hl => ?_)
          refine lv_goto (tgt := 19) hx hb dX9_digest_69 (by decide) ?_
          exact ih x25 s23 hh24 _ _ _ hw hP hD hS (lv_sub hl [1, 0] rfl)
        · have hw := hw.2 c20
          refine lv_iload_n hx hb dX9_digest_34 rfl (lv_at hl 1 rfl) ?_
          refine lv_bipush (v := 10) hx hb dX9_digest_35 (by decide) ?_
          refine lv_bipush (v := 17) hx hb dX9_digest_37 (by decide) ?_
          have hPc := hP.sub (ws' := ([] : va_W)) [] rfl
          have hDc := hD.sub (ws' := ([] : va_W)) [] (by decide) rfl
          have hFc := va_free (wc := ([] : va_W)) hD hS hA [] rfl
          refine va_calli (va_runS (As := [.int v1, .int 10, .int 17]) (rest := []) ⟨hx, hb, hml, hown, hts⟩ (kk_X9_within l dC dI cI cZ H.size v1 10 17 _ hw) (va_cwS 3 hts gX9_digest_X9_within rfl rfl rfl (by decide +kernel) ⟨Nat.le_of_ble_eq_true rfl, Nat.le_of_ble_eq_true rfl⟩) ⟨tm_blind, fun U hU hW => ⟨rfl, by rw [hU], by rw [hU]; exact hPc, va_K.moved hW.alike hK, hDc.weaken (fun _ _ _ _ => trivial)⟩⟩ rfl rfl hl.1 rfl (lv_room (Nat.le_of_ble_eq_true rfl)) dX9_digest_39 ⟨Nat.zero_le _, Nat.zero_le _⟩) hS (fun q _ h => hFc q h) hFc (fun r26 u t H1 locs ht hvm hw hB hz1 hk1 hS => ?_)
          obtain ⟨hP1, hK1, hD1⟩ := hB
          rw [ht] at hP1
          have b9_r26 := hw.1
          have hw := hw.2
          obtain ⟨hP, hD⟩ := va_join (wr := (tm_wModel cI cZ a s hh)) (w1 := ([] : va_W)) hP hD [] [0, 1, 2, 3, 4, 5, 6, 7, 8, 9, 10, 11, 12, 13, 14, 15, 16, 17] rfl rfl (by decide) (by decide) hk1 hFc hP1 hD1
          rw [List.append_nil] at hP hD
          generalize H1 = H at hP hS ⊢
          refine lv_if_ne (tgt := 56) hx hb dX9_digest_42 (by decide) (fun c28 => ?_) (fun c28 => ?_)
          · have hw := hw.1 c28
            refine lv_aload_n hx hb dX9_digest_56 rfl (lv_at hl 0 rfl) ?_
            refine lv_aload_n hx hb dX9_digest_57 rfl (lv_at hl 0 rfl) ?_
            refine lv_iload_n hx hb dX9_digest_58 rfl (lv_at hl 1 rfl) ?_
            have hPc := hP
            have hDc := hD
            have hFc := va_free (wc := (tm_wModel cI cZ a s hh)) hD hS hA [0, 1, 2, 3, 4, 5, 6, 7, 8, 9, 10, 11, 12, 13, 14, 15, 16, 17] rfl
            refine va_calli (va_runV (As := [.int v1]) (rest := [.ref (a 0)]) ⟨hx, hb, hml, hown, hts⟩ (kk_X9_aboutNow l dC dI cI cZ a s hh H.size v1 _ hw) (cwV 1 hts gX9_digest_X9_aboutNow rfl rfl rfl (by decide +kernel) ⟨Nat.le_of_ble_eq_true rfl, Nat.le_of_ble_eq_true rfl⟩) ⟨tm_blind, va_recv hK hPc (ci := 7) (q0 := 0) rfl rfl, fun U hU hW => ⟨rfl, by rw [hU], by rw [hU]; exact hPc, va_K.moved hW.alike hK, hDc.weaken (fun _ _ _ _ => trivial)⟩⟩ rfl rfl hl.1 rfl (lv_room (Nat.le_of_ble_eq_true rfl)) dX9_digest_59 ⟨Nat.zero_le _, Nat.zero_le _⟩) hS (fun q _ h => hFc q h) hFc (fun r29 s30 t H1 locs ht hvm hw hB hz1 hk1 hS => ?_)
            obtain ⟨hP1, hK1, hD1⟩ := hB
            rw [ht] at hP1
            obtain ⟨hP, hD⟩ := va_join (wr := []) (w1 := (tm_wModel cI cZ a s30 hh)) hP hD [0, 1, 2, 3, 4, 5, 6, 7, 8, 9, 10, 11, 12, 13, 14, 15, 16, 17] [] rfl rfl (by decide) (by decide) hk1 hFc hP1 hD1
            generalize H1 = H at hP hS ⊢
            have hP : va_P (dC, dI) vwCl (tm_wModel cI cZ a s30 hh) H := hP
            have hD : va_D A (tm_wModel cI cZ a s30 hh) := hD
            refine lv_i2l hx hb dX9_digest_62 rfl ?_
            have hPc := hP
            have hDc := hD
            have hFc := va_free (wc := (tm_wModel cI cZ a s30 hh)) hD hS hA [0, 1, 2, 3, 4, 5, 6, 7, 8, 9, 10, 11, 12, 13, 14, 15, 16, 17] rfl
            refine va_callv (va_runV (As := [.long r29.toInt64]) (rest := []) ⟨hx, hb, hml, hown, hts⟩ (kk_X9_mix l dC dI cI cZ a s30 hh H.size r29.toInt64 _ hw) (cwV 1 hts gX9_digest_X9_mix rfl rfl rfl (by decide +kernel) ⟨Nat.le_of_ble_eq_true rfl, Nat.le_of_ble_eq_true rfl⟩) ⟨tm_blind, va_recv hK hPc (ci := 7) (q0 := 0) rfl rfl, fun U hU hW => ⟨rfl, by rw [hU], by rw [hU]; exact hPc, va_K.moved hW.alike hK, hDc.weaken (fun _ _ _ _ => trivial)⟩⟩ rfl rfl hl.1 rfl (lv_room (Nat.le_of_ble_eq_true rfl)) dX9_digest_63 ⟨Nat.zero_le _, Nat.zero_le _⟩) hS (fun q _ h => hFc q h) hFc (fun u t H1 locs ht hvm hw hB hz1 hk1 hS => ?_)
            obtain ⟨hP1, hK1, hD1⟩ := hB
            rw [ht] at hP1
            obtain ⟨s31, hh32⟩ := u
            obtain ⟨hP, hD⟩ := va_join (wr := []) (w1 := (tm_wModel cI cZ a s31 hh32)) hP hD [0, 1, 2, 3, 4, 5, 6, 7, 8, 9, 10, 11, 12, 13, 14, 15, 16, 17] [] rfl rfl (by decide) (by decide) hk1 hFc hP1 hD1
            generalize H1 = H at hP hS ⊢
            have hP : va_P (dC, dI) vwCl (tm_wModel cI cZ a s31 hh32) H := hP
            have hD : va_D A (tm_wModel cI cZ a s31 hh32) := hD
            obtain ⟨x33, ex33⟩ : ∃ y : Int32, y = v1 + 1 := ⟨_, rfl⟩
            have hw := hw x33 ex33
            refine lv_iinc (v := x33) (lv' := [(1, .int x33), (0, .ref (a 0))]) hx hb dX9_digest_66 hl (k := 1) rfl (by rw [ex33]; rfl) (by decide) rfl (fun ls hl => ?_)
            refine lv_goto (tgt := 19) hx hb dX9_digest_69 (by decide) ?_
            exact ih x33 s31 hh32 _ _ _ hw hP hD hS (lv_sub hl [1, 0] rfl)
          · have hw := hw.2 c28
            refine lv_iload_n hx hb dX9_digest_45 rfl (lv_at hl 1 rfl) ?_
            refine lv_bipush (v := 20) hx hb dX9_digest_46 (by decide) ?_
            refine lv_bipush (v := 27) hx hb dX9_digest_48 (by decide) ?_
            have hPc := hP.sub (ws' := ([] : va_W)) [] rfl
            have hDc := hD.sub (ws' := ([] : va_W)) [] (by decide) rfl
            have hFc := va_free (wc := ([] : va_W)) hD hS hA [] rfl
            refine va_calli (va_runS (As := [.int v1, .int 20, .int 27]) (rest := []) ⟨hx, hb, hml, hown, hts⟩ (kk_X9_within l dC dI cI cZ H.size v1 20 27 _ hw) (va_cwS 3 hts gX9_digest_X9_within rfl rfl rfl (by decide +kernel) ⟨Nat.le_of_ble_eq_true rfl, Nat.le_of_ble_eq_true rfl⟩) ⟨tm_blind, fun U hU hW => ⟨rfl, by rw [hU], by rw [hU]; exact hPc, va_K.moved hW.alike hK, hDc.weaken (fun _ _ _ _ => trivial)⟩⟩ rfl rfl hl.1 rfl (lv_room (Nat.le_of_ble_eq_true rfl)) dX9_digest_50 ⟨Nat.zero_le _, Nat.zero_le _⟩) hS (fun q _ h => hFc q h) hFc (fun r34 u t H1 locs ht hvm hw hB hz1 hk1 hS => ?_)
            obtain ⟨hP1, hK1, hD1⟩ := hB
            rw [ht] at hP1
            have b9_r34 := hw.1
            have hw := hw.2
            obtain ⟨hP, hD⟩ := va_join (wr := (tm_wModel cI cZ a s hh)) (w1 := ([] : va_W)) hP hD [] [0, 1, 2, 3, 4, 5, 6, 7, 8, 9, 10, 11, 12, 13, 14, 15, 16, 17] rfl rfl (by decide) (by decide) hk1 hFc hP1 hD1
            rw [List.append_nil] at hP hD
            generalize H1 = H at hP hS ⊢
            refine lv_if_eq (tgt := 66) hx hb dX9_digest_53 (by decide) (fun c36 => ?_) (fun c36 => ?_)
            · have hw := hw.1 c36
              obtain ⟨x37, ex37⟩ : ∃ y : Int32, y = v1 + 1 := ⟨_, rfl⟩
              have hw := hw x37 ex37
              refine lv_iinc (v := x37) (lv' := [(1, .int x37), (0, .ref (a 0))]) hx hb dX9_digest_66 hl (k := 1) rfl (by rw [ex37]; rfl) (by decide) rfl (fun ls hl => ?_)
              refine lv_goto (tgt := 19) hx hb dX9_digest_69 (by decide) ?_
              exact ih x37 s hh _ _ _ hw hP hD hS (lv_sub hl [1, 0] rfl)
            · have hw := hw.2 c36
              refine lv_aload_n hx hb dX9_digest_56 rfl (lv_at hl 0 rfl) ?_
              refine lv_aload_n hx hb dX9_digest_57 rfl (lv_at hl 0 rfl) ?_
              refine lv_iload_n hx hb dX9_digest_58 rfl (lv_at hl 1 rfl) ?_
              have hPc := hP
              have hDc := hD
              have hFc := va_free (wc := (tm_wModel cI cZ a s hh)) hD hS hA [0, 1, 2, 3, 4, 5, 6, 7, 8, 9, 10, 11, 12, 13, 14, 15, 16, 17] rfl
              refine va_calli (va_runV (As := [.int v1]) (rest := [.ref (a 0)]) ⟨hx, hb, hml, hown, hts⟩ (kk_X9_aboutNow l dC dI cI cZ a s hh H.size v1 _ hw) (cwV 1 hts gX9_digest_X9_aboutNow rfl rfl rfl (by decide +kernel) ⟨Nat.le_of_ble_eq_true rfl, Nat.le_of_ble_eq_true rfl⟩) ⟨tm_blind, va_recv hK hPc (ci := 7) (q0 := 0) rfl rfl, fun U hU hW => ⟨rfl, by rw [hU], by rw [hU]; exact hPc, va_K.moved hW.alike hK, hDc.weaken (fun _ _ _ _ => trivial)⟩⟩ rfl rfl hl.1 rfl (lv_room (Nat.le_of_ble_eq_true rfl)) dX9_digest_59 ⟨Nat.zero_le _, Nat.zero_le _⟩) hS (fun q _ h => hFc q h) hFc (fun r38 s39 t H1 locs ht hvm hw hB hz1 hk1 hS => ?_)
              obtain ⟨hP1, hK1, hD1⟩ := hB
              rw [ht] at hP1
              obtain ⟨hP, hD⟩ := va_join (wr := []) (w1 := (tm_wModel cI cZ a s39 hh)) hP hD [0, 1, 2, 3, 4, 5, 6, 7, 8, 9, 10, 11, 12, 13, 14, 15, 16, 17] [] rfl rfl (by decide) (by decide) hk1 hFc hP1 hD1
              generalize H1 = H at hP hS ⊢
              have hP : va_P (dC, dI) vwCl (tm_wModel cI cZ a s39 hh) H := hP
              have hD : va_D A (tm_wModel cI cZ a s39 hh) := hD
              refine lv_i2l hx hb dX9_digest_62 rfl ?_
              have hPc := hP
              have hDc := hD
              have hFc := va_free (wc := (tm_wModel cI cZ a s39 hh)) hD hS hA [0, 1, 2, 3, 4, 5, 6, 7, 8, 9, 10, 11, 12, 13, 14, 15, 16, 17] rfl
              refine va_callv (va_runV (As := [.long r38.toInt64]) (rest := []) ⟨hx, hb, hml, hown, hts⟩ (kk_X9_mix l dC dI cI cZ a s39 hh H.size r38.toInt64 _ hw) (cwV 1 hts gX9_digest_X9_mix rfl rfl rfl (by decide +kernel) ⟨Nat.le_of_ble_eq_true rfl, Nat.le_of_ble_eq_true rfl⟩) ⟨tm_blind, va_recv hK hPc (ci := 7) (q0 := 0) rfl rfl, fun U hU hW => ⟨rfl, by rw [hU], by rw [hU]; exact hPc, va_K.moved hW.alike hK, hDc.weaken (fun _ _ _ _ => trivial)⟩⟩ rfl rfl hl.1 rfl (lv_room (Nat.le_of_ble_eq_true rfl)) dX9_digest_63 ⟨Nat.zero_le _, Nat.zero_le _⟩) hS (fun q _ h => hFc q h) hFc (fun u t H1 locs ht hvm hw hB hz1 hk1 hS => ?_)
              obtain ⟨hP1, hK1, hD1⟩ := hB
              rw [ht] at hP1
              obtain ⟨s40, hh41⟩ := u
              obtain ⟨hP, hD⟩ := va_join (wr := []) (w1 := (tm_wModel cI cZ a s40 hh41)) hP hD [0, 1, 2, 3, 4, 5, 6, 7, 8, 9, 10, 11, 12, 13, 14, 15, 16, 17] [] rfl rfl (by decide) (by decide) hk1 hFc hP1 hD1
              generalize H1 = H at hP hS ⊢
              have hP : va_P (dC, dI) vwCl (tm_wModel cI cZ a s40 hh41) H := hP
              have hD : va_D A (tm_wModel cI cZ a s40 hh41) := hD
              obtain ⟨x42, ex42⟩ : ∃ y : Int32, y = v1 + 1 := ⟨_, rfl⟩
              have hw := hw x42 ex42
              refine lv_iinc (v := x42) (lv' := [(1, .int x42), (0, .ref (a 0))]) hx hb dX9_digest_66 hl (k := 1) rfl (by rw [ex42]; rfl) (by decide) rfl (fun ls hl => ?_)
              refine lv_goto (tgt := 19) hx hb dX9_digest_69 (by decide) ?_
              exact ih x42 s40 hh41 _ _ _ hw hP hD hS (lv_sub hl [1, 0] rfl)
  have hl := lv_entry ([.ref (a 0)]) (n := 2) (Nat.le_of_ble_eq_true rfl)
  rw [lg_entry_eq]
  generalize (lg_sl ([.ref (a 0)]) ++ List.replicate (2 - (lg_sl ([.ref (a 0)])).length) Slot.unset).toArray = ls at hl ⊢
  have hl : lv_has ls 2 [(0, .ref (a 0))] := hl
  unfold wp_X9_digest at hw
  refine lv_aload_n hx hb dX9_digest_0 rfl (lv_at hl 0 rfl) ?_
  refine lv_ldc2 (v := 1613) hx hb hown h_c239 dX9_digest_1 ?_
  refine va_put (D := (dC, dI)) (ci := 7) (v := .long 1613) (ty := .long) (C := RX9) (T := TX9) (N := 30) hx hb hts h_in9 tyX9 tyX9_ok nmX9 hown hK hP hD hS 0 rfl rfl 29 (by decide) h_f231 (fun _ h9 => h9) rfl (by decide +kernel) rfl rfl (Nat.le_of_ble_eq_true rfl) dX9_digest_4 (fun H locs hP hD hS => ?_)
  obtain ⟨hh1, ehh1⟩ : ∃ y : Int64, y = 1613 := ⟨_, rfl⟩
  have hw := hw hh1 ehh1
  have hP : va_P (dC, dI) vwCl (tm_wModel cI cZ a s0 hh1) H := by rw [ehh1]; exact hP
  have hD : va_D A (tm_wModel cI cZ a s0 hh1) := by rw [ehh1]; exact hD
  refine lv_aload_n hx hb dX9_digest_7 rfl (lv_at hl 0 rfl) ?_
  refine lv_iconst (v := 0) hx hb dX9_digest_8 (by decide) ?_
  have hPc := hP
  have hDc := hD
  have hFc := va_free (wc := (tm_wModel cI cZ a s0 hh1)) hD hS hA [0, 1, 2, 3, 4, 5, 6, 7, 8, 9, 10, 11, 12, 13, 14, 15, 16, 17] rfl
  refine va_callv (va_runV (As := [.int 0]) (rest := []) ⟨hx, hb, hml, hown, hts⟩ (kk_X9_mixEnd l dC dI cI cZ a s0 hh1 H.size 0 _ hw) (cwV 1 hts gX9_digest_X9_mixEnd rfl rfl rfl (by decide +kernel) ⟨Nat.le_of_ble_eq_true rfl, Nat.le_of_ble_eq_true rfl⟩) ⟨tm_blind, va_recv hK hPc (ci := 7) (q0 := 0) rfl rfl, fun U hU hW => ⟨rfl, by rw [hU], by rw [hU]; exact hPc, va_K.moved hW.alike hK, hDc.weaken (fun _ _ _ _ => trivial)⟩⟩ rfl rfl hl.1 rfl (lv_room (Nat.le_of_ble_eq_true rfl)) dX9_digest_9 ⟨Nat.zero_le _, Nat.zero_le _⟩) hS (fun q _ h => hFc q h) hFc (fun u t H1 locs ht hvm hw hB hz1 hk1 hS => ?_)
  obtain ⟨hP1, hK1, hD1⟩ := hB
  rw [ht] at hP1
  obtain ⟨s2, hh3⟩ := u
  obtain ⟨hP, hD⟩ := va_join (wr := []) (w1 := (tm_wModel cI cZ a s2 hh3)) hP hD [0, 1, 2, 3, 4, 5, 6, 7, 8, 9, 10, 11, 12, 13, 14, 15, 16, 17] [] rfl rfl (by decide) (by decide) hk1 hFc hP1 hD1
  generalize H1 = H at hP hS ⊢
  have hP : va_P (dC, dI) vwCl (tm_wModel cI cZ a s2 hh3) H := hP
  have hD : va_D A (tm_wModel cI cZ a s2 hh3) := hD
  refine lv_aload_n hx hb dX9_digest_12 rfl (lv_at hl 0 rfl) ?_
  refine lv_iconst (v := 1) hx hb dX9_digest_13 (by decide) ?_
  have hPc := hP
  have hDc := hD
  have hFc := va_free (wc := (tm_wModel cI cZ a s2 hh3)) hD hS hA [0, 1, 2, 3, 4, 5, 6, 7, 8, 9, 10, 11, 12, 13, 14, 15, 16, 17] rfl
  refine va_callv (va_runV (As := [.int 1]) (rest := []) ⟨hx, hb, hml, hown, hts⟩ (kk_X9_mixEnd l dC dI cI cZ a s2 hh3 H.size 1 _ hw) (cwV 1 hts gX9_digest_X9_mixEnd rfl rfl rfl (by decide +kernel) ⟨Nat.le_of_ble_eq_true rfl, Nat.le_of_ble_eq_true rfl⟩) ⟨tm_blind, va_recv hK hPc (ci := 7) (q0 := 0) rfl rfl, fun U hU hW => ⟨rfl, by rw [hU], by rw [hU]; exact hPc, va_K.moved hW.alike hK, hDc.weaken (fun _ _ _ _ => trivial)⟩⟩ rfl rfl hl.1 rfl (lv_room (Nat.le_of_ble_eq_true rfl)) dX9_digest_14 ⟨Nat.zero_le _, Nat.zero_le _⟩) hS (fun q _ h => hFc q h) hFc (fun u t H1 locs ht hvm hw hB hz1 hk1 hS => ?_)
  obtain ⟨hP1, hK1, hD1⟩ := hB
  rw [ht] at hP1
  obtain ⟨s4, hh5⟩ := u
  obtain ⟨hP, hD⟩ := va_join (wr := []) (w1 := (tm_wModel cI cZ a s4 hh5)) hP hD [0, 1, 2, 3, 4, 5, 6, 7, 8, 9, 10, 11, 12, 13, 14, 15, 16, 17] [] rfl rfl (by decide) (by decide) hk1 hFc hP1 hD1
  generalize H1 = H at hP hS ⊢
  have hP : va_P (dC, dI) vwCl (tm_wModel cI cZ a s4 hh5) H := hP
  have hD : va_D A (tm_wModel cI cZ a s4 hh5) := hD
  refine lv_iconst (v := 0) hx hb dX9_digest_17 (by decide) ?_
  refine lv_istore_n (lv' := [(1, .int 0), (0, .ref (a 0))]) hx hb dX9_digest_18 rfl hl (by decide) rfl (fun ls hl => ?_)
  obtain ⟨nf, hw⟩ := hw
  exact b19 nf 0 s4 hh5 _ _ _ hw hP hD hS (lv_sub hl [1, 0] rfl)
