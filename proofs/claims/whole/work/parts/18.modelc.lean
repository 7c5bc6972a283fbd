def wp_X9_lesser (p0 : Int32) (p1 : Int32) (K : Int32 → Prop) : Prop := ((p1 ≤ p0 → K p1) ∧ (¬ p1 ≤ p0 → K p0))
set_option maxRecDepth 100000 in
set_option maxHeartbeats 4000000 in
theorem kk_X9_lesser (l : Launch) (dC : Nat → ClassId) (dI : Nat → Nat → Nat) (cI cZ : ClassId) (sz : Nat) (p0 : Int32) (p1 : Int32) (K : Int32 → Prop) (hw : wp_X9_lesser p0 p1 K) : Met l yX9_lesser wsX9_lesser ({ frames := 0, cells := 0, slots := 0, locals := 0 }) (va_Pc [.int p0, .int p1] (tm_Pre dC dI cI cZ ([] : va_W) sz)) (va_Qi (fun (r : Int32) (_ : Unit) => K r) (fun (_ : Unit) t => tm_At dC dI cI cZ (va_A ([] : va_W) sz) ([] : va_W) t) (va_A ([] : va_W) sz)) 0 0 (va_A ([] : va_W) sz) := by
  refine Met.ofW (cc := cX9_lesser) (maxL := 2) (ret := (some .int)) (by decide +kernel) rfl ?_
  intro p e z m args below meth c z₁ B hml hv
  obtain ⟨rfl, hsz, hP, hK, hD0⟩ := hv
  have hx := B.exec
  have hb := B.bytes
  have hr := B.returns
  have hts := atoms_spec (ws := wsX9_lesser) B.pre
  have hown : z.vm.findClass RX9 = some m.cls := findClass_of_methodNamed B.named
  have hlocks := B.notSynchronized
  subst hsz
  have hD := hD0.self (sz := z.heap.size)
  generalize hAe : va_A ([] : va_W) z.heap.size = A at hD ⊢
  have hA : ∀ q : Nat, z.heap.size ≤ q → A q := fun q h => by rw [← hAe]; exact Or.inr h
  have hS : va_S A z.heap z.heap [] := va_S.rf
  have hl := lv_entry ([.int p0, .int p1]) (n := 2) (Nat.le_of_ble_eq_true rfl)
  rw [lg_entry_eq]
  generalize (lg_sl ([.int p0, .int p1]) ++ List.replicate (2 - (lg_sl ([.int p0, .int p1])).length) Slot.unset).toArray = ls at hl ⊢
  have hl : lv_has ls 2 [(0, .int p0), (1, .int p1)] := hl
  unfold wp_X9_lesser at hw
  refine lv_iload_n hx hb dX9_lesser_0 rfl (lv_at hl 0 rfl) ?_
  refine lv_iload_n hx hb dX9_lesser_1 rfl (lv_at hl 1 rfl) ?_
  refine lv_icmp_ge (tgt := 9) hx hb dX9_lesser_2 (by decide) (fun c1 => ?_) (fun c1 => ?_)
  · have hw := hw.1 c1
    refine lv_iload_n hx hb dX9_lesser_9 rfl (lv_at hl 1 rfl) ?_
    exact W.iret (v := p1) hx hb hr (fun t ht hW => ⟨⟨p1, (), rfl, hw, by rw [ht]; exact hP, va_K.moved hW.alike hK, hD⟩, hS.F ht⟩) hS.2.2 dX9_lesser_10
  · have hw := hw.2 c1
    refine lv_iload_n hx hb dX9_lesser_5 rfl (lv_at hl 0 rfl) ?_
    refine lv_goto (tgt := 10) hx hb dX9_lesser_6 (by decide) ?_
    exact W.iret (v := p0) hx hb hr (fun t ht hW => ⟨⟨p0, (), rfl, hw, by rw [ht]; exact hP, va_K.moved hW.alike hK, hD⟩, hS.F ht⟩) hS.2.2 dX9_lesser_10
def wp_X9_sendsFrame_94 (K : tm_St → Prop) : Nat → Int32 → Int32 → Int32 → Int32 → tm_St → Prop
  | 0, _, _, _, _, _ => False
  | n + 1, v1, v2, v3, v4, s => ((v3 ≤ v4 → (wp_X9_add v1 5 ((-8) * v3) s (fun s26 => (wp_X9_put v1 7 (v2 + v3) s26 (fun s27 => (wp_X9_of v1 17 s27 (fun r28 s29 => (((v2 + v3) ≤ r28 → (wp_X9_of v1 17 s29 (fun r31 s32 => (wp_X9_put v1 17 r31 s32 (fun s33 => K s33))))) ∧ (¬ (v2 + v3) ≤ r28 → (wp_X9_put v1 17 (v2 + v3) s29 (fun s34 => K s34))))))))))) ∧ (¬ v3 ≤ v4 → (vp_in (((200 * v1) + v2) + v4) 400 ∧ (vp_in (((s 0 28) + 5) + v4) 256 ∧ (∀ s37 : tm_St, s37 = tm_s s 10 (upd (s 10) ((((s 0 28) + 5) + v4) : Int32).toNatClampNeg (s 5 ((((200 * v1) + v2) + v4) : Int32).toNatClampNeg)) → (wp_X9_of v1 17 s37 (fun r38 s39 => ((r38 ≤ (v2 + v4) → (∀ s41 : tm_St, s41 = tm_s s39 0 (tm_u (s39 0) 17 ((s37 0 17) + 0)) → (∀ x42 : Int32, x42 = v4 + 1 → wp_X9_sendsFrame_94 K n v1 v2 v3 x42 s41))) ∧ (¬ r38 ≤ (v2 + v4) → (∀ s43 : tm_St, s43 = tm_s s39 0 (tm_u (s39 0) 17 ((s37 0 17) + 1)) → (∀ x44 : Int32, x44 = v4 + 1 → wp_X9_sendsFrame_94 K n v1 v2 v3 x44 s43)))))))))))
def wp_X9_sendsFrame (p0 : Int32) (s0 : tm_St) (K : tm_St → Prop) : Prop := (wp_X9_of p0 5 s0 (fun r1 s2 => (wp_X9_of p0 4 s2 (fun r3 s4 => (wp_X9_lesser 24 (r1 + r3) (fun r5 => (wp_X9_put p0 5 r5 s4 (fun s7 => (wp_X9_of p0 7 s7 (fun r8 s9 => (wp_X9_of p0 5 s9 (fun r10 s11 => (wp_X9_of p0 6 s11 (fun r12 s13 => (wp_X9_of p0 8 s13 (fun r14 s15 => (wp_X9_lesser (r12 - r8) ((r14 + 64) - r8) (fun r16 => (wp_X9_lesser (r10 / 8) r16 (fun r18 => (wp_X9_of p0 2 s15 (fun r20 s21 => (wp_X9_of p0 9 s21 (fun r22 s23 => (wp_X9_send p0 7 r20 r8 r18 r22 s23 (fun s24 => ∃ nf : Nat, wp_X9_sendsFrame_94 K nf p0 r8 r18 0 s24))))))))))))))))))))))))))
set_option maxRecDepth 100000 in
set_option maxHeartbeats 4000000 in
theorem kk_X9_sendsFrame (l : Launch) (dC : Nat → ClassId) (dI : Nat → Nat → Nat) (cI cZ : ClassId) (a : Nat → Nat) (s0 : tm_St) (hh : Int64) (sz : Nat) (p0 : Int32) (K : tm_St → Prop) (hw : wp_X9_sendsFrame p0 s0 K) : Met l yX9_sendsFrame wsX9_sendsFrame ({ frames := 2, cells := 0, slots := 0, locals := 48 }) (va_Pc [.ref (a 0), .int p0] (tm_Pre dC dI cI cZ (tm_wModel cI cZ a s0 hh) sz)) (va_Qv (fun (u : tm_St) => K u) (fun (u : tm_St) t => tm_At dC dI cI cZ (va_A (tm_wModel cI cZ a s0 hh) sz) (tm_wModel cI cZ a u hh) t) (va_A (tm_wModel cI cZ a s0 hh) sz)) 0 0 (va_A (tm_wModel cI cZ a s0 hh) sz) := by
  refine Met.ofW (cc := cX9_sendsFrame) (maxL := 5) (ret := none) (by decide +kernel) rfl ?_
  intro p e z m args below meth c z₁ B hml hv
  obtain ⟨rfl, hsz, hP, hK, hD0⟩ := hv
  have hx := B.exec
  have hb := B.bytes
  have hr := B.returns
  have hts := atoms_spec (ws := wsX9_sendsFrame) B.pre
  have hown : z.vm.findClass RX9 = some m.cls := findClass_of_methodNamed B.named
  have hlocks := B.notSynchronized
  subst hsz
  have hD := hD0.self (sz := z.heap.size)
  generalize hAe : va_A (tm_wModel cI cZ a s0 hh) z.heap.size = A at hD ⊢
  have hA : ∀ q : Nat, z.heap.size ≤ q → A q := fun q h => by rw [← hAe]; exact Or.inr h
  have hS : va_S A z.heap z.heap [] := va_S.rf
  have h_f41 := hts (.fieldLink RX9 41 "TwoModemsModel" "comes" "[I") (by decide +kernel)
  have h_in9 : ∀ w ∈ u_ws RX9 TX9 30, w ∈ wsX9_sendsFrame := by decide +kernel
  have h_f180 := hts (.fieldLink RX9 180 "TwoModemsModel" "sends" "I") (by decide +kernel)
  have h_f22 := hts (.fieldLink RX9 22 "TwoModemsModel" "said" "[I") (by decide +kernel)
  have h_f193 := hts (.fieldLink RX9 193 "TwoModemsModel" "sentAgain" "I") (by decide +kernel)
  have b94 : ∀ (n : Nat) (v1 : Int32) (v2 : Int32) (v3 : Int32) (v4 : Int32) (s : tm_St) (H : Heap) (locs : List Loc) (ls : Array Slot), wp_X9_sendsFrame_94 K n v1 v2 v3 v4 s → va_P (dC, dI) vwCl (tm_wModel cI cZ a s hh) H → va_D A (tm_wModel cI cZ a s hh) → va_S A z.heap H locs → lv_has ls 5 [(0, .ref (a 0)), (1, .int v1), (2, .int v2), (3, .int v3), (4, .int v4)] → W p l e (headSpec wsX9_sendsFrame ({ frames := 2, cells := 0, slots := 0, locals := 48 })).room z m (([.ref (a 0), .int p0] : List Value).toArray) below meth c H locs 0 0 (MQ below (va_Qv (fun (u : tm_St) => K u) (fun (u : tm_St) t => tm_At dC dI cI cZ A (tm_wModel cI cZ a u hh) t) A) (([.ref (a 0), .int p0] : List Value).toArray) z 0 0 A) (F0 m 94 ls []) := by
    intro n
    induction n with
    | zero => intro v1 v2 v3 v4 s H locs ls hw hP hD hS hl; unfold wp_X9_sendsFrame_94 at hw; exact hw.elim
    | succ n ih =>
      intro v1 v2 v3 v4 s H locs ls hw hP hD hS hl
      unfold wp_X9_sendsFrame_94 at hw
      refine lv_iload hx hb dX9_sendsFrame_94 (lv_at hl 4 rfl) ?_
      refine lv_iload_n hx hb dX9_sendsFrame_96 rfl (lv_at hl 3 rfl) ?_
      refine lv_icmp_ge (tgt := 163) hx hb dX9_sendsFrame_97 (by decide) (fun c25 => ?_) (fun c25 => ?_)
      · have hw := hw.1 c25
        refine lv_aload_n hx hb dX9_sendsFrame_163 rfl (lv_at hl 0 rfl) ?_
        refine lv_iload_n hx hb dX9_sendsFrame_164 rfl (lv_at hl 1 rfl) ?_
        refine lv_iconst (v := 5) hx hb dX9_sendsFrame_165 (by decide) ?_
        refine lv_bipush (v := (-8)) hx hb dX9_sendsFrame_166 (by decide) ?_
        refine lv_iload_n hx hb dX9_sendsFrame_168 rfl (lv_at hl 3 rfl) ?_
        refine lv_imul hx hb dX9_sendsFrame_169 ?_
        have hPc := hP
        have hDc := hD
        have hFc := va_free (wc := (tm_wModel cI cZ a s hh)) hD hS hA [0, 1, 2, 3, 4, 5, 6, 7, 8, 9, 10, 11, 12, 13, 14, 15, 16, 17] rfl
        refine va_callv (va_runV (As := [.int v1, .int 5, .int ((-8) * v3)]) (rest := []) ⟨hx, hb, hml, hown, hts⟩ (kk_X9_add l dC dI cI cZ a s hh H.size v1 5 ((-8) * v3) _ hw) (cwV 3 hts gX9_sendsFrame_X9_add rfl rfl rfl (by decide +kernel) ⟨Nat.le_of_ble_eq_true rfl, Nat.le_of_ble_eq_true rfl⟩) ⟨tm_blind, va_recv hK hPc (ci := 7) (q0 := 0) rfl rfl, fun U hU hW => ⟨rfl, by rw [hU], by rw [hU]; exact hPc, va_K.moved hW.alike hK, hDc.weaken (fun _ _ _ _ => trivial)⟩⟩ rfl rfl hl.1 rfl (lv_room (Nat.le_of_ble_eq_true rfl)) dX9_sendsFrame_170 ⟨Nat.zero_le _, Nat.zero_le _⟩) hS (fun q _ h => hFc q h) hFc (fun s26 t H1 locs ht hvm hw hB hz1 hk1 hS => ?_)
        obtain ⟨hP1, hK1, hD1⟩ := hB
        rw [ht] at hP1
        obtain ⟨hP, hD⟩ := va_join (wr := []) (w1 := (tm_wModel cI cZ a s26 hh)) hP hD [0, 1, 2, 3, 4, 5, 6, 7, 8, 9, 10, 11, 12, 13, 14, 15, 16, 17] [] rfl rfl (by decide) (by decide) hk1 hFc hP1 hD1
        generalize H1 = H at hP hS ⊢
        have hP : va_P (dC, dI) vwCl (tm_wModel cI cZ a s26 hh) H := hP
        have hD : va_D A (tm_wModel cI cZ a s26 hh) := hD
        refine lv_aload_n hx hb dX9_sendsFrame_173 rfl (lv_at hl 0 rfl) ?_
        refine lv_iload_n hx hb dX9_sendsFrame_174 rfl (lv_at hl 1 rfl) ?_
        refine lv_bipush (v := 7) hx hb dX9_sendsFrame_175 (by decide) ?_
        refine lv_iload_n hx hb dX9_sendsFrame_177 rfl (lv_at hl 2 rfl) ?_
        refine lv_iload_n hx hb dX9_sendsFrame_178 rfl (lv_at hl 3 rfl) ?_
        refine lv_iadd hx hb dX9_sendsFrame_179 ?_
        have hPc := hP
        have hDc := hD
        have hFc := va_free (wc := (tm_wModel cI cZ a s26 hh)) hD hS hA [0, 1, 2, 3, 4, 5, 6, 7, 8, 9, 10, 11, 12, 13, 14, 15, 16, 17] rfl
        refine va_callv (va_runV (As := [.int v1, .int 7, .int (v2 + v3)]) (rest := []) ⟨hx, hb, hml, hown, hts⟩ (kk_X9_put l dC dI cI cZ a s26 hh H.size v1 7 (v2 + v3) _ hw) (cwV 3 hts gX9_sendsFrame_X9_put rfl rfl rfl (by decide +kernel) ⟨Nat.le_of_ble_eq_true rfl, Nat.le_of_ble_eq_true rfl⟩) ⟨tm_blind, va_recv hK hPc (ci := 7) (q0 := 0) rfl rfl, fun U hU hW => ⟨rfl, by rw [hU], by rw [hU]; exact hPc, va_K.moved hW.alike hK, hDc.weaken (fun _ _ _ _ => trivial)⟩⟩ rfl rfl hl.1 rfl (lv_room (Nat.le_of_ble_eq_true rfl)) dX9_sendsFrame_180 ⟨Nat.zero_le _, Nat.zero_le _⟩) hS (fun q _ h => hFc q h) hFc (fun s27 t H1 locs ht hvm hw hB hz1 hk1 hS => ?_)
        obtain ⟨hP1, hK1, hD1⟩ := hB
        rw [ht] at hP1
        obtain ⟨hP, hD⟩ := va_join (wr := []) (w1 := (tm_wModel cI cZ a s27 hh)) hP hD [0, 1, 2, 3, 4, 5, 6, 7, 8, 9, 10, 11, 12, 13, 14, 15, 16, 17] [] rfl rfl (by decide) (by decide) hk1 hFc hP1 hD1
        generalize H1 = H at hP hS ⊢
        have hP : va_P (dC, dI) vwCl (tm_wModel cI cZ a s27 hh) H := hP
        have hD : va_D A (tm_wModel cI cZ a s27 hh) := hD
        refine lv_aload_n hx hb dX9_sendsFrame_183 rfl (lv_at hl 0 rfl) ?_
        refine lv_iload_n hx hb dX9_sendsFrame_184 rfl (lv_at hl 1 rfl) ?_
        refine lv_bipush (v := 17) hx hb dX9_sendsFrame_185 (by decide) ?_
        refine lv_iload_n hx hb dX9_sendsFrame_187 rfl (lv_at hl 2 rfl) ?_
        refine lv_iload_n hx hb dX9_sendsFrame_188 rfl (lv_at hl 3 rfl) ?_
        refine lv_iadd hx hb dX9_sendsFrame_189 ?_
        refine lv_aload_n hx hb dX9_sendsFrame_190 rfl (lv_at hl 0 rfl) ?_
        refine lv_iload_n hx hb dX9_sendsFrame_191 rfl (lv_at hl 1 rfl) ?_
        refine lv_bipush (v := 17) hx hb dX9_sendsFrame_192 (by decide) ?_
        have hPc := hP
        have hDc := hD
        have hFc := va_free (wc := (tm_wModel cI cZ a s27 hh)) hD hS hA [0, 1, 2, 3, 4, 5, 6, 7, 8, 9, 10, 11, 12, 13, 14, 15, 16, 17] rfl
        refine va_calli (va_runV (As := [.int v1, .int 17]) (rest := [.int (v2 + v3), .int 17, .int v1, .ref (a 0)]) ⟨hx, hb, hml, hown, hts⟩ (kk_X9_of l dC dI cI cZ a s27 hh H.size v1 17 _ hw) (cwV 2 hts gX9_sendsFrame_X9_of rfl rfl rfl (by decide +kernel) ⟨Nat.le_of_ble_eq_true rfl, Nat.le_of_ble_eq_true rfl⟩) ⟨tm_blind, va_recv hK hPc (ci := 7) (q0 := 0) rfl rfl, fun U hU hW => ⟨rfl, by rw [hU], by rw [hU]; exact hPc, va_K.moved hW.alike hK, hDc.weaken (fun _ _ _ _ => trivial)⟩⟩ rfl rfl hl.1 rfl (lv_room (Nat.le_of_ble_eq_true rfl)) dX9_sendsFrame_194 ⟨Nat.zero_le _, Nat.zero_le _⟩) hS (fun q _ h => hFc q h) hFc (fun r28 s29 t H1 locs ht hvm hw hB hz1 hk1 hS => ?_)
        obtain ⟨hP1, hK1, hD1⟩ := hB
        rw [ht] at hP1
        obtain ⟨hP, hD⟩ := va_join (wr := []) (w1 := (tm_wModel cI cZ a s29 hh)) hP hD [0, 1, 2, 3, 4, 5, 6, 7, 8, 9, 10, 11, 12, 13, 14, 15, 16, 17] [] rfl rfl (by decide) (by decide) hk1 hFc hP1 hD1
        generalize H1 = H at hP hS ⊢
        have hP : va_P (dC, dI) vwCl (tm_wModel cI cZ a s29 hh) H := hP
        have hD : va_D A (tm_wModel cI cZ a s29 hh) := hD
        refine lv_icmp_le (tgt := 206) hx hb dX9_sendsFrame_197 (by decide) (fun c30 => ?_) (fun c30 => ?_)
        · have hw := hw.1 c30
          refine lv_aload_n hx hb dX9_sendsFrame_206 rfl (lv_at hl 0 rfl) ?_
          refine lv_iload_n hx hb dX9_sendsFrame_207 rfl (lv_at hl 1 rfl) ?_
          refine lv_bipush (v := 17) hx hb dX9_sendsFrame_208 (by decide) ?_
          have hPc := hP
          have hDc := hD
          have hFc := va_free (wc := (tm_wModel cI cZ a s29 hh)) hD hS hA [0, 1, 2, 3, 4, 5, 6, 7, 8, 9, 10, 11, 12, 13, 14, 15, 16, 17] rfl
          refine va_calli (va_runV (As := [.int v1, .int 17]) (rest := [.int 17, .int v1, .ref (a 0)]) ⟨hx, hb, hml, hown, hts⟩ (kk_X9_of l dC dI cI cZ a s29 hh H.size v1 17 _ hw) (cwV 2 hts gX9_sendsFrame_X9_of rfl rfl rfl (by decide +kernel) ⟨Nat.le_of_ble_eq_true rfl, Nat.le_of_ble_eq_true rfl⟩) ⟨tm_blind, va_recv hK hPc (ci := 7) (q0 := 0) rfl rfl, fun U hU hW => ⟨rfl, by rw [hU], by rw [hU]; exact hPc, va_K.moved hW.alike hK, hDc.weaken (fun _ _ _ _ => trivial)⟩⟩ rfl rfl hl.1 rfl (lv_room (Nat.le_of_ble_eq_true rfl)) dX9_sendsFrame_210 ⟨Nat.zero_le _, Nat.zero_le _⟩) hS (fun q _ h => hFc q h) hFc (fun r31 s32 t H1 locs ht hvm hw hB hz1 hk1 hS => ?_)
          obtain ⟨hP1, hK1, hD1⟩ := hB
          rw [ht] at hP1
          obtain ⟨hP, hD⟩ := va_join (wr := []) (w1 := (tm_wModel cI cZ a s32 hh)) hP hD [0, 1, 2, 3, 4, 5, 6, 7, 8, 9, 10, 11, 12, 13, 14, 15, 16, 17] [] rfl rfl (by decide) (by decide) hk1 hFc hP1 hD1
          generalize H1 = H at hP hS ⊢
          have hP : va_P (dC, dI) vwCl (tm_wModel cI cZ a s32 hh) H := hP
          have hD : va_D A (tm_wModel cI cZ a s32 hh) := hD
          have hPc := hP
          have hDc := hD
          have hFc := va_free (wc := (tm_wModel cI cZ a s32 hh)) hD hS hA [0, 1, 2, 3, 4, 5, 6, 7, 8, 9, 10, 11, 12, 13, 14, 15, 16, 17] rfl
          refine va_callv (va_runV (As := [.int v1, .int 17, .int r31]) (rest := []) ⟨hx, hb, hml, hown, hts⟩ (kk_X9_put l dC dI cI cZ a s32 hh H.size v1 17 r31 _ hw) (cwV 3 hts gX9_sendsFrame_X9_put rfl rfl rfl (by decide +kernel) ⟨Nat.le_of_ble_eq_true rfl, Nat.le_of_ble_eq_true rfl⟩) ⟨tm_blind, va_recv hK hPc (ci := 7) (q0 := 0) rfl rfl, fun U hU hW => ⟨rfl, by rw [hU], by rw [hU]; exact hPc, va_K.moved hW.alike hK, hDc.weaken (fun _ _ _ _ => trivial)⟩⟩ rfl rfl hl.1 rfl (lv_room (Nat.le_of_ble_eq_true rfl)) dX9_sendsFrame_213 ⟨Nat.zero_le _, Nat.zero_le _⟩) hS (fun q _ h => hFc q h) hFc (fun s33 t H1 locs ht hvm hw hB hz1 hk1 hS => ?_)
          obtain ⟨hP1, hK1, hD1⟩ := hB
          rw [ht] at hP1
          obtain ⟨hP, hD⟩ := va_join (wr := []) (w1 := (tm_wModel cI cZ a s33 hh)) hP hD [0, 1, 2, 3, 4, 5, 6, 7, 8, 9, 10, 11, 12, 13, 14, 15, 16, 17] [] rfl rfl (by decide) (by decide) hk1 hFc hP1 hD1
          generalize H1 = H at hP hS ⊢
          have hP : va_P (dC, dI) vwCl (tm_wModel cI cZ a s33 hh) H := hP
          have hD : va_D A (tm_wModel cI cZ a s33 hh) := hD
          exact W.vret hx hb hr (fun t ht hW => ⟨⟨s33, rfl, hw, by rw [ht]; exact hP, va_K.moved hW.alike hK, hD⟩, hS.F ht⟩) hS.2.2 dX9_sendsFrame_216
        · have hw := hw.2 c30
          refine lv_iload_n hx hb dX9_sendsFrame_200 rfl (lv_at hl 2 rfl) ?_
          refine lv_iload_n hx hb dX9_sendsFrame_201 rfl (lv_at hl 3 rfl) ?_
          refine lv_iadd hx hb dX9_sendsFrame_202 ?_
          refine lv_goto (tgt := 213) hx hb dX9_sendsFrame_203 (by decide) ?_
          have hPc := hP
          have hDc := hD
          have hFc := va_free (wc := (tm_wModel cI cZ a s29 hh)) hD hS hA [0, 1, 2, 3, 4, 5, 6, 7, 8, 9, 10, 11, 12, 13, 14, 15, 16, 17] rfl
          refine va_callv (va_runV (As := [.int v1, .int 17, .int (v2 + v3)]) (rest := []) ⟨hx, hb, hml, hown, hts⟩ (kk_X9_put l dC dI cI cZ a s29 hh H.size v1 17 (v2 + v3) _ hw) (cwV 3 hts gX9_sendsFrame_X9_put rfl rfl rfl (by decide +kernel) ⟨Nat.le_of_ble_eq_true rfl, Nat.le_of_ble_eq_true rfl⟩) ⟨tm_blind, va_recv hK hPc (ci := 7) (q0 := 0) rfl rfl, fun U hU hW => ⟨rfl, by rw [hU], by rw [hU]; exact hPc, va_K.moved hW.alike hK, hDc.weaken (fun _ _ _ _ => trivial)⟩⟩ rfl rfl hl.1 rfl (lv_room (Nat.le_of_ble_eq_true rfl)) dX9_sendsFrame_213 ⟨Nat.zero_le _, Nat.zero_le _⟩) hS (fun q _ h => hFc q h) hFc (fun s34 t H1 locs ht hvm hw hB hz1 hk1 hS => ?_)
          obtain ⟨hP1, hK1, hD1⟩ := hB
          rw [ht] at hP1
          obtain ⟨hP, hD⟩ := va_join (wr := []) (w1 := (tm_wModel cI cZ a s34 hh)) hP hD [0, 1, 2, 3, 4, 5, 6, 7, 8, 9, 10, 11, 12, 13, 14, 15, 16, 17] [] rfl rfl (by decide) (by decide) hk1 hFc hP1 hD1
          generalize H1 = H at hP hS ⊢
          have hP : va_P (dC, dI) vwCl (tm_wModel cI cZ a s34 hh) H := hP
          have hD : va_D A (tm_wModel cI cZ a s34 hh) := hD
          exact W.vret hx hb hr (fun t ht hW => ⟨⟨s34, rfl, hw, by rw [ht]; exact hP, va_K.moved hW.alike hK, hD⟩, hS.F ht⟩) hS.2.2 dX9_sendsFrame_216
      · have hw := hw.2 c25
        refine lv_aload_n hx hb dX9_sendsFrame_100 rfl (lv_at hl 0 rfl) ?_
        refine va_get (D := (dC, dI)) (ci := 7) (v := .ref (a 10)) (C := RX9) (T := TX9) (N := 30) hx hb hts h_in9 hown hK hP 0 rfl rfl 10 (by decide) h_f41 (fun _ h9 => h9) rfl dX9_sendsFrame_101 ?_
        refine lv_aload_n hx hb dX9_sendsFrame_104 rfl (lv_at hl 0 rfl) ?_
        refine va_get (D := (dC, dI)) (ci := 7) (v := .int (s 0 28)) (C := RX9) (T := TX9) (N := 30) hx hb hts h_in9 hown hK hP 0 rfl rfl 28 (by decide) h_f180 (fun _ h9 => h9) rfl dX9_sendsFrame_105 ?_
        refine lv_iconst (v := 5) hx hb dX9_sendsFrame_108 (by decide) ?_
        refine lv_iadd hx hb dX9_sendsFrame_109 ?_
        refine lv_iload hx hb dX9_sendsFrame_110 (lv_at hl 4 rfl) ?_
        refine lv_iadd hx hb dX9_sendsFrame_112 ?_
        refine lv_aload_n hx hb dX9_sendsFrame_113 rfl (lv_at hl 0 rfl) ?_
        refine va_get (D := (dC, dI)) (ci := 7) (v := .ref (a 5)) (C := RX9) (T := TX9) (N := 30) hx hb hts h_in9 hown hK hP 0 rfl rfl 4 (by decide) h_f22 (fun _ h9 => h9) rfl dX9_sendsFrame_114 ?_
        refine lv_sipush (v := 200) hx hb dX9_sendsFrame_117 (by decide) ?_
        refine lv_iload_n hx hb dX9_sendsFrame_120 rfl (lv_at hl 1 rfl) ?_
        refine lv_imul hx hb dX9_sendsFrame_121 ?_
        refine lv_iload_n hx hb dX9_sendsFrame_122 rfl (lv_at hl 2 rfl) ?_
        refine lv_iadd hx hb dX9_sendsFrame_123 ?_
        refine lv_iload hx hb dX9_sendsFrame_124 (lv_at hl 4 rfl) ?_
        refine lv_iadd hx hb dX9_sendsFrame_126 ?_
        have c35 := hw.1
        have hw := hw.2
        refine va_iald hx hb hK hP 5 0 rfl rfl c35 dX9_sendsFrame_127 ?_
        have c36 := hw.1
        have hw := hw.2
        refine va_iast hx hb hK hP hD hS 10 0 rfl rfl c36 dX9_sendsFrame_128 (fun H locs hP hD hS => ?_)
        obtain ⟨s37, es37⟩ : ∃ y : tm_St, y = tm_s s 10 (upd (s 10) ((((s 0 28) + 5) + v4) : Int32).toNatClampNeg (s 5 ((((200 * v1) + v2) + v4) : Int32).toNatClampNeg)) := ⟨_, rfl⟩
        have hw := hw s37 es37
        have hP : va_P (dC, dI) vwCl (tm_wModel cI cZ a s37 hh) H := by rw [es37]; exact hP
        have hD : va_D A (tm_wModel cI cZ a s37 hh) := by rw [es37]; exact hD
        refine lv_aload_n hx hb dX9_sendsFrame_129 rfl (lv_at hl 0 rfl) ?_
        refine lv_dup hx hb dX9_sendsFrame_130 rfl ?_
        refine va_get (D := (dC, dI)) (ci := 7) (v := .int (s37 0 17)) (C := RX9) (T := TX9) (N := 30) hx hb hts h_in9 hown hK hP 0 rfl rfl 17 (by decide) h_f193 (fun _ h9 => h9) rfl dX9_sendsFrame_131 ?_
        refine lv_iload_n hx hb dX9_sendsFrame_134 rfl (lv_at hl 2 rfl) ?_
        refine lv_iload hx hb dX9_sendsFrame_135 (lv_at hl 4 rfl) ?_
        refine lv_iadd hx hb dX9_sendsFrame_137 ?_
        refine lv_aload_n hx hb dX9_sendsFrame_138 rfl (lv_at hl 0 rfl) ?_
        refine lv_iload_n hx hb dX9_sendsFrame_139 rfl (lv_at hl 1 rfl) ?_
        refine lv_bipush (v := 17) hx hb dX9_sendsFrame_140 (by decide) ?_
        have hPc := hP
        have hDc := hD
        have hFc := va_free (wc := (tm_wModel cI cZ a s37 hh)) hD hS hA [0, 1, 2, 3, 4, 5, 6, 7, 8, 9, 10, 11, 12, 13, 14, 15, 16, 17] rfl
        refine va_calli (va_runV (As := [.int v1, .int 17]) (rest := [.int (v2 + v4), .int (s37 0 17), .ref (a 0)]) ⟨hx, hb, hml, hown, hts⟩ (kk_X9_of l dC dI cI cZ a s37 hh H.size v1 17 _ hw) (cwV 2 hts gX9_sendsFrame_X9_of rfl rfl rfl (by decide +kernel) ⟨Nat.le_of_ble_eq_true rfl, Nat.le_of_ble_eq_true rfl⟩) ⟨tm_blind, va_recv hK hPc (ci := 7) (q0 := 0) rfl rfl, fun U hU hW => ⟨rfl, by rw [hU], by rw [hU]; exact hPc, va_K.moved hW.alike hK, hDc.weaken (fun _ _ _ _ => trivial)⟩⟩ rfl rfl hl.1 rfl (lv_room (Nat.le_of_ble_eq_true rfl)) dX9_sendsFrame_142 ⟨Nat.zero_le _, Nat.zero_le _⟩) hS (fun q _ h => hFc q h) hFc (fun r38 s39 t H1 locs ht hvm hw hB hz1 hk1 hS => ?_)
        obtain ⟨hP1, hK1, hD1⟩ := hB
        rw [ht] at hP1
        obtain ⟨hP, hD⟩ := va_join (wr := []) (w1 := (tm_wModel cI cZ a s39 hh)) hP hD [0, 1, 2, 3, 4, 5, 6, 7, 8, 9, 10, 11, 12, 13, 14, 15, 16, 17] [] rfl rfl (by decide) (by decide) hk1 hFc hP1 hD1
        generalize H1 = H at hP hS ⊢
        have hP : va_P (dC, dI) vwCl (tm_wModel cI cZ a s39 hh) H := hP
        have hD : va_D A (tm_wModel cI cZ a s39 hh) := hD
        refine lv_icmp_ge (tgt := 152) hx hb dX9_sendsFrame_145 (by decide) (fun c40 => ?_) (fun c40 => ?_)
        · have hw := hw.1 c40
          refine lv_iconst (v := 0) hx hb dX9_sendsFrame_152 (by decide) ?_
          refine lv_iadd hx hb dX9_sendsFrame_153 ?_
          refine va_put (D := (dC, dI)) (ci := 7) (v := .int ((s37 0 17) + 0)) (ty := .int) (C := RX9) (T := TX9) (N := 30) hx hb hts h_in9 tyX9 tyX9_ok nmX9 hown hK hP hD hS 0 rfl rfl 17 (by decide) h_f193 (fun _ h9 => h9) rfl (by decide +kernel) rfl rfl (Nat.le_of_ble_eq_true rfl) dX9_sendsFrame_154 (fun H locs hP hD hS => ?_)
          obtain ⟨s41, es41⟩ : ∃ y : tm_St, y = tm_s s39 0 (tm_u (s39 0) 17 ((s37 0 17) + 0)) := ⟨_, rfl⟩
          have hw := hw s41 es41
          have hP : va_P (dC, dI) vwCl (tm_wModel cI cZ a s41 hh) H := by rw [es41]; exact hP
          have hD : va_D A (tm_wModel cI cZ a s41 hh) := by rw [es41]; exact hD
          obtain ⟨x42, ex42⟩ : ∃ y : Int32, y = v4 + 1 := ⟨_, rfl⟩
          have hw := hw x42 ex42
          refine lv_iinc (v := x42) (lv' := [(4, .int x42), (0, .ref (a 0)), (1, .int v1), (2, .int v2), (3, .int v3)]) hx hb dX9_sendsFrame_157 hl (k := 4) rfl (by rw [ex42]; rfl) (by decide) rfl (fun ls hl => ?_)
          refine lv_goto (tgt := 94) hx hb dX9_sendsFrame_160 (by decide) ?_
          exact ih v1 v2 v3 x42 s41 _ _ _ hw hP hD hS (lv_sub hl [1, 2, 3, 4, 0] rfl)
        · have hw := hw.2 c40
          refine lv_iconst (v := 1) hx hb dX9_sendsFrame_148 (by decide) ?_
          refine lv_goto (tgt := 153) hx hb dX9_sendsFrame_149 (by decide) ?_
          refine lv_iadd hx hb dX9_sendsFrame_153 ?_
          refine va_put (D := (dC, dI)) (ci := 7) (v := .int ((s37 0 17) + 1)) (ty := .int) (C := RX9) (T := TX9) (N := 30) hx hb hts h_in9 tyX9 tyX9_ok nmX9 hown hK hP hD hS 0 rfl rfl 17 (by decide) h_f193 (fun _ h9 => h9) rfl (by decide +kernel) rfl rfl (Nat.le_of_ble_eq_true rfl) dX9_sendsFrame_154 (fun H locs hP hD hS => ?_)
          obtain ⟨s43, es43⟩ : ∃ y : tm_St, y = tm_s s39 0 (tm_u (s39 0) 17 ((s37 0 17) + 1)) := ⟨_, rfl⟩
          have hw := hw s43 es43
          have hP : va_P (dC, dI) vwCl (tm_wModel cI cZ a s43 hh) H := by rw [es43]; exact hP
          have hD : va_D A (tm_wModel cI cZ a s43 hh) := by rw [es43]; exact hD
          obtain ⟨x44, ex44⟩ : ∃ y : Int32, y = v4 + 1 := ⟨_, rfl⟩
          have hw := hw x44 ex44
          refine lv_iinc (v := x44) (lv' := [(4, .int x44), (0, .ref (a 0)), (1, .int v1), (2, .int v2), (3, .int v3)]) hx hb dX9_sendsFrame_157 hl (k := 4) rfl (by rw [ex44]; rfl) (by decide) rfl (fun ls hl => ?_)
          refine lv_goto (tgt := 94) hx hb dX9_sendsFrame_160 (by decide) ?_
          exact ih v1 v2 v3 x44 s43 _ _ _ hw hP hD hS (lv_sub hl [1, 2, 3, 4, 0] rfl)
  have hl := lv_entry ([.ref (a 0), .int p0]) (n := 5) (Nat.le_of_ble_eq_true rfl)
  rw [lg_entry_eq]
  generalize (lg_sl ([.ref (a 0), .int p0]) ++ List.replicate (5 - (lg_sl ([.ref (a 0), .int p0])).length) Slot.unset).toArray = ls at hl ⊢
  have hl : lv_has ls 5 [(0, .ref (a 0)), (1, .int p0)] := hl
  unfold wp_X9_sendsFrame at hw
  refine lv_aload_n hx hb dX9_sendsFrame_0 rfl (lv_at hl 0 rfl) ?_
  refine lv_iload_n hx hb dX9_sendsFrame_1 rfl (lv_at hl 1 rfl) ?_
  refine lv_iconst (v := 5) hx hb dX9_sendsFrame_2 (by decide) ?_
  refine lv_bipush (v := 24) hx hb dX9_sendsFrame_3 (by decide) ?_
  refine lv_aload_n hx hb dX9_sendsFrame_5 rfl (lv_at hl 0 rfl) ?_
  refine lv_iload_n hx hb dX9_sendsFrame_6 rfl (lv_at hl 1 rfl) ?_
  refine lv_iconst (v := 5) hx hb dX9_sendsFrame_7 (by decide) ?_
  have hPc := hP
  have hDc := hD
  have hFc := va_free (wc := (tm_wModel cI cZ a s0 hh)) hD hS hA [0, 1, 2, 3, 4, 5, 6, 7, 8, 9, 10, 11, 12, 13, 14, 15, 16, 17] rfl
  refine va_calli (va_runV (As := [.int p0, .int 5]) (rest := [.int 24, .int 5, .int p0, .ref (a 0)]) ⟨hx, hb, hml, hown, hts⟩ (kk_X9_of l dC dI cI cZ a s0 hh z.heap.size p0 5 _ hw) (cwV 2 hts gX9_sendsFrame_X9_of rfl rfl rfl (by decide +kernel) ⟨Nat.le_of_ble_eq_true rfl, Nat.le_of_ble_eq_true rfl⟩) ⟨tm_blind, va_recv hK hPc (ci := 7) (q0 := 0) rfl rfl, fun U hU hW => ⟨rfl, by rw [hU], by rw [hU]; exact hPc, va_K.moved hW.alike hK, hDc.weaken (fun _ _ _ _ => trivial)⟩⟩ rfl rfl hl.1 rfl (lv_room (Nat.le_of_ble_eq_true rfl)) dX9_sendsFrame_8 ⟨Nat.zero_le _, Nat.zero_le _⟩) hS (fun q _ h => hFc q h) hFc (fun r1 s2 t H1 locs ht hvm hw hB hz1 hk1 hS => ?_)
  obtain ⟨hP1, hK1, hD1⟩ := hB
  rw [ht] at hP1
  obtain ⟨hP, hD⟩ := va_join (wr := []) (w1 := (tm_wModel cI cZ a s2 hh)) hP hD [0, 1, 2, 3, 4, 5, 6, 7, 8, 9, 10, 11, 12, 13, 14, 15, 16, 17] [] rfl rfl (by decide) (by decide) hk1 hFc hP1 hD1
  generalize H1 = H at hP hS ⊢
  have hP : va_P (dC, dI) vwCl (tm_wModel cI cZ a s2 hh) H := hP
  have hD : va_D A (tm_wModel cI cZ a s2 hh) := hD
  refine lv_aload_n hx hb dX9_sendsFrame_11 rfl (lv_at hl 0 rfl) ?_
  refine lv_iload_n hx hb dX9_sendsFrame_12 rfl (lv_at hl 1 rfl) ?_
  refine lv_iconst (v := 4) hx hb dX9_sendsFrame_13 (by decide) ?_
  have hPc := hP
  have hDc := hD
  have hFc := va_free (wc := (tm_wModel cI cZ a s2 hh)) hD hS hA [0, 1, 2, 3, 4, 5, 6, 7, 8, 9, 10, 11, 12, 13, 14, 15, 16, 17] rfl
  refine va_calli (va_runV (As := [.int p0, .int 4]) (rest := [.int r1, .int 24, .int 5, .int p0, .ref (a 0)]) ⟨hx, hb, hml, hown, hts⟩ (kk_X9_of l dC dI cI cZ a s2 hh H.size p0 4 _ hw) (cwV 2 hts gX9_sendsFrame_X9_of rfl rfl rfl (by decide +kernel) ⟨Nat.le_of_ble_eq_true rfl, Nat.le_of_ble_eq_true rfl⟩) ⟨tm_blind, va_recv hK hPc (ci := 7) (q0 := 0) rfl rfl, fun U hU hW => ⟨rfl, by rw [hU], by rw [hU]; exact hPc, va_K.moved hW.alike hK, hDc.weaken (fun _ _ _ _ => trivial)⟩⟩ rfl rfl hl.1 rfl (lv_room (Nat.le_of_ble_eq_true rfl)) dX9_sendsFrame_14 ⟨Nat.zero_le _, Nat.zero_le _⟩) hS (fun q _ h => hFc q h) hFc (fun r3 s4 t H1 locs ht hvm hw hB hz1 hk1 hS => ?_)
  obtain ⟨hP1, hK1, hD1⟩ := hB
  rw [ht] at hP1
  obtain ⟨hP, hD⟩ := va_join (wr := []) (w1 := (tm_wModel cI cZ a s4 hh)) hP hD [0, 1, 2, 3, 4, 5, 6, 7, 8, 9, 10, 11, 12, 13, 14, 15, 16, 17] [] rfl rfl (by decide) (by decide) hk1 hFc hP1 hD1
  generalize H1 = H at hP hS ⊢
  have hP : va_P (dC, dI) vwCl (tm_wModel cI cZ a s4 hh) H := hP
  have hD : va_D A (tm_wModel cI cZ a s4 hh) := hD
  refine lv_iadd hx hb dX9_sendsFrame_17 ?_
  have hPc := hP.sub (ws' := ([] : va_W)) [] rfl
  have hDc := hD.sub (ws' := ([] : va_W)) [] (by decide) rfl
  have hFc := va_free (wc := ([] : va_W)) hD hS hA [] rfl
  refine va_calli (va_runS (As := [.int 24, .int (r1 + r3)]) (rest := [.int 5, .int p0, .ref (a 0)]) ⟨hx, hb, hml, hown, hts⟩ (kk_X9_lesser l dC dI cI cZ H.size 24 (r1 + r3) _ hw) (va_cwS 2 hts gX9_sendsFrame_X9_lesser rfl rfl rfl (by decide +kernel) ⟨Nat.le_of_ble_eq_true rfl, Nat.le_of_ble_eq_true rfl⟩) ⟨tm_blind, fun U hU hW => ⟨rfl, by rw [hU], by rw [hU]; exact hPc, va_K.moved hW.alike hK, hDc.weaken (fun _ _ _ _ => trivial)⟩⟩ rfl rfl hl.1 rfl (lv_room (Nat.le_of_ble_eq_true rfl)) dX9_sendsFrame_18 ⟨Nat.zero_le _, Nat.zero_le _⟩) hS (fun q _ h => hFc q h) hFc (fun r5 u t H1 locs ht hvm hw hB hz1 hk1 hS => ?_)
  obtain ⟨hP1, hK1, hD1⟩ := hB
  rw [ht] at hP1
  obtain ⟨hP, hD⟩ := va_join (wr := (tm_wModel cI cZ a s4 hh)) (w1 := ([] : va_W)) hP hD [] [0, 1, 2, 3, 4, 5, 6, 7, 8, 9, 10, 11, 12, 13, 14, 15, 16, 17] rfl rfl (by decide) (by decide) hk1 hFc hP1 hD1
  rw [List.append_nil] at hP hD
  generalize H1 = H at hP hS ⊢
  have hPc := hP
  have hDc := hD
  have hFc := va_free (wc := (tm_wModel cI cZ a s4 hh)) hD hS hA [0, 1, 2, 3, 4, 5, 6, 7, 8, 9, 10, 11, 12, 13, 14, 15, 16, 17] rfl
  refine va_callv (va_runV (As := [.int p0, .int 5, .int r5]) (rest := []) ⟨hx, hb, hml, hown, hts⟩ (kk_X9_put l dC dI cI cZ a s4 hh H.size p0 5 r5 _ hw) (cwV 3 hts gX9_sendsFrame_X9_put rfl rfl rfl (by decide +kernel) ⟨Nat.le_of_ble_eq_true rfl, Nat.le_of_ble_eq_true rfl⟩) ⟨tm_blind, va_recv hK hPc (ci := 7) (q0 := 0) rfl rfl, fun U hU hW => ⟨rfl, by rw [hU], by rw [hU]; exact hPc, va_K.moved hW.alike hK, hDc.weaken (fun _ _ _ _ => trivial)⟩⟩ rfl rfl hl.1 rfl (lv_room (Nat.le_of_ble_eq_true rfl)) dX9_sendsFrame_21 ⟨Nat.zero_le _, Nat.zero_le _⟩) hS (fun q _ h => hFc q h) hFc (fun s7 t H1 locs ht hvm hw hB hz1 hk1 hS => ?_)
  obtain ⟨hP1, hK1, hD1⟩ := hB
  rw [ht] at hP1
  obtain ⟨hP, hD⟩ := va_join (wr := []) (w1 := (tm_wModel cI cZ a s7 hh)) hP hD [0, 1, 2, 3, 4, 5, 6, 7, 8, 9, 10, 11, 12, 13, 14, 15, 16, 17] [] rfl rfl (by decide) (by decide) hk1 hFc hP1 hD1
  generalize H1 = H at hP hS ⊢
  have hP : va_P (dC, dI) vwCl (tm_wModel cI cZ a s7 hh) H := hP
  have hD : va_D A (tm_wModel cI cZ a s7 hh) := hD
  refine lv_aload_n hx hb dX9_sendsFrame_24 rfl (lv_at hl 0 rfl) ?_
  refine lv_iload_n hx hb dX9_sendsFrame_25 rfl (lv_at hl 1 rfl) ?_
  refine lv_bipush (v := 7) hx hb dX9_sendsFrame_26 (by decide) ?_
  have hPc := hP
  have hDc := hD
  have hFc := va_free (wc := (tm_wModel cI cZ a s7 hh)) hD hS hA [0, 1, 2, 3, 4, 5, 6, 7, 8, 9, 10, 11, 12, 13, 14, 15, 16, 17] rfl
  refine va_calli (va_runV (As := [.int p0, .int 7]) (rest := []) ⟨hx, hb, hml, hown, hts⟩ (kk_X9_of l dC dI cI cZ a s7 hh H.size p0 7 _ hw) (cwV 2 hts gX9_sendsFrame_X9_of rfl rfl rfl (by decide +kernel) ⟨Nat.le_of_ble_eq_true rfl, Nat.le_of_ble_eq_true rfl⟩) ⟨tm_blind, va_recv hK hPc (ci := 7) (q0 := 0) rfl rfl, fun U hU hW => ⟨rfl, by rw [hU], by rw [hU]; exact hPc, va_K.moved hW.alike hK, hDc.weaken (fun _ _ _ _ => trivial)⟩⟩ rfl rfl hl.1 rfl (lv_room (Nat.le_of_ble_eq_true rfl)) dX9_sendsFrame_28 ⟨Nat.zero_le _, Nat.zero_le _⟩) hS (fun q _ h => hFc q h) hFc (fun r8 s9 t H1 locs ht hvm hw hB hz1 hk1 hS => ?_)
  obtain ⟨hP1, hK1, hD1⟩ := hB
  rw [ht] at hP1
  obtain ⟨hP, hD⟩ := va_join (wr := []) (w1 := (tm_wModel cI cZ a s9 hh)) hP hD [0, 1, 2, 3, 4, 5, 6, 7, 8, 9, 10, 11, 12, 13, 14, 15, 16, 17] [] rfl rfl (by decide) (by decide) hk1 hFc hP1 hD1
  generalize H1 = H at hP hS ⊢
  have hP : va_P (dC, dI) vwCl (tm_wModel cI cZ a s9 hh) H := hP
  have hD : va_D A (tm_wModel cI cZ a s9 hh) := hD
  refine lv_istore_n (lv' := [(2, .int r8), (0, .ref (a 0)), (1, .int p0)]) hx hb dX9_sendsFrame_31 rfl hl (by decide) rfl (fun ls hl => ?_)
  refine lv_aload_n hx hb dX9_sendsFrame_32 rfl (lv_at hl 1 rfl) ?_
  refine lv_iload_n hx hb dX9_sendsFrame_33 rfl (lv_at hl 2 rfl) ?_
  refine lv_iconst (v := 5) hx hb dX9_sendsFrame_34 (by decide) ?_
  have hPc := hP
  have hDc := hD
  have hFc := va_free (wc := (tm_wModel cI cZ a s9 hh)) hD hS hA [0, 1, 2, 3, 4, 5, 6, 7, 8, 9, 10, 11, 12, 13, 14, 15, 16, 17] rfl
  refine va_calli (va_runV (As := [.int p0, .int 5]) (rest := []) ⟨hx, hb, hml, hown, hts⟩ (kk_X9_of l dC dI cI cZ a s9 hh H.size p0 5 _ hw) (cwV 2 hts gX9_sendsFrame_X9_of rfl rfl rfl (by decide +kernel) ⟨Nat.le_of_ble_eq_true rfl, Nat.le_of_ble_eq_true rfl⟩) ⟨tm_blind, va_recv hK hPc (ci := 7) (q0 := 0) rfl rfl, fun U hU hW => ⟨rfl, by rw [hU], by rw [hU]; exact hPc, va_K.moved hW.alike hK, hDc.weaken (fun _ _ _ _ => trivial)⟩⟩ rfl rfl hl.1 rfl (lv_room (Nat.le_of_ble_eq_true rfl)) dX9_sendsFrame_35 ⟨Nat.zero_le _, Nat.zero_le _⟩) hS (fun q _ h => hFc q h) hFc (fun r10 s11 t H1 locs ht hvm hw hB hz1 hk1 hS => ?_)
  obtain ⟨hP1, hK1, hD1⟩ := hB
  rw [ht] at hP1
  obtain ⟨hP, hD⟩ := va_join (wr := []) (w1 := (tm_wModel cI cZ a s11 hh)) hP hD [0, 1, 2, 3, 4, 5, 6, 7, 8, 9, 10, 11, 12, 13, 14, 15, 16, 17] [] rfl rfl (by decide) (by decide) hk1 hFc hP1 hD1
  generalize H1 = H at hP hS ⊢
  have hP : va_P (dC, dI) vwCl (tm_wModel cI cZ a s11 hh) H := hP
  have hD : va_D A (tm_wModel cI cZ a s11 hh) := hD
  refine lv_bipush (v := 8) hx hb dX9_sendsFrame_38 (by decide) ?_
  refine lv_idiv hx hb dX9_sendsFrame_40 (by decide) ?_
  refine lv_aload_n hx hb dX9_sendsFrame_41 rfl (lv_at hl 1 rfl) ?_
  refine lv_iload_n hx hb dX9_sendsFrame_42 rfl (lv_at hl 2 rfl) ?_
  refine lv_bipush (v := 6) hx hb dX9_sendsFrame_43 (by decide) ?_
  have hPc := hP
  have hDc := hD
  have hFc := va_free (wc := (tm_wModel cI cZ a s11 hh)) hD hS hA [0, 1, 2, 3, 4, 5, 6, 7, 8, 9, 10, 11, 12, 13, 14, 15, 16, 17] rfl
  refine va_calli (va_runV (As := [.int p0, .int 6]) (rest := [.int (r10 / 8)]) ⟨hx, hb, hml, hown, hts⟩ (kk_X9_of l dC dI cI cZ a s11 hh H.size p0 6 _ hw) (cwV 2 hts gX9_sendsFrame_X9_of rfl rfl rfl (by decide +kernel) ⟨Nat.le_of_ble_eq_true rfl, Nat.le_of_ble_eq_true rfl⟩) ⟨tm_blind, va_recv hK hPc (ci := 7) (q0 := 0) rfl rfl, fun U hU hW => ⟨rfl, by rw [hU], by rw [hU]; exact hPc, va_K.moved hW.alike hK, hDc.weaken (fun _ _ _ _ => trivial)⟩⟩ rfl rfl hl.1 rfl (lv_room (Nat.le_of_ble_eq_true rfl)) dX9_sendsFrame_45 ⟨Nat.zero_le _, Nat.zero_le _⟩) hS (fun q _ h => hFc q h) hFc (fun r12 s13 t H1 locs ht hvm hw hB hz1 hk1 hS => ?_)
  obtain ⟨hP1, hK1, hD1⟩ := hB
  rw [ht] at hP1
  obtain ⟨hP, hD⟩ := va_join (wr := []) (w1 := (tm_wModel cI cZ a s13 hh)) hP hD [0, 1, 2, 3, 4, 5, 6, 7, 8, 9, 10, 11, 12, 13, 14, 15, 16, 17] [] rfl rfl (by decide) (by decide) hk1 hFc hP1 hD1
  generalize H1 = H at hP hS ⊢
  have hP : va_P (dC, dI) vwCl (tm_wModel cI cZ a s13 hh) H := hP
  have hD : va_D A (tm_wModel cI cZ a s13 hh) := hD
  refine lv_iload_n hx hb dX9_sendsFrame_48 rfl (lv_at hl 0 rfl) ?_
  refine lv_isub hx hb dX9_sendsFrame_49 ?_
  refine lv_aload_n hx hb dX9_sendsFrame_50 rfl (lv_at hl 1 rfl) ?_
  refine lv_iload_n hx hb dX9_sendsFrame_51 rfl (lv_at hl 2 rfl) ?_
  refine lv_bipush (v := 8) hx hb dX9_sendsFrame_52 (by decide) ?_
  have hPc := hP
  have hDc := hD
  have hFc := va_free (wc := (tm_wModel cI cZ a s13 hh)) hD hS hA [0, 1, 2, 3, 4, 5, 6, 7, 8, 9, 10, 11, 12, 13, 14, 15, 16, 17] rfl
  refine va_calli (va_runV (As := [.int p0, .int 8]) (rest := [.int (r12 - r8), .int (r10 / 8)]) ⟨hx, hb, hml, hown, hts⟩ (kk_X9_of l dC dI cI cZ a s13 hh H.size p0 8 _ hw) (cwV 2 hts gX9_sendsFrame_X9_of rfl rfl rfl (by decide +kernel) ⟨Nat.le_of_ble_eq_true rfl, Nat.le_of_ble_eq_true rfl⟩) ⟨tm_blind, va_recv hK hPc (ci := 7) (q0 := 0) rfl rfl, fun U hU hW => ⟨rfl, by rw [hU], by rw [hU]; exact hPc, va_K.moved hW.alike hK, hDc.weaken (fun _ _ _ _ => trivial)⟩⟩ rfl rfl hl.1 rfl (lv_room (Nat.le_of_ble_eq_true rfl)) dX9_sendsFrame_54 ⟨Nat.zero_le _, Nat.zero_le _⟩) hS (fun q _ h => hFc q h) hFc (fun r14 s15 t H1 locs ht hvm hw hB hz1 hk1 hS => ?_)
  obtain ⟨hP1, hK1, hD1⟩ := hB
  rw [ht] at hP1
  obtain ⟨hP, hD⟩ := va_join (wr := []) (w1 := (tm_wModel cI cZ a s15 hh)) hP hD [0, 1, 2, 3, 4, 5, 6, 7, 8, 9, 10, 11, 12, 13, 14, 15, 16, 17] [] rfl rfl (by decide) (by decide) hk1 hFc hP1 hD1
  generalize H1 = H at hP hS ⊢
  have hP : va_P (dC, dI) vwCl (tm_wModel cI cZ a s15 hh) H := hP
  have hD : va_D A (tm_wModel cI cZ a s15 hh) := hD
  refine lv_bipush (v := 64) hx hb dX9_sendsFrame_57 (by decide) ?_
  refine lv_iadd hx hb dX9_sendsFrame_59 ?_
  refine lv_iload_n hx hb dX9_sendsFrame_60 rfl (lv_at hl 0 rfl) ?_
  refine lv_isub hx hb dX9_sendsFrame_61 ?_
  have hPc := hP.sub (ws' := ([] : va_W)) [] rfl
  have hDc := hD.sub (ws' := ([] : va_W)) [] (by decide) rfl
  have hFc := va_free (wc := ([] : va_W)) hD hS hA [] rfl
  refine va_calli (va_runS (As := [.int (r12 - r8), .int ((r14 + 64) - r8)]) (rest := [.int (r10 / 8)]) ⟨hx, hb, hml, hown, hts⟩ (kk_X9_lesser l dC dI cI cZ H.size (r12 - r8) ((r14 + 64) - r8) _ hw) (va_cwS 2 hts gX9_sendsFrame_X9_lesser rfl rfl rfl (by decide +kernel) ⟨Nat.le_of_ble_eq_true rfl, Nat.le_of_ble_eq_true rfl⟩) ⟨tm_blind, fun U hU hW => ⟨rfl, by rw [hU], by rw [hU]; exact hPc, va_K.moved hW.alike hK, hDc.weaken (fun _ _ _ _ => trivial)⟩⟩ rfl rfl hl.1 rfl (lv_room (Nat.le_of_ble_eq_true rfl)) dX9_sendsFrame_62 ⟨Nat.zero_le _, Nat.zero_le _⟩) hS (fun q _ h => hFc q h) hFc (fun r16 u t H1 locs ht hvm hw hB hz1 hk1 hS => ?_)
  obtain ⟨hP1, hK1, hD1⟩ := hB
  rw [ht] at hP1
  obtain ⟨hP, hD⟩ := va_join (wr := (tm_wModel cI cZ a s15 hh)) (w1 := ([] : va_W)) hP hD [] [0, 1, 2, 3, 4, 5, 6, 7, 8, 9, 10, 11, 12, 13, 14, 15, 16, 17] rfl rfl (by decide) (by decide) hk1 hFc hP1 hD1
  rw [List.append_nil] at hP hD
  generalize H1 = H at hP hS ⊢
  have hPc := hP.sub (ws' := ([] : va_W)) [] rfl
  have hDc := hD.sub (ws' := ([] : va_W)) [] (by decide) rfl
  have hFc := va_free (wc := ([] : va_W)) hD hS hA [] rfl
  refine va_calli (va_runS (As := [.int (r10 / 8), .int r16]) (rest := []) ⟨hx, hb, hml, hown, hts⟩ (kk_X9_lesser l dC dI cI cZ H.size (r10 / 8) r16 _ hw) (va_cwS 2 hts gX9_sendsFrame_X9_lesser rfl rfl rfl (by decide +kernel) ⟨Nat.le_of_ble_eq_true rfl, Nat.le_of_ble_eq_true rfl⟩) ⟨tm_blind, fun U hU hW => ⟨rfl, by rw [hU], by rw [hU]; exact hPc, va_K.moved hW.alike hK, hDc.weaken (fun _ _ _ _ => trivial)⟩⟩ rfl rfl hl.1 rfl (lv_room (Nat.le_of_ble_eq_true rfl)) dX9_sendsFrame_65 ⟨Nat.zero_le _, Nat.zero_le _⟩) hS (fun q _ h => hFc q h) hFc (fun r18 u t H1 locs ht hvm hw hB hz1 hk1 hS => ?_)
  obtain ⟨hP1, hK1, hD1⟩ := hB
  rw [ht] at hP1
  obtain ⟨hP, hD⟩ := va_join (wr := (tm_wModel cI cZ a s15 hh)) (w1 := ([] : va_W)) hP hD [] [0, 1, 2, 3, 4, 5, 6, 7, 8, 9, 10, 11, 12, 13, 14, 15, 16, 17] rfl rfl (by decide) (by decide) hk1 hFc hP1 hD1
  rw [List.append_nil] at hP hD
  generalize H1 = H at hP hS ⊢
  refine lv_istore_n (lv' := [(3, .int r18), (2, .int r8), (0, .ref (a 0)), (1, .int p0)]) hx hb dX9_sendsFrame_68 rfl hl (by decide) rfl (fun ls hl => ?_)
  refine lv_aload_n hx hb dX9_sendsFrame_69 rfl (lv_at hl 2 rfl) ?_
  refine lv_iload_n hx hb dX9_sendsFrame_70 rfl (lv_at hl 3 rfl) ?_
  refine lv_bipush (v := 7) hx hb dX9_sendsFrame_71 (by decide) ?_
  refine lv_aload_n hx hb dX9_sendsFrame_73 rfl (lv_at hl 2 rfl) ?_
  refine lv_iload_n hx hb dX9_sendsFrame_74 rfl (lv_at hl 3 rfl) ?_
  refine lv_iconst (v := 2) hx hb dX9_sendsFrame_75 (by decide) ?_
  have hPc := hP
  have hDc := hD
  have hFc := va_free (wc := (tm_wModel cI cZ a s15 hh)) hD hS hA [0, 1, 2, 3, 4, 5, 6, 7, 8, 9, 10, 11, 12, 13, 14, 15, 16, 17] rfl
  refine va_calli (va_runV (As := [.int p0, .int 2]) (rest := [.int 7, .int p0, .ref (a 0)]) ⟨hx, hb, hml, hown, hts⟩ (kk_X9_of l dC dI cI cZ a s15 hh H.size p0 2 _ hw) (cwV 2 hts gX9_sendsFrame_X9_of rfl rfl rfl (by decide +kernel) ⟨Nat.le_of_ble_eq_true rfl, Nat.le_of_ble_eq_true rfl⟩) ⟨tm_blind, va_recv hK hPc (ci := 7) (q0 := 0) rfl rfl, fun U hU hW => ⟨rfl, by rw [hU], by rw [hU]; exact hPc, va_K.moved hW.alike hK, hDc.weaken (fun _ _ _ _ => trivial)⟩⟩ rfl rfl hl.1 rfl (lv_room (Nat.le_of_ble_eq_true rfl)) dX9_sendsFrame_76 ⟨Nat.zero_le _, Nat.zero_le _⟩) hS (fun q _ h => hFc q h) hFc (fun r20 s21 t H1 locs ht hvm hw hB hz1 hk1 hS => ?_)
  obtain ⟨hP1, hK1, hD1⟩ := hB
  rw [ht] at hP1
  obtain ⟨hP, hD⟩ := va_join (wr := []) (w1 := (tm_wModel cI cZ a s21 hh)) hP hD [0, 1, 2, 3, 4, 5, 6, 7, 8, 9, 10, 11, 12, 13, 14, 15, 16, 17] [] rfl rfl (by decide) (by decide) hk1 hFc hP1 hD1
  generalize H1 = H at hP hS ⊢
  have hP : va_P (dC, dI) vwCl (tm_wModel cI cZ a s21 hh) H := hP
  have hD : va_D A (tm_wModel cI cZ a s21 hh) := hD
  refine lv_iload_n hx hb dX9_sendsFrame_79 rfl (lv_at hl 1 rfl) ?_
  refine lv_iload_n hx hb dX9_sendsFrame_80 rfl (lv_at hl 0 rfl) ?_
  refine lv_aload_n hx hb dX9_sendsFrame_81 rfl (lv_at hl 2 rfl) ?_
  refine lv_iload_n hx hb dX9_sendsFrame_82 rfl (lv_at hl 3 rfl) ?_
  refine lv_bipush (v := 9) hx hb dX9_sendsFrame_83 (by decide) ?_
  have hPc := hP
  have hDc := hD
  have hFc := va_free (wc := (tm_wModel cI cZ a s21 hh)) hD hS hA [0, 1, 2, 3, 4, 5, 6, 7, 8, 9, 10, 11, 12, 13, 14, 15, 16, 17] rfl
  refine va_calli (va_runV (As := [.int p0, .int 9]) (rest := [.int r18, .int r8, .int r20, .int 7, .int p0, .ref (a 0)]) ⟨hx, hb, hml, hown, hts⟩ (kk_X9_of l dC dI cI cZ a s21 hh H.size p0 9 _ hw) (cwV 2 hts gX9_sendsFrame_X9_of rfl rfl rfl (by decide +kernel) ⟨Nat.le_of_ble_eq_true rfl, Nat.le_of_ble_eq_true rfl⟩) ⟨tm_blind, va_recv hK hPc (ci := 7) (q0 := 0) rfl rfl, fun U hU hW => ⟨rfl, by rw [hU], by rw [hU]; exact hPc, va_K.moved hW.alike hK, hDc.weaken (fun _ _ _ _ => trivial)⟩⟩ rfl rfl hl.1 rfl (lv_room (Nat.le_of_ble_eq_true rfl)) dX9_sendsFrame_85 ⟨Nat.zero_le _, Nat.zero_le _⟩) hS (fun q _ h => hFc q h) hFc (fun r22 s23 t H1 locs ht hvm hw hB hz1 hk1 hS => ?_)
  obtain ⟨hP1, hK1, hD1⟩ := hB
  rw [ht] at hP1
  obtain ⟨hP, hD⟩ := va_join (wr := []) (w1 := (tm_wModel cI cZ a s23 hh)) hP hD [0, 1, 2, 3, 4, 5, 6, 7, 8, 9, 10, 11, 12, 13, 14, 15, 16, 17] [] rfl rfl (by decide) (by decide) hk1 hFc hP1 hD1
  generalize H1 = H at hP hS ⊢
  have hP : va_P (dC, dI) vwCl (tm_wModel cI cZ a s23 hh) H := hP
  have hD : va_D A (tm_wModel cI cZ a s23 hh) := hD
  have hPc := hP
  have hDc := hD
  have hFc := va_free (wc := (tm_wModel cI cZ a s23 hh)) hD hS hA [0, 1, 2, 3, 4, 5, 6, 7, 8, 9, 10, 11, 12, 13, 14, 15, 16, 17] rfl
  refine va_callv (va_runV (As := [.int p0, .int 7, .int r20, .int r8, .int r18, .int r22]) (rest := []) ⟨hx, hb, hml, hown, hts⟩ (kk_X9_send l dC dI cI cZ a s23 hh H.size p0 7 r20 r8 r18 r22 _ hw) (cwV 6 hts gX9_sendsFrame_X9_send rfl rfl rfl (by decide +kernel) ⟨Nat.le_of_ble_eq_true rfl, Nat.le_of_ble_eq_true rfl⟩) ⟨tm_blind, va_recv hK hPc (ci := 7) (q0 := 0) rfl rfl, fun U hU hW => ⟨rfl, by rw [hU], by rw [hU]; exact hPc, va_K.moved hW.alike hK, hDc.weaken (fun _ _ _ _ => trivial)⟩⟩ rfl rfl hl.1 rfl (lv_room (Nat.le_of_ble_eq_true rfl)) dX9_sendsFrame_88 ⟨Nat.zero_le _, Nat.zero_le _⟩) hS (fun q _ h => hFc q h) hFc (fun s24 t H1 locs ht hvm hw hB hz1 hk1 hS => ?_)
  obtain ⟨hP1, hK1, hD1⟩ := hB
  rw [ht] at hP1
  obtain ⟨hP, hD⟩ := va_join (wr := []) (w1 := (tm_wModel cI cZ a s24 hh)) hP hD [0, 1, 2, 3, 4, 5, 6, 7, 8, 9, 10, 11, 12, 13, 14, 15, 16, 17] [] rfl rfl (by decide) (by decide) hk1 hFc hP1 hD1
  generalize H1 = H at hP hS ⊢
  have hP : va_P (dC, dI) vwCl (tm_wModel cI cZ a s24 hh) H := hP
  have hD : va_D A (tm_wModel cI cZ a s24 hh) := hD
  refine lv_iconst (v := 0) hx hb dX9_sendsFrame_91 (by decide) ?_
  refine lv_istore (lv' := [(4, .int 0), (3, .int r18), (2, .int r8), (0, .ref (a 0)), (1, .int p0)]) hx hb dX9_sendsFrame_92 hl (by decide) rfl (fun ls hl => ?_)
  obtain ⟨nf, hw⟩ := hw
  exact b94 nf p0 r8 r18 0 s24 _ _ _ hw hP hD hS (lv_sub hl [3, 4, 2, 1, 0] rfl)
def wp_X9_sendsIn_103 (K : tm_St → Prop) (v1 : Int32) (t0 : Int32) (s : tm_St) : Prop := ((t0 = 0 → ((t0 = 0 → (wp_X9_send v1 0 0 0 0 0 s (fun s15 => K s15))) ∧ (¬ t0 = 0 → (wp_X9_of v1 1 s (fun r16 s17 => (wp_X9_send v1 0 r16 0 0 0 s17 (fun s18 => K s18))))))) ∧ (¬ t0 = 0 → ((t0 = 0 → (wp_X9_send v1 3 0 0 0 0 s (fun s20 => K s20))) ∧ (¬ t0 = 0 → (wp_X9_of v1 1 s (fun r21 s22 => (wp_X9_send v1 3 r21 0 0 0 s22 (fun s23 => K s23))))))))
def wp_X9_sendsIn (p0 : Int32) (s0 : tm_St) (K : tm_St → Prop) : Prop := (wp_X9_of p0 0 s0 (fun r1 s2 => ((r1 = 0 → (wp_X9_send p0 0 0 0 0 0 s2 (fun s4 => K s4))) ∧ (¬ r1 = 0 → ((r1 = 1 → (wp_X9_send p0 1 0 0 0 0 s2 (fun s6 => K s6))) ∧ (¬ r1 = 1 → ((r1 = 2 → (wp_X9_send p0 2 0 0 0 0 s2 (fun s8 => K s8))) ∧ (¬ r1 = 2 → ((r1 = 3 → (wp_X9_of p0 1 s2 (fun r10 s11 => (((8 : Int32) ≤ r10 → wp_X9_sendsIn_103 K p0 0 s11) ∧ (¬ (8 : Int32) ≤ r10 → wp_X9_sendsIn_103 K p0 1 s11))))) ∧ (¬ r1 = 3 → ((r1 = 4 → (wp_X9_send p0 4 0 0 0 0 s2 (fun s25 => (wp_X9_trains p0 s25 (fun s26 => K s26))))) ∧ (¬ r1 = 4 → ((r1 = 5 → (wp_X9_of p0 2 s2 (fun r28 s29 => (wp_X9_of p0 3 s29 (fun r30 s31 => (wp_X9_send p0 5 r28 r30 0 0 s31 (fun s32 => K s32))))))) ∧ (¬ r1 = 5 → ((r1 = 6 → (wp_X9_of p0 2 s2 (fun r34 s35 => (wp_X9_of p0 4 s35 (fun r36 s37 => (wp_X9_send p0 6 r34 r36 0 0 s37 (fun s38 => K s38))))))) ∧ (¬ r1 = 6 → (wp_X9_sendsFrame p0 s2 (fun s39 => K s39))))))))))))))))))
set_option maxRecDepth 100000 in
set_option maxHeartbeats 4000000 in
theorem kk_X9_sendsIn (l : Launch) (dC : Nat → ClassId) (dI : Nat → Nat → Nat) (cI cZ : ClassId) (a : Nat → Nat) (s0 : tm_St) (hh : Int64) (sz : Nat) (p0 : Int32) (K : tm_St → Prop) (hw : wp_X9_sendsIn p0 s0 K) : Met l yX9_sendsIn wsX9_sendsIn ({ frames := 3, cells := 0, slots := 0, locals := 72 }) (va_Pc [.ref (a 0), .int p0] (tm_Pre dC dI cI cZ (tm_wModel cI cZ a s0 hh) sz)) (va_Qv (fun (u : tm_St) => K u) (fun (u : tm_St) t => tm_At dC dI cI cZ (va_A (tm_wModel cI cZ a s0 hh) sz) (tm_wModel cI cZ a u hh) t) (va_A (tm_wModel cI cZ a s0 hh) sz)) 0 0 (va_A (tm_wModel cI cZ a s0 hh) sz) := by
  refine Met.ofW (cc := cX9_sendsIn) (maxL := 3) (ret := none) (by decide +kernel) rfl ?_
  intro p e z m args below meth c z₁ B hml hv
  obtain ⟨rfl, hsz, hP, hK, hD0⟩ := hv
  have hx := B.exec
  have hb := B.bytes
  have hr := B.returns
  have hts := atoms_spec (ws := wsX9_sendsIn) B.pre
  have hown : z.vm.findClass RX9 = some m.cls := findClass_of_methodNamed B.named
  have hlocks := B.notSynchronized
  subst hsz
  have hD := hD0.self (sz := z.heap.size)
  generalize hAe : va_A (tm_wModel cI cZ a s0 hh) z.heap.size = A at hD ⊢
  have hA : ∀ q : Nat, z.heap.size ≤ q → A q := fun q h => by rw [← hAe]; exact Or.inr h
  have hS : va_S A z.heap z.heap [] := va_S.rf
  have b103 : ∀ (v1 : Int32) (t0 : Int32) (s : tm_St) (H : Heap) (locs : List Loc) (ls : Array Slot), wp_X9_sendsIn_103 K v1 t0 s → va_P (dC, dI) vwCl (tm_wModel cI cZ a s hh) H → va_D A (tm_wModel cI cZ a s hh) → va_S A z.heap H locs → lv_has ls 3 [(0, .ref (a 0)), (1, .int v1)] → W p l e (headSpec wsX9_sendsIn ({ frames := 3, cells := 0, slots := 0, locals := 72 })).room z m (([.ref (a 0), .int p0] : List Value).toArray) below meth c H locs 0 0 (MQ below (va_Qv (fun (u : tm_St) => K u) (fun (u : tm_St) t => tm_At dC dI cI cZ A (tm_wModel cI cZ a u hh) t) A) (([.ref (a 0), .int p0] : List Value).toArray) z 0 0 A) (F0 m 103 ls [.int t0]) := by
    intro v1 t0 s H locs ls hw hP hD hS hl
    unfold wp_X9_sendsIn_103 at hw
    refine lv_istore_n (lv' := [(2, .int t0), (0, .ref (a 0)), (1, .int v1)]) hx hb dX9_sendsIn_103 rfl hl (by decide) rfl (fun ls hl => ?_)
    refine lv_aload_n hx hb dX9_sendsIn_104 rfl (lv_at hl 1 rfl) ?_
    refine lv_iload_n hx hb dX9_sendsIn_105 rfl (lv_at hl 2 rfl) ?_
    refine lv_iload_n hx hb dX9_sendsIn_106 rfl (lv_at hl 0 rfl) ?_
    refine lv_if_eq (tgt := 114) hx hb dX9_sendsIn_107 (by decide) (fun c13 => ?_) (fun c13 => ?_)
    · have hw := hw.1 c13
      refine lv_iconst (v := 0) hx hb dX9_sendsIn_114 (by decide) ?_
      refine lv_iload_n hx hb dX9_sendsIn_115 rfl (lv_at hl 0 rfl) ?_
      refine lv_if_eq (tgt := 128) hx hb dX9_sendsIn_116 (by decide) (fun c14 => ?_) (fun c14 => ?_)
      · have hw := hw.1 c14
        refine lv_iconst (v := 0) hx hb dX9_sendsIn_128 (by decide) ?_
        refine lv_iconst (v := 0) hx hb dX9_sendsIn_129 (by decide) ?_
        refine lv_iconst (v := 0) hx hb dX9_sendsIn_130 (by decide) ?_
        refine lv_iconst (v := 0) hx hb dX9_sendsIn_131 (by decide) ?_
        have hPc := hP
        have hDc := hD
        have hFc := va_free (wc := (tm_wModel cI cZ a s hh)) hD hS hA [0, 1, 2, 3, 4, 5, 6, 7, 8, 9, 10, 11, 12, 13, 14, 15, 16, 17] rfl
        refine va_callv (va_runV (As := [.int v1, .int 0, .int 0, .int 0, .int 0, .int 0]) (rest := []) ⟨hx, hb, hml, hown, hts⟩ (kk_X9_send l dC dI cI cZ a s hh H.size v1 0 0 0 0 0 _ hw) (cwV 6 hts gX9_sendsIn_X9_send rfl rfl rfl (by decide +kernel) ⟨Nat.le_of_ble_eq_true rfl, Nat.le_of_ble_eq_true rfl⟩) ⟨tm_blind, va_recv hK hPc (ci := 7) (q0 := 0) rfl rfl, fun U hU hW => ⟨rfl, by rw [hU], by rw [hU]; exact hPc, va_K.moved hW.alike hK, hDc.weaken (fun _ _ _ _ => trivial)⟩⟩ rfl rfl hl.1 rfl (lv_room (Nat.le_of_ble_eq_true rfl)) dX9_sendsIn_132 ⟨Nat.zero_le _, Nat.zero_le _⟩) hS (fun q _ h => hFc q h) hFc (fun s15 t H1 locs ht hvm hw hB hz1 hk1 hS => ?_)
        obtain ⟨hP1, hK1, hD1⟩ := hB
        rw [ht] at hP1
        obtain ⟨hP, hD⟩ := va_join (wr := []) (w1 := (tm_wModel cI cZ a s15 hh)) hP hD [0, 1, 2, 3, 4, 5, 6, 7, 8, 9, 10, 11, 12, 13, 14, 15, 16, 17] [] rfl rfl (by decide) (by decide) hk1 hFc hP1 hD1
        generalize H1 = H at hP hS ⊢
        have hP : va_P (dC, dI) vwCl (tm_wModel cI cZ a s15 hh) H := hP
        have hD : va_D A (tm_wModel cI cZ a s15 hh) := hD
        refine lv_goto (tgt := 208) hx hb dX9_sendsIn_135 (by decide) ?_
        exact W.vret hx hb hr (fun t ht hW => ⟨⟨s15, rfl, hw, by rw [ht]; exact hP, va_K.moved hW.alike hK, hD⟩, hS.F ht⟩) hS.2.2 dX9_sendsIn_208
      · have hw := hw.2 c14
        refine lv_aload_n hx hb dX9_sendsIn_119 rfl (lv_at hl 1 rfl) ?_
        refine lv_iload_n hx hb dX9_sendsIn_120 rfl (lv_at hl 2 rfl) ?_
        refine lv_iconst (v := 1) hx hb dX9_sendsIn_121 (by decide) ?_
        have hPc := hP
        have hDc := hD
        have hFc := va_free (wc := (tm_wModel cI cZ a s hh)) hD hS hA [0, 1, 2, 3, 4, 5, 6, 7, 8, 9, 10, 11, 12, 13, 14, 15, 16, 17] rfl
        refine va_calli (va_runV (As := [.int v1, .int 1]) (rest := [.int 0, .int v1, .ref (a 0)]) ⟨hx, hb, hml, hown, hts⟩ (kk_X9_of l dC dI cI cZ a s hh H.size v1 1 _ hw) (cwV 2 hts gX9_sendsIn_X9_of rfl rfl rfl (by decide +kernel) ⟨Nat.le_of_ble_eq_true rfl, Nat.le_of_ble_eq_true rfl⟩) ⟨tm_blind, va_recv hK hPc (ci := 7) (q0 := 0) rfl rfl, fun U hU hW => ⟨rfl, by rw [hU], by rw [hU]; exact hPc, va_K.moved hW.alike hK, hDc.weaken (fun _ _ _ _ => trivial)⟩⟩ rfl rfl hl.1 rfl (lv_room (Nat.le_of_ble_eq_true rfl)) dX9_sendsIn_122 ⟨Nat.zero_le _, Nat.zero_le _⟩) hS (fun q _ h => hFc q h) hFc (fun r16 s17 t H1 locs ht hvm hw hB hz1 hk1 hS => ?_)
        obtain ⟨hP1, hK1, hD1⟩ := hB
        rw [ht] at hP1
        obtain ⟨hP, hD⟩ := va_join (wr := []) (w1 := (tm_wModel cI cZ a s17 hh)) hP hD [0, 1, 2, 3, 4, 5, 6, 7, 8, 9, 10, 11, 12, 13, 14, 15, 16, 17] [] rfl rfl (by decide) (by decide) hk1 hFc hP1 hD1
        generalize H1 = H at hP hS ⊢
        have hP : va_P (dC, dI) vwCl (tm_wModel cI cZ a s17 hh) H := hP
        have hD : va_D A (tm_wModel cI cZ a s17 hh) := hD
        refine lv_goto (tgt := 129) hx hb dX9_sendsIn_125 (by decide) ?_
        refine lv_iconst (v := 0) hx hb dX9_sendsIn_129 (by decide) ?_
        refine lv_iconst (v := 0) hx hb dX9_sendsIn_130 (by decide) ?_
        refine lv_iconst (v := 0) hx hb dX9_sendsIn_131 (by decide) ?_
        have hPc := hP
        have hDc := hD
        have hFc := va_free (wc := (tm_wModel cI cZ a s17 hh)) hD hS hA [0, 1, 2, 3, 4, 5, 6, 7, 8, 9, 10, 11, 12, 13, 14, 15, 16, 17] rfl
        refine va_callv (va_runV (As := [.int v1, .int 0, .int r16, .int 0, .int 0, .int 0]) (rest := []) ⟨hx, hb, hml, hown, hts⟩ (kk_X9_send l dC dI cI cZ a s17 hh H.size v1 0 r16 0 0 0 _ hw) (cwV 6 hts gX9_sendsIn_X9_send rfl rfl rfl (by decide +kernel) ⟨Nat.le_of_ble_eq_true rfl, Nat.le_of_ble_eq_true rfl⟩) ⟨tm_blind, va_recv hK hPc (ci := 7) (q0 := 0) rfl rfl, fun U hU hW => ⟨rfl, by rw [hU], by rw [hU]; exact hPc, va_K.moved hW.alike hK, hDc.weaken (fun _ _ _ _ => trivial)⟩⟩ rfl rfl hl.1 rfl (lv_room (Nat.le_of_ble_eq_true rfl)) dX9_sendsIn_132 ⟨Nat.zero_le _, Nat.zero_le _⟩) hS (fun q _ h => hFc q h) hFc (fun s18 t H1 locs ht hvm hw hB hz1 hk1 hS => ?_)
        obtain ⟨hP1, hK1, hD1⟩ := hB
        rw [ht] at hP1
        obtain ⟨hP, hD⟩ := va_join (wr := []) (w1 := (tm_wModel cI cZ a s18 hh)) hP hD [0, 1, 2, 3, 4, 5, 6, 7, 8, 9, 10, 11, 12, 13, 14, 15, 16, 17] [] rfl rfl (by decide) (by decide) hk1 hFc hP1 hD1
        generalize H1 = H at hP hS ⊢
        have hP : va_P (dC, dI) vwCl (tm_wModel cI cZ a s18 hh) H := hP
        have hD : va_D A (tm_wModel cI cZ a s18 hh) := hD
        refine lv_goto (tgt := 208) hx hb dX9_sendsIn_135 (by decide) ?_
        exact W.vret hx hb hr (fun t ht hW => ⟨⟨s18, rfl, hw, by rw [ht]; exact hP, va_K.moved hW.alike hK, hD⟩, hS.F ht⟩) hS.2.2 dX9_sendsIn_208
    · have hw := hw.2 c13
      refine lv_iconst (v := 3) hx hb dX9_sendsIn_110 (by decide) ?_
      refine lv_goto (tgt := 115) hx hb dX9_sendsIn_111 (by decide) ?_
      refine lv_iload_n hx hb dX9_sendsIn_115 rfl (lv_at hl 0 rfl) ?_
      refine lv_if_eq (tgt := 128) hx hb dX9_sendsIn_116 (by decide) (fun c19 => ?_) (fun c19 => ?_)
      · have hw := hw.1 c19
        refine lv_iconst (v := 0) hx hb dX9_sendsIn_128 (by decide) ?_
        refine lv_iconst (v := 0) hx hb dX9_sendsIn_129 (by decide) ?_
        refine lv_iconst (v := 0) hx hb dX9_sendsIn_130 (by decide) ?_
        refine lv_iconst (v := 0) hx hb dX9_sendsIn_131 (by decide) ?_
        have hPc := hP
        have hDc := hD
        have hFc := va_free (wc := (tm_wModel cI cZ a s hh)) hD hS hA [0, 1, 2, 3, 4, 5, 6, 7, 8, 9, 10, 11, 12, 13, 14, 15, 16, 17] rfl
        refine va_callv (va_runV (As := [.int v1, .int 3, .int 0, .int 0, .int 0, .int 0]) (rest := []) ⟨hx, hb, hml, hown, hts⟩ (kk_X9_send l dC dI cI cZ a s hh H.size v1 3 0 0 0 0 _ hw) (cwV 6 hts gX9_sendsIn_X9_send rfl rfl rfl (by decide +kernel) ⟨Nat.le_of_ble_eq_true rfl, Nat.le_of_ble_eq_true rfl⟩) ⟨tm_blind, va_recv hK hPc (ci := 7) (q0 := 0) rfl rfl, fun U hU hW => ⟨rfl, by rw [hU], by rw [hU]; exact hPc, va_K.moved hW.alike hK, hDc.weaken (fun _ _ _ _ => trivial)⟩⟩ rfl rfl hl.1 rfl (lv_room (Nat.le_of_ble_eq_true rfl)) dX9_sendsIn_132 ⟨Nat.zero_le _, Nat.zero_le _⟩) hS (fun q _ h => hFc q h) hFc (fun s20 t H1 locs ht hvm hw hB hz1 hk1 hS => ?_)
        obtain ⟨hP1, hK1, hD1⟩ := hB
        rw [ht] at hP1
        obtain ⟨hP, hD⟩ := va_join (wr := []) (w1 := (tm_wModel cI cZ a s20 hh)) hP hD [0, 1, 2, 3, 4, 5, 6, 7, 8, 9, 10, 11, 12, 13, 14, 15, 16, 17] [] rfl rfl (by decide) (by decide) hk1 hFc hP1 hD1
        generalize H1 = H at hP hS ⊢
        have hP : va_P (dC, dI) vwCl (tm_wModel cI cZ a s20 hh) H := hP
        have hD : va_D A (tm_wModel cI cZ a s20 hh) := hD
        refine lv_goto (tgt := 208) hx hb dX9_sendsIn_135 (by decide) ?_
        exact W.vret hx hb hr (fun t ht hW => ⟨⟨s20, rfl, hw, by rw [ht]; exact hP, va_K.moved hW.alike hK, hD⟩, hS.F ht⟩) hS.2.2 dX9_sendsIn_208
      · have hw := hw.2 c19
        refine lv_aload_n hx hb dX9_sendsIn_119 rfl (lv_at hl 1 rfl) ?_
        refine lv_iload_n hx hb dX9_sendsIn_120 rfl (lv_at hl 2 rfl) ?_
        refine lv_iconst (v := 1) hx hb dX9_sendsIn_121 (by decide) ?_
        have hPc := hP
        have hDc := hD
        have hFc := va_free (wc := (tm_wModel cI cZ a s hh)) hD hS hA [0, 1, 2, 3, 4, 5, 6, 7, 8, 9, 10, 11, 12, 13, 14, 15, 16, 17] rfl
        refine va_calli (va_runV (As := [.int v1, .int 1]) (rest := [.int 3, .int v1, .ref (a 0)]) ⟨hx, hb, hml, hown, hts⟩ (kk_X9_of l dC dI cI cZ a s hh H.size v1 1 _ hw) (cwV 2 hts gX9_sendsIn_X9_of rfl rfl rfl (by decide +kernel) ⟨Nat.le_of_ble_eq_true rfl, Nat.le_of_ble_eq_true rfl⟩) ⟨tm_blind, va_recv hK hPc (ci := 7) (q0 := 0) rfl rfl, fun U hU hW => ⟨rfl, by rw [hU], by rw [hU]; exact hPc, va_K.moved hW.alike hK, hDc.weaken (fun _ _ _ _ => trivial)⟩⟩ rfl rfl hl.1 rfl (lv_room (Nat.le_of_ble_eq_true rfl)) dX9_sendsIn_122 ⟨Nat.zero_le _, Nat.zero_le _⟩) hS (fun q _ h => hFc q h) hFc (fun r21 s22 t H1 locs ht hvm hw hB hz1 hk1 hS => ?_)
        obtain ⟨hP1, hK1, hD1⟩ := hB
        rw [ht] at hP1
        obtain ⟨hP, hD⟩ := va_join (wr := []) (w1 := (tm_wModel cI cZ a s22 hh)) hP hD [0, 1, 2, 3, 4, 5, 6, 7, 8, 9, 10, 11, 12, 13, 14, 15, 16, 17] [] rfl rfl (by decide) (by decide) hk1 hFc hP1 hD1
        generalize H1 = H at hP hS ⊢
        have hP : va_P (dC, dI) vwCl (tm_wModel cI cZ a s22 hh) H := hP
        have hD : va_D A (tm_wModel cI cZ a s22 hh) := hD
        refine lv_goto (tgt := 129) hx hb dX9_sendsIn_125 (by decide) ?_
        refine lv_iconst (v := 0) hx hb dX9_sendsIn_129 (by decide) ?_
        refine lv_iconst (v := 0) hx hb dX9_sendsIn_130 (by decide) ?_
        refine lv_iconst (v := 0) hx hb dX9_sendsIn_131 (by decide) ?_
        have hPc := hP
        have hDc := hD
        have hFc := va_free (wc := (tm_wModel cI cZ a s22 hh)) hD hS hA [0, 1, 2, 3, 4, 5, 6, 7, 8, 9, 10, 11, 12, 13, 14, 15, 16, 17] rfl
        refine va_callv (va_runV (As := [.int v1, .int 3, .int r21, .int 0, .int 0, .int 0]) (rest := []) ⟨hx, hb, hml, hown, hts⟩ (kk_X9_send l dC dI cI cZ a s22 hh H.size v1 3 r21 0 0 0 _ hw) (cwV 6 hts gX9_sendsIn_X9_send rfl rfl rfl (by decide +kernel) ⟨Nat.le_of_ble_eq_true rfl, Nat.le_of_ble_eq_true rfl⟩) ⟨tm_blind, va_recv hK hPc (ci := 7) (q0 := 0) rfl rfl, fun U hU hW => ⟨rfl, by rw [hU], by rw [hU]; exact hPc, va_K.moved hW.alike hK, hDc.weaken (fun _ _ _ _ => trivial)⟩⟩ rfl rfl hl.1 rfl (lv_room (Nat.le_of_ble_eq_true rfl)) dX9_sendsIn_132 ⟨Nat.zero_le _, Nat.zero_le _⟩) hS (fun q _ h => hFc q h) hFc (fun s23 t H1 locs ht hvm hw hB hz1 hk1 hS => ?_)
        obtain ⟨hP1, hK1, hD1⟩ := hB
        rw [ht] at hP1
        obtain ⟨hP, hD⟩ := va_join (wr := []) (w1 := (tm_wModel cI cZ a s23 hh)) hP hD [0, 1, 2, 3, 4, 5, 6, 7, 8, 9, 10, 11, 12, 13, 14, 15, 16, 17] [] rfl rfl (by decide) (by decide) hk1 hFc hP1 hD1
        generalize H1 = H at hP hS ⊢
        have hP : va_P (dC, dI) vwCl (tm_wModel cI cZ a s23 hh) H := hP
        have hD : va_D A (tm_wModel cI cZ a s23 hh) := hD
        refine lv_goto (tgt := 208) hx hb dX9_sendsIn_135 (by decide) ?_
        exact W.vret hx hb hr (fun t ht hW => ⟨⟨s23, rfl, hw, by rw [ht]; exact hP, va_K.moved hW.alike hK, hD⟩, hS.F ht⟩) hS.2.2 dX9_sendsIn_208
  have hl := lv_entry ([.ref (a 0), .int p0]) (n := 3) (Nat.le_of_ble_eq_true rfl)
  rw [lg_entry_eq]
  generalize (lg_sl ([.ref (a 0), .int p0]) ++ List.replicate (3 - (lg_sl ([.ref (a 0), .int p0])).length) Slot.unset).toArray = ls at hl ⊢
  have hl : lv_has ls 3 [(0, .ref (a 0)), (1, .int p0)] := hl
  unfold wp_X9_sendsIn at hw
  refine lv_aload_n hx hb dX9_sendsIn_0 rfl (lv_at hl 0 rfl) ?_
  refine lv_iload_n hx hb dX9_sendsIn_1 rfl (lv_at hl 1 rfl) ?_
  refine lv_iconst (v := 0) hx hb dX9_sendsIn_2 (by decide) ?_
  have hPc := hP
  have hDc := hD
  have hFc := va_free (wc := (tm_wModel cI cZ a s0 hh)) hD hS hA [0, 1, 2, 3, 4, 5, 6, 7, 8, 9, 10, 11, 12, 13, 14, 15, 16, 17] rfl
  refine va_calli (va_runV (As := [.int p0, .int 0]) (rest := []) ⟨hx, hb, hml, hown, hts⟩ (kk_X9_of l dC dI cI cZ a s0 hh z.heap.size p0 0 _ hw) (cwV 2 hts gX9_sendsIn_X9_of rfl rfl rfl (by decide +kernel) ⟨Nat.le_of_ble_eq_true rfl, Nat.le_of_ble_eq_true rfl⟩) ⟨tm_blind, va_recv hK hPc (ci := 7) (q0 := 0) rfl rfl, fun U hU hW => ⟨rfl, by rw [hU], by rw [hU]; exact hPc, va_K.moved hW.alike hK, hDc.weaken (fun _ _ _ _ => trivial)⟩⟩ rfl rfl hl.1 rfl (lv_room (Nat.le_of_ble_eq_true rfl)) dX9_sendsIn_3 ⟨Nat.zero_le _, Nat.zero_le _⟩) hS (fun q _ h => hFc q h) hFc (fun r1 s2 t H1 locs ht hvm hw hB hz1 hk1 hS => ?_)
  obtain ⟨hP1, hK1, hD1⟩ := hB
  rw [ht] at hP1
  obtain ⟨hP, hD⟩ := va_join (wr := []) (w1 := (tm_wModel cI cZ a s2 hh)) hP hD [0, 1, 2, 3, 4, 5, 6, 7, 8, 9, 10, 11, 12, 13, 14, 15, 16, 17] [] rfl rfl (by decide) (by decide) hk1 hFc hP1 hD1
  generalize H1 = H at hP hS ⊢
  have hP : va_P (dC, dI) vwCl (tm_wModel cI cZ a s2 hh) H := hP
  have hD : va_D A (tm_wModel cI cZ a s2 hh) := hD
  refine (Classical.em (r1 = 0)).elim (fun c3 => ?_) (fun c3 => ?_)
  · have hw := hw.1 c3
    refine lv_tableIn (tgt := 48) hx hb dX9_sendsIn_6 (by rw [c3]; decide) (by rw [c3]; decide) (by rw [c3]; rfl) (by decide) ?_
    refine lv_aload_n hx hb dX9_sendsIn_48 rfl (lv_at hl 0 rfl) ?_
    refine lv_iload_n hx hb dX9_sendsIn_49 rfl (lv_at hl 1 rfl) ?_
    refine lv_iconst (v := 0) hx hb dX9_sendsIn_50 (by decide) ?_
    refine lv_iconst (v := 0) hx hb dX9_sendsIn_51 (by decide) ?_
    refine lv_iconst (v := 0) hx hb dX9_sendsIn_52 (by decide) ?_
    refine lv_iconst (v := 0) hx hb dX9_sendsIn_53 (by decide) ?_
    refine lv_iconst (v := 0) hx hb dX9_sendsIn_54 (by decide) ?_
    have hPc := hP
    have hDc := hD
    have hFc := va_free (wc := (tm_wModel cI cZ a s2 hh)) hD hS hA [0, 1, 2, 3, 4, 5, 6, 7, 8, 9, 10, 11, 12, 13, 14, 15, 16, 17] rfl
    refine va_callv (va_runV (As := [.int p0, .int 0, .int 0, .int 0, .int 0, .int 0]) (rest := []) ⟨hx, hb, hml, hown, hts⟩ (kk_X9_send l dC dI cI cZ a s2 hh H.size p0 0 0 0 0 0 _ hw) (cwV 6 hts gX9_sendsIn_X9_send rfl rfl rfl (by decide +kernel) ⟨Nat.le_of_ble_eq_true rfl, Nat.le_of_ble_eq_true rfl⟩) ⟨tm_blind, va_recv hK hPc (ci := 7) (q0 := 0) rfl rfl, fun U hU hW => ⟨rfl, by rw [hU], by rw [hU]; exact hPc, va_K.moved hW.alike hK, hDc.weaken (fun _ _ _ _ => trivial)⟩⟩ rfl rfl hl.1 rfl (lv_room (Nat.le_of_ble_eq_true rfl)) dX9_sendsIn_55 ⟨Nat.zero_le _, Nat.zero_le _⟩) hS (fun q _ h => hFc q h) hFc (fun s4 t H1 locs ht hvm hw hB hz1 hk1 hS => ?_)
    obtain ⟨hP1, hK1, hD1⟩ := hB
    rw [ht] at hP1
    obtain ⟨hP, hD⟩ := va_join (wr := []) (w1 := (tm_wModel cI cZ a s4 hh)) hP hD [0, 1, 2, 3, 4, 5, 6, 7, 8, 9, 10, 11, 12, 13, 14, 15, 16, 17] [] rfl rfl (by decide) (by decide) hk1 hFc hP1 hD1
    generalize H1 = H at hP hS ⊢
    have hP : va_P (dC, dI) vwCl (tm_wModel cI cZ a s4 hh) H := hP
    have hD : va_D A (tm_wModel cI cZ a s4 hh) := hD
    refine lv_goto (tgt := 208) hx hb dX9_sendsIn_58 (by decide) ?_
    exact W.vret hx hb hr (fun t ht hW => ⟨⟨s4, rfl, hw, by rw [ht]; exact hP, va_K.moved hW.alike hK, hD⟩, hS.F ht⟩) hS.2.2 dX9_sendsIn_208
  have hw := hw.2 c3
  refine (Classical.em (r1 = 1)).elim (fun c5 => ?_) (fun c5 => ?_)
  · have hw := hw.1 c5
    refine lv_tableIn (tgt := 61) hx hb dX9_sendsIn_6 (by rw [c5]; decide) (by rw [c5]; decide) (by rw [c5]; rfl) (by decide) ?_
    refine lv_aload_n hx hb dX9_sendsIn_61 rfl (lv_at hl 0 rfl) ?_
    refine lv_iload_n hx hb dX9_sendsIn_62 rfl (lv_at hl 1 rfl) ?_
    refine lv_iconst (v := 1) hx hb dX9_sendsIn_63 (by decide) ?_
    refine lv_iconst (v := 0) hx hb dX9_sendsIn_64 (by decide) ?_
    refine lv_iconst (v := 0) hx hb dX9_sendsIn_65 (by decide) ?_
    refine lv_iconst (v := 0) hx hb dX9_sendsIn_66 (by decide) ?_
    refine lv_iconst (v := 0) hx hb dX9_sendsIn_67 (by decide) ?_
    have hPc := hP
    have hDc := hD
    have hFc := va_free (wc := (tm_wModel cI cZ a s2 hh)) hD hS hA [0, 1, 2, 3, 4, 5, 6, 7, 8, 9, 10, 11, 12, 13, 14, 15, 16, 17] rfl
    refine va_callv (va_runV (As := [.int p0, .int 1, .int 0, .int 0, .int 0, .int 0]) (rest := []) ⟨hx, hb, hml, hown, hts⟩ (kk_X9_send l dC dI cI cZ a s2 hh H.size p0 1 0 0 0 0 _ hw) (cwV 6 hts gX9_sendsIn_X9_send rfl rfl rfl (by decide +kernel) ⟨Nat.le_of_ble_eq_true rfl, Nat.le_of_ble_eq_true rfl⟩) ⟨tm_blind, va_recv hK hPc (ci := 7) (q0 := 0) rfl rfl, fun U hU hW => ⟨rfl, by rw [hU], by rw [hU]; exact hPc, va_K.moved hW.alike hK, hDc.weaken (fun _ _ _ _ => trivial)⟩⟩ rfl rfl hl.1 rfl (lv_room (Nat.le_of_ble_eq_true rfl)) dX9_sendsIn_68 ⟨Nat.zero_le _, Nat.zero_le _⟩) hS (fun q _ h => hFc q h) hFc (fun s6 t H1 locs ht hvm hw hB hz1 hk1 hS => ?_)
    obtain ⟨hP1, hK1, hD1⟩ := hB
    rw [ht] at hP1
    obtain ⟨hP, hD⟩ := va_join (wr := []) (w1 := (tm_wModel cI cZ a s6 hh)) hP hD [0, 1, 2, 3, 4, 5, 6, 7, 8, 9, 10, 11, 12, 13, 14, 15, 16, 17] [] rfl rfl (by decide) (by decide) hk1 hFc hP1 hD1
    generalize H1 = H at hP hS ⊢
    have hP : va_P (dC, dI) vwCl (tm_wModel cI cZ a s6 hh) H := hP
    have hD : va_D A (tm_wModel cI cZ a s6 hh) := hD
    refine lv_goto (tgt := 208) hx hb dX9_sendsIn_71 (by decide) ?_
    exact W.vret hx hb hr (fun t ht hW => ⟨⟨s6, rfl, hw, by rw [ht]; exact hP, va_K.moved hW.alike hK, hD⟩, hS.F ht⟩) hS.2.2 dX9_sendsIn_208
  have hw := hw.2 c5
  refine (Classical.em (r1 = 2)).elim (fun c7 => ?_) (fun c7 => ?_)
  · have hw := hw.1 c7
    refine lv_tableIn (tgt := 74) hx hb dX9_sendsIn_6 (by rw [c7]; decide) (by rw [c7]; decide) (by rw [c7]; rfl) (by decide) ?_
    refine lv_aload_n hx hb dX9_sendsIn_74 rfl (lv_at hl 0 rfl) ?_
    refine lv_iload_n hx hb dX9_sendsIn_75 rfl (lv_at hl 1 rfl) ?_
    refine lv_iconst (v := 2) hx hb dX9_sendsIn_76 (by decide) ?_
    refine lv_iconst (v := 0) hx hb dX9_sendsIn_77 (by decide) ?_
    refine lv_iconst (v := 0) hx hb dX9_sendsIn_78 (by decide) ?_
    refine lv_iconst (v := 0) hx hb dX9_sendsIn_79 (by decide) ?_
    refine lv_iconst (v := 0) hx hb dX9_sendsIn_80 (by decide) ?_
    have hPc := hP
    have hDc := hD
    have hFc := va_free (wc := (tm_wModel cI cZ a s2 hh)) hD hS hA [0, 1, 2, 3, 4, 5, 6, 7, 8, 9, 10, 11, 12, 13, 14, 15, 16, 17] rfl
    refine va_callv (va_runV (As := [.int p0, .int 2, .int 0, .int 0, .int 0, .int 0]) (rest := []) ⟨hx, hb, hml, hown, hts⟩ (kk_X9_send l dC dI cI cZ a s2 hh H.size p0 2 0 0 0 0 _ hw) (cwV 6 hts gX9_sendsIn_X9_send rfl rfl rfl (by decide +kernel) ⟨Nat.le_of_ble_eq_true rfl, Nat.le_of_ble_eq_true rfl⟩) ⟨tm_blind, va_recv hK hPc (ci := 7) (q0 := 0) rfl rfl, fun U hU hW => ⟨rfl, by rw [hU], by rw [hU]; exact hPc, va_K.moved hW.alike hK, hDc.weaken (fun _ _ _ _ => trivial)⟩⟩ rfl rfl hl.1 rfl (lv_room (Nat.le_of_ble_eq_true rfl)) dX9_sendsIn_81 ⟨Nat.zero_le _, Nat.zero_le _⟩) hS (fun q _ h => hFc q h) hFc (fun s8 t H1 locs ht hvm hw hB hz1 hk1 hS => ?_)
    obtain ⟨hP1, hK1, hD1⟩ := hB
    rw [ht] at hP1
    obtain ⟨hP, hD⟩ := va_join (wr := []) (w1 := (tm_wModel cI cZ a s8 hh)) hP hD [0, 1, 2, 3, 4, 5, 6, 7, 8, 9, 10, 11, 12, 13, 14, 15, 16, 17] [] rfl rfl (by decide) (by decide) hk1 hFc hP1 hD1
    generalize H1 = H at hP hS ⊢
    have hP : va_P (dC, dI) vwCl (tm_wModel cI cZ a s8 hh) H := hP
    have hD : va_D A (tm_wModel cI cZ a s8 hh) := hD
    refine lv_goto (tgt := 208) hx hb dX9_sendsIn_84 (by decide) ?_
    exact W.vret hx hb hr (fun t ht hW => ⟨⟨s8, rfl, hw, by rw [ht]; exact hP, va_K.moved hW.alike hK, hD⟩, hS.F ht⟩) hS.2.2 dX9_sendsIn_208
  have hw := hw.2 c7
  refine (Classical.em (r1 = 3)).elim (fun c9 => ?_) (fun c9 => ?_)
  · have hw := hw.1 c9
    refine lv_tableIn (tgt := 87) hx hb dX9_sendsIn_6 (by rw [c9]; decide) (by rw [c9]; decide) (by rw [c9]; rfl) (by decide) ?_
    refine lv_aload_n hx hb dX9_sendsIn_87 rfl (lv_at hl 0 rfl) ?_
    refine lv_iload_n hx hb dX9_sendsIn_88 rfl (lv_at hl 1 rfl) ?_
    refine lv_iconst (v := 1) hx hb dX9_sendsIn_89 (by decide) ?_
    have hPc := hP
    have hDc := hD
    have hFc := va_free (wc := (tm_wModel cI cZ a s2 hh)) hD hS hA [0, 1, 2, 3, 4, 5, 6, 7, 8, 9, 10, 11, 12, 13, 14, 15, 16, 17] rfl
    refine va_calli (va_runV (As := [.int p0, .int 1]) (rest := []) ⟨hx, hb, hml, hown, hts⟩ (kk_X9_of l dC dI cI cZ a s2 hh H.size p0 1 _ hw) (cwV 2 hts gX9_sendsIn_X9_of rfl rfl rfl (by decide +kernel) ⟨Nat.le_of_ble_eq_true rfl, Nat.le_of_ble_eq_true rfl⟩) ⟨tm_blind, va_recv hK hPc (ci := 7) (q0 := 0) rfl rfl, fun U hU hW => ⟨rfl, by rw [hU], by rw [hU]; exact hPc, va_K.moved hW.alike hK, hDc.weaken (fun _ _ _ _ => trivial)⟩⟩ rfl rfl hl.1 rfl (lv_room (Nat.le_of_ble_eq_true rfl)) dX9_sendsIn_90 ⟨Nat.zero_le _, Nat.zero_le _⟩) hS (fun q _ h => hFc q h) hFc (fun r10 s11 t H1 locs ht hvm hw hB hz1 hk1 hS => ?_)
    obtain ⟨hP1, hK1, hD1⟩ := hB
    rw [ht] at hP1
    obtain ⟨hP, hD⟩ := va_join (wr := []) (w1 := (tm_wModel cI cZ a s11 hh)) hP hD [0, 1, 2, 3, 4, 5, 6, 7, 8, 9, 10, 11, 12, 13, 14, 15, 16, 17] [] rfl rfl (by decide) (by decide) hk1 hFc hP1 hD1
    generalize H1 = H at hP hS ⊢
    have hP : va_P (dC, dI) vwCl (tm_wModel cI cZ a s11 hh) H := hP
    have hD : va_D A (tm_wModel cI cZ a s11 hh) := hD
    refine lv_bipush (v := 8) hx hb dX9_sendsIn_93 (by decide) ?_
    refine lv_icmp_ge (tgt := 102) hx hb dX9_sendsIn_95 (by decide) (fun c12 => ?_) (fun c12 => ?_)
    · have hw := hw.1 c12
      refine lv_iconst (v := 0) hx hb dX9_sendsIn_102 (by decide) ?_
      exact b103 p0 0 s11 _ _ _ hw hP hD hS (lv_sub hl [0, 1] rfl)
    · have hw := hw.2 c12
      refine lv_iconst (v := 1) hx hb dX9_sendsIn_98 (by decide) ?_
      refine lv_goto (tgt := 103) hx hb dX9_sendsIn_99 (by decide) ?_
      exact b103 p0 1 s11 _ _ _ hw hP hD hS (lv_sub hl [0, 1] rfl)
  have hw := hw.2 c9
  refine (Classical.em (r1 = 4)).elim (fun c24 => ?_) (fun c24 => ?_)
  · have hw := hw.1 c24
    refine lv_tableIn (tgt := 138) hx hb dX9_sendsIn_6 (by rw [c24]; decide) (by rw [c24]; decide) (by rw [c24]; rfl) (by decide) ?_
    refine lv_aload_n hx hb dX9_sendsIn_138 rfl (lv_at hl 0 rfl) ?_
    refine lv_iload_n hx hb dX9_sendsIn_139 rfl (lv_at hl 1 rfl) ?_
    refine lv_iconst (v := 4) hx hb dX9_sendsIn_140 (by decide) ?_
    refine lv_iconst (v := 0) hx hb dX9_sendsIn_141 (by decide) ?_
    refine lv_iconst (v := 0) hx hb dX9_sendsIn_142 (by decide) ?_
    refine lv_iconst (v := 0) hx hb dX9_sendsIn_143 (by decide) ?_
    refine lv_iconst (v := 0) hx hb dX9_sendsIn_144 (by decide) ?_
    have hPc := hP
    have hDc := hD
    have hFc := va_free (wc := (tm_wModel cI cZ a s2 hh)) hD hS hA [0, 1, 2, 3, 4, 5, 6, 7, 8, 9, 10, 11, 12, 13, 14, 15, 16, 17] rfl
    refine va_callv (va_runV (As := [.int p0, .int 4, .int 0, .int 0, .int 0, .int 0]) (rest := []) ⟨hx, hb, hml, hown, hts⟩ (kk_X9_send l dC dI cI cZ a s2 hh H.size p0 4 0 0 0 0 _ hw) (cwV 6 hts gX9_sendsIn_X9_send rfl rfl rfl (by decide +kernel) ⟨Nat.le_of_ble_eq_true rfl, Nat.le_of_ble_eq_true rfl⟩) ⟨tm_blind, va_recv hK hPc (ci := 7) (q0 := 0) rfl rfl, fun U hU hW => ⟨rfl, by rw [hU], by rw [hU]; exact hPc, va_K.moved hW.alike hK, hDc.weaken (fun _ _ _ _ => trivial)⟩⟩ rfl rfl hl.1 rfl (lv_room (Nat.le_of_ble_eq_true rfl)) dX9_sendsIn_145 ⟨Nat.zero_le _, Nat.zero_le _⟩) hS (fun q _ h => hFc q h) hFc (fun s25 t H1 locs ht hvm hw hB hz1 hk1 hS => ?_)
    obtain ⟨hP1, hK1, hD1⟩ := hB
    rw [ht] at hP1
    obtain ⟨hP, hD⟩ := va_join (wr := []) (w1 := (tm_wModel cI cZ a s25 hh)) hP hD [0, 1, 2, 3, 4, 5, 6, 7, 8, 9, 10, 11, 12, 13, 14, 15, 16, 17] [] rfl rfl (by decide) (by decide) hk1 hFc hP1 hD1
    generalize H1 = H at hP hS ⊢
    have hP : va_P (dC, dI) vwCl (tm_wModel cI cZ a s25 hh) H := hP
    have hD : va_D A (tm_wModel cI cZ a s25 hh) := hD
    refine lv_aload_n hx hb dX9_sendsIn_148 rfl (lv_at hl 0 rfl) ?_
    refine lv_iload_n hx hb dX9_sendsIn_149 rfl (lv_at hl 1 rfl) ?_
    have hPc := hP
    have hDc := hD
    have hFc := va_free (wc := (tm_wModel cI cZ a s25 hh)) hD hS hA [0, 1, 2, 3, 4, 5, 6, 7, 8, 9, 10, 11, 12, 13, 14, 15, 16, 17] rfl
    refine va_callv (va_runV (As := [.int p0]) (rest := []) ⟨hx, hb, hml, hown, hts⟩ (kk_X9_trains l dC dI cI cZ a s25 hh H.size p0 _ hw) (cwV 1 hts gX9_sendsIn_X9_trains rfl rfl rfl (by decide +kernel) ⟨Nat.le_of_ble_eq_true rfl, Nat.le_of_ble_eq_true rfl⟩) ⟨tm_blind, va_recv hK hPc (ci := 7) (q0 := 0) rfl rfl, fun U hU hW => ⟨rfl, by rw [hU], by rw [hU]; exact hPc, va_K.moved hW.alike hK, hDc.weaken (fun _ _ _ _ => trivial)⟩⟩ rfl rfl hl.1 rfl (lv_room (Nat.le_of_ble_eq_true rfl)) dX9_sendsIn_150 ⟨Nat.zero_le _, Nat.zero_le _⟩) hS (fun q _ h => hFc q h) hFc (fun s26 t H1 locs ht hvm hw hB hz1 hk1 hS => ?_)
    obtain ⟨hP1, hK1, hD1⟩ := hB
    rw [ht] at hP1
    obtain ⟨hP, hD⟩ := va_join (wr := []) (w1 := (tm_wModel cI cZ a s26 hh)) hP hD [0, 1, 2, 3, 4, 5, 6, 7, 8, 9, 10, 11, 12, 13, 14, 15, 16, 17] [] rfl rfl (by decide) (by decide) hk1 hFc hP1 hD1
    generalize H1 = H at hP hS ⊢
    have hP : va_P (dC, dI) vwCl (tm_wModel cI cZ a s26 hh) H := hP
    have hD : va_D A (tm_wModel cI cZ a s26 hh) := hD
    refine lv_goto (tgt := 208) hx hb dX9_sendsIn_153 (by decide) ?_
    exact W.vret hx hb hr (fun t ht hW => ⟨⟨s26, rfl, hw, by rw [ht]; exact hP, va_K.moved hW.alike hK, hD⟩, hS.F ht⟩) hS.2.2 dX9_sendsIn_208
  have hw := hw.2 c24
  refine (Classical.em (r1 = 5)).elim (fun c27 => ?_) (fun c27 => ?_)
  · have hw := hw.1 c27
    refine lv_tableIn (tgt := 156) hx hb dX9_sendsIn_6 (by rw [c27]; decide) (by rw [c27]; decide) (by rw [c27]; rfl) (by decide) ?_
    refine lv_aload_n hx hb dX9_sendsIn_156 rfl (lv_at hl 0 rfl) ?_
    refine lv_iload_n hx hb dX9_sendsIn_157 rfl (lv_at hl 1 rfl) ?_
    refine lv_iconst (v := 5) hx hb dX9_sendsIn_158 (by decide) ?_
    refine lv_aload_n hx hb dX9_sendsIn_159 rfl (lv_at hl 0 rfl) ?_
    refine lv_iload_n hx hb dX9_sendsIn_160 rfl (lv_at hl 1 rfl) ?_
    refine lv_iconst (v := 2) hx hb dX9_sendsIn_161 (by decide) ?_
    have hPc := hP
    have hDc := hD
    have hFc := va_free (wc := (tm_wModel cI cZ a s2 hh)) hD hS hA [0, 1, 2, 3, 4, 5, 6, 7, 8, 9, 10, 11, 12, 13, 14, 15, 16, 17] rfl
    refine va_calli (va_runV (As := [.int p0, .int 2]) (rest := [.int 5, .int p0, .ref (a 0)]) ⟨hx, hb, hml, hown, hts⟩ (kk_X9_of l dC dI cI cZ a s2 hh H.size p0 2 _ hw) (cwV 2 hts gX9_sendsIn_X9_of rfl rfl rfl (by decide +kernel) ⟨Nat.le_of_ble_eq_true rfl, Nat.le_of_ble_eq_true rfl⟩) ⟨tm_blind, va_recv hK hPc (ci := 7) (q0 := 0) rfl rfl, fun U hU hW => ⟨rfl, by rw [hU], by rw [hU]; exact hPc, va_K.moved hW.alike hK, hDc.weaken (fun _ _ _ _ => trivial)⟩⟩ rfl rfl hl.1 rfl (lv_room (Nat.le_of_ble_eq_true rfl)) dX9_sendsIn_162 ⟨Nat.zero_le _, Nat.zero_le _⟩) hS (fun q _ h => hFc q h) hFc (fun r28 s29 t H1 locs ht hvm hw hB hz1 hk1 hS => ?_)
    obtain ⟨hP1, hK1, hD1⟩ := hB
    rw [ht] at hP1
    obtain ⟨hP, hD⟩ := va_join (wr := []) (w1 := (tm_wModel cI cZ a s29 hh)) hP hD [0, 1, 2, 3, 4, 5, 6, 7, 8, 9, 10, 11, 12, 13, 14, 15, 16, 17] [] rfl rfl (by decide) (by decide) hk1 hFc hP1 hD1
    generalize H1 = H at hP hS ⊢
    have hP : va_P (dC, dI) vwCl (tm_wModel cI cZ a s29 hh) H := hP
    have hD : va_D A (tm_wModel cI cZ a s29 hh) := hD
    refine lv_aload_n hx hb dX9_sendsIn_165 rfl (lv_at hl 0 rfl) ?_
    refine lv_iload_n hx hb dX9_sendsIn_166 rfl (lv_at hl 1 rfl) ?_
    refine lv_iconst (v := 3) hx hb dX9_sendsIn_167 (by decide) ?_
    have hPc := hP
    have hDc := hD
    have hFc := va_free (wc := (tm_wModel cI cZ a s29 hh)) hD hS hA [0, 1, 2, 3, 4, 5, 6, 7, 8, 9, 10, 11, 12, 13, 14, 15, 16, 17] rfl
    refine va_calli (va_runV (As := [.int p0, .int 3]) (rest := [.int r28, .int 5, .int p0, .ref (a 0)]) ⟨hx, hb, hml, hown, hts⟩ (kk_X9_of l dC dI cI cZ a s29 hh H.size p0 3 _ hw) (cwV 2 hts gX9_sendsIn_X9_of rfl rfl rfl (by decide +kernel) ⟨Nat.le_of_ble_eq_true rfl, Nat.le_of_ble_eq_true rfl⟩) ⟨tm_blind, va_recv hK hPc (ci := 7) (q0 := 0) rfl rfl, fun U hU hW => ⟨rfl, by rw [hU], by rw [hU]; exact hPc, va_K.moved hW.alike hK, hDc.weaken (fun _ _ _ _ => trivial)⟩⟩ rfl rfl hl.1 rfl (lv_room (Nat.le_of_ble_eq_true rfl)) dX9_sendsIn_168 ⟨Nat.zero_le _, Nat.zero_le _⟩) hS (fun q _ h => hFc q h) hFc (fun r30 s31 t H1 locs ht hvm hw hB hz1 hk1 hS => ?_)
    obtain ⟨hP1, hK1, hD1⟩ := hB
    rw [ht] at hP1
    obtain ⟨hP, hD⟩ := va_join (wr := []) (w1 := (tm_wModel cI cZ a s31 hh)) hP hD [0, 1, 2, 3, 4, 5, 6, 7, 8, 9, 10, 11, 12, 13, 14, 15, 16, 17] [] rfl rfl (by decide) (by decide) hk1 hFc hP1 hD1
    generalize H1 = H at hP hS ⊢
    have hP : va_P (dC, dI) vwCl (tm_wModel cI cZ a s31 hh) H := hP
    have hD : va_D A (tm_wModel cI cZ a s31 hh) := hD
    refine lv_iconst (v := 0) hx hb dX9_sendsIn_171 (by decide) ?_
    refine lv_iconst (v := 0) hx hb dX9_sendsIn_172 (by decide) ?_
    have hPc := hP
    have hDc := hD
    have hFc := va_free (wc := (tm_wModel cI cZ a s31 hh)) hD hS hA [0, 1, 2, 3, 4, 5, 6, 7, 8, 9, 10, 11, 12, 13, 14, 15, 16, 17] rfl
    refine va_callv (va_runV (As := [.int p0, .int 5, .int r28, .int r30, .int 0, .int 0]) (rest := []) ⟨hx, hb, hml, hown, hts⟩ (kk_X9_send l dC dI cI cZ a s31 hh H.size p0 5 r28 r30 0 0 _ hw) (cwV 6 hts gX9_sendsIn_X9_send rfl rfl rfl (by decide +kernel) ⟨Nat.le_of_ble_eq_true rfl, Nat.le_of_ble_eq_true rfl⟩) ⟨tm_blind, va_recv hK hPc (ci := 7) (q0 := 0) rfl rfl, fun U hU hW => ⟨rfl, by rw [hU], by rw [hU]; exact hPc, va_K.moved hW.alike hK, hDc.weaken (fun _ _ _ _ => trivial)⟩⟩ rfl rfl hl.1 rfl (lv_room (Nat.le_of_ble_eq_true rfl)) dX9_sendsIn_173 ⟨Nat.zero_le _, Nat.zero_le _⟩) hS (fun q _ h => hFc q h) hFc (fun s32 t H1 locs ht hvm hw hB hz1 hk1 hS => ?_)
    obtain ⟨hP1, hK1, hD1⟩ := hB
    rw [ht] at hP1
    obtain ⟨hP, hD⟩ := va_join (wr := []) (w1 := (tm_wModel cI cZ a s32 hh)) hP hD [0, 1, 2, 3, 4, 5, 6, 7, 8, 9, 10, 11, 12, 13, 14, 15, 16, 17] [] rfl rfl (by decide) (by decide) hk1 hFc hP1 hD1
    generalize H1 = H at hP hS ⊢
    have hP : va_P (dC, dI) vwCl (tm_wModel cI cZ a s32 hh) H := hP
    have hD : va_D A (tm_wModel cI cZ a s32 hh) := hD
    refine lv_goto (tgt := 208) hx hb dX9_sendsIn_176 (by decide) ?_
    exact W.vret hx hb hr (fun t ht hW => ⟨⟨s32, rfl, hw, by rw [ht]; exact hP, va_K.moved hW.alike hK, hD⟩, hS.F ht⟩) hS.2.2 dX9_sendsIn_208
  have hw := hw.2 c27
  refine (Classical.em (r1 = 6)).elim (fun c33 => ?_) (fun c33 => ?_)
  · have hw := hw.1 c33
    refine lv_tableIn (tgt := 179) hx hb dX9_sendsIn_6 (by rw [c33]; decide) (by rw [c33]; decide) (by rw [c33]; rfl) (by decide) ?_
    refine lv_aload_n hx hb dX9_sendsIn_179 rfl (lv_at hl 0 rfl) ?_
    refine lv_iload_n hx hb dX9_sendsIn_180 rfl (lv_at hl 1 rfl) ?_
    refine lv_bipush (v := 6) hx hb dX9_sendsIn_181 (by decide) ?_
    refine lv_aload_n hx hb dX9_sendsIn_183 rfl (lv_at hl 0 rfl) ?_
    refine lv_iload_n hx hb dX9_sendsIn_184 rfl (lv_at hl 1 rfl) ?_
    refine lv_iconst (v := 2) hx hb dX9_sendsIn_185 (by decide) ?_
    have hPc := hP
    have hDc := hD
    have hFc := va_free (wc := (tm_wModel cI cZ a s2 hh)) hD hS hA [0, 1, 2, 3, 4, 5, 6, 7, 8, 9, 10, 11, 12, 13, 14, 15, 16, 17] rfl
    refine va_calli (va_runV (As := [.int p0, .int 2]) (rest := [.int 6, .int p0, .ref (a 0)]) ⟨hx, hb, hml, hown, hts⟩ (kk_X9_of l dC dI cI cZ a s2 hh H.size p0 2 _ hw) (cwV 2 hts gX9_sendsIn_X9_of rfl rfl rfl (by decide +kernel) ⟨Nat.le_of_ble_eq_true rfl, Nat.le_of_ble_eq_true rfl⟩) ⟨tm_blind, va_recv hK hPc (ci := 7) (q0 := 0) rfl rfl, fun U hU hW => ⟨rfl, by rw [hU], by rw [hU]; exact hPc, va_K.moved hW.alike hK, hDc.weaken (fun _ _ _ _ => trivial)⟩⟩ rfl rfl hl.1 rfl (lv_room (Nat.le_of_ble_eq_true rfl)) dX9_sendsIn_186 ⟨Nat.zero_le _, Nat.zero_le _⟩) hS (fun q _ h => hFc q h) hFc (fun r34 s35 t H1 locs ht hvm hw hB hz1 hk1 hS => ?_)
    obtain ⟨hP1, hK1, hD1⟩ := hB
    rw [ht] at hP1
    obtain ⟨hP, hD⟩ := va_join (wr := []) (w1 := (tm_wModel cI cZ a s35 hh)) hP hD [0, 1, 2, 3, 4, 5, 6, 7, 8, 9, 10, 11, 12, 13, 14, 15, 16, 17] [] rfl rfl (by decide) (by decide) hk1 hFc hP1 hD1
    generalize H1 = H at hP hS ⊢
    have hP : va_P (dC, dI) vwCl (tm_wModel cI cZ a s35 hh) H := hP
    have hD : va_D A (tm_wModel cI cZ a s35 hh) := hD
    refine lv_aload_n hx hb dX9_sendsIn_189 rfl (lv_at hl 0 rfl) ?_
    refine lv_iload_n hx hb dX9_sendsIn_190 rfl (lv_at hl 1 rfl) ?_
    refine lv_iconst (v := 4) hx hb dX9_sendsIn_191 (by decide) ?_
    have hPc := hP
    have hDc := hD
    have hFc := va_free (wc := (tm_wModel cI cZ a s35 hh)) hD hS hA [0, 1, 2, 3, 4, 5, 6, 7, 8, 9, 10, 11, 12, 13, 14, 15, 16, 17] rfl
    refine va_calli (va_runV (As := [.int p0, .int 4]) (rest := [.int r34, .int 6, .int p0, .ref (a 0)]) ⟨hx, hb, hml, hown, hts⟩ (kk_X9_of l dC dI cI cZ a s35 hh H.size p0 4 _ hw) (cwV 2 hts gX9_sendsIn_X9_of rfl rfl rfl (by decide +kernel) ⟨Nat.le_of_ble_eq_true rfl, Nat.le_of_ble_eq_true rfl⟩) ⟨tm_blind, va_recv hK hPc (ci := 7) (q0 := 0) rfl rfl, fun U hU hW => ⟨rfl, by rw [hU], by rw [hU]; exact hPc, va_K.moved hW.alike hK, hDc.weaken (fun _ _ _ _ => trivial)⟩⟩ rfl rfl hl.1 rfl (lv_room (Nat.le_of_ble_eq_true rfl)) dX9_sendsIn_192 ⟨Nat.zero_le _, Nat.zero_le _⟩) hS (fun q _ h => hFc q h) hFc (fun r36 s37 t H1 locs ht hvm hw hB hz1 hk1 hS => ?_)
    obtain ⟨hP1, hK1, hD1⟩ := hB
    rw [ht] at hP1
    obtain ⟨hP, hD⟩ := va_join (wr := []) (w1 := (tm_wModel cI cZ a s37 hh)) hP hD [0, 1, 2, 3, 4, 5, 6, 7, 8, 9, 10, 11, 12, 13, 14, 15, 16, 17] [] rfl rfl (by decide) (by decide) hk1 hFc hP1 hD1
    generalize H1 = H at hP hS ⊢
    have hP : va_P (dC, dI) vwCl (tm_wModel cI cZ a s37 hh) H := hP
    have hD : va_D A (tm_wModel cI cZ a s37 hh) := hD
    refine lv_iconst (v := 0) hx hb dX9_sendsIn_195 (by decide) ?_
    refine lv_iconst (v := 0) hx hb dX9_sendsIn_196 (by decide) ?_
    have hPc := hP
    have hDc := hD
    have hFc := va_free (wc := (tm_wModel cI cZ a s37 hh)) hD hS hA [0, 1, 2, 3, 4, 5, 6, 7, 8, 9, 10, 11, 12, 13, 14, 15, 16, 17] rfl
    refine va_callv (va_runV (As := [.int p0, .int 6, .int r34, .int r36, .int 0, .int 0]) (rest := []) ⟨hx, hb, hml, hown, hts⟩ (kk_X9_send l dC dI cI cZ a s37 hh H.size p0 6 r34 r36 0 0 _ hw) (cwV 6 hts gX9_sendsIn_X9_send rfl rfl rfl (by decide +kernel) ⟨Nat.le_of_ble_eq_true rfl, Nat.le_of_ble_eq_true rfl⟩) ⟨tm_blind, va_recv hK hPc (ci := 7) (q0 := 0) rfl rfl, fun U hU hW => ⟨rfl, by rw [hU], by rw [hU]; exact hPc, va_K.moved hW.alike hK, hDc.weaken (fun _ _ _ _ => trivial)⟩⟩ rfl rfl hl.1 rfl (lv_room (Nat.le_of_ble_eq_true rfl)) dX9_sendsIn_197 ⟨Nat.zero_le _, Nat.zero_le _⟩) hS (fun q _ h => hFc q h) hFc (fun s38 t H1 locs ht hvm hw hB hz1 hk1 hS => ?_)
    obtain ⟨hP1, hK1, hD1⟩ := hB
    rw [ht] at hP1
    obtain ⟨hP, hD⟩ := va_join (wr := []) (w1 := (tm_wModel cI cZ a s38 hh)) hP hD [0, 1, 2, 3, 4, 5, 6, 7, 8, 9, 10, 11, 12, 13, 14, 15, 16, 17] [] rfl rfl (by decide) (by decide) hk1 hFc hP1 hD1
    generalize H1 = H at hP hS ⊢
    have hP : va_P (dC, dI) vwCl (tm_wModel cI cZ a s38 hh) H := hP
    have hD : va_D A (tm_wModel cI cZ a s38 hh) := hD
    refine lv_goto (tgt := 208) hx hb dX9_sendsIn_200 (by decide) ?_
    exact W.vret hx hb hr (fun t ht hW => ⟨⟨s38, rfl, hw, by rw [ht]; exact hP, va_K.moved hW.alike hK, hD⟩, hS.F ht⟩) hS.2.2 dX9_sendsIn_208
  have hw := hw.2 c33
  have nc3 := lv_neT (a := 0) c3 rfl
  have nc5 := lv_neT (a := 1) c5 rfl
  have nc7 := lv_neT (a := 2) c7 rfl
  have nc9 := lv_neT (a := 3) c9 rfl
  have nc24 := lv_neT (a := 4) c24 rfl
  have nc27 := lv_neT (a := 5) c27 rfl
  have nc33 := lv_neT (a := 6) c33 rfl
  refine lv_tableOut (tgt := 203) hx hb dX9_sendsIn_6 (by omega) (by decide) ?_
  refine lv_aload_n hx hb dX9_sendsIn_203 rfl (lv_at hl 0 rfl) ?_
  refine lv_iload_n hx hb dX9_sendsIn_204 rfl (lv_at hl 1 rfl) ?_
  have hPc := hP
  have hDc := hD
  have hFc := va_free (wc := (tm_wModel cI cZ a s2 hh)) hD hS hA [0, 1, 2, 3, 4, 5, 6, 7, 8, 9, 10, 11, 12, 13, 14, 15, 16, 17] rfl
  refine va_callv (va_runV (As := [.int p0]) (rest := []) ⟨hx, hb, hml, hown, hts⟩ (kk_X9_sendsFrame l dC dI cI cZ a s2 hh H.size p0 _ hw) (cwV 1 hts gX9_sendsIn_X9_sendsFrame rfl rfl rfl (by decide +kernel) ⟨Nat.le_of_ble_eq_true rfl, Nat.le_of_ble_eq_true rfl⟩) ⟨tm_blind, va_recv hK hPc (ci := 7) (q0 := 0) rfl rfl, fun U hU hW => ⟨rfl, by rw [hU], by rw [hU]; exact hPc, va_K.moved hW.alike hK, hDc.weaken (fun _ _ _ _ => trivial)⟩⟩ rfl rfl hl.1 rfl (lv_room (Nat.le_of_ble_eq_true rfl)) dX9_sendsIn_205 ⟨Nat.zero_le _, Nat.zero_le _⟩) hS (fun q _ h => hFc q h) hFc (fun s39 t H1 locs ht hvm hw hB hz1 hk1 hS => ?_)
  obtain ⟨hP1, hK1, hD1⟩ := hB
  rw [ht] at hP1
  obtain ⟨hP, hD⟩ := va_join (wr := []) (w1 := (tm_wModel cI cZ a s39 hh)) hP hD [0, 1, 2, 3, 4, 5, 6, 7, 8, 9, 10, 11, 12, 13, 14, 15, 16, 17] [] rfl rfl (by decide) (by decide) hk1 hFc hP1 hD1
  generalize H1 = H at hP hS ⊢
  have hP : va_P (dC, dI) vwCl (tm_wModel cI cZ a s39 hh) H := hP
  have hD : va_D A (tm_wModel cI cZ a s39 hh) := hD
  exact W.vret hx hb hr (fun t ht hW => ⟨⟨s39, rfl, hw, by rw [ht]; exact hP, va_K.moved hW.alike hK, hD⟩, hS.F ht⟩) hS.2.2 dX9_sendsIn_208
def wp_X9_ones_4 (K : Int32 → Prop) : Nat → Int32 → Int32 → Int32 → Prop
  | 0, _, _, _ => False
  | n + 1, v0, v1, v2 => (((8 : Int32) ≤ v2 → K v1) ∧ (¬ (8 : Int32) ≤ v2 → (∀ x2 : Int32, x2 = (v1 + ((v0 >>> (v2 &&& 31)) &&& 1)) → (∀ x3 : Int32, x3 = v2 + 1 → wp_X9_ones_4 K n v0 x2 x3))))
def wp_X9_ones (p0 : Int32) (K : Int32 → Prop) : Prop := ∃ nf : Nat, wp_X9_ones_4 K nf p0 0 0
set_option maxRecDepth 100000 in
set_option maxHeartbeats 4000000 in
theorem kk_X9_ones (l : Launch) (dC : Nat → ClassId) (dI : Nat → Nat → Nat) (cI cZ : ClassId) (sz : Nat) (p0 : Int32) (K : Int32 → Prop) (hw : wp_X9_ones p0 K) : Met l yX9_ones wsX9_ones ({ frames := 0, cells := 0, slots := 0, locals := 0 }) (va_Pc [.int p0] (tm_Pre dC dI cI cZ ([] : va_W) sz)) (va_Qi (fun (r : Int32) (_ : Unit) => K r) (fun (_ : Unit) t => tm_At dC dI cI cZ (va_A ([] : va_W) sz) ([] : va_W) t) (va_A ([] : va_W) sz)) 0 0 (va_A ([] : va_W) sz) := by
  refine Met.ofW (cc := cX9_ones) (maxL := 3) (ret := (some .int)) (by decide +kernel) rfl ?_
  intro p e z m args below meth c z₁ B hml hv
  obtain ⟨rfl, hsz, hP, hK, hD0⟩ := hv
  have hx := B.exec
  have hb := B.bytes
  have hr := B.returns
  have hts := atoms_spec (ws := wsX9_ones) B.pre
  have hown : z.vm.findClass RX9 = some m.cls := findClass_of_methodNamed B.named
  have hlocks := B.notSynchronized
  subst hsz
  have hD := hD0.self (sz := z.heap.size)
  generalize hAe : va_A ([] : va_W) z.heap.size = A at hD ⊢
  have hA : ∀ q : Nat, z.heap.size ≤ q → A q := fun q h => by rw [← hAe]; exact Or.inr h
  have hS : va_S A z.heap z.heap [] := va_S.rf
  have b4 : ∀ (n : Nat) (v0 : Int32) (v1 : Int32) (v2 : Int32) (H : Heap) (locs : List Loc) (ls : Array Slot), wp_X9_ones_4 K n v0 v1 v2 → va_P (dC, dI) vwCl ([] : va_W) H → va_D A ([] : va_W) → va_S A z.heap H locs → lv_has ls 3 [(0, .int v0), (1, .int v1), (2, .int v2)] → W p l e (headSpec wsX9_ones ({ frames := 0, cells := 0, slots := 0, locals := 0 })).room z m (([.int p0] : List Value).toArray) below meth c H locs 0 0 (MQ below (va_Qi (fun (r : Int32) (_ : Unit) => K r) (fun (_ : Unit) t => tm_At dC dI cI cZ A ([] : va_W) t) A) (([.int p0] : List Value).toArray) z 0 0 A) (F0 m 4 ls []) := by
    intro n
    induction n with
    | zero => intro v0 v1 v2 H locs ls hw hP hD hS hl; unfold wp_X9_ones_4 at hw; exact hw.elim
    | succ n ih =>
      intro v0 v1 v2 H locs ls hw hP hD hS hl
      unfold wp_X9_ones_4 at hw
      refine lv_iload_n hx hb dX9_ones_4 rfl (lv_at hl 2 rfl) ?_
      refine lv_bipush (v := 8) hx hb dX9_ones_5 (by decide) ?_
      refine lv_icmp_ge (tgt := 24) hx hb dX9_ones_7 (by decide) (fun c1 => ?_) (fun c1 => ?_)
      · have hw := hw.1 c1
        refine lv_iload_n hx hb dX9_ones_24 rfl (lv_at hl 1 rfl) ?_
        exact W.iret (v := v1) hx hb hr (fun t ht hW => ⟨⟨v1, (), rfl, hw, by rw [ht]; exact hP, va_K.moved hW.alike hK, hD⟩, hS.F ht⟩) hS.2.2 dX9_ones_25
      · have hw := hw.2 c1
        refine lv_iload_n hx hb dX9_ones_10 rfl (lv_at hl 1 rfl) ?_
        refine lv_iload_n hx hb dX9_ones_11 rfl (lv_at hl 0 rfl) ?_
        refine lv_iload_n hx hb dX9_ones_12 rfl (lv_at hl 2 rfl) ?_
        refine lv_ishr hx hb dX9_ones_13 ?_
        refine lv_iconst (v := 1) hx hb dX9_ones_14 (by decide) ?_
        refine lv_iand hx hb dX9_ones_15 ?_
        refine lv_iadd hx hb dX9_ones_16 ?_
        refine lv_topi (fun x2 ex2 => ?_)
        have hw := hw x2 ex2
        refine lv_istore_n (lv' := [(1, .int x2), (0, .int v0), (2, .int v2)]) hx hb dX9_ones_17 rfl hl (by decide) rfl (fun ls hl => ?_)
        obtain ⟨x3, ex3⟩ : ∃ y : Int32, y = v2 + 1 := ⟨_, rfl⟩
        have hw := hw x3 ex3
        refine lv_iinc (v := x3) (lv' := [(2, .int x3), (1, .int x2), (0, .int v0)]) hx hb dX9_ones_18 hl (k := 2) rfl (by rw [ex3]; rfl) (by decide) rfl (fun ls hl => ?_)
        refine lv_goto (tgt := 4) hx hb dX9_ones_21 (by decide) ?_
        exact ih v0 x2 x3 _ _ _ hw hP hD hS (lv_sub hl [2, 1, 0] rfl)
  have hl := lv_entry ([.int p0]) (n := 3) (Nat.le_of_ble_eq_true rfl)
  rw [lg_entry_eq]
  generalize (lg_sl ([.int p0]) ++ List.replicate (3 - (lg_sl ([.int p0])).length) Slot.unset).toArray = ls at hl ⊢
  have hl : lv_has ls 3 [(0, .int p0)] := hl
  unfold wp_X9_ones at hw
  refine lv_iconst (v := 0) hx hb dX9_ones_0 (by decide) ?_
  refine lv_istore_n (lv' := [(1, .int 0), (0, .int p0)]) hx hb dX9_ones_1 rfl hl (by decide) rfl (fun ls hl => ?_)
  refine lv_iconst (v := 0) hx hb dX9_ones_2 (by decide) ?_
  refine lv_istore_n (lv' := [(2, .int 0), (1, .int 0), (0, .int p0)]) hx hb dX9_ones_3 rfl hl (by decide) rfl (fun ls hl => ?_)
  obtain ⟨nf, hw⟩ := hw
  exact b4 nf p0 0 0 _ _ _ hw hP hD hS (lv_sub hl [2, 1, 0] rfl)
def wp_X9_looksInData_84 (K : tm_St → Prop) (v1 : Int32) (s : tm_St) : Prop := (wp_X9_of v1 15 s (fun r10 s11 => (wp_X9_ones r10 (fun r12 => ((r12 < 3 → K s11) ∧ (¬ r12 < 3 → (wp_X9_of v1 3 s11 (fun r15 s16 => ((r15 ≤ 1 → K s16) ∧ (¬ r15 ≤ 1 → (wp_X9_of v1 1 s16 (fun r18 s19 => ((r18 < 8 → K s19) ∧ (¬ r18 < 8 → (wp_X9_add v1 13 1 s19 (fun s21 => (wp_X9_add v1 2 1 s21 (fun s22 => (wp_X9_add v1 3 (-1) s22 (fun s23 => (wp_X9_into v1 5 s23 (fun s24 => K s24))))))))))))))))))))))
def wp_X9_looksInData_40 (K : tm_St → Prop) (v1 : Int32) (t1 : Int32) (t2 : Int32) (s : tm_St) : Prop := (wp_X9_put t1 t2 0 s (fun s6 => (wp_X9_of v1 10 s6 (fun r7 s8 => ((r7 < ((2 * (s8 0 8)) + 4) → wp_X9_looksInData_84 K v1 s8) ∧ (¬ r7 < ((2 * (s8 0 8)) + 4) → (wp_X9_put v1 10 0 s8 (fun s25 => (wp_X9_of v1 8 s25 (fun r26 s27 => (wp_X9_put v1 7 r26 s27 (fun s28 => wp_X9_looksInData_84 K v1 s28))))))))))))
def wp_X9_looksInData (p0 : Int32) (s0 : tm_St) (K : tm_St → Prop) : Prop := (wp_X9_of p0 8 s0 (fun r1 s2 => (wp_X9_of p0 7 s2 (fun r3 s4 => ((r3 ≤ r1 → wp_X9_looksInData_40 K p0 p0 10 s4) ∧ (¬ r3 ≤ r1 → ((¬ (s4 0 27) = 0 → wp_X9_looksInData_40 K p0 p0 10 s4) ∧ ((s4 0 27) = 0 → (wp_X9_of p0 10 s4 (fun r30 s31 => (wp_X9_put p0 10 (r30 + 1) s31 (fun s32 => (wp_X9_of p0 10 s32 (fun r33 s34 => ((r33 < ((2 * (s34 0 8)) + 4) → wp_X9_looksInData_84 K p0 s34) ∧ (¬ r33 < ((2 * (s34 0 8)) + 4) → (wp_X9_put p0 10 0 s34 (fun s36 => (wp_X9_of p0 8 s36 (fun r37 s38 => (wp_X9_put p0 7 r37 s38 (fun s39 => wp_X9_looksInData_84 K p0 s39))))))))))))))))))))))
set_option maxRecDepth 100000 in
set_option maxHeartbeats 4000000 in
theorem kk_X9_looksInData (l : Launch) (dC : Nat → ClassId) (dI : Nat → Nat → Nat) (cI cZ : ClassId) (a : Nat → Nat) (s0 : tm_St) (hh : Int64) (sz : Nat) (p0 : Int32) (K : tm_St → Prop) (hw : wp_X9_looksInData p0 s0 K) : Met l yX9_looksInData wsX9_looksInData ({ frames := 3, cells := 0, slots := 0, locals := 68 }) (va_Pc [.ref (a 0), .int p0] (tm_Pre dC dI cI cZ (tm_wModel cI cZ a s0 hh) sz)) (va_Qv (fun (u : tm_St) => K u) (fun (u : tm_St) t => tm_At dC dI cI cZ (va_A (tm_wModel cI cZ a s0 hh) sz) (tm_wModel cI cZ a u hh) t) (va_A (tm_wModel cI cZ a s0 hh) sz)) 0 0 (va_A (tm_wModel cI cZ a s0 hh) sz) := by
  refine Met.ofW (cc := cX9_looksInData) (maxL := 2) (ret := none) (by decide +kernel) rfl ?_
  intro p e z m args below meth c z₁ B hml hv
  obtain ⟨rfl, hsz, hP, hK, hD0⟩ := hv
  have hx := B.exec
  have hb := B.bytes
  have hr := B.returns
  have hts := atoms_spec (ws := wsX9_looksInData) B.pre
  have hown : z.vm.findClass RX9 = some m.cls := findClass_of_methodNamed B.named
  have hlocks := B.notSynchronized
  subst hsz
  have hD := hD0.self (sz := z.heap.size)
  generalize hAe : va_A (tm_wModel cI cZ a s0 hh) z.heap.size = A at hD ⊢
  have hA : ∀ q : Nat, z.heap.size ≤ q → A q := fun q h => by rw [← hAe]; exact Or.inr h
  have hS : va_S A z.heap z.heap [] := va_S.rf
  have h_f34 := hts (.fieldLink RX9 34 "TwoModemsModel" "delay" "I") (by decide +kernel)
  have h_in9 : ∀ w ∈ u_ws RX9 TX9 30, w ∈ wsX9_looksInData := by decide +kernel
  have h_f147 := hts (.fieldLink RX9 147 "TwoModemsModel" "grew" "Z") (by decide +kernel)
  have b84 : ∀ (v1 : Int32) (s : tm_St) (H : Heap) (locs : List Loc) (ls : Array Slot), wp_X9_looksInData_84 K v1 s → va_P (dC, dI) vwCl (tm_wModel cI cZ a s hh) H → va_D A (tm_wModel cI cZ a s hh) → va_S A z.heap H locs → lv_has ls 2 [(0, .ref (a 0)), (1, .int v1)] → W p l e (headSpec wsX9_looksInData ({ frames := 3, cells := 0, slots := 0, locals := 68 })).room z m (([.ref (a 0), .int p0] : List Value).toArray) below meth c H locs 0 0 (MQ below (va_Qv (fun (u : tm_St) => K u) (fun (u : tm_St) t => tm_At dC dI cI cZ A (tm_wModel cI cZ a u hh) t) A) (([.ref (a 0), .int p0] : List Value).toArray) z 0 0 A) (F0 m 84 ls []) := by
    intro v1 s H locs ls hw hP hD hS hl
    unfold wp_X9_looksInData_84 at hw
    refine lv_aload_n hx hb dX9_looksInData_84 rfl (lv_at hl 0 rfl) ?_
    refine lv_iload_n hx hb dX9_looksInData_85 rfl (lv_at hl 1 rfl) ?_
    refine lv_bipush (v := 15) hx hb dX9_looksInData_86 (by decide) ?_
    have hPc := hP
    have hDc := hD
    have hFc := va_free (wc := (tm_wModel cI cZ a s hh)) hD hS hA [0, 1, 2, 3, 4, 5, 6, 7, 8, 9, 10, 11, 12, 13, 14, 15, 16, 17] rfl
    refine va_calli (va_runV (As := [.int v1, .int 15]) (rest := []) ⟨hx, hb, hml, hown, hts⟩ (kk_X9_of l dC dI cI cZ a s hh H.size v1 15 _ hw) (cwV 2 hts gX9_looksInData_X9_of rfl rfl rfl (by decide +kernel) ⟨Nat.le_of_ble_eq_true rfl, Nat.le_of_ble_eq_true rfl⟩) ⟨tm_blind, va_recv hK hPc (ci := 7) (q0 := 0) rfl rfl, fun U hU hW => ⟨rfl, by rw [hU], by rw [hU]; exact hPc, va_K.moved hW.alike hK, hDc.weaken (fun _ _ _ _ => trivial)⟩⟩ rfl rfl hl.1 rfl (lv_room (Nat.le_of_ble_eq_true rfl)) dX9_looksInData_88 ⟨Nat.zero_le _, Nat.zero_le _⟩) hS (fun q _ h => hFc q h) hFc (fun r10 s11 t H1 locs ht hvm hw hB hz1 hk1 hS => ?_)
    obtain ⟨hP1, hK1, hD1⟩ := hB
    rw [ht] at hP1
    obtain ⟨hP, hD⟩ := va_join (wr := []) (w1 := (tm_wModel cI cZ a s11 hh)) hP hD [0, 1, 2, 3, 4, 5, 6, 7, 8, 9, 10, 11, 12, 13, 14, 15, 16, 17] [] rfl rfl (by decide) (by decide) hk1 hFc hP1 hD1
    generalize H1 = H at hP hS ⊢
    have hP : va_P (dC, dI) vwCl (tm_wModel cI cZ a s11 hh) H := hP
    have hD : va_D A (tm_wModel cI cZ a s11 hh) := hD
    have hPc := hP.sub (ws' := ([] : va_W)) [] rfl
    have hDc := hD.sub (ws' := ([] : va_W)) [] (by decide) rfl
    have hFc := va_free (wc := ([] : va_W)) hD hS hA [] rfl
    refine va_calli (va_runS (As := [.int r10]) (rest := []) ⟨hx, hb, hml, hown, hts⟩ (kk_X9_ones l dC dI cI cZ H.size r10 _ hw) (va_cwS 1 hts gX9_looksInData_X9_ones rfl rfl rfl (by decide +kernel) ⟨Nat.le_of_ble_eq_true rfl, Nat.le_of_ble_eq_true rfl⟩) ⟨tm_blind, fun U hU hW => ⟨rfl, by rw [hU], by rw [hU]; exact hPc, va_K.moved hW.alike hK, hDc.weaken (fun _ _ _ _ => trivial)⟩⟩ rfl rfl hl.1 rfl (lv_room (Nat.le_of_ble_eq_true rfl)) dX9_looksInData_91 ⟨Nat.zero_le _, Nat.zero_le _⟩) hS (fun q _ h => hFc q h) hFc (fun r12 u t H1 locs ht hvm hw hB hz1 hk1 hS => ?_)
    obtain ⟨hP1, hK1, hD1⟩ := hB
    rw [ht] at hP1
    obtain ⟨hP, hD⟩ := va_join (wr := (tm_wModel cI cZ a s11 hh)) (w1 := ([] : va_W)) hP hD [] [0, 1, 2, 3, 4, 5, 6, 7, 8, 9, 10, 11, 12, 13, 14, 15, 16, 17] rfl rfl (by decide) (by decide) hk1 hFc hP1 hD1
    rw [List.append_nil] at hP hD
    generalize H1 = H at hP hS ⊢
    refine lv_iconst (v := 3) hx hb dX9_looksInData_94 (by decide) ?_
    refine lv_icmp_lt (tgt := 147) hx hb dX9_looksInData_95 (by decide) (fun c14 => ?_) (fun c14 => ?_)
    · have hw := hw.1 c14
      exact W.vret hx hb hr (fun t ht hW => ⟨⟨s11, rfl, hw, by rw [ht]; exact hP, va_K.moved hW.alike hK, hD⟩, hS.F ht⟩) hS.2.2 dX9_looksInData_147
    · have hw := hw.2 c14
      refine lv_aload_n hx hb dX9_looksInData_98 rfl (lv_at hl 0 rfl) ?_
      refine lv_iload_n hx hb dX9_looksInData_99 rfl (lv_at hl 1 rfl) ?_
      refine lv_iconst (v := 3) hx hb dX9_looksInData_100 (by decide) ?_
      have hPc := hP
      have hDc := hD
      have hFc := va_free (wc := (tm_wModel cI cZ a s11 hh)) hD hS hA [0, 1, 2, 3, 4, 5, 6, 7, 8, 9, 10, 11, 12, 13, 14, 15, 16, 17] rfl
      refine va_calli (va_runV (As := [.int v1, .int 3]) (rest := []) ⟨hx, hb, hml, hown, hts⟩ (kk_X9_of l dC dI cI cZ a s11 hh H.size v1 3 _ hw) (cwV 2 hts gX9_looksInData_X9_of rfl rfl rfl (by decide +kernel) ⟨Nat.le_of_ble_eq_true rfl, Nat.le_of_ble_eq_true rfl⟩) ⟨tm_blind, va_recv hK hPc (ci := 7) (q0 := 0) rfl rfl, fun U hU hW => ⟨rfl, by rw [hU], by rw [hU]; exact hPc, va_K.moved hW.alike hK, hDc.weaken (fun _ _ _ _ => trivial)⟩⟩ rfl rfl hl.1 rfl (lv_room (Nat.le_of_ble_eq_true rfl)) dX9_looksInData_101 ⟨Nat.zero_le _, Nat.zero_le _⟩) hS (fun q _ h => hFc q h) hFc (fun r15 s16 t H1 locs ht hvm hw hB hz1 hk1 hS => ?_)
      obtain ⟨hP1, hK1, hD1⟩ := hB
      rw [ht] at hP1
      obtain ⟨hP, hD⟩ := va_join (wr := []) (w1 := (tm_wModel cI cZ a s16 hh)) hP hD [0, 1, 2, 3, 4, 5, 6, 7, 8, 9, 10, 11, 12, 13, 14, 15, 16, 17] [] rfl rfl (by decide) (by decide) hk1 hFc hP1 hD1
      generalize H1 = H at hP hS ⊢
      have hP : va_P (dC, dI) vwCl (tm_wModel cI cZ a s16 hh) H := hP
      have hD : va_D A (tm_wModel cI cZ a s16 hh) := hD
      refine lv_iconst (v := 1) hx hb dX9_looksInData_104 (by decide) ?_
      refine lv_icmp_le (tgt := 147) hx hb dX9_looksInData_105 (by decide) (fun c17 => ?_) (fun c17 => ?_)
      · have hw := hw.1 c17
        exact W.vret hx hb hr (fun t ht hW => ⟨⟨s16, rfl, hw, by rw [ht]; exact hP, va_K.moved hW.alike hK, hD⟩, hS.F ht⟩) hS.2.2 dX9_looksInData_147
      · have hw := hw.2 c17
        refine lv_aload_n hx hb dX9_looksInData_108 rfl (lv_at hl 0 rfl) ?_
        refine lv_iload_n hx hb dX9_looksInData_109 rfl (lv_at hl 1 rfl) ?_
        refine lv_iconst (v := 1) hx hb dX9_looksInData_110 (by decide) ?_
        have hPc := hP
        have hDc := hD
        have hFc := va_free (wc := (tm_wModel cI cZ a s16 hh)) hD hS hA [0, 1, 2, 3, 4, 5, 6, 7, 8, 9, 10, 11, 12, 13, 14, 15, 16, 17] rfl
        refine va_calli (va_runV (As := [.int v1, .int 1]) (rest := []) ⟨hx, hb, hml, hown, hts⟩ (kk_X9_of l dC dI cI cZ a s16 hh H.size v1 1 _ hw) (cwV 2 hts gX9_looksInData_X9_of rfl rfl rfl (by decide +kernel) ⟨Nat.le_of_ble_eq_true rfl, Nat.le_of_ble_eq_true rfl⟩) ⟨tm_blind, va_recv hK hPc (ci := 7) (q0 := 0) rfl rfl, fun U hU hW => ⟨rfl, by rw [hU], by rw [hU]; exact hPc, va_K.moved hW.alike hK, hDc.weaken (fun _ _ _ _ => trivial)⟩⟩ rfl rfl hl.1 rfl (lv_room (Nat.le_of_ble_eq_true rfl)) dX9_looksInData_111 ⟨Nat.zero_le _, Nat.zero_le _⟩) hS (fun q _ h => hFc q h) hFc (fun r18 s19 t H1 locs ht hvm hw hB hz1 hk1 hS => ?_)
        obtain ⟨hP1, hK1, hD1⟩ := hB
        rw [ht] at hP1
        obtain ⟨hP, hD⟩ := va_join (wr := []) (w1 := (tm_wModel cI cZ a s19 hh)) hP hD [0, 1, 2, 3, 4, 5, 6, 7, 8, 9, 10, 11, 12, 13, 14, 15, 16, 17] [] rfl rfl (by decide) (by decide) hk1 hFc hP1 hD1
        generalize H1 = H at hP hS ⊢
        have hP : va_P (dC, dI) vwCl (tm_wModel cI cZ a s19 hh) H := hP
        have hD : va_D A (tm_wModel cI cZ a s19 hh) := hD
        refine lv_bipush (v := 8) hx hb dX9_looksInData_114 (by decide) ?_
        refine lv_icmp_lt (tgt := 147) hx hb dX9_looksInData_116 (by decide) (fun c20 => ?_) (fun c20 => ?_)
        · have hw := hw.1 c20
          exact W.vret hx hb hr (fun t ht hW => ⟨⟨s19, rfl, hw, by rw [ht]; exact hP, va_K.moved hW.alike hK, hD⟩, hS.F ht⟩) hS.2.2 dX9_looksInData_147
        · have hw := hw.2 c20
          refine lv_aload_n hx hb dX9_looksInData_119 rfl (lv_at hl 0 rfl) ?_
          refine lv_iload_n hx hb dX9_looksInData_120 rfl (lv_at hl 1 rfl) ?_
          refine lv_bipush (v := 13) hx hb dX9_looksInData_121 (by decide) ?_
          refine lv_iconst (v := 1) hx hb dX9_looksInData_123 (by decide) ?_
          have hPc := hP
          have hDc := hD
          have hFc := va_free (wc := (tm_wModel cI cZ a s19 hh)) hD hS hA [0, 1, 2, 3, 4, 5, 6, 7, 8, 9, 10, 11, 12, 13, 14, 15, 16, 17] rfl
          refine va_callv (va_runV (As := [.int v1, .int 13, .int 1]) (rest := []) ⟨hx, hb, hml, hown, hts⟩ (kk_X9_add l dC dI cI cZ a s19 hh H.size v1 13 1 _ hw) (cwV 3 hts gX9_looksInData_X9_add rfl rfl rfl (by decide +kernel) ⟨Nat.le_of_ble_eq_true rfl, Nat.le_of_ble_eq_true rfl⟩) ⟨tm_blind, va_recv hK hPc (ci := 7) (q0 := 0) rfl rfl, fun U hU hW => ⟨rfl, by rw [hU], by rw [hU]; exact hPc, va_K.moved hW.alike hK, hDc.weaken (fun _ _ _ _ => trivial)⟩⟩ rfl rfl hl.1 rfl (lv_room (Nat.le_of_ble_eq_true rfl)) dX9_looksInData_124 ⟨Nat.zero_le _, Nat.zero_le _⟩) hS (fun q _ h => hFc q h) hFc (fun s21 t H1 locs ht hvm hw hB hz1 hk1 hS => ?_)
          obtain ⟨hP1, hK1, hD1⟩ := hB
          rw [ht] at hP1
          obtain ⟨hP, hD⟩ := va_join (wr := []) (w1 := (tm_wModel cI cZ a s21 hh)) hP hD [0, 1, 2, 3, 4, 5, 6, 7, 8, 9, 10, 11, 12, 13, 14, 15, 16, 17] [] rfl rfl (by decide) (by decide) hk1 hFc hP1 hD1
          generalize H1 = H at hP hS ⊢
          have hP : va_P (dC, dI) vwCl (tm_wModel cI cZ a s21 hh) H := hP
          have hD : va_D A (tm_wModel cI cZ a s21 hh) := hD
          refine lv_aload_n hx hb dX9_looksInData_127 rfl (lv_at hl 0 rfl) ?_
          refine lv_iload_n hx hb dX9_looksInData_128 rfl (lv_at hl 1 rfl) ?_
          refine lv_iconst (v := 2) hx hb dX9_looksInData_129 (by decide) ?_
          refine lv_iconst (v := 1) hx hb dX9_looksInData_130 (by decide) ?_
          have hPc := hP
          have hDc := hD
          have hFc := va_free (wc := (tm_wModel cI cZ a s21 hh)) hD hS hA [0, 1, 2, 3, 4, 5, 6, 7, 8, 9, 10, 11, 12, 13, 14, 15, 16, 17] rfl
          refine va_callv (va_runV (As := [.int v1, .int 2, .int 1]) (rest := []) ⟨hx, hb, hml, hown, hts⟩ (kk_X9_add l dC dI cI cZ a s21 hh H.size v1 2 1 _ hw) (cwV 3 hts gX9_looksInData_X9_add rfl rfl rfl (by decide +kernel) ⟨Nat.le_of_ble_eq_true rfl, Nat.le_of_ble_eq_true rfl⟩) ⟨tm_blind, va_recv hK hPc (ci := 7) (q0 := 0) rfl rfl, fun U hU hW => ⟨rfl, by rw [hU], by rw [hU]; exact hPc, va_K.moved hW.alike hK, hDc.weaken (fun _ _ _ _ => trivial)⟩⟩ rfl rfl hl.1 rfl (lv_room (Nat.le_of_ble_eq_true rfl)) dX9_looksInData_131 ⟨Nat.zero_le _, Nat.zero_le _⟩) hS (fun q _ h => hFc q h) hFc (fun s22 t H1 locs ht hvm hw hB hz1 hk1 hS => ?_)
          obtain ⟨hP1, hK1, hD1⟩ := hB
          rw [ht] at hP1
          obtain ⟨hP, hD⟩ := va_join (wr := []) (w1 := (tm_wModel cI cZ a s22 hh)) hP hD [0, 1, 2, 3, 4, 5, 6, 7, 8, 9, 10, 11, 12, 13, 14, 15, 16, 17] [] rfl rfl (by decide) (by decide) hk1 hFc hP1 hD1
          generalize H1 = H at hP hS ⊢
          have hP : va_P (dC, dI) vwCl (tm_wModel cI cZ a s22 hh) H := hP
          have hD : va_D A (tm_wModel cI cZ a s22 hh) := hD
          refine lv_aload_n hx hb dX9_looksInData_134 rfl (lv_at hl 0 rfl) ?_
          refine lv_iload_n hx hb dX9_looksInData_135 rfl (lv_at hl 1 rfl) ?_
          refine lv_iconst (v := 3) hx hb dX9_looksInData_136 (by decide) ?_
          refine lv_iconst (v := (-1)) hx hb dX9_looksInData_137 (by decide) ?_
          have hPc := hP
          have hDc := hD
          have hFc := va_free (wc := (tm_wModel cI cZ a s22 hh)) hD hS hA [0, 1, 2, 3, 4, 5, 6, 7, 8, 9, 10, 11, 12, 13, 14, 15, 16, 17] rfl
          refine va_callv (va_runV (As := [.int v1, .int 3, .int (-1)]) (rest := []) ⟨hx, hb, hml, hown, hts⟩ (kk_X9_add l dC dI cI cZ a s22 hh H.size v1 3 (-1) _ hw) (cwV 3 hts gX9_looksInData_X9_add rfl rfl rfl (by decide +kernel) ⟨Nat.le_of_ble_eq_true rfl, Nat.le_of_ble_eq_true rfl⟩) ⟨tm_blind, va_recv hK hPc (ci := 7) (q0 := 0) rfl rfl, fun U hU hW => ⟨rfl, by rw [hU], by rw [hU]; exact hPc, va_K.moved hW.alike hK, hDc.weaken (fun _ _ _ _ => trivial)⟩⟩ rfl rfl hl.1 rfl (lv_room (Nat.le_of_ble_eq_true rfl)) dX9_looksInData_138 ⟨Nat.zero_le _, Nat.zero_le _⟩) hS (fun q _ h => hFc q h) hFc (fun s23 t H1 locs ht hvm hw hB hz1 hk1 hS => ?_)
          obtain ⟨hP1, hK1, hD1⟩ := hB
          rw [ht] at hP1
          obtain ⟨hP, hD⟩ := va_join (wr := []) (w1 := (tm_wModel cI cZ a s23 hh)) hP hD [0, 1, 2, 3, 4, 5, 6, 7, 8, 9, 10, 11, 12, 13, 14, 15, 16, 17] [] rfl rfl (by decide) (by decide) hk1 hFc hP1 hD1
          generalize H1 = H at hP hS ⊢
          have hP : va_P (dC, dI) vwCl (tm_wModel cI cZ a s23 hh) H := hP
          have hD : va_D A (tm_wModel cI cZ a s23 hh) := hD
          refine lv_aload_n hx hb dX9_looksInData_141 rfl (lv_at hl 0 rfl) ?_
          refine lv_iload_n hx hb dX9_looksInData_142 rfl (lv_at hl 1 rfl) ?_
          refine lv_iconst (v := 5) hx hb dX9_looksInData_143 (by decide) ?_
          have hPc := hP
          have hDc := hD
          have hFc := va_free (wc := (tm_wModel cI cZ a s23 hh)) hD hS hA [0, 1, 2, 3, 4, 5, 6, 7, 8, 9, 10, 11, 12, 13, 14, 15, 16, 17] rfl
          refine va_callv (va_runV (As := [.int v1, .int 5]) (rest := []) ⟨hx, hb, hml, hown, hts⟩ (kk_X9_into l dC dI cI cZ a s23 hh H.size v1 5 _ hw) (cwV 2 hts gX9_looksInData_X9_into rfl rfl rfl (by decide +kernel) ⟨Nat.le_of_ble_eq_true rfl, Nat.le_of_ble_eq_true rfl⟩) ⟨tm_blind, va_recv hK hPc (ci := 7) (q0 := 0) rfl rfl, fun U hU hW => ⟨rfl, by rw [hU], by rw [hU]; exact hPc, va_K.moved hW.alike hK, hDc.weaken (fun _ _ _ _ => trivial)⟩⟩ rfl rfl hl.1 rfl (lv_room (Nat.le_of_ble_eq_true rfl)) dX9_looksInData_144 ⟨Nat.zero_le _, Nat.zero_le _⟩) hS (fun q _ h => hFc q h) hFc (fun s24 t H1 locs ht hvm hw hB hz1 hk1 hS => ?_)
          obtain ⟨hP1, hK1, hD1⟩ := hB
          rw [ht] at hP1
          obtain ⟨hP, hD⟩ := va_join (wr := []) (w1 := (tm_wModel cI cZ a s24 hh)) hP hD [0, 1, 2, 3, 4, 5, 6, 7, 8, 9, 10, 11, 12, 13, 14, 15, 16, 17] [] rfl rfl (by decide) (by decide) hk1 hFc hP1 hD1
          generalize H1 = H at hP hS ⊢
          have hP : va_P (dC, dI) vwCl (tm_wModel cI cZ a s24 hh) H := hP
          have hD : va_D A (tm_wModel cI cZ a s24 hh) := hD
          exact W.vret hx hb hr (fun t ht hW => ⟨⟨s24, rfl, hw, by rw [ht]; exact hP, va_K.moved hW.alike hK, hD⟩, hS.F ht⟩) hS.2.2 dX9_looksInData_147
  have b40 : ∀ (v1 : Int32) (t1 : Int32) (t2 : Int32) (s : tm_St) (H : Heap) (locs : List Loc) (ls : Array Slot), wp_X9_looksInData_40 K v1 t1 t2 s → va_P (dC, dI) vwCl (tm_wModel cI cZ a s hh) H → va_D A (tm_wModel cI cZ a s hh) → va_S A z.heap H locs → lv_has ls 2 [(0, .ref (a 0)), (1, .int v1)] → W p l e (headSpec wsX9_looksInData ({ frames := 3, cells := 0, slots := 0, locals := 68 })).room z m (([.ref (a 0), .int p0] : List Value).toArray) below meth c H locs 0 0 (MQ below (va_Qv (fun (u : tm_St) => K u) (fun (u : tm_St) t => tm_At dC dI cI cZ A (tm_wModel cI cZ a u hh) t) A) (([.ref (a 0), .int p0] : List Value).toArray) z 0 0 A) (F0 m 40 ls [.int t2, .int t1, .ref (a 0)]) := by
    intro v1 t1 t2 s H locs ls hw hP hD hS hl
    unfold wp_X9_looksInData_40 at hw
    refine lv_iconst (v := 0) hx hb dX9_looksInData_40 (by decide) ?_
    have hPc := hP
    have hDc := hD
    have hFc := va_free (wc := (tm_wModel cI cZ a s hh)) hD hS hA [0, 1, 2, 3, 4, 5, 6, 7, 8, 9, 10, 11, 12, 13, 14, 15, 16, 17] rfl
    refine va_callv (va_runV (As := [.int t1, .int t2, .int 0]) (rest := []) ⟨hx, hb, hml, hown, hts⟩ (kk_X9_put l dC dI cI cZ a s hh H.size t1 t2 0 _ hw) (cwV 3 hts gX9_looksInData_X9_put rfl rfl rfl (by decide +kernel) ⟨Nat.le_of_ble_eq_true rfl, Nat.le_of_ble_eq_true rfl⟩) ⟨tm_blind, va_recv hK hPc (ci := 7) (q0 := 0) rfl rfl, fun U hU hW => ⟨rfl, by rw [hU], by rw [hU]; exact hPc, va_K.moved hW.alike hK, hDc.weaken (fun _ _ _ _ => trivial)⟩⟩ rfl rfl hl.1 rfl (lv_room (Nat.le_of_ble_eq_true rfl)) dX9_looksInData_41 ⟨Nat.zero_le _, Nat.zero_le _⟩) hS (fun q _ h => hFc q h) hFc (fun s6 t H1 locs ht hvm hw hB hz1 hk1 hS => ?_)
    obtain ⟨hP1, hK1, hD1⟩ := hB
    rw [ht] at hP1
    obtain ⟨hP, hD⟩ := va_join (wr := []) (w1 := (tm_wModel cI cZ a s6 hh)) hP hD [0, 1, 2, 3, 4, 5, 6, 7, 8, 9, 10, 11, 12, 13, 14, 15, 16, 17] [] rfl rfl (by decide) (by decide) hk1 hFc hP1 hD1
    generalize H1 = H at hP hS ⊢
    have hP : va_P (dC, dI) vwCl (tm_wModel cI cZ a s6 hh) H := hP
    have hD : va_D A (tm_wModel cI cZ a s6 hh) := hD
    refine lv_aload_n hx hb dX9_looksInData_44 rfl (lv_at hl 0 rfl) ?_
    refine lv_iload_n hx hb dX9_looksInData_45 rfl (lv_at hl 1 rfl) ?_
    refine lv_bipush (v := 10) hx hb dX9_looksInData_46 (by decide) ?_
    have hPc := hP
    have hDc := hD
    have hFc := va_free (wc := (tm_wModel cI cZ a s6 hh)) hD hS hA [0, 1, 2, 3, 4, 5, 6, 7, 8, 9, 10, 11, 12, 13, 14, 15, 16, 17] rfl
    refine va_calli (va_runV (As := [.int v1, .int 10]) (rest := []) ⟨hx, hb, hml, hown, hts⟩ (kk_X9_of l dC dI cI cZ a s6 hh H.size v1 10 _ hw) (cwV 2 hts gX9_looksInData_X9_of rfl rfl rfl (by decide +kernel) ⟨Nat.le_of_ble_eq_true rfl, Nat.le_of_ble_eq_true rfl⟩) ⟨tm_blind, va_recv hK hPc (ci := 7) (q0 := 0) rfl rfl, fun U hU hW => ⟨rfl, by rw [hU], by rw [hU]; exact hPc, va_K.moved hW.alike hK, hDc.weaken (fun _ _ _ _ => trivial)⟩⟩ rfl rfl hl.1 rfl (lv_room (Nat.le_of_ble_eq_true rfl)) dX9_looksInData_48 ⟨Nat.zero_le _, Nat.zero_le _⟩) hS (fun q _ h => hFc q h) hFc (fun r7 s8 t H1 locs ht hvm hw hB hz1 hk1 hS => ?_)
    obtain ⟨hP1, hK1, hD1⟩ := hB
    rw [ht] at hP1
    obtain ⟨hP, hD⟩ := va_join (wr := []) (w1 := (tm_wModel cI cZ a s8 hh)) hP hD [0, 1, 2, 3, 4, 5, 6, 7, 8, 9, 10, 11, 12, 13, 14, 15, 16, 17] [] rfl rfl (by decide) (by decide) hk1 hFc hP1 hD1
    generalize H1 = H at hP hS ⊢
    have hP : va_P (dC, dI) vwCl (tm_wModel cI cZ a s8 hh) H := hP
    have hD : va_D A (tm_wModel cI cZ a s8 hh) := hD
    refine lv_iconst (v := 2) hx hb dX9_looksInData_51 (by decide) ?_
    refine lv_aload_n hx hb dX9_looksInData_52 rfl (lv_at hl 0 rfl) ?_
    refine va_get (D := (dC, dI)) (ci := 7) (v := .int (s8 0 8)) (C := RX9) (T := TX9) (N := 30) hx hb hts h_in9 hown hK hP 0 rfl rfl 8 (by decide) h_f34 (fun _ h9 => h9) rfl dX9_looksInData_53 ?_
    refine lv_imul hx hb dX9_looksInData_56 ?_
    refine lv_iconst (v := 4) hx hb dX9_looksInData_57 (by decide) ?_
    refine lv_iadd hx hb dX9_looksInData_58 ?_
    refine lv_icmp_lt (tgt := 84) hx hb dX9_looksInData_59 (by decide) (fun c9 => ?_) (fun c9 => ?_)
    · have hw := hw.1 c9
      exact b84 v1 s8 _ _ _ hw hP hD hS (lv_sub hl [0, 1] rfl)
    · have hw := hw.2 c9
      refine lv_aload_n hx hb dX9_looksInData_62 rfl (lv_at hl 0 rfl) ?_
      refine lv_iload_n hx hb dX9_looksInData_63 rfl (lv_at hl 1 rfl) ?_
      refine lv_bipush (v := 10) hx hb dX9_looksInData_64 (by decide) ?_
      refine lv_iconst (v := 0) hx hb dX9_looksInData_66 (by decide) ?_
      have hPc := hP
      have hDc := hD
      have hFc := va_free (wc := (tm_wModel cI cZ a s8 hh)) hD hS hA [0, 1, 2, 3, 4, 5, 6, 7, 8, 9, 10, 11, 12, 13, 14, 15, 16, 17] rfl
      refine va_callv (va_runV (As := [.int v1, .int 10, .int 0]) (rest := []) ⟨hx, hb, hml, hown, hts⟩ (kk_X9_put l dC dI cI cZ a s8 hh H.size v1 10 0 _ hw) (cwV 3 hts gX9_looksInData_X9_put rfl rfl rfl (by decide +kernel) ⟨Nat.le_of_ble_eq_true rfl, Nat.le_of_ble_eq_true rfl⟩) ⟨tm_blind, va_recv hK hPc (ci := 7) (q0 := 0) rfl rfl, fun U hU hW => ⟨rfl, by rw [hU], by rw [hU]; exact hPc, va_K.moved hW.alike hK, hDc.weaken (fun _ _ _ _ => trivial)⟩⟩ rfl rfl hl.1 rfl (lv_room (Nat.le_of_ble_eq_true rfl)) dX9_looksInData_67 ⟨Nat.zero_le _, Nat.zero_le _⟩) hS (fun q _ h => hFc q h) hFc (fun s25 t H1 locs ht hvm hw hB hz1 hk1 hS => ?_)
      obtain ⟨hP1, hK1, hD1⟩ := hB
      rw [ht] at hP1
      obtain ⟨hP, hD⟩ := va_join (wr := []) (w1 := (tm_wModel cI cZ a s25 hh)) hP hD [0, 1, 2, 3, 4, 5, 6, 7, 8, 9, 10, 11, 12, 13, 14, 15, 16, 17] [] rfl rfl (by decide) (by decide) hk1 hFc hP1 hD1
      generalize H1 = H at hP hS ⊢
      have hP : va_P (dC, dI) vwCl (tm_wModel cI cZ a s25 hh) H := hP
      have hD : va_D A (tm_wModel cI cZ a s25 hh) := hD
      refine lv_aload_n hx hb dX9_looksInData_70 rfl (lv_at hl 0 rfl) ?_
      refine lv_iload_n hx hb dX9_looksInData_71 rfl (lv_at hl 1 rfl) ?_
      refine lv_bipush (v := 7) hx hb dX9_looksInData_72 (by decide) ?_
      refine lv_aload_n hx hb dX9_looksInData_74 rfl (lv_at hl 0 rfl) ?_
      refine lv_iload_n hx hb dX9_looksInData_75 rfl (lv_at hl 1 rfl) ?_
      refine lv_bipush (v := 8) hx hb dX9_looksInData_76 (by decide) ?_
      have hPc := hP
      have hDc := hD
      have hFc := va_free (wc := (tm_wModel cI cZ a s25 hh)) hD hS hA [0, 1, 2, 3, 4, 5, 6, 7, 8, 9, 10, 11, 12, 13, 14, 15, 16, 17] rfl
      refine va_calli (va_runV (As := [.int v1, .int 8]) (rest := [.int 7, .int v1, .ref (a 0)]) ⟨hx, hb, hml, hown, hts⟩ (kk_X9_of l dC dI cI cZ a s25 hh H.size v1 8 _ hw) (cwV 2 hts gX9_looksInData_X9_of rfl rfl rfl (by decide +kernel) ⟨Nat.le_of_ble_eq_true rfl, Nat.le_of_ble_eq_true rfl⟩) ⟨tm_blind, va_recv hK hPc (ci := 7) (q0 := 0) rfl rfl, fun U hU hW => ⟨rfl, by rw [hU], by rw [hU]; exact hPc, va_K.moved hW.alike hK, hDc.weaken (fun _ _ _ _ => trivial)⟩⟩ rfl rfl hl.1 rfl (lv_room (Nat.le_of_ble_eq_true rfl)) dX9_looksInData_78 ⟨Nat.zero_le _, Nat.zero_le _⟩) hS (fun q _ h => hFc q h) hFc (fun r26 s27 t H1 locs ht hvm hw hB hz1 hk1 hS => ?_)
      obtain ⟨hP1, hK1, hD1⟩ := hB
      rw [ht] at hP1
      obtain ⟨hP, hD⟩ := va_join (wr := []) (w1 := (tm_wModel cI cZ a s27 hh)) hP hD [0, 1, 2, 3, 4, 5, 6, 7, 8, 9, 10, 11, 12, 13, 14, 15, 16, 17] [] rfl rfl (by decide) (by decide) hk1 hFc hP1 hD1
      generalize H1 = H at hP hS ⊢
      have hP : va_P (dC, dI) vwCl (tm_wModel cI cZ a s27 hh) H := hP
      have hD : va_D A (tm_wModel cI cZ a s27 hh) := hD
      have hPc := hP
      have hDc := hD
      have hFc := va_free (wc := (tm_wModel cI cZ a s27 hh)) hD hS hA [0, 1, 2, 3, 4, 5, 6, 7, 8, 9, 10, 11, 12, 13, 14, 15, 16, 17] rfl
      refine va_callv (va_runV (As := [.int v1, .int 7, .int r26]) (rest := []) ⟨hx, hb, hml, hown, hts⟩ (kk_X9_put l dC dI cI cZ a s27 hh H.size v1 7 r26 _ hw) (cwV 3 hts gX9_looksInData_X9_put rfl rfl rfl (by decide +kernel) ⟨Nat.le_of_ble_eq_true rfl, Nat.le_of_ble_eq_true rfl⟩) ⟨tm_blind, va_recv hK hPc (ci := 7) (q0 := 0) rfl rfl, fun U hU hW => ⟨rfl, by rw [hU], by rw [hU]; exact hPc, va_K.moved hW.alike hK, hDc.weaken (fun _ _ _ _ => trivial)⟩⟩ rfl rfl hl.1 rfl (lv_room (Nat.le_of_ble_eq_true rfl)) dX9_looksInData_81 ⟨Nat.zero_le _, Nat.zero_le _⟩) hS (fun q _ h => hFc q h) hFc (fun s28 t H1 locs ht hvm hw hB hz1 hk1 hS => ?_)
      obtain ⟨hP1, hK1, hD1⟩ := hB
      rw [ht] at hP1
      obtain ⟨hP, hD⟩ := va_join (wr := []) (w1 := (tm_wModel cI cZ a s28 hh)) hP hD [0, 1, 2, 3, 4, 5, 6, 7, 8, 9, 10, 11, 12, 13, 14, 15, 16, 17] [] rfl rfl (by decide) (by decide) hk1 hFc hP1 hD1
      generalize H1 = H at hP hS ⊢
      have hP : va_P (dC, dI) vwCl (tm_wModel cI cZ a s28 hh) H := hP
      have hD : va_D A (tm_wModel cI cZ a s28 hh) := hD
      exact b84 v1 s28 _ _ _ hw hP hD hS (lv_sub hl [0, 1] rfl)
  have hl := lv_entry ([.ref (a 0), .int p0]) (n := 2) (Nat.le_of_ble_eq_true rfl)
  rw [lg_entry_eq]
  generalize (lg_sl ([.ref (a 0), .int p0]) ++ List.replicate (2 - (lg_sl ([.ref (a 0), .int p0])).length) Slot.unset).toArray = ls at hl ⊢
  have hl : lv_has ls 2 [(0, .ref (a 0)), (1, .int p0)] := hl
  unfold wp_X9_looksInData at hw
  refine lv_aload_n hx hb dX9_looksInData_0 rfl (lv_at hl 0 rfl) ?_
  refine lv_iload_n hx hb dX9_looksInData_1 rfl (lv_at hl 1 rfl) ?_
  refine lv_bipush (v := 10) hx hb dX9_looksInData_2 (by decide) ?_
  refine lv_aload_n hx hb dX9_looksInData_4 rfl (lv_at hl 0 rfl) ?_
  refine lv_iload_n hx hb dX9_looksInData_5 rfl (lv_at hl 1 rfl) ?_
  refine lv_bipush (v := 8) hx hb dX9_looksInData_6 (by decide) ?_
  have hPc := hP
  have hDc := hD
  have hFc := va_free (wc := (tm_wModel cI cZ a s0 hh)) hD hS hA [0, 1, 2, 3, 4, 5, 6, 7, 8, 9, 10, 11, 12, 13, 14, 15, 16, 17] rfl
  refine va_calli (va_runV (As := [.int p0, .int 8]) (rest := [.int 10, .int p0, .ref (a 0)]) ⟨hx, hb, hml, hown, hts⟩ (kk_X9_of l dC dI cI cZ a s0 hh z.heap.size p0 8 _ hw) (cwV 2 hts gX9_looksInData_X9_of rfl rfl rfl (by decide +kernel) ⟨Nat.le_of_ble_eq_true rfl, Nat.le_of_ble_eq_true rfl⟩) ⟨tm_blind, va_recv hK hPc (ci := 7) (q0 := 0) rfl rfl, fun U hU hW => ⟨rfl, by rw [hU], by rw [hU]; exact hPc, va_K.moved hW.alike hK, hDc.weaken (fun _ _ _ _ => trivial)⟩⟩ rfl rfl hl.1 rfl (lv_room (Nat.le_of_ble_eq_true rfl)) dX9_looksInData_8 ⟨Nat.zero_le _, Nat.zero_le _⟩) hS (fun q _ h => hFc q h) hFc (fun r1 s2 t H1 locs ht hvm hw hB hz1 hk1 hS => ?_)
  obtain ⟨hP1, hK1, hD1⟩ := hB
  rw [ht] at hP1
  obtain ⟨hP, hD⟩ := va_join (wr := []) (w1 := (tm_wModel cI cZ a s2 hh)) hP hD [0, 1, 2, 3, 4, 5, 6, 7, 8, 9, 10, 11, 12, 13, 14, 15, 16, 17] [] rfl rfl (by decide) (by decide) hk1 hFc hP1 hD1
  generalize H1 = H at hP hS ⊢
  have hP : va_P (dC, dI) vwCl (tm_wModel cI cZ a s2 hh) H := hP
  have hD : va_D A (tm_wModel cI cZ a s2 hh) := hD
  refine lv_aload_n hx hb dX9_looksInData_11 rfl (lv_at hl 0 rfl) ?_
  refine lv_iload_n hx hb dX9_looksInData_12 rfl (lv_at hl 1 rfl) ?_
  refine lv_bipush (v := 7) hx hb dX9_looksInData_13 (by decide) ?_
  have hPc := hP
  have hDc := hD
  have hFc := va_free (wc := (tm_wModel cI cZ a s2 hh)) hD hS hA [0, 1, 2, 3, 4, 5, 6, 7, 8, 9, 10, 11, 12, 13, 14, 15, 16, 17] rfl
  refine va_calli (va_runV (As := [.int p0, .int 7]) (rest := [.int r1, .int 10, .int p0, .ref (a 0)]) ⟨hx, hb, hml, hown, hts⟩ (kk_X9_of l dC dI cI cZ a s2 hh H.size p0 7 _ hw) (cwV 2 hts gX9_looksInData_X9_of rfl rfl rfl (by decide +kernel) ⟨Nat.le_of_ble_eq_true rfl, Nat.le_of_ble_eq_true rfl⟩) ⟨tm_blind, va_recv hK hPc (ci := 7) (q0 := 0) rfl rfl, fun U hU hW => ⟨rfl, by rw [hU], by rw [hU]; exact hPc, va_K.moved hW.alike hK, hDc.weaken (fun _ _ _ _ => trivial)⟩⟩ rfl rfl hl.1 rfl (lv_room (Nat.le_of_ble_eq_true rfl)) dX9_looksInData_15 ⟨Nat.zero_le _, Nat.zero_le _⟩) hS (fun q _ h => hFc q h) hFc (fun r3 s4 t H1 locs ht hvm hw hB hz1 hk1 hS => ?_)
  obtain ⟨hP1, hK1, hD1⟩ := hB
  rw [ht] at hP1
  obtain ⟨hP, hD⟩ := va_join (wr := []) (w1 := (tm_wModel cI cZ a s4 hh)) hP hD [0, 1, 2, 3, 4, 5, 6, 7, 8, 9, 10, 11, 12, 13, 14, 15, 16, 17] [] rfl rfl (by decide) (by decide) hk1 hFc hP1 hD1
  generalize H1 = H at hP hS ⊢
  have hP : va_P (dC, dI) vwCl (tm_wModel cI cZ a s4 hh) H := hP
  have hD : va_D A (tm_wModel cI cZ a s4 hh) := hD
  refine lv_icmp_ge (tgt := 40) hx hb dX9_looksInData_18 (by decide) (fun c5 => ?_) (fun c5 => ?_)
  · have hw := hw.1 c5
    exact b40 p0 p0 10 s4 _ _ _ hw hP hD hS (lv_sub hl [0, 1] rfl)
  · have hw := hw.2 c5
    refine lv_aload_n hx hb dX9_looksInData_21 rfl (lv_at hl 0 rfl) ?_
    refine va_get (D := (dC, dI)) (ci := 7) (v := .int (s4 0 27)) (C := RX9) (T := TX9) (N := 30) hx hb hts h_in9 hown hK hP 0 rfl rfl 27 (by decide) h_f147 (fun _ h9 => h9) rfl dX9_looksInData_22 ?_
    refine lv_if_ne (tgt := 40) hx hb dX9_looksInData_25 (by decide) (fun c29 => ?_) (fun c29 => ?_)
    · have hw := hw.1 c29
      exact b40 p0 p0 10 s4 _ _ _ hw hP hD hS (lv_sub hl [0, 1] rfl)
    · have hw := hw.2 c29
      refine lv_aload_n hx hb dX9_looksInData_28 rfl (lv_at hl 0 rfl) ?_
      refine lv_iload_n hx hb dX9_looksInData_29 rfl (lv_at hl 1 rfl) ?_
      refine lv_bipush (v := 10) hx hb dX9_looksInData_30 (by decide) ?_
      have hPc := hP
      have hDc := hD
      have hFc := va_free (wc := (tm_wModel cI cZ a s4 hh)) hD hS hA [0, 1, 2, 3, 4, 5, 6, 7, 8, 9, 10, 11, 12, 13, 14, 15, 16, 17] rfl
      refine va_calli (va_runV (As := [.int p0, .int 10]) (rest := [.int 10, .int p0, .ref (a 0)]) ⟨hx, hb, hml, hown, hts⟩ (kk_X9_of l dC dI cI cZ a s4 hh H.size p0 10 _ hw) (cwV 2 hts gX9_looksInData_X9_of rfl rfl rfl (by decide +kernel) ⟨Nat.le_of_ble_eq_true rfl, Nat.le_of_ble_eq_true rfl⟩) ⟨tm_blind, va_recv hK hPc (ci := 7) (q0 := 0) rfl rfl, fun U hU hW => ⟨rfl, by rw [hU], by rw [hU]; exact hPc, va_K.moved hW.alike hK, hDc.weaken (fun _ _ _ _ => trivial)⟩⟩ rfl rfl hl.1 rfl (lv_room (Nat.le_of_ble_eq_true rfl)) dX9_looksInData_32 ⟨Nat.zero_le _, Nat.zero_le _⟩) hS (fun q _ h => hFc q h) hFc (fun r30 s31 t H1 locs ht hvm hw hB hz1 hk1 hS => ?_)
      obtain ⟨hP1, hK1, hD1⟩ := hB
      rw [ht] at hP1
      obtain ⟨hP, hD⟩ := va_join (wr := []) (w1 := (tm_wModel cI cZ a s31 hh)) hP hD [0, 1, 2, 3, 4, 5, 6, 7, 8, 9, 10, 11, 12, 13, 14, 15, 16, 17] [] rfl rfl (by decide) (by decide) hk1 hFc hP1 hD1
      generalize H1 = H at hP hS ⊢
      have hP : va_P (dC, dI) vwCl (tm_wModel cI cZ a s31 hh) H := hP
      have hD : va_D A (tm_wModel cI cZ a s31 hh) := hD
      refine lv_iconst (v := 1) hx hb dX9_looksInData_35 (by decide) ?_
      refine lv_iadd hx hb dX9_looksInData_36 ?_
      refine lv_goto (tgt := 41) hx hb dX9_looksInData_37 (by decide) ?_
      have hPc := hP
      have hDc := hD
      have hFc := va_free (wc := (tm_wModel cI cZ a s31 hh)) hD hS hA [0, 1, 2, 3, 4, 5, 6, 7, 8, 9, 10, 11, 12, 13, 14, 15, 16, 17] rfl
      refine va_callv (va_runV (As := [.int p0, .int 10, .int (r30 + 1)]) (rest := []) ⟨hx, hb, hml, hown, hts⟩ (kk_X9_put l dC dI cI cZ a s31 hh H.size p0 10 (r30 + 1) _ hw) (cwV 3 hts gX9_looksInData_X9_put rfl rfl rfl (by decide +kernel) ⟨Nat.le_of_ble_eq_true rfl, Nat.le_of_ble_eq_true rfl⟩) ⟨tm_blind, va_recv hK hPc (ci := 7) (q0 := 0) rfl rfl, fun U hU hW => ⟨rfl, by rw [hU], by rw [hU]; exact hPc, va_K.moved hW.alike hK, hDc.weaken (fun _ _ _ _ => trivial)⟩⟩ rfl rfl hl.1 rfl (lv_room (Nat.le_of_ble_eq_true rfl)) dX9_looksInData_41 ⟨Nat.zero_le _, Nat.zero_le _⟩) hS (fun q _ h => hFc q h) hFc (fun s32 t H1 locs ht hvm hw hB hz1 hk1 hS => ?_)
      obtain ⟨hP1, hK1, hD1⟩ := hB
      rw [ht] at hP1
      obtain ⟨hP, hD⟩ := va_join (wr := []) (w1 := (tm_wModel cI cZ a s32 hh)) hP hD [0, 1, 2, 3, 4, 5, 6, 7, 8, 9, 10, 11, 12, 13, 14, 15, 16, 17] [] rfl rfl (by decide) (by decide) hk1 hFc hP1 hD1
      generalize H1 = H at hP hS ⊢
      have hP : va_P (dC, dI) vwCl (tm_wModel cI cZ a s32 hh) H := hP
      have hD : va_D A (tm_wModel cI cZ a s32 hh) := hD
      refine lv_aload_n hx hb dX9_looksInData_44 rfl (lv_at hl 0 rfl) ?_
      refine lv_iload_n hx hb dX9_looksInData_45 rfl (lv_at hl 1 rfl) ?_
      refine lv_bipush (v := 10) hx hb dX9_looksInData_46 (by decide) ?_
      have hPc := hP
      have hDc := hD
      have hFc := va_free (wc := (tm_wModel cI cZ a s32 hh)) hD hS hA [0, 1, 2, 3, 4, 5, 6, 7, 8, 9, 10, 11, 12, 13, 14, 15, 16, 17] rfl
      refine va_calli (va_runV (As := [.int p0, .int 10]) (rest := []) ⟨hx, hb, hml, hown, hts⟩ (kk_X9_of l dC dI cI cZ a s32 hh H.size p0 10 _ hw) (cwV 2 hts gX9_looksInData_X9_of rfl rfl rfl (by decide +kernel) ⟨Nat.le_of_ble_eq_true rfl, Nat.le_of_ble_eq_true rfl⟩) ⟨tm_blind, va_recv hK hPc (ci := 7) (q0 := 0) rfl rfl, fun U hU hW => ⟨rfl, by rw [hU], by rw [hU]; exact hPc, va_K.moved hW.alike hK, hDc.weaken (fun _ _ _ _ => trivial)⟩⟩ rfl rfl hl.1 rfl (lv_room (Nat.le_of_ble_eq_true rfl)) dX9_looksInData_48 ⟨Nat.zero_le _, Nat.zero_le _⟩) hS (fun q _ h => hFc q h) hFc (fun r33 s34 t H1 locs ht hvm hw hB hz1 hk1 hS => ?_)
      obtain ⟨hP1, hK1, hD1⟩ := hB
      rw [ht] at hP1
      obtain ⟨hP, hD⟩ := va_join (wr := []) (w1 := (tm_wModel cI cZ a s34 hh)) hP hD [0, 1, 2, 3, 4, 5, 6, 7, 8, 9, 10, 11, 12, 13, 14, 15, 16, 17] [] rfl rfl (by decide) (by decide) hk1 hFc hP1 hD1
      generalize H1 = H at hP hS ⊢
      have hP : va_P (dC, dI) vwCl (tm_wModel cI cZ a s34 hh) H := hP
      have hD : va_D A (tm_wModel cI cZ a s34 hh) := hD
      refine lv_iconst (v := 2) hx hb dX9_looksInData_51 (by decide) ?_
      refine lv_aload_n hx hb dX9_looksInData_52 rfl (lv_at hl 0 rfl) ?_
      refine va_get (D := (dC, dI)) (ci := 7) (v := .int (s34 0 8)) (C := RX9) (T := TX9) (N := 30) hx hb hts h_in9 hown hK hP 0 rfl rfl 8 (by decide) h_f34 (fun _ h9 => h9) rfl dX9_looksInData_53 ?_
      refine lv_imul hx hb dX9_looksInData_56 ?_
      refine lv_iconst (v := 4) hx hb dX9_looksInData_57 (by decide) ?_
      refine lv_iadd hx hb dX9_looksInData_58 ?_
      refine lv_icmp_lt (tgt := 84) hx hb dX9_looksInData_59 (by decide) (fun c35 => ?_) (fun c35 => ?_)
      · have hw := hw.1 c35
        exact b84 p0 s34 _ _ _ hw hP hD hS (lv_sub hl [0, 1] rfl)
      · have hw := hw.2 c35
        refine lv_aload_n hx hb dX9_looksInData_62 rfl (lv_at hl 0 rfl) ?_
        refine lv_iload_n hx hb dX9_looksInData_63 rfl (lv_at hl 1 rfl) ?_
        refine lv_bipush (v := 10) hx hb dX9_looksInData_64 (by decide) ?_
        refine lv_iconst (v := 0) hx hb dX9_looksInData_66 (by decide) ?_
        have hPc := hP
        have hDc := hD
        have hFc := va_free (wc := (tm_wModel cI cZ a s34 hh)) hD hS hA [0, 1, 2, 3, 4, 5, 6, 7, 8, 9, 10, 11, 12, 13, 14, 15, 16, 17] rfl
        refine va_callv (va_runV (As := [.int p0, .int 10, .int 0]) (rest := []) ⟨hx, hb, hml, hown, hts⟩ (kk_X9_put l dC dI cI cZ a s34 hh H.size p0 10 0 _ hw) (cwV 3 hts gX9_looksInData_X9_put rfl rfl rfl (by decide +kernel) ⟨Nat.le_of_ble_eq_true rfl, Nat.le_of_ble_eq_true rfl⟩) ⟨tm_blind, va_recv hK hPc (ci := 7) (q0 := 0) rfl rfl, fun U hU hW => ⟨rfl, by rw [hU], by rw [hU]; exact hPc, va_K.moved hW.alike hK, hDc.weaken (fun _ _ _ _ => trivial)⟩⟩ rfl rfl hl.1 rfl (lv_room (Nat.le_of_ble_eq_true rfl)) dX9_looksInData_67 ⟨Nat.zero_le _, Nat.zero_le _⟩) hS (fun q _ h => hFc q h) hFc (fun s36 t H1 locs ht hvm hw hB hz1 hk1 hS => ?_)
        obtain ⟨hP1, hK1, hD1⟩ := hB
        rw [ht] at hP1
        obtain ⟨hP, hD⟩ := va_join (wr := []) (w1 := (tm_wModel cI cZ a s36 hh)) hP hD [0, 1, 2, 3, 4, 5, 6, 7, 8, 9, 10, 11, 12, 13, 14, 15, 16, 17] [] rfl rfl (by decide) (by decide) hk1 hFc hP1 hD1
        generalize H1 = H at hP hS ⊢
        have hP : va_P (dC, dI) vwCl (tm_wModel cI cZ a s36 hh) H := hP
        have hD : va_D A (tm_wModel cI cZ a s36 hh) := hD
        refine lv_aload_n hx hb dX9_looksInData_70 rfl (lv_at hl 0 rfl) ?_
        refine lv_iload_n hx hb dX9_looksInData_71 rfl (lv_at hl 1 rfl) ?_
        refine lv_bipush (v := 7) hx hb dX9_looksInData_72 (by decide) ?_
        refine lv_aload_n hx hb dX9_looksInData_74 rfl (lv_at hl 0 rfl) ?_
        refine lv_iload_n hx hb dX9_looksInData_75 rfl (lv_at hl 1 rfl) ?_
        refine lv_bipush (v := 8) hx hb dX9_looksInData_76 (by decide) ?_
        have hPc := hP
        have hDc := hD
        have hFc := va_free (wc := (tm_wModel cI cZ a s36 hh)) hD hS hA [0, 1, 2, 3, 4, 5, 6, 7, 8, 9, 10, 11, 12, 13, 14, 15, 16, 17] rfl
        refine va_calli (va_runV (As := [.int p0, .int 8]) (rest := [.int 7, .int p0, .ref (a 0)]) ⟨hx, hb, hml, hown, hts⟩ (kk_X9_of l dC dI cI cZ a s36 hh H.size p0 8 _ hw) (cwV 2 hts gX9_looksInData_X9_of rfl rfl rfl (by decide +kernel) ⟨Nat.le_of_ble_eq_true rfl, Nat.le_of_ble_eq_true rfl⟩) ⟨tm_blind, va_recv hK hPc (ci := 7) (q0 := 0) rfl rfl, fun U hU hW => ⟨rfl, by rw [hU], by rw [hU]; exact hPc, va_K.moved hW.alike hK, hDc.weaken (fun _ _ _ _ => trivial)⟩⟩ rfl rfl hl.1 rfl (lv_room (Nat.le_of_ble_eq_true rfl)) dX9_looksInData_78 ⟨Nat.zero_le _, Nat.zero_le _⟩) hS (fun q _ h => hFc q h) hFc (fun r37 s38 t H1 locs ht hvm hw hB hz1 hk1 hS => ?_)
        obtain ⟨hP1, hK1, hD1⟩ := hB
        rw [ht] at hP1
        obtain ⟨hP, hD⟩ := va_join (wr := []) (w1 := (tm_wModel cI cZ a s38 hh)) hP hD [0, 1, 2, 3, 4, 5, 6, 7, 8, 9, 10, 11, 12, 13, 14, 15, 16, 17] [] rfl rfl (by decide) (by decide) hk1 hFc hP1 hD1
        generalize H1 = H at hP hS ⊢
        have hP : va_P (dC, dI) vwCl (tm_wModel cI cZ a s38 hh) H := hP
        have hD : va_D A (tm_wModel cI cZ a s38 hh) := hD
        have hPc := hP
        have hDc := hD
        have hFc := va_free (wc := (tm_wModel cI cZ a s38 hh)) hD hS hA [0, 1, 2, 3, 4, 5, 6, 7, 8, 9, 10, 11, 12, 13, 14, 15, 16, 17] rfl
        refine va_callv (va_runV (As := [.int p0, .int 7, .int r37]) (rest := []) ⟨hx, hb, hml, hown, hts⟩ (kk_X9_put l dC dI cI cZ a s38 hh H.size p0 7 r37 _ hw) (cwV 3 hts gX9_looksInData_X9_put rfl rfl rfl (by decide +kernel) ⟨Nat.le_of_ble_eq_true rfl, Nat.le_of_ble_eq_true rfl⟩) ⟨tm_blind, va_recv hK hPc (ci := 7) (q0 := 0) rfl rfl, fun U hU hW => ⟨rfl, by rw [hU], by rw [hU]; exact hPc, va_K.moved hW.alike hK, hDc.weaken (fun _ _ _ _ => trivial)⟩⟩ rfl rfl hl.1 rfl (lv_room (Nat.le_of_ble_eq_true rfl)) dX9_looksInData_81 ⟨Nat.zero_le _, Nat.zero_le _⟩) hS (fun q _ h => hFc q h) hFc (fun s39 t H1 locs ht hvm hw hB hz1 hk1 hS => ?_)
        obtain ⟨hP1, hK1, hD1⟩ := hB
        rw [ht] at hP1
        obtain ⟨hP, hD⟩ := va_join (wr := []) (w1 := (tm_wModel cI cZ a s39 hh)) hP hD [0, 1, 2, 3, 4, 5, 6, 7, 8, 9, 10, 11, 12, 13, 14, 15, 16, 17] [] rfl rfl (by decide) (by decide) hk1 hFc hP1 hD1
        generalize H1 = H at hP hS ⊢
        have hP : va_P (dC, dI) vwCl (tm_wModel cI cZ a s39 hh) H := hP
        have hD : va_D A (tm_wModel cI cZ a s39 hh) := hD
        exact b84 p0 s39 _ _ _ hw hP hD hS (lv_sub hl [0, 1] rfl)
def wp_X9_size (p0 : Int32) (K : Int32 → Prop) : Prop := (((0 : Int32) ≤ p0 → K p0) ∧ (¬ (0 : Int32) ≤ p0 → K (0 - p0)))
set_option maxRecDepth 100000 in
set_option maxHeartbeats 4000000 in
theorem kk_X9_size (l : Launch) (dC : Nat → ClassId) (dI : Nat → Nat → Nat) (cI cZ : ClassId) (sz : Nat) (p0 : Int32) (K : Int32 → Prop) (hw : wp_X9_size p0 K) : Met l yX9_size wsX9_size ({ frames := 0, cells := 0, slots := 0, locals := 0 }) (va_Pc [.int p0] (tm_Pre dC dI cI cZ ([] : va_W) sz)) (va_Qi (fun (r : Int32) (_ : Unit) => K r) (fun (_ : Unit) t => tm_At dC dI cI cZ (va_A ([] : va_W) sz) ([] : va_W) t) (va_A ([] : va_W) sz)) 0 0 (va_A ([] : va_W) sz) := by
  refine Met.ofW (cc := cX9_size) (maxL := 1) (ret := (some .int)) (by decide +kernel) rfl ?_
  intro p e z m args below meth c z₁ B hml hv
  obtain ⟨rfl, hsz, hP, hK, hD0⟩ := hv
  have hx := B.exec
  have hb := B.bytes
  have hr := B.returns
  have hts := atoms_spec (ws := wsX9_size) B.pre
  have hown : z.vm.findClass RX9 = some m.cls := findClass_of_methodNamed B.named
  have hlocks := B.notSynchronized
  subst hsz
  have hD := hD0.self (sz := z.heap.size)
  generalize hAe : va_A ([] : va_W) z.heap.size = A at hD ⊢
  have hA : ∀ q : Nat, z.heap.size ≤ q → A q := fun q h => by rw [← hAe]; exact Or.inr h
  have hS : va_S A z.heap z.heap [] := va_S.rf
  have hl := lv_entry ([.int p0]) (n := 1) (Nat.le_of_ble_eq_true rfl)
  rw [lg_entry_eq]
  generalize (lg_sl ([.int p0]) ++ List.replicate (1 - (lg_sl ([.int p0])).length) Slot.unset).toArray = ls at hl ⊢
  have hl : lv_has ls 1 [(0, .int p0)] := hl
  unfold wp_X9_size at hw
  refine lv_iload_n hx hb dX9_size_0 rfl (lv_at hl 0 rfl) ?_
  refine lv_if_ge (tgt := 9) hx hb dX9_size_1 (by decide) (fun c1 => ?_) (fun c1 => ?_)
  · have hw := hw.1 c1
    refine lv_iload_n hx hb dX9_size_9 rfl (lv_at hl 0 rfl) ?_
    exact W.iret (v := p0) hx hb hr (fun t ht hW => ⟨⟨p0, (), rfl, hw, by rw [ht]; exact hP, va_K.moved hW.alike hK, hD⟩, hS.F ht⟩) hS.2.2 dX9_size_10
  · have hw := hw.2 c1
    refine lv_iload_n hx hb dX9_size_4 rfl (lv_at hl 0 rfl) ?_
    refine lv_ineg hx hb dX9_size_5 ?_
    refine lv_goto (tgt := 10) hx hb dX9_size_6 (by decide) ?_
    exact W.iret (v := (0 - p0)) hx hb hr (fun t ht hW => ⟨⟨(0 - p0), (), rfl, hw, by rw [ht]; exact hP, va_K.moved hW.alike hK, hD⟩, hS.F ht⟩) hS.2.2 dX9_size_10
def wp_X9_makeOffer_56 (K : tm_St → Prop) : Nat → Int32 → Int32 → Int32 → Int32 → tm_St → Prop
  | 0, _, _, _, _, _ => False
  | n + 1, v1, v3, v4, v5, s => (((8 : Int32) ≤ v5 → (wp_X9_put v1 11 v3 s (fun s4 => (wp_X9_put v1 3 v4 s4 (fun s5 => K s5))))) ∧ (¬ (8 : Int32) ≤ v5 → (vp_in ((8 * v1) + v5) 16 ∧ (∀ x7 : Int32, x7 = ((s 2 (((8 * v1) + v5) : Int32).toNatClampNeg) - (v3 / 20)) → (((4 : Int32) ≤ x7 → (((8 : Int32) ≤ x7 → (((12 : Int32) ≤ x7 → (∀ x11 : Int32, x11 = (v4 + 3) → (∀ x12 : Int32, x12 = v5 + 1 → wp_X9_makeOffer_56 K n v1 v3 x11 x12 s))) ∧ (¬ (12 : Int32) ≤ x7 → (∀ x13 : Int32, x13 = (v4 + 2) → (∀ x14 : Int32, x14 = v5 + 1 → wp_X9_makeOffer_56 K n v1 v3 x13 x14 s))))) ∧ (¬ (8 : Int32) ≤ x7 → (∀ x15 : Int32, x15 = (v4 + 1) → (∀ x16 : Int32, x16 = v5 + 1 → wp_X9_makeOffer_56 K n v1 v3 x15 x16 s))))) ∧ (¬ (4 : Int32) ≤ x7 → (∀ x17 : Int32, x17 = (v4 + 0) → (∀ x18 : Int32, x18 = v5 + 1 → wp_X9_makeOffer_56 K n v1 v3 x17 x18 s))))))))
def wp_X9_makeOffer_4 (K : tm_St → Prop) : Nat → Int32 → Int32 → Int32 → tm_St → Prop
  | 0, _, _, _, _ => False
  | n + 1, v1, v2, v3, s => (((4 : Int32) ≤ v3 → (∀ x2 : Int32, x2 = (v2 / 16) → ∃ nf : Nat, wp_X9_makeOffer_56 K nf v1 x2 0 0 s)) ∧ (¬ (4 : Int32) ≤ v3 → (vp_in ((4 * v1) + v3) 8 ∧ (vp_in ((4 * v1) + v3) 8 ∧ (wp_X9_size ((16 * (s 4 (((4 * v1) + v3) : Int32).toNatClampNeg)) - (s 3 (((4 * v1) + v3) : Int32).toNatClampNeg)) (fun r21 => (∀ x23 : Int32, x23 = (v2 + r21) → (∀ x24 : Int32, x24 = v3 + 1 → wp_X9_makeOffer_4 K n v1 x23 x24 s))))))))
def wp_X9_makeOffer (p0 : Int32) (s0 : tm_St) (K : tm_St → Prop) : Prop := ∃ nf : Nat, wp_X9_makeOffer_4 K nf p0 0 0 s0
set_option maxRecDepth 100000 in
set_option maxHeartbeats 4000000 in
theorem kk_X9_makeOffer (l : Launch) (dC : Nat → ClassId) (dI : Nat → Nat → Nat) (cI cZ : ClassId) (a : Nat → Nat) (s0 : tm_St) (hh : Int64) (sz : Nat) (p0 : Int32) (K : tm_St → Prop) (hw : wp_X9_makeOffer p0 s0 K) : Met l yX9_makeOffer wsX9_makeOffer ({ frames := 1, cells := 0, slots := 0, locals := 23 }) (va_Pc [.ref (a 0), .int p0] (tm_Pre dC dI cI cZ (tm_wModel cI cZ a s0 hh) sz)) (va_Qv (fun (u : tm_St) => K u) (fun (u : tm_St) t => tm_At dC dI cI cZ (va_A (tm_wModel cI cZ a s0 hh) sz) (tm_wModel cI cZ a u hh) t) (va_A (tm_wModel cI cZ a s0 hh) sz)) 0 0 (va_A (tm_wModel cI cZ a s0 hh) sz) := by
  refine Met.ofW (cc := cX9_makeOffer) (maxL := 7) (ret := none) (by decide +kernel) rfl ?_
  intro p e z m args below meth c z₁ B hml hv
  obtain ⟨rfl, hsz, hP, hK, hD0⟩ := hv
  have hx := B.exec
  have hb := B.bytes
  have hr := B.returns
  have hts := atoms_spec (ws := wsX9_makeOffer) B.pre
  have hown : z.vm.findClass RX9 = some m.cls := findClass_of_methodNamed B.named
  have hlocks := B.notSynchronized
  subst hsz
  have hD := hD0.self (sz := z.heap.size)
  generalize hAe : va_A (tm_wModel cI cZ a s0 hh) z.heap.size = A at hD ⊢
  have hA : ∀ q : Nat, z.heap.size ≤ q → A q := fun q h => by rw [← hAe]; exact Or.inr h
  have hS : va_S A z.heap z.heap [] := va_S.rf
  have h_f13 := hts (.fieldLink RX9 13 "TwoModemsModel" "noted" "[I") (by decide +kernel)
  have h_in9 : ∀ w ∈ u_ws RX9 TX9 30, w ∈ wsX9_makeOffer := by decide +kernel
  have h_f19 := hts (.fieldLink RX9 19 "TwoModemsModel" "taps" "[I") (by decide +kernel)
  have h_f16 := hts (.fieldLink RX9 16 "TwoModemsModel" "learnts" "[I") (by decide +kernel)
  have b56 : ∀ (n : Nat) (v1 : Int32) (v3 : Int32) (v4 : Int32) (v5 : Int32) (s : tm_St) (H : Heap) (locs : List Loc) (ls : Array Slot), wp_X9_makeOffer_56 K n v1 v3 v4 v5 s → va_P (dC, dI) vwCl (tm_wModel cI cZ a s hh) H → va_D A (tm_wModel cI cZ a s hh) → va_S A z.heap H locs → lv_has ls 7 [(0, .ref (a 0)), (1, .int v1), (3, .int v3), (4, .int v4), (5, .int v5)] → W p l e (headSpec wsX9_makeOffer ({ frames := 1, cells := 0, slots := 0, locals := 23 })).room z m (([.ref (a 0), .int p0] : List Value).toArray) below meth c H locs 0 0 (MQ below (va_Qv (fun (u : tm_St) => K u) (fun (u : tm_St) t => tm_At dC dI cI cZ A (tm_wModel cI cZ a u hh) t) A) (([.ref (a 0), .int p0] : List Value).toArray) z 0 0 A) (F0 m 56 ls []) := by
    intro n
    induction n with
    | zero => intro v1 v3 v4 v5 s H locs ls hw hP hD hS hl; unfold wp_X9_makeOffer_56 at hw; exact hw.elim
    | succ n ih =>
      intro v1 v3 v4 v5 s H locs ls hw hP hD hS hl
      unfold wp_X9_makeOffer_56 at hw
      refine lv_iload hx hb dX9_makeOffer_56 (lv_at hl 4 rfl) ?_
      refine lv_bipush (v := 8) hx hb dX9_makeOffer_58 (by decide) ?_
      refine lv_icmp_ge (tgt := 126) hx hb dX9_makeOffer_60 (by decide) (fun c3 => ?_) (fun c3 => ?_)
      · have hw := hw.1 c3
        refine lv_aload_n hx hb dX9_makeOffer_126 rfl (lv_at hl 0 rfl) ?_
        refine lv_iload_n hx hb dX9_makeOffer_127 rfl (lv_at hl 1 rfl) ?_
        refine lv_bipush (v := 11) hx hb dX9_makeOffer_128 (by decide) ?_
        refine lv_iload_n hx hb dX9_makeOffer_130 rfl (lv_at hl 2 rfl) ?_
        have hPc := hP
        have hDc := hD
        have hFc := va_free (wc := (tm_wModel cI cZ a s hh)) hD hS hA [0, 1, 2, 3, 4, 5, 6, 7, 8, 9, 10, 11, 12, 13, 14, 15, 16, 17] rfl
        refine va_callv (va_runV (As := [.int v1, .int 11, .int v3]) (rest := []) ⟨hx, hb, hml, hown, hts⟩ (kk_X9_put l dC dI cI cZ a s hh H.size v1 11 v3 _ hw) (cwV 3 hts gX9_makeOffer_X9_put rfl rfl rfl (by decide +kernel) ⟨Nat.le_of_ble_eq_true rfl, Nat.le_of_ble_eq_true rfl⟩) ⟨tm_blind, va_recv hK hPc (ci := 7) (q0 := 0) rfl rfl, fun U hU hW => ⟨rfl, by rw [hU], by rw [hU]; exact hPc, va_K.moved hW.alike hK, hDc.weaken (fun _ _ _ _ => trivial)⟩⟩ rfl rfl hl.1 rfl (lv_room (Nat.le_of_ble_eq_true rfl)) dX9_makeOffer_131 ⟨Nat.zero_le _, Nat.zero_le _⟩) hS (fun q _ h => hFc q h) hFc (fun s4 t H1 locs ht hvm hw hB hz1 hk1 hS => ?_)
        obtain ⟨hP1, hK1, hD1⟩ := hB
        rw [ht] at hP1
        obtain ⟨hP, hD⟩ := va_join (wr := []) (w1 := (tm_wModel cI cZ a s4 hh)) hP hD [0, 1, 2, 3, 4, 5, 6, 7, 8, 9, 10, 11, 12, 13, 14, 15, 16, 17] [] rfl rfl (by decide) (by decide) hk1 hFc hP1 hD1
        generalize H1 = H at hP hS ⊢
        have hP : va_P (dC, dI) vwCl (tm_wModel cI cZ a s4 hh) H := hP
        have hD : va_D A (tm_wModel cI cZ a s4 hh) := hD
        refine lv_aload_n hx hb dX9_makeOffer_134 rfl (lv_at hl 0 rfl) ?_
        refine lv_iload_n hx hb dX9_makeOffer_135 rfl (lv_at hl 1 rfl) ?_
        refine lv_iconst (v := 3) hx hb dX9_makeOffer_136 (by decide) ?_
        refine lv_iload hx hb dX9_makeOffer_137 (lv_at hl 3 rfl) ?_
        have hPc := hP
        have hDc := hD
        have hFc := va_free (wc := (tm_wModel cI cZ a s4 hh)) hD hS hA [0, 1, 2, 3, 4, 5, 6, 7, 8, 9, 10, 11, 12, 13, 14, 15, 16, 17] rfl
        refine va_callv (va_runV (As := [.int v1, .int 3, .int v4]) (rest := []) ⟨hx, hb, hml, hown, hts⟩ (kk_X9_put l dC dI cI cZ a s4 hh H.size v1 3 v4 _ hw) (cwV 3 hts gX9_makeOffer_X9_put rfl rfl rfl (by decide +kernel) ⟨Nat.le_of_ble_eq_true rfl, Nat.le_of_ble_eq_true rfl⟩) ⟨tm_blind, va_recv hK hPc (ci := 7) (q0 := 0) rfl rfl, fun U hU hW => ⟨rfl, by rw [hU], by rw [hU]; exact hPc, va_K.moved hW.alike hK, hDc.weaken (fun _ _ _ _ => trivial)⟩⟩ rfl rfl hl.1 rfl (lv_room (Nat.le_of_ble_eq_true rfl)) dX9_makeOffer_139 ⟨Nat.zero_le _, Nat.zero_le _⟩) hS (fun q _ h => hFc q h) hFc (fun s5 t H1 locs ht hvm hw hB hz1 hk1 hS => ?_)
        obtain ⟨hP1, hK1, hD1⟩ := hB
        rw [ht] at hP1
        obtain ⟨hP, hD⟩ := va_join (wr := []) (w1 := (tm_wModel cI cZ a s5 hh)) hP hD [0, 1, 2, 3, 4, 5, 6, 7, 8, 9, 10, 11, 12, 13, 14, 15, 16, 17] [] rfl rfl (by decide) (by decide) hk1 hFc hP1 hD1
        generalize H1 = H at hP hS ⊢
        have hP : va_P (dC, dI) vwCl (tm_wModel cI cZ a s5 hh) H := hP
        have hD : va_D A (tm_wModel cI cZ a s5 hh) := hD
        exact W.vret hx hb hr (fun t ht hW => ⟨⟨s5, rfl, hw, by rw [ht]; exact hP, va_K.moved hW.alike hK, hD⟩, hS.F ht⟩) hS.2.2 dX9_makeOffer_142
      · have hw := hw.2 c3
        refine lv_aload_n hx hb dX9_makeOffer_63 rfl (lv_at hl 0 rfl) ?_
        refine va_get (D := (dC, dI)) (ci := 7) (v := .ref (a 2)) (C := RX9) (T := TX9) (N := 30) hx hb hts h_in9 hown hK hP 0 rfl rfl 1 (by decide) h_f13 (fun _ h9 => h9) rfl dX9_makeOffer_64 ?_
        refine lv_bipush (v := 8) hx hb dX9_makeOffer_67 (by decide) ?_
        refine lv_iload_n hx hb dX9_makeOffer_69 rfl (lv_at hl 1 rfl) ?_
        refine lv_imul hx hb dX9_makeOffer_70 ?_
        refine lv_iload hx hb dX9_makeOffer_71 (lv_at hl 4 rfl) ?_
        refine lv_iadd hx hb dX9_makeOffer_73 ?_
        have c6 := hw.1
        have hw := hw.2
        refine va_iald hx hb hK hP 2 0 rfl rfl c6 dX9_makeOffer_74 ?_
        refine lv_iload_n hx hb dX9_makeOffer_75 rfl (lv_at hl 2 rfl) ?_
        refine lv_bipush (v := 20) hx hb dX9_makeOffer_76 (by decide) ?_
        refine lv_idiv hx hb dX9_makeOffer_78 (by decide) ?_
        refine lv_isub hx hb dX9_makeOffer_79 ?_
        refine lv_topi (fun x7 ex7 => ?_)
        have hw := hw x7 ex7
        refine lv_istore (lv' := [(6, .int x7), (0, .ref (a 0)), (1, .int v1), (3, .int v3), (4, .int v4), (5, .int v5)]) hx hb dX9_makeOffer_80 hl (by decide) rfl (fun ls hl => ?_)
        refine lv_iload hx hb dX9_makeOffer_82 (lv_at hl 4 rfl) ?_
        refine lv_iload hx hb dX9_makeOffer_84 (lv_at hl 0 rfl) ?_
        refine lv_iconst (v := 4) hx hb dX9_makeOffer_86 (by decide) ?_
        refine lv_icmp_ge (tgt := 94) hx hb dX9_makeOffer_87 (by decide) (fun c8 => ?_) (fun c8 => ?_)
        · have hw := hw.1 c8
          refine lv_iload hx hb dX9_makeOffer_94 (lv_at hl 0 rfl) ?_
          refine lv_bipush (v := 8) hx hb dX9_makeOffer_96 (by decide) ?_
          refine lv_icmp_ge (tgt := 105) hx hb dX9_makeOffer_98 (by decide) (fun c9 => ?_) (fun c9 => ?_)
          · have hw := hw.1 c9
            refine lv_iload hx hb dX9_makeOffer_105 (lv_at hl 0 rfl) ?_
            refine lv_bipush (v := 12) hx hb dX9_makeOffer_107 (by decide) ?_
            refine lv_icmp_ge (tgt := 116) hx hb dX9_makeOffer_109 (by decide) (fun c10 => ?_) (fun c10 => ?_)
            · have hw := hw.1 c10
              refine lv_iconst (v := 3) hx hb dX9_makeOffer_116 (by decide) ?_
              refine lv_iadd hx hb dX9_makeOffer_117 ?_
              refine lv_topi (fun x11 ex11 => ?_)
              have hw := hw x11 ex11
              refine lv_istore (lv' := [(4, .int x11), (6, .int x7), (0, .ref (a 0)), (1, .int v1), (3, .int v3), (5, .int v5)]) hx hb dX9_makeOffer_118 hl (by decide) rfl (fun ls hl => ?_)
              obtain ⟨x12, ex12⟩ : ∃ y : Int32, y = v5 + 1 := ⟨_, rfl⟩
              have hw := hw x12 ex12
              refine lv_iinc (v := x12) (lv' := [(5, .int x12), (4, .int x11), (6, .int x7), (0, .ref (a 0)), (1, .int v1), (3, .int v3)]) hx hb dX9_makeOffer_120 hl (k := 5) rfl (by rw [ex12]; rfl) (by decide) rfl (fun ls hl => ?_)
              refine lv_goto (tgt := 56) hx hb dX9_makeOffer_123 (by decide) ?_
              exact ih v1 v3 x11 x12 s _ _ _ hw hP hD hS (lv_sub hl [3, 4, 5, 1, 0] rfl)
            · have hw := hw.2 c10
              refine lv_iconst (v := 2) hx hb dX9_makeOffer_112 (by decide) ?_
              refine lv_goto (tgt := 117) hx hb dX9_makeOffer_113 (by decide) ?_
              refine lv_iadd hx hb dX9_makeOffer_117 ?_
              refine lv_topi (fun x13 ex13 => ?_)
              have hw := hw x13 ex13
              refine lv_istore (lv' := [(4, .int x13), (6, .int x7), (0, .ref (a 0)), (1, .int v1), (3, .int v3), (5, .int v5)]) hx hb dX9_makeOffer_118 hl (by decide) rfl (fun ls hl => ?_)
              obtain ⟨x14, ex14⟩ : ∃ y : Int32, y = v5 + 1 := ⟨_, rfl⟩
              have hw := hw x14 ex14
              refine lv_iinc (v := x14) (lv' := [(5, .int x14), (4, .int x13), (6, .int x7), (0, .ref (a 0)), (1, .int v1), (3, .int v3)]) hx hb dX9_makeOffer_120 hl (k := 5) rfl (by rw [ex14]; rfl) (by decide) rfl (fun ls hl => ?_)
              refine lv_goto (tgt := 56) hx hb dX9_makeOffer_123 (by decide) ?_
              exact ih v1 v3 x13 x14 s _ _ _ hw hP hD hS (lv_sub hl [3, 4, 5, 1, 0] rfl)
          · have hw := hw.2 c9
            refine lv_iconst (v := 1) hx hb dX9_makeOffer_101 (by decide) ?_
            refine lv_goto (tgt := 117) hx hb dX9_makeOffer_102 (by decide) ?_
            refine lv_iadd hx hb dX9_makeOffer_117 ?_
            refine lv_topi (fun x15 ex15 => ?_)
            have hw := hw x15 ex15
            refine lv_istore (lv' := [(4, .int x15), (6, .int x7), (0, .ref (a 0)), (1, .int v1), (3, .int v3), (5, .int v5)]) hx hb dX9_makeOffer_118 hl (by decide) rfl (fun ls hl => ?_)
            obtain ⟨x16, ex16⟩ : ∃ y : Int32, y = v5 + 1 := ⟨_, rfl⟩
            have hw := hw x16 ex16
            refine lv_iinc (v := x16) (lv' := [(5, .int x16), (4, .int x15), (6, .int x7), (0, .ref (a 0)), (1, .int v1), (3, .int v3)]) hx hb dX9_makeOffer_120 hl (k := 5) rfl (by rw [ex16]; rfl) (by decide) rfl (fun ls hl => ?_)
            refine lv_goto (tgt := 56) hx hb dX9_makeOffer_123 (by decide) ?_
            exact ih v1 v3 x15 x16 s _ _ _ hw hP hD hS (lv_sub hl [3, 4, 5, 1, 0] rfl)
        · have hw := hw.2 c8
          refine lv_iconst (v := 0) hx hb dX9_makeOffer_90 (by decide) ?_
          refine lv_goto (tgt := 117) hx hb dX9_makeOffer_91 (by decide) ?_
          refine lv_iadd hx hb dX9_makeOffer_117 ?_
          refine lv_topi (fun x17 ex17 => ?_)
          have hw := hw x17 ex17
          refine lv_istore (lv' := [(4, .int x17), (6, .int x7), (0, .ref (a 0)), (1, .int v1), (3, .int v3), (5, .int v5)]) hx hb dX9_makeOffer_118 hl (by decide) rfl (fun ls hl => ?_)
          obtain ⟨x18, ex18⟩ : ∃ y : Int32, y = v5 + 1 := ⟨_, rfl⟩
          have hw := hw x18 ex18
          refine lv_iinc (v := x18) (lv' := [(5, .int x18), (4, .int x17), (6, .int x7), (0, .ref (a 0)), (1, .int v1), (3, .int v3)]) hx hb dX9_makeOffer_120 hl (k := 5) rfl (by rw [ex18]; rfl) (by decide) rfl (fun ls hl => ?_)
          refine lv_goto (tgt := 56) hx hb dX9_makeOffer_123 (by decide) ?_
          exact ih v1 v3 x17 x18 s _ _ _ hw hP hD hS (lv_sub hl [3, 4, 5, 1, 0] rfl)
  have b4 : ∀ (n : Nat) (v1 : Int32) (v2 : Int32) (v3 : Int32) (s : tm_St) (H : Heap) (locs : List Loc) (ls : Array Slot), wp_X9_makeOffer_4 K n v1 v2 v3 s → va_P (dC, dI) vwCl (tm_wModel cI cZ a s hh) H → va_D A (tm_wModel cI cZ a s hh) → va_S A z.heap H locs → lv_has ls 7 [(0, .ref (a 0)), (1, .int v1), (2, .int v2), (3, .int v3)] → W p l e (headSpec wsX9_makeOffer ({ frames := 1, cells := 0, slots := 0, locals := 23 })).room z m (([.ref (a 0), .int p0] : List Value).toArray) below meth c H locs 0 0 (MQ below (va_Qv (fun (u : tm_St) => K u) (fun (u : tm_St) t => tm_At dC dI cI cZ A (tm_wModel cI cZ a u hh) t) A) (([.ref (a 0), .int p0] : List Value).toArray) z 0 0 A) (F0 m 4 ls []) := by
    intro n
    induction n with
    | zero => intro v1 v2 v3 s H locs ls hw hP hD hS hl; unfold wp_X9_makeOffer_4 at hw; exact hw.elim
    | succ n ih =>
      intro v1 v2 v3 s H locs ls hw hP hD hS hl
      unfold wp_X9_makeOffer_4 at hw
      refine lv_iload_n hx hb dX9_makeOffer_4 rfl (lv_at hl 3 rfl) ?_
      refine lv_iconst (v := 4) hx hb dX9_makeOffer_5 (by decide) ?_
      refine lv_icmp_ge (tgt := 45) hx hb dX9_makeOffer_6 (by decide) (fun c1 => ?_) (fun c1 => ?_)
      · have hw := hw.1 c1
        refine lv_iload_n hx hb dX9_makeOffer_45 rfl (lv_at hl 2 rfl) ?_
        refine lv_bipush (v := 16) hx hb dX9_makeOffer_46 (by decide) ?_
        refine lv_idiv hx hb dX9_makeOffer_48 (by decide) ?_
        refine lv_topi (fun x2 ex2 => ?_)
        have hw := hw x2 ex2
        refine lv_istore_n (lv' := [(3, .int x2), (0, .ref (a 0)), (1, .int v1), (2, .int v2)]) hx hb dX9_makeOffer_49 rfl hl (by decide) rfl (fun ls hl => ?_)
        refine lv_iconst (v := 0) hx hb dX9_makeOffer_50 (by decide) ?_
        refine lv_istore (lv' := [(4, .int 0), (3, .int x2), (0, .ref (a 0)), (1, .int v1), (2, .int v2)]) hx hb dX9_makeOffer_51 hl (by decide) rfl (fun ls hl => ?_)
        refine lv_iconst (v := 0) hx hb dX9_makeOffer_53 (by decide) ?_
        refine lv_istore (lv' := [(5, .int 0), (4, .int 0), (3, .int x2), (0, .ref (a 0)), (1, .int v1), (2, .int v2)]) hx hb dX9_makeOffer_54 hl (by decide) rfl (fun ls hl => ?_)
        obtain ⟨nf, hw⟩ := hw
        exact b56 nf v1 x2 0 0 s _ _ _ hw hP hD hS (lv_sub hl [3, 4, 2, 1, 0] rfl)
      · have hw := hw.2 c1
        refine lv_iload_n hx hb dX9_makeOffer_9 rfl (lv_at hl 2 rfl) ?_
        refine lv_bipush (v := 16) hx hb dX9_makeOffer_10 (by decide) ?_
        refine lv_aload_n hx hb dX9_makeOffer_12 rfl (lv_at hl 0 rfl) ?_
        refine va_get (D := (dC, dI)) (ci := 7) (v := .ref (a 4)) (C := RX9) (T := TX9) (N := 30) hx hb hts h_in9 hown hK hP 0 rfl rfl 3 (by decide) h_f19 (fun _ h9 => h9) rfl dX9_makeOffer_13 ?_
        refine lv_iconst (v := 4) hx hb dX9_makeOffer_16 (by decide) ?_
        refine lv_iload_n hx hb dX9_makeOffer_17 rfl (lv_at hl 1 rfl) ?_
        refine lv_imul hx hb dX9_makeOffer_18 ?_
        refine lv_iload_n hx hb dX9_makeOffer_19 rfl (lv_at hl 3 rfl) ?_
        refine lv_iadd hx hb dX9_makeOffer_20 ?_
        have c19 := hw.1
        have hw := hw.2
        refine va_iald hx hb hK hP 4 0 rfl rfl c19 dX9_makeOffer_21 ?_
        refine lv_imul hx hb dX9_makeOffer_22 ?_
        refine lv_aload_n hx hb dX9_makeOffer_23 rfl (lv_at hl 0 rfl) ?_
        refine va_get (D := (dC, dI)) (ci := 7) (v := .ref (a 3)) (C := RX9) (T := TX9) (N := 30) hx hb hts h_in9 hown hK hP 0 rfl rfl 2 (by decide) h_f16 (fun _ h9 => h9) rfl dX9_makeOffer_24 ?_
        refine lv_iconst (v := 4) hx hb dX9_makeOffer_27 (by decide) ?_
        refine lv_iload_n hx hb dX9_makeOffer_28 rfl (lv_at hl 1 rfl) ?_
        refine lv_imul hx hb dX9_makeOffer_29 ?_
        refine lv_iload_n hx hb dX9_makeOffer_30 rfl (lv_at hl 3 rfl) ?_
        refine lv_iadd hx hb dX9_makeOffer_31 ?_
        have c20 := hw.1
        have hw := hw.2
        refine va_iald hx hb hK hP 3 0 rfl rfl c20 dX9_makeOffer_32 ?_
        refine lv_isub hx hb dX9_makeOffer_33 ?_
        have hPc := hP.sub (ws' := ([] : va_W)) [] rfl
        have hDc := hD.sub (ws' := ([] : va_W)) [] (by decide) rfl
        have hFc := va_free (wc := ([] : va_W)) hD hS hA [] rfl
        refine va_calli (va_runS (As := [.int ((16 * (s 4 (((4 * v1) + v3) : Int32).toNatClampNeg)) - (s 3 (((4 * v1) + v3) : Int32).toNatClampNeg))]) (rest := [.int v2]) ⟨hx, hb, hml, hown, hts⟩ (kk_X9_size l dC dI cI cZ H.size ((16 * (s 4 (((4 * v1) + v3) : Int32).toNatClampNeg)) - (s 3 (((4 * v1) + v3) : Int32).toNatClampNeg)) _ hw) (va_cwS 1 hts gX9_makeOffer_X9_size rfl rfl rfl (by decide +kernel) ⟨Nat.le_of_ble_eq_true rfl, Nat.le_of_ble_eq_true rfl⟩) ⟨tm_blind, fun U hU hW => ⟨rfl, by rw [hU], by rw [hU]; exact hPc, va_K.moved hW.alike hK, hDc.weaken (fun _ _ _ _ => trivial)⟩⟩ rfl rfl hl.1 rfl (lv_room (Nat.le_of_ble_eq_true rfl)) dX9_makeOffer_34 ⟨Nat.zero_le _, Nat.zero_le _⟩) hS (fun q _ h => hFc q h) hFc (fun r21 u t H1 locs ht hvm hw hB hz1 hk1 hS => ?_)
        obtain ⟨hP1, hK1, hD1⟩ := hB
        rw [ht] at hP1
        obtain ⟨hP, hD⟩ := va_join (wr := (tm_wModel cI cZ a s hh)) (w1 := ([] : va_W)) hP hD [] [0, 1, 2, 3, 4, 5, 6, 7, 8, 9, 10, 11, 12, 13, 14, 15, 16, 17] rfl rfl (by decide) (by decide) hk1 hFc hP1 hD1
        rw [List.append_nil] at hP hD
        generalize H1 = H at hP hS ⊢
        refine lv_iadd hx hb dX9_makeOffer_37 ?_
        refine lv_topi (fun x23 ex23 => ?_)
        have hw := hw x23 ex23
        refine lv_istore_n (lv' := [(2, .int x23), (0, .ref (a 0)), (1, .int v1), (3, .int v3)]) hx hb dX9_makeOffer_38 rfl hl (by decide) rfl (fun ls hl => ?_)
        obtain ⟨x24, ex24⟩ : ∃ y : Int32, y = v3 + 1 := ⟨_, rfl⟩
        have hw := hw x24 ex24
        refine lv_iinc (v := x24) (lv' := [(3, .int x24), (2, .int x23), (0, .ref (a 0)), (1, .int v1)]) hx hb dX9_makeOffer_39 hl (k := 3) rfl (by rw [ex24]; rfl) (by decide) rfl (fun ls hl => ?_)
        refine lv_goto (tgt := 4) hx hb dX9_makeOffer_42 (by decide) ?_
        exact ih v1 x23 x24 s _ _ _ hw hP hD hS (lv_sub hl [2, 3, 1, 0] rfl)
  have hl := lv_entry ([.ref (a 0), .int p0]) (n := 7) (Nat.le_of_ble_eq_true rfl)
  rw [lg_entry_eq]
  generalize (lg_sl ([.ref (a 0), .int p0]) ++ List.replicate (7 - (lg_sl ([.ref (a 0), .int p0])).length) Slot.unset).toArray = ls at hl ⊢
  have hl : lv_has ls 7 [(0, .ref (a 0)), (1, .int p0)] := hl
  unfold wp_X9_makeOffer at hw
  refine lv_iconst (v := 0) hx hb dX9_makeOffer_0 (by decide) ?_
  refine lv_istore_n (lv' := [(2, .int 0), (0, .ref (a 0)), (1, .int p0)]) hx hb dX9_makeOffer_1 rfl hl (by decide) rfl (fun ls hl => ?_)
  refine lv_iconst (v := 0) hx hb dX9_makeOffer_2 (by decide) ?_
  refine lv_istore_n (lv' := [(3, .int 0), (2, .int 0), (0, .ref (a 0)), (1, .int p0)]) hx hb dX9_makeOffer_3 rfl hl (by decide) rfl (fun ls hl => ?_)
  obtain ⟨nf, hw⟩ := hw
  exact b4 nf p0 0 0 s0 _ _ _ hw hP hD hS (lv_sub hl [2, 3, 1, 0] rfl)
