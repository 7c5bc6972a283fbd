def wp_X7_bring_85 (K : tm_St → Prop) : Nat → Int32 → Int32 → Int32 → tm_St → Prop
  | 0, _, _, _, _ => False
  | n + 1, v2, v3, v4, s => (((8 : Int32) ≤ v4 → K s) ∧ (¬ (8 : Int32) ≤ v4 → ((v3 = 0 → (vp_in ((v2 * 8) + v4) 128 ∧ (vp_in v4 8 ∧ (∀ s8 : tm_St, s8 = tm_s s 2 (upd (s 2) (v4 : Int32).toNatClampNeg (s 3 (((v2 * 8) + v4) : Int32).toNatClampNeg)) → (∀ x9 : Int32, x9 = v4 + 1 → wp_X7_bring_85 K n v2 v3 x9 s8))))) ∧ (¬ v3 = 0 → (vp_in v4 8 ∧ (∀ s11 : tm_St, s11 = tm_s s 2 (upd (s 2) (v4 : Int32).toNatClampNeg 0) → (∀ x12 : Int32, x12 = v4 + 1 → wp_X7_bring_85 K n v2 v3 x12 s11)))))))
def wp_X7_bring (p0 : Int32) (s0 : tm_St) (K : tm_St → Prop) : Prop := (∀ x1 : Int32, x1 = (p0 &&& 15) → (vp_in x1 16 ∧ (((s0 4 (x1 : Int32).toNatClampNeg) = 0 → ∃ nf : Nat, wp_X7_bring_85 K nf x1 1 0 s0) ∧ (¬ (s0 4 (x1 : Int32).toNatClampNeg) = 0 → (vp_in x1 16 ∧ (∀ s14 : tm_St, s14 = tm_s s0 4 (upd (s0 4) (x1 : Int32).toNatClampNeg (vp_nar .boolean 0)) → (∀ s15 : tm_St, s15 = tm_s s14 0 (tm_u (s14 0) 7 ((s14 0 7) - 1)) → (∀ s16 : tm_St, s16 = tm_s s15 0 (tm_u (s15 0) 5 ((s15 0 5) + 1)) → (((s16 0 4) ≤ 0 → ∃ nf : Nat, wp_X7_bring_85 K nf x1 0 0 s16) ∧ (¬ (s16 0 4) ≤ 0 → (¬ (s16 0 4) = 0 ∧ ((¬ ((s16 0 5) - (s16 0 5) / (s16 0 4) * (s16 0 4)) = 0 → ∃ nf : Nat, wp_X7_bring_85 K nf x1 0 0 s16) ∧ (((s16 0 5) - (s16 0 5) / (s16 0 4) * (s16 0 4)) = 0 → (∀ s20 : tm_St, s20 = tm_s s16 0 (tm_u (s16 0) 6 ((s16 0 6) + 1)) → ∃ nf : Nat, wp_X7_bring_85 K nf x1 1 0 s20))))))))))))))
set_option maxRecDepth 100000 in
set_option maxHeartbeats 4000000 in
theorem kk_X7_bring (l : Launch) (dC : Nat → ClassId) (dI : Nat → Nat → Nat) (cI cZ : ClassId) (a : Nat → Nat) (s0 : tm_St) (sz : Nat) (p0 : Int32) (K : tm_St → Prop) (hw : wp_X7_bring p0 s0 K) : Met l yX7_bring wsX7_bring ({ frames := 0, cells := 0, slots := 0, locals := 0 }) (va_Pc [.ref (a 0), .int p0] (tm_Pre dC dI cI cZ (tm_wWay cI cZ a s0) sz)) (va_Qv (fun (u : tm_St) => K u) (fun (u : tm_St) t => tm_At dC dI cI cZ (va_A (tm_wWay cI cZ a s0) sz) (tm_wWay cI cZ a u) t) (va_A (tm_wWay cI cZ a s0) sz)) 0 0 (va_A (tm_wWay cI cZ a s0) sz) := by
  refine Met.ofW (cc := cX7_bring) (maxL := 5) (ret := none) (by decide +kernel) rfl ?_
  intro p e z m args below meth c z₁ B hml hv
  obtain ⟨rfl, hsz, hP, hK, hD0⟩ := hv
  have hx := B.exec
  have hb := B.bytes
  have hr := B.returns
  have hts := atoms_spec (ws := wsX7_bring) B.pre
  have hown : z.vm.findClass RX7 = some m.cls := findClass_of_methodNamed B.named
  have hlocks := B.notSynchronized
  subst hsz
  have hD := hD0.self (sz := z.heap.size)
  generalize hAe : va_A (tm_wWay cI cZ a s0) z.heap.size = A at hD ⊢
  have hA : ∀ q : Nat, z.heap.size ≤ q → A q := fun q h => by rw [← hAe]; exact Or.inr h
  have hS : va_S A z.heap z.heap [] := va_S.rf
  have h_f21 := hts (.fieldLink RX7 21 "TwoModems$Way" "full" "[Z") (by decide +kernel)
  have h_in7 : ∀ w ∈ u_ws RX7 TX7 8, w ∈ wsX7_bring := by decide +kernel
  have h_f15 := hts (.fieldLink RX7 15 "TwoModems$Way" "latest" "[I") (by decide +kernel)
  have h_f18 := hts (.fieldLink RX7 18 "TwoModems$Way" "rows" "[I") (by decide +kernel)
  have h_f35 := hts (.fieldLink RX7 35 "TwoModems$Way" "underWay" "I") (by decide +kernel)
  have h_f29 := hts (.fieldLink RX7 29 "TwoModems$Way" "came" "I") (by decide +kernel)
  have h_f25 := hts (.fieldLink RX7 25 "TwoModems$Way" "hurt" "I") (by decide +kernel)
  have h_f32 := hts (.fieldLink RX7 32 "TwoModems$Way" "harmed" "I") (by decide +kernel)
  have b85 : ∀ (n : Nat) (v2 : Int32) (v3 : Int32) (v4 : Int32) (s : tm_St) (H : Heap) (locs : List Loc) (ls : Array Slot), wp_X7_bring_85 K n v2 v3 v4 s → va_P (dC, dI) vwCl (tm_wWay cI cZ a s) H → va_D A (tm_wWay cI cZ a s) → va_S A z.heap H locs → lv_has ls 5 [(0, .ref (a 0)), (2, .int v2), (3, .int v3), (4, .int v4)] → W p l e (headSpec wsX7_bring ({ frames := 0, cells := 0, slots := 0, locals := 0 })).room z m (([.ref (a 0), .int p0] : List Value).toArray) below meth c H locs 0 0 (MQ below (va_Qv (fun (u : tm_St) => K u) (fun (u : tm_St) t => tm_At dC dI cI cZ A (tm_wWay cI cZ a u) t) A) (([.ref (a 0), .int p0] : List Value).toArray) z 0 0 A) (F0 m 85 ls []) := by
    intro n
    induction n with
    | zero => intro v2 v3 v4 s H locs ls hw hP hD hS hl; unfold wp_X7_bring_85 at hw; exact hw.elim
    | succ n ih =>
      intro v2 v3 v4 s H locs ls hw hP hD hS hl
      unfold wp_X7_bring_85 at hw
      refine lv_iload hx hb dX7_bring_85 (lv_at hl 3 rfl) ?_
      refine lv_bipush (v := 8) hx hb dX7_bring_87 (by decide) ?_
      refine lv_icmp_ge (tgt := 125) hx hb dX7_bring_89 (by decide) (fun c4 => ?_) (fun c4 => ?_)
      · have hw := hw.1 c4
        exact W.vret hx hb hr (fun t ht hW => ⟨⟨s, rfl, hw, by rw [ht]; exact hP, va_K.moved hW.alike hK, hD⟩, hS.F ht⟩) hS.2.2 dX7_bring_125
      · have hw := hw.2 c4
        refine lv_aload_n hx hb dX7_bring_92 rfl (lv_at hl 0 rfl) ?_
        refine va_get (D := (dC, dI)) (ci := 5) (v := .ref (a 2)) (C := RX7) (T := TX7) (N := 8) hx hb hts h_in7 hown hK hP 0 rfl rfl 1 (by decide) h_f15 (fun _ h9 => h9) rfl dX7_bring_93 ?_
        refine lv_iload hx hb dX7_bring_96 (lv_at hl 3 rfl) ?_
        refine lv_iload_n hx hb dX7_bring_98 rfl (lv_at hl 2 rfl) ?_
        refine lv_if_eq (tgt := 106) hx hb dX7_bring_99 (by decide) (fun c5 => ?_) (fun c5 => ?_)
        · have hw := hw.1 c5
          refine lv_aload_n hx hb dX7_bring_106 rfl (lv_at hl 0 rfl) ?_
          refine va_get (D := (dC, dI)) (ci := 5) (v := .ref (a 3)) (C := RX7) (T := TX7) (N := 8) hx hb hts h_in7 hown hK hP 0 rfl rfl 2 (by decide) h_f18 (fun _ h9 => h9) rfl dX7_bring_107 ?_
          refine lv_iload_n hx hb dX7_bring_110 rfl (lv_at hl 1 rfl) ?_
          refine lv_bipush (v := 8) hx hb dX7_bring_111 (by decide) ?_
          refine lv_imul hx hb dX7_bring_113 ?_
          refine lv_iload hx hb dX7_bring_114 (lv_at hl 3 rfl) ?_
          refine lv_iadd hx hb dX7_bring_116 ?_
          have c6 := hw.1
          have hw := hw.2
          refine va_iald hx hb hK hP 3 0 rfl rfl c6 dX7_bring_117 ?_
          have c7 := hw.1
          have hw := hw.2
          refine va_iast hx hb hK hP hD hS 2 0 rfl rfl c7 dX7_bring_118 (fun H locs hP hD hS => ?_)
          obtain ⟨s8, es8⟩ : ∃ y : tm_St, y = tm_s s 2 (upd (s 2) (v4 : Int32).toNatClampNeg (s 3 (((v2 * 8) + v4) : Int32).toNatClampNeg)) := ⟨_, rfl⟩
          have hw := hw s8 es8
          have hP : va_P (dC, dI) vwCl (tm_wWay cI cZ a s8) H := by rw [es8]; exact hP
          have hD : va_D A (tm_wWay cI cZ a s8) := by rw [es8]; exact hD
          obtain ⟨x9, ex9⟩ : ∃ y : Int32, y = v4 + 1 := ⟨_, rfl⟩
          have hw := hw x9 ex9
          refine lv_iinc (v := x9) (lv' := [(4, .int x9), (0, .ref (a 0)), (2, .int v2), (3, .int v3)]) hx hb dX7_bring_119 hl (k := 3) rfl (by rw [ex9]; rfl) (by decide) rfl (fun ls hl => ?_)
          refine lv_goto (tgt := 85) hx hb dX7_bring_122 (by decide) ?_
          exact ih v2 v3 x9 s8 _ _ _ hw hP hD hS (lv_sub hl [1, 2, 3, 0] rfl)
        · have hw := hw.2 c5
          refine lv_iconst (v := 0) hx hb dX7_bring_102 (by decide) ?_
          refine lv_goto (tgt := 118) hx hb dX7_bring_103 (by decide) ?_
          have c10 := hw.1
          have hw := hw.2
          refine va_iast hx hb hK hP hD hS 2 0 rfl rfl c10 dX7_bring_118 (fun H locs hP hD hS => ?_)
          obtain ⟨s11, es11⟩ : ∃ y : tm_St, y = tm_s s 2 (upd (s 2) (v4 : Int32).toNatClampNeg 0) := ⟨_, rfl⟩
          have hw := hw s11 es11
          have hP : va_P (dC, dI) vwCl (tm_wWay cI cZ a s11) H := by rw [es11]; exact hP
          have hD : va_D A (tm_wWay cI cZ a s11) := by rw [es11]; exact hD
          obtain ⟨x12, ex12⟩ : ∃ y : Int32, y = v4 + 1 := ⟨_, rfl⟩
          have hw := hw x12 ex12
          refine lv_iinc (v := x12) (lv' := [(4, .int x12), (0, .ref (a 0)), (2, .int v2), (3, .int v3)]) hx hb dX7_bring_119 hl (k := 3) rfl (by rw [ex12]; rfl) (by decide) rfl (fun ls hl => ?_)
          refine lv_goto (tgt := 85) hx hb dX7_bring_122 (by decide) ?_
          exact ih v2 v3 x12 s11 _ _ _ hw hP hD hS (lv_sub hl [1, 2, 3, 0] rfl)
  have hl := lv_entry ([.ref (a 0), .int p0]) (n := 5) (Nat.le_of_ble_eq_true rfl)
  rw [lg_entry_eq]
  generalize (lg_sl ([.ref (a 0), .int p0]) ++ List.replicate (5 - (lg_sl ([.ref (a 0), .int p0])).length) Slot.unset).toArray = ls at hl ⊢
  have hl : lv_has ls 5 [(0, .ref (a 0)), (1, .int p0)] := hl
  unfold wp_X7_bring at hw
  refine lv_iload_n hx hb dX7_bring_0 rfl (lv_at hl 1 rfl) ?_
  refine lv_bipush (v := 15) hx hb dX7_bring_1 (by decide) ?_
  refine lv_iand hx hb dX7_bring_3 ?_
  refine lv_topi (fun x1 ex1 => ?_)
  have hw := hw x1 ex1
  refine lv_istore_n (lv' := [(2, .int x1), (0, .ref (a 0)), (1, .int p0)]) hx hb dX7_bring_4 rfl hl (by decide) rfl (fun ls hl => ?_)
  refine lv_iconst (v := 1) hx hb dX7_bring_5 (by decide) ?_
  refine lv_istore_n (lv' := [(3, .int 1), (2, .int x1), (0, .ref (a 0)), (1, .int p0)]) hx hb dX7_bring_6 rfl hl (by decide) rfl (fun ls hl => ?_)
  refine lv_aload_n hx hb dX7_bring_7 rfl (lv_at hl 2 rfl) ?_
  refine va_get (D := (dC, dI)) (ci := 5) (v := .ref (a 4)) (C := RX7) (T := TX7) (N := 8) hx hb hts h_in7 hown hK hP 0 rfl rfl 3 (by decide) h_f21 (fun _ h9 => h9) rfl dX7_bring_8 ?_
  refine lv_iload_n hx hb dX7_bring_11 rfl (lv_at hl 1 rfl) ?_
  have c2 := hw.1
  have hw := hw.2
  refine va_zald hx hb hK hP 4 1 rfl rfl c2 dX7_bring_12 ?_
  refine lv_if_eq (tgt := 82) hx hb dX7_bring_13 (by decide) (fun c3 => ?_) (fun c3 => ?_)
  · have hw := hw.1 c3
    refine lv_iconst (v := 0) hx hb dX7_bring_82 (by decide) ?_
    refine lv_istore (lv' := [(4, .int 0), (3, .int 1), (2, .int x1), (0, .ref (a 0)), (1, .int p0)]) hx hb dX7_bring_83 hl (by decide) rfl (fun ls hl => ?_)
    obtain ⟨nf, hw⟩ := hw
    exact b85 nf x1 1 0 s0 _ _ _ hw hP hD hS (lv_sub hl [3, 2, 1, 0] rfl)
  · have hw := hw.2 c3
    refine lv_aload_n hx hb dX7_bring_16 rfl (lv_at hl 2 rfl) ?_
    refine va_get (D := (dC, dI)) (ci := 5) (v := .ref (a 4)) (C := RX7) (T := TX7) (N := 8) hx hb hts h_in7 hown hK hP 0 rfl rfl 3 (by decide) h_f21 (fun _ h9 => h9) rfl dX7_bring_17 ?_
    refine lv_iload_n hx hb dX7_bring_20 rfl (lv_at hl 1 rfl) ?_
    refine lv_iconst (v := 0) hx hb dX7_bring_21 (by decide) ?_
    have c13 := hw.1
    have hw := hw.2
    refine va_zast hx hb hK hP hD hS 4 1 rfl rfl c13 dX7_bring_22 (fun H locs hP hD hS => ?_)
    obtain ⟨s14, es14⟩ : ∃ y : tm_St, y = tm_s s0 4 (upd (s0 4) (x1 : Int32).toNatClampNeg (vp_nar .boolean 0)) := ⟨_, rfl⟩
    have hw := hw s14 es14
    have hP : va_P (dC, dI) vwCl (tm_wWay cI cZ a s14) H := by rw [es14]; exact hP
    have hD : va_D A (tm_wWay cI cZ a s14) := by rw [es14]; exact hD
    refine lv_aload_n hx hb dX7_bring_23 rfl (lv_at hl 2 rfl) ?_
    refine lv_dup hx hb dX7_bring_24 rfl ?_
    refine va_get (D := (dC, dI)) (ci := 5) (v := .int (s14 0 7)) (C := RX7) (T := TX7) (N := 8) hx hb hts h_in7 hown hK hP 0 rfl rfl 7 (by decide) h_f35 (fun _ h9 => h9) rfl dX7_bring_25 ?_
    refine lv_iconst (v := 1) hx hb dX7_bring_28 (by decide) ?_
    refine lv_isub hx hb dX7_bring_29 ?_
    refine va_put (D := (dC, dI)) (ci := 5) (v := .int ((s14 0 7) - 1)) (ty := .int) (C := RX7) (T := TX7) (N := 8) hx hb hts h_in7 tyX7 tyX7_ok nmX7 hown hK hP hD hS 0 rfl rfl 7 (by decide) h_f35 (fun _ h9 => h9) rfl (by decide +kernel) rfl rfl (Nat.le_of_ble_eq_true rfl) dX7_bring_30 (fun H locs hP hD hS => ?_)
    obtain ⟨s15, es15⟩ : ∃ y : tm_St, y = tm_s s14 0 (tm_u (s14 0) 7 ((s14 0 7) - 1)) := ⟨_, rfl⟩
    have hw := hw s15 es15
    have hP : va_P (dC, dI) vwCl (tm_wWay cI cZ a s15) H := by rw [es15]; exact hP
    have hD : va_D A (tm_wWay cI cZ a s15) := by rw [es15]; exact hD
    refine lv_aload_n hx hb dX7_bring_33 rfl (lv_at hl 2 rfl) ?_
    refine lv_dup hx hb dX7_bring_34 rfl ?_
    refine va_get (D := (dC, dI)) (ci := 5) (v := .int (s15 0 5)) (C := RX7) (T := TX7) (N := 8) hx hb hts h_in7 hown hK hP 0 rfl rfl 5 (by decide) h_f29 (fun _ h9 => h9) rfl dX7_bring_35 ?_
    refine lv_iconst (v := 1) hx hb dX7_bring_38 (by decide) ?_
    refine lv_iadd hx hb dX7_bring_39 ?_
    refine va_put (D := (dC, dI)) (ci := 5) (v := .int ((s15 0 5) + 1)) (ty := .int) (C := RX7) (T := TX7) (N := 8) hx hb hts h_in7 tyX7 tyX7_ok nmX7 hown hK hP hD hS 0 rfl rfl 5 (by decide) h_f29 (fun _ h9 => h9) rfl (by decide +kernel) rfl rfl (Nat.le_of_ble_eq_true rfl) dX7_bring_40 (fun H locs hP hD hS => ?_)
    obtain ⟨s16, es16⟩ : ∃ y : tm_St, y = tm_s s15 0 (tm_u (s15 0) 5 ((s15 0 5) + 1)) := ⟨_, rfl⟩
    have hw := hw s16 es16
    have hP : va_P (dC, dI) vwCl (tm_wWay cI cZ a s16) H := by rw [es16]; exact hP
    have hD : va_D A (tm_wWay cI cZ a s16) := by rw [es16]; exact hD
    refine lv_aload_n hx hb dX7_bring_43 rfl (lv_at hl 2 rfl) ?_
    refine va_get (D := (dC, dI)) (ci := 5) (v := .int (s16 0 4)) (C := RX7) (T := TX7) (N := 8) hx hb hts h_in7 hown hK hP 0 rfl rfl 4 (by decide) h_f25 (fun _ h9 => h9) rfl dX7_bring_44 ?_
    refine lv_if_le (tgt := 66) hx hb dX7_bring_47 (by decide) (fun c17 => ?_) (fun c17 => ?_)
    · have hw := hw.1 c17
      refine lv_iconst (v := 0) hx hb dX7_bring_66 (by decide) ?_
      refine lv_istore_n (lv' := [(3, .int 0), (2, .int x1), (0, .ref (a 0)), (1, .int p0)]) hx hb dX7_bring_67 rfl hl (by decide) rfl (fun ls hl => ?_)
      refine lv_iload_n hx hb dX7_bring_68 rfl (lv_at hl 0 rfl) ?_
      refine lv_if_eq (tgt := 82) hx hb dX7_bring_69 (by decide) (fun _ => ?_) (fun c9 => absurd (by decide) c9)
      refine lv_iconst (v := 0) hx hb dX7_bring_82 (by decide) ?_
      refine lv_istore (lv' := [(4, .int 0), (3, .int 0), (2, .int x1), (0, .ref (a 0)), (1, .int p0)]) hx hb dX7_bring_83 hl (by decide) rfl (fun ls hl => ?_)
      obtain ⟨nf, hw⟩ := hw
      exact b85 nf x1 0 0 s16 _ _ _ hw hP hD hS (lv_sub hl [3, 2, 1, 0] rfl)
    · have hw := hw.2 c17
      refine lv_aload_n hx hb dX7_bring_50 rfl (lv_at hl 2 rfl) ?_
      refine va_get (D := (dC, dI)) (ci := 5) (v := .int (s16 0 5)) (C := RX7) (T := TX7) (N := 8) hx hb hts h_in7 hown hK hP 0 rfl rfl 5 (by decide) h_f29 (fun _ h9 => h9) rfl dX7_bring_51 ?_
      refine lv_aload_n hx hb dX7_bring_54 rfl (lv_at hl 2 rfl) ?_
      refine va_get (D := (dC, dI)) (ci := 5) (v := .int (s16 0 4)) (C := RX7) (T := TX7) (N := 8) hx hb hts h_in7 hown hK hP 0 rfl rfl 4 (by decide) h_f25 (fun _ h9 => h9) rfl dX7_bring_55 ?_
      have c18 := hw.1
      have hw := hw.2
      refine lv_irem hx hb dX7_bring_58 c18 ?_
      refine lv_if_ne (tgt := 66) hx hb dX7_bring_59 (by decide) (fun c19 => ?_) (fun c19 => ?_)
      · have hw := hw.1 c19
        refine lv_iconst (v := 0) hx hb dX7_bring_66 (by decide) ?_
        refine lv_istore_n (lv' := [(3, .int 0), (2, .int x1), (0, .ref (a 0)), (1, .int p0)]) hx hb dX7_bring_67 rfl hl (by decide) rfl (fun ls hl => ?_)
        refine lv_iload_n hx hb dX7_bring_68 rfl (lv_at hl 0 rfl) ?_
        refine lv_if_eq (tgt := 82) hx hb dX7_bring_69 (by decide) (fun _ => ?_) (fun c9 => absurd (by decide) c9)
        refine lv_iconst (v := 0) hx hb dX7_bring_82 (by decide) ?_
        refine lv_istore (lv' := [(4, .int 0), (3, .int 0), (2, .int x1), (0, .ref (a 0)), (1, .int p0)]) hx hb dX7_bring_83 hl (by decide) rfl (fun ls hl => ?_)
        obtain ⟨nf, hw⟩ := hw
        exact b85 nf x1 0 0 s16 _ _ _ hw hP hD hS (lv_sub hl [3, 2, 1, 0] rfl)
      · have hw := hw.2 c19
        refine lv_iconst (v := 1) hx hb dX7_bring_62 (by decide) ?_
        refine lv_goto (tgt := 67) hx hb dX7_bring_63 (by decide) ?_
        refine lv_istore_n (lv' := [(3, .int 1), (2, .int x1), (0, .ref (a 0)), (1, .int p0)]) hx hb dX7_bring_67 rfl hl (by decide) rfl (fun ls hl => ?_)
        refine lv_iload_n hx hb dX7_bring_68 rfl (lv_at hl 0 rfl) ?_
        refine lv_if_eq (tgt := 82) hx hb dX7_bring_69 (by decide) (fun c9 => absurd c9 (by decide)) (fun _ => ?_)
        refine lv_aload_n hx hb dX7_bring_72 rfl (lv_at hl 2 rfl) ?_
        refine lv_dup hx hb dX7_bring_73 rfl ?_
        refine va_get (D := (dC, dI)) (ci := 5) (v := .int (s16 0 6)) (C := RX7) (T := TX7) (N := 8) hx hb hts h_in7 hown hK hP 0 rfl rfl 6 (by decide) h_f32 (fun _ h9 => h9) rfl dX7_bring_74 ?_
        refine lv_iconst (v := 1) hx hb dX7_bring_77 (by decide) ?_
        refine lv_iadd hx hb dX7_bring_78 ?_
        refine va_put (D := (dC, dI)) (ci := 5) (v := .int ((s16 0 6) + 1)) (ty := .int) (C := RX7) (T := TX7) (N := 8) hx hb hts h_in7 tyX7 tyX7_ok nmX7 hown hK hP hD hS 0 rfl rfl 6 (by decide) h_f32 (fun _ h9 => h9) rfl (by decide +kernel) rfl rfl (Nat.le_of_ble_eq_true rfl) dX7_bring_79 (fun H locs hP hD hS => ?_)
        obtain ⟨s20, es20⟩ : ∃ y : tm_St, y = tm_s s16 0 (tm_u (s16 0) 6 ((s16 0 6) + 1)) := ⟨_, rfl⟩
        have hw := hw s20 es20
        have hP : va_P (dC, dI) vwCl (tm_wWay cI cZ a s20) H := by rw [es20]; exact hP
        have hD : va_D A (tm_wWay cI cZ a s20) := by rw [es20]; exact hD
        refine lv_iconst (v := 0) hx hb dX7_bring_82 (by decide) ?_
        refine lv_istore (lv' := [(4, .int 0), (3, .int 1), (2, .int x1), (0, .ref (a 0)), (1, .int p0)]) hx hb dX7_bring_83 hl (by decide) rfl (fun ls hl => ?_)
        obtain ⟨nf, hw⟩ := hw
        exact b85 nf x1 1 0 s20 _ _ _ hw hP hD hS (lv_sub hl [3, 2, 1, 0] rfl)
def wp_X7_send_34 (K : tm_St → Prop) (v2 : Int32) (v3 : Int32) (v4 : Int32) (v5 : Int32) (v6 : Int32) (v7 : Int32) (s : tm_St) : Prop := (∀ x4 : Int32, x4 = (v7 * 8) → (vp_in x4 128 ∧ (∀ s6 : tm_St, s6 = tm_s s 3 (upd (s 3) (x4 : Int32).toNatClampNeg v2) → (vp_in (x4 + 1) 128 ∧ (∀ s8 : tm_St, s8 = tm_s s6 3 (upd (s6 3) ((x4 + 1) : Int32).toNatClampNeg v3) → (vp_in (x4 + 2) 128 ∧ (∀ s10 : tm_St, s10 = tm_s s8 3 (upd (s8 3) ((x4 + 2) : Int32).toNatClampNeg v4) → (vp_in (x4 + 3) 128 ∧ (∀ s12 : tm_St, s12 = tm_s s10 3 (upd (s10 3) ((x4 + 3) : Int32).toNatClampNeg v5) → (vp_in (x4 + 4) 128 ∧ (∀ s14 : tm_St, s14 = tm_s s12 3 (upd (s12 3) ((x4 + 4) : Int32).toNatClampNeg v6) → K s14)))))))))))
def wp_X7_send (p0 : Int32) (p1 : Int32) (p2 : Int32) (p3 : Int32) (p4 : Int32) (p5 : Int32) (s0 : tm_St) (K : tm_St → Prop) : Prop := (∀ x1 : Int32, x1 = (p0 &&& 15) → (vp_in x1 16 ∧ ((¬ (s0 4 (x1 : Int32).toNatClampNeg) = 0 → wp_X7_send_34 K p1 p2 p3 p4 p5 x1 s0) ∧ ((s0 4 (x1 : Int32).toNatClampNeg) = 0 → (vp_in x1 16 ∧ (∀ s16 : tm_St, s16 = tm_s s0 4 (upd (s0 4) (x1 : Int32).toNatClampNeg (vp_nar .boolean 1)) → (∀ s17 : tm_St, s17 = tm_s s16 0 (tm_u (s16 0) 7 ((s16 0 7) + 1)) → wp_X7_send_34 K p1 p2 p3 p4 p5 x1 s17)))))))
set_option maxRecDepth 100000 in
set_option maxHeartbeats 4000000 in
theorem kk_X7_send (l : Launch) (dC : Nat → ClassId) (dI : Nat → Nat → Nat) (cI cZ : ClassId) (a : Nat → Nat) (s0 : tm_St) (sz : Nat) (p0 : Int32) (p1 : Int32) (p2 : Int32) (p3 : Int32) (p4 : Int32) (p5 : Int32) (K : tm_St → Prop) (hw : wp_X7_send p0 p1 p2 p3 p4 p5 s0 K) : Met l yX7_send wsX7_send ({ frames := 0, cells := 0, slots := 0, locals := 0 }) (va_Pc [.ref (a 0), .int p0, .int p1, .int p2, .int p3, .int p4, .int p5] (tm_Pre dC dI cI cZ (tm_wWay cI cZ a s0) sz)) (va_Qv (fun (u : tm_St) => K u) (fun (u : tm_St) t => tm_At dC dI cI cZ (va_A (tm_wWay cI cZ a s0) sz) (tm_wWay cI cZ a u) t) (va_A (tm_wWay cI cZ a s0) sz)) 0 0 (va_A (tm_wWay cI cZ a s0) sz) := by
  refine Met.ofW (cc := cX7_send) (maxL := 9) (ret := none) (by decide +kernel) rfl ?_
  intro p e z m args below meth c z₁ B hml hv
  obtain ⟨rfl, hsz, hP, hK, hD0⟩ := hv
  have hx := B.exec
  have hb := B.bytes
  have hr := B.returns
  have hts := atoms_spec (ws := wsX7_send) B.pre
  have hown : z.vm.findClass RX7 = some m.cls := findClass_of_methodNamed B.named
  have hlocks := B.notSynchronized
  subst hsz
  have hD := hD0.self (sz := z.heap.size)
  generalize hAe : va_A (tm_wWay cI cZ a s0) z.heap.size = A at hD ⊢
  have hA : ∀ q : Nat, z.heap.size ≤ q → A q := fun q h => by rw [← hAe]; exact Or.inr h
  have hS : va_S A z.heap z.heap [] := va_S.rf
  have h_f21 := hts (.fieldLink RX7 21 "TwoModems$Way" "full" "[Z") (by decide +kernel)
  have h_in7 : ∀ w ∈ u_ws RX7 TX7 8, w ∈ wsX7_send := by decide +kernel
  have h_f18 := hts (.fieldLink RX7 18 "TwoModems$Way" "rows" "[I") (by decide +kernel)
  have h_f35 := hts (.fieldLink RX7 35 "TwoModems$Way" "underWay" "I") (by decide +kernel)
  have b34 : ∀ (v2 : Int32) (v3 : Int32) (v4 : Int32) (v5 : Int32) (v6 : Int32) (v7 : Int32) (s : tm_St) (H : Heap) (locs : List Loc) (ls : Array Slot), wp_X7_send_34 K v2 v3 v4 v5 v6 v7 s → va_P (dC, dI) vwCl (tm_wWay cI cZ a s) H → va_D A (tm_wWay cI cZ a s) → va_S A z.heap H locs → lv_has ls 9 [(0, .ref (a 0)), (2, .int v2), (3, .int v3), (4, .int v4), (5, .int v5), (6, .int v6), (7, .int v7)] → W p l e (headSpec wsX7_send ({ frames := 0, cells := 0, slots := 0, locals := 0 })).room z m (([.ref (a 0), .int p0, .int p1, .int p2, .int p3, .int p4, .int p5] : List Value).toArray) below meth c H locs 0 0 (MQ below (va_Qv (fun (u : tm_St) => K u) (fun (u : tm_St) t => tm_At dC dI cI cZ A (tm_wWay cI cZ a u) t) A) (([.ref (a 0), .int p0, .int p1, .int p2, .int p3, .int p4, .int p5] : List Value).toArray) z 0 0 A) (F0 m 34 ls []) := by
    intro v2 v3 v4 v5 v6 v7 s H locs ls hw hP hD hS hl
    unfold wp_X7_send_34 at hw
    refine lv_iload hx hb dX7_send_34 (lv_at hl 6 rfl) ?_
    refine lv_bipush (v := 8) hx hb dX7_send_36 (by decide) ?_
    refine lv_imul hx hb dX7_send_38 ?_
    refine lv_topi (fun x4 ex4 => ?_)
    have hw := hw x4 ex4
    refine lv_istore (lv' := [(8, .int x4), (0, .ref (a 0)), (2, .int v2), (3, .int v3), (4, .int v4), (5, .int v5), (6, .int v6), (7, .int v7)]) hx hb dX7_send_39 hl (by decide) rfl (fun ls hl => ?_)
    refine lv_aload_n hx hb dX7_send_41 rfl (lv_at hl 1 rfl) ?_
    refine va_get (D := (dC, dI)) (ci := 5) (v := .ref (a 3)) (C := RX7) (T := TX7) (N := 8) hx hb hts h_in7 hown hK hP 0 rfl rfl 2 (by decide) h_f18 (fun _ h9 => h9) rfl dX7_send_42 ?_
    refine lv_iload hx hb dX7_send_45 (lv_at hl 0 rfl) ?_
    refine lv_iload_n hx hb dX7_send_47 rfl (lv_at hl 2 rfl) ?_
    have c5 := hw.1
    have hw := hw.2
    refine va_iast hx hb hK hP hD hS 3 0 rfl rfl c5 dX7_send_48 (fun H locs hP hD hS => ?_)
    obtain ⟨s6, es6⟩ : ∃ y : tm_St, y = tm_s s 3 (upd (s 3) (x4 : Int32).toNatClampNeg v2) := ⟨_, rfl⟩
    have hw := hw s6 es6
    have hP : va_P (dC, dI) vwCl (tm_wWay cI cZ a s6) H := by rw [es6]; exact hP
    have hD : va_D A (tm_wWay cI cZ a s6) := by rw [es6]; exact hD
    refine lv_aload_n hx hb dX7_send_49 rfl (lv_at hl 1 rfl) ?_
    refine va_get (D := (dC, dI)) (ci := 5) (v := .ref (a 3)) (C := RX7) (T := TX7) (N := 8) hx hb hts h_in7 hown hK hP 0 rfl rfl 2 (by decide) h_f18 (fun _ h9 => h9) rfl dX7_send_50 ?_
    refine lv_iload hx hb dX7_send_53 (lv_at hl 0 rfl) ?_
    refine lv_iconst (v := 1) hx hb dX7_send_55 (by decide) ?_
    refine lv_iadd hx hb dX7_send_56 ?_
    refine lv_iload_n hx hb dX7_send_57 rfl (lv_at hl 3 rfl) ?_
    have c7 := hw.1
    have hw := hw.2
    refine va_iast hx hb hK hP hD hS 3 0 rfl rfl c7 dX7_send_58 (fun H locs hP hD hS => ?_)
    obtain ⟨s8, es8⟩ : ∃ y : tm_St, y = tm_s s6 3 (upd (s6 3) ((x4 + 1) : Int32).toNatClampNeg v3) := ⟨_, rfl⟩
    have hw := hw s8 es8
    have hP : va_P (dC, dI) vwCl (tm_wWay cI cZ a s8) H := by rw [es8]; exact hP
    have hD : va_D A (tm_wWay cI cZ a s8) := by rw [es8]; exact hD
    refine lv_aload_n hx hb dX7_send_59 rfl (lv_at hl 1 rfl) ?_
    refine va_get (D := (dC, dI)) (ci := 5) (v := .ref (a 3)) (C := RX7) (T := TX7) (N := 8) hx hb hts h_in7 hown hK hP 0 rfl rfl 2 (by decide) h_f18 (fun _ h9 => h9) rfl dX7_send_60 ?_
    refine lv_iload hx hb dX7_send_63 (lv_at hl 0 rfl) ?_
    refine lv_iconst (v := 2) hx hb dX7_send_65 (by decide) ?_
    refine lv_iadd hx hb dX7_send_66 ?_
    refine lv_iload hx hb dX7_send_67 (lv_at hl 4 rfl) ?_
    have c9 := hw.1
    have hw := hw.2
    refine va_iast hx hb hK hP hD hS 3 0 rfl rfl c9 dX7_send_69 (fun H locs hP hD hS => ?_)
    obtain ⟨s10, es10⟩ : ∃ y : tm_St, y = tm_s s8 3 (upd (s8 3) ((x4 + 2) : Int32).toNatClampNeg v4) := ⟨_, rfl⟩
    have hw := hw s10 es10
    have hP : va_P (dC, dI) vwCl (tm_wWay cI cZ a s10) H := by rw [es10]; exact hP
    have hD : va_D A (tm_wWay cI cZ a s10) := by rw [es10]; exact hD
    refine lv_aload_n hx hb dX7_send_70 rfl (lv_at hl 1 rfl) ?_
    refine va_get (D := (dC, dI)) (ci := 5) (v := .ref (a 3)) (C := RX7) (T := TX7) (N := 8) hx hb hts h_in7 hown hK hP 0 rfl rfl 2 (by decide) h_f18 (fun _ h9 => h9) rfl dX7_send_71 ?_
    refine lv_iload hx hb dX7_send_74 (lv_at hl 0 rfl) ?_
    refine lv_iconst (v := 3) hx hb dX7_send_76 (by decide) ?_
    refine lv_iadd hx hb dX7_send_77 ?_
    refine lv_iload hx hb dX7_send_78 (lv_at hl 5 rfl) ?_
    have c11 := hw.1
    have hw := hw.2
    refine va_iast hx hb hK hP hD hS 3 0 rfl rfl c11 dX7_send_80 (fun H locs hP hD hS => ?_)
    obtain ⟨s12, es12⟩ : ∃ y : tm_St, y = tm_s s10 3 (upd (s10 3) ((x4 + 3) : Int32).toNatClampNeg v5) := ⟨_, rfl⟩
    have hw := hw s12 es12
    have hP : va_P (dC, dI) vwCl (tm_wWay cI cZ a s12) H := by rw [es12]; exact hP
    have hD : va_D A (tm_wWay cI cZ a s12) := by rw [es12]; exact hD
    refine lv_aload_n hx hb dX7_send_81 rfl (lv_at hl 1 rfl) ?_
    refine va_get (D := (dC, dI)) (ci := 5) (v := .ref (a 3)) (C := RX7) (T := TX7) (N := 8) hx hb hts h_in7 hown hK hP 0 rfl rfl 2 (by decide) h_f18 (fun _ h9 => h9) rfl dX7_send_82 ?_
    refine lv_iload hx hb dX7_send_85 (lv_at hl 0 rfl) ?_
    refine lv_iconst (v := 4) hx hb dX7_send_87 (by decide) ?_
    refine lv_iadd hx hb dX7_send_88 ?_
    refine lv_iload hx hb dX7_send_89 (lv_at hl 6 rfl) ?_
    have c13 := hw.1
    have hw := hw.2
    refine va_iast hx hb hK hP hD hS 3 0 rfl rfl c13 dX7_send_91 (fun H locs hP hD hS => ?_)
    obtain ⟨s14, es14⟩ : ∃ y : tm_St, y = tm_s s12 3 (upd (s12 3) ((x4 + 4) : Int32).toNatClampNeg v6) := ⟨_, rfl⟩
    have hw := hw s14 es14
    have hP : va_P (dC, dI) vwCl (tm_wWay cI cZ a s14) H := by rw [es14]; exact hP
    have hD : va_D A (tm_wWay cI cZ a s14) := by rw [es14]; exact hD
    exact W.vret hx hb hr (fun t ht hW => ⟨⟨s14, rfl, hw, by rw [ht]; exact hP, va_K.moved hW.alike hK, hD⟩, hS.F ht⟩) hS.2.2 dX7_send_92
  have hl := lv_entry ([.ref (a 0), .int p0, .int p1, .int p2, .int p3, .int p4, .int p5]) (n := 9) (Nat.le_of_ble_eq_true rfl)
  rw [lg_entry_eq]
  generalize (lg_sl ([.ref (a 0), .int p0, .int p1, .int p2, .int p3, .int p4, .int p5]) ++ List.replicate (9 - (lg_sl ([.ref (a 0), .int p0, .int p1, .int p2, .int p3, .int p4, .int p5])).length) Slot.unset).toArray = ls at hl ⊢
  have hl : lv_has ls 9 [(0, .ref (a 0)), (1, .int p0), (2, .int p1), (3, .int p2), (4, .int p3), (5, .int p4), (6, .int p5)] := hl
  unfold wp_X7_send at hw
  refine lv_iload_n hx hb dX7_send_0 rfl (lv_at hl 1 rfl) ?_
  refine lv_bipush (v := 15) hx hb dX7_send_1 (by decide) ?_
  refine lv_iand hx hb dX7_send_3 ?_
  refine lv_topi (fun x1 ex1 => ?_)
  have hw := hw x1 ex1
  refine lv_istore (lv' := [(7, .int x1), (0, .ref (a 0)), (1, .int p0), (2, .int p1), (3, .int p2), (4, .int p3), (5, .int p4), (6, .int p5)]) hx hb dX7_send_4 hl (by decide) rfl (fun ls hl => ?_)
  refine lv_aload_n hx hb dX7_send_6 rfl (lv_at hl 1 rfl) ?_
  refine va_get (D := (dC, dI)) (ci := 5) (v := .ref (a 4)) (C := RX7) (T := TX7) (N := 8) hx hb hts h_in7 hown hK hP 0 rfl rfl 3 (by decide) h_f21 (fun _ h9 => h9) rfl dX7_send_7 ?_
  refine lv_iload hx hb dX7_send_10 (lv_at hl 0 rfl) ?_
  have c2 := hw.1
  have hw := hw.2
  refine va_zald hx hb hK hP 4 1 rfl rfl c2 dX7_send_12 ?_
  refine lv_if_ne (tgt := 34) hx hb dX7_send_13 (by decide) (fun c3 => ?_) (fun c3 => ?_)
  · have hw := hw.1 c3
    exact b34 p1 p2 p3 p4 p5 x1 s0 _ _ _ hw hP hD hS (lv_sub hl [1, 3, 4, 5, 6, 7, 0] rfl)
  · have hw := hw.2 c3
    refine lv_aload_n hx hb dX7_send_16 rfl (lv_at hl 1 rfl) ?_
    refine va_get (D := (dC, dI)) (ci := 5) (v := .ref (a 4)) (C := RX7) (T := TX7) (N := 8) hx hb hts h_in7 hown hK hP 0 rfl rfl 3 (by decide) h_f21 (fun _ h9 => h9) rfl dX7_send_17 ?_
    refine lv_iload hx hb dX7_send_20 (lv_at hl 0 rfl) ?_
    refine lv_iconst (v := 1) hx hb dX7_send_22 (by decide) ?_
    have c15 := hw.1
    have hw := hw.2
    refine va_zast hx hb hK hP hD hS 4 1 rfl rfl c15 dX7_send_23 (fun H locs hP hD hS => ?_)
    obtain ⟨s16, es16⟩ : ∃ y : tm_St, y = tm_s s0 4 (upd (s0 4) (x1 : Int32).toNatClampNeg (vp_nar .boolean 1)) := ⟨_, rfl⟩
    have hw := hw s16 es16
    have hP : va_P (dC, dI) vwCl (tm_wWay cI cZ a s16) H := by rw [es16]; exact hP
    have hD : va_D A (tm_wWay cI cZ a s16) := by rw [es16]; exact hD
    refine lv_aload_n hx hb dX7_send_24 rfl (lv_at hl 1 rfl) ?_
    refine lv_dup hx hb dX7_send_25 rfl ?_
    refine va_get (D := (dC, dI)) (ci := 5) (v := .int (s16 0 7)) (C := RX7) (T := TX7) (N := 8) hx hb hts h_in7 hown hK hP 0 rfl rfl 7 (by decide) h_f35 (fun _ h9 => h9) rfl dX7_send_26 ?_
    refine lv_iconst (v := 1) hx hb dX7_send_29 (by decide) ?_
    refine lv_iadd hx hb dX7_send_30 ?_
    refine va_put (D := (dC, dI)) (ci := 5) (v := .int ((s16 0 7) + 1)) (ty := .int) (C := RX7) (T := TX7) (N := 8) hx hb hts h_in7 tyX7 tyX7_ok nmX7 hown hK hP hD hS 0 rfl rfl 7 (by decide) h_f35 (fun _ h9 => h9) rfl (by decide +kernel) rfl rfl (Nat.le_of_ble_eq_true rfl) dX7_send_31 (fun H locs hP hD hS => ?_)
    obtain ⟨s17, es17⟩ : ∃ y : tm_St, y = tm_s s16 0 (tm_u (s16 0) 7 ((s16 0 7) + 1)) := ⟨_, rfl⟩
    have hw := hw s17 es17
    have hP : va_P (dC, dI) vwCl (tm_wWay cI cZ a s17) H := by rw [es17]; exact hP
    have hD : va_D A (tm_wWay cI cZ a s17) := by rw [es17]; exact hD
    exact b34 p1 p2 p3 p4 p5 x1 s17 _ _ _ hw hP hD hS (lv_sub hl [1, 3, 4, 5, 6, 7, 0] rfl)
def wp_X7_enclose (p0 : Int32) (p1 : Int32) (p2 : Int32) (s0 : tm_St) (K : tm_St → Prop) : Prop := ((p1 < 0 → K s0) ∧ (¬ p1 < 0 → (((3 : Int32) ≤ p1 → K s0) ∧ (¬ (3 : Int32) ≤ p1 → (vp_in ((((p0 &&& 15) * 8) + 5) + p1) 128 ∧ (∀ s4 : tm_St, s4 = tm_s s0 3 (upd (s0 3) (((((p0 &&& 15) * 8) + 5) + p1) : Int32).toNatClampNeg p2) → K s4))))))
set_option maxRecDepth 100000 in
set_option maxHeartbeats 4000000 in
theorem kk_X7_enclose (l : Launch) (dC : Nat → ClassId) (dI : Nat → Nat → Nat) (cI cZ : ClassId) (a : Nat → Nat) (s0 : tm_St) (sz : Nat) (p0 : Int32) (p1 : Int32) (p2 : Int32) (K : tm_St → Prop) (hw : wp_X7_enclose p0 p1 p2 s0 K) : Met l yX7_enclose wsX7_enclose ({ frames := 0, cells := 0, slots := 0, locals := 0 }) (va_Pc [.ref (a 0), .int p0, .int p1, .int p2] (tm_Pre dC dI cI cZ (tm_wWay cI cZ a s0) sz)) (va_Qv (fun (u : tm_St) => K u) (fun (u : tm_St) t => tm_At dC dI cI cZ (va_A (tm_wWay cI cZ a s0) sz) (tm_wWay cI cZ a u) t) (va_A (tm_wWay cI cZ a s0) sz)) 0 0 (va_A (tm_wWay cI cZ a s0) sz) := by
  refine Met.ofW (cc := cX7_enclose) (maxL := 4) (ret := none) (by decide +kernel) rfl ?_
  intro p e z m args below meth c z₁ B hml hv
  obtain ⟨rfl, hsz, hP, hK, hD0⟩ := hv
  have hx := B.exec
  have hb := B.bytes
  have hr := B.returns
  have hts := atoms_spec (ws := wsX7_enclose) B.pre
  have hown : z.vm.findClass RX7 = some m.cls := findClass_of_methodNamed B.named
  have hlocks := B.notSynchronized
  subst hsz
  have hD := hD0.self (sz := z.heap.size)
  generalize hAe : va_A (tm_wWay cI cZ a s0) z.heap.size = A at hD ⊢
  have hA : ∀ q : Nat, z.heap.size ≤ q → A q := fun q h => by rw [← hAe]; exact Or.inr h
  have hS : va_S A z.heap z.heap [] := va_S.rf
  have h_f18 := hts (.fieldLink RX7 18 "TwoModems$Way" "rows" "[I") (by decide +kernel)
  have h_in7 : ∀ w ∈ u_ws RX7 TX7 8, w ∈ wsX7_enclose := by decide +kernel
  have hl := lv_entry ([.ref (a 0), .int p0, .int p1, .int p2]) (n := 4) (Nat.le_of_ble_eq_true rfl)
  rw [lg_entry_eq]
  generalize (lg_sl ([.ref (a 0), .int p0, .int p1, .int p2]) ++ List.replicate (4 - (lg_sl ([.ref (a 0), .int p0, .int p1, .int p2])).length) Slot.unset).toArray = ls at hl ⊢
  have hl : lv_has ls 4 [(0, .ref (a 0)), (1, .int p0), (2, .int p1), (3, .int p2)] := hl
  unfold wp_X7_enclose at hw
  refine lv_iload_n hx hb dX7_enclose_0 rfl (lv_at hl 2 rfl) ?_
  refine lv_if_lt (tgt := 26) hx hb dX7_enclose_1 (by decide) (fun c1 => ?_) (fun c1 => ?_)
  · have hw := hw.1 c1
    exact W.vret hx hb hr (fun t ht hW => ⟨⟨s0, rfl, hw, by rw [ht]; exact hP, va_K.moved hW.alike hK, hD⟩, hS.F ht⟩) hS.2.2 dX7_enclose_26
  · have hw := hw.2 c1
    refine lv_iload_n hx hb dX7_enclose_4 rfl (lv_at hl 2 rfl) ?_
    refine lv_iconst (v := 3) hx hb dX7_enclose_5 (by decide) ?_
    refine lv_icmp_ge (tgt := 26) hx hb dX7_enclose_6 (by decide) (fun c2 => ?_) (fun c2 => ?_)
    · have hw := hw.1 c2
      exact W.vret hx hb hr (fun t ht hW => ⟨⟨s0, rfl, hw, by rw [ht]; exact hP, va_K.moved hW.alike hK, hD⟩, hS.F ht⟩) hS.2.2 dX7_enclose_26
    · have hw := hw.2 c2
      refine lv_aload_n hx hb dX7_enclose_9 rfl (lv_at hl 0 rfl) ?_
      refine va_get (D := (dC, dI)) (ci := 5) (v := .ref (a 3)) (C := RX7) (T := TX7) (N := 8) hx hb hts h_in7 hown hK hP 0 rfl rfl 2 (by decide) h_f18 (fun _ h9 => h9) rfl dX7_enclose_10 ?_
      refine lv_iload_n hx hb dX7_enclose_13 rfl (lv_at hl 1 rfl) ?_
      refine lv_bipush (v := 15) hx hb dX7_enclose_14 (by decide) ?_
      refine lv_iand hx hb dX7_enclose_16 ?_
      refine lv_bipush (v := 8) hx hb dX7_enclose_17 (by decide) ?_
      refine lv_imul hx hb dX7_enclose_19 ?_
      refine lv_iconst (v := 5) hx hb dX7_enclose_20 (by decide) ?_
      refine lv_iadd hx hb dX7_enclose_21 ?_
      refine lv_iload_n hx hb dX7_enclose_22 rfl (lv_at hl 2 rfl) ?_
      refine lv_iadd hx hb dX7_enclose_23 ?_
      refine lv_iload_n hx hb dX7_enclose_24 rfl (lv_at hl 3 rfl) ?_
      have c3 := hw.1
      have hw := hw.2
      refine va_iast hx hb hK hP hD hS 3 0 rfl rfl c3 dX7_enclose_25 (fun H locs hP hD hS => ?_)
      obtain ⟨s4, es4⟩ : ∃ y : tm_St, y = tm_s s0 3 (upd (s0 3) (((((p0 &&& 15) * 8) + 5) + p1) : Int32).toNatClampNeg p2) := ⟨_, rfl⟩
      have hw := hw s4 es4
      have hP : va_P (dC, dI) vwCl (tm_wWay cI cZ a s4) H := by rw [es4]; exact hP
      have hD : va_D A (tm_wWay cI cZ a s4) := by rw [es4]; exact hD
      exact W.vret hx hb hr (fun t ht hW => ⟨⟨s4, rfl, hw, by rw [ht]; exact hP, va_K.moved hW.alike hK, hD⟩, hS.F ht⟩) hS.2.2 dX7_enclose_26
def wp_X7_sort  (s0 : tm_St) (K : Int32 → tm_St → Prop) : Prop := (vp_in 0 8 ∧ K (s0 2 (0 : Int32).toNatClampNeg) s0)
set_option maxRecDepth 100000 in
set_option maxHeartbeats 4000000 in
theorem kk_X7_sort (l : Launch) (dC : Nat → ClassId) (dI : Nat → Nat → Nat) (cI cZ : ClassId) (a : Nat → Nat) (s0 : tm_St) (sz : Nat)  (K : Int32 → tm_St → Prop) (hw : wp_X7_sort s0 K) : Met l yX7_sort wsX7_sort ({ frames := 0, cells := 0, slots := 0, locals := 0 }) (va_Pc [.ref (a 0)] (tm_Pre dC dI cI cZ (tm_wWay cI cZ a s0) sz)) (va_Qi (fun (r : Int32) (u : tm_St) => K r u) (fun (u : tm_St) t => tm_At dC dI cI cZ (va_A (tm_wWay cI cZ a s0) sz) (tm_wWay cI cZ a u) t) (va_A (tm_wWay cI cZ a s0) sz)) 0 0 (va_A (tm_wWay cI cZ a s0) sz) := by
  refine Met.ofW (cc := cX7_sort) (maxL := 1) (ret := (some .int)) (by decide +kernel) rfl ?_
  intro p e z m args below meth c z₁ B hml hv
  obtain ⟨rfl, hsz, hP, hK, hD0⟩ := hv
  have hx := B.exec
  have hb := B.bytes
  have hr := B.returns
  have hts := atoms_spec (ws := wsX7_sort) B.pre
  have hown : z.vm.findClass RX7 = some m.cls := findClass_of_methodNamed B.named
  have hlocks := B.notSynchronized
  subst hsz
  have hD := hD0.self (sz := z.heap.size)
  generalize hAe : va_A (tm_wWay cI cZ a s0) z.heap.size = A at hD ⊢
  have hA : ∀ q : Nat, z.heap.size ≤ q → A q := fun q h => by rw [← hAe]; exact Or.inr h
  have hS : va_S A z.heap z.heap [] := va_S.rf
  have h_f15 := hts (.fieldLink RX7 15 "TwoModems$Way" "latest" "[I") (by decide +kernel)
  have h_in7 : ∀ w ∈ u_ws RX7 TX7 8, w ∈ wsX7_sort := by decide +kernel
  have hl := lv_entry ([.ref (a 0)]) (n := 1) (Nat.le_of_ble_eq_true rfl)
  rw [lg_entry_eq]
  generalize (lg_sl ([.ref (a 0)]) ++ List.replicate (1 - (lg_sl ([.ref (a 0)])).length) Slot.unset).toArray = ls at hl ⊢
  have hl : lv_has ls 1 [(0, .ref (a 0))] := hl
  unfold wp_X7_sort at hw
  refine lv_aload_n hx hb dX7_sort_0 rfl (lv_at hl 0 rfl) ?_
  refine va_get (D := (dC, dI)) (ci := 5) (v := .ref (a 2)) (C := RX7) (T := TX7) (N := 8) hx hb hts h_in7 hown hK hP 0 rfl rfl 1 (by decide) h_f15 (fun _ h9 => h9) rfl dX7_sort_1 ?_
  refine lv_iconst (v := 0) hx hb dX7_sort_4 (by decide) ?_
  have c1 := hw.1
  have hw := hw.2
  refine va_iald hx hb hK hP 2 0 rfl rfl c1 dX7_sort_5 ?_
  exact W.iret (v := (s0 2 (0 : Int32).toNatClampNeg)) hx hb hr (fun t ht hW => ⟨⟨(s0 2 (0 : Int32).toNatClampNeg), s0, rfl, hw, by rw [ht]; exact hP, va_K.moved hW.alike hK, hD⟩, hS.F ht⟩) hS.2.2 dX7_sort_6
def wp_X7_first  (s0 : tm_St) (K : Int32 → tm_St → Prop) : Prop := (vp_in 1 8 ∧ K (s0 2 (1 : Int32).toNatClampNeg) s0)
set_option maxRecDepth 100000 in
set_option maxHeartbeats 4000000 in
theorem kk_X7_first (l : Launch) (dC : Nat → ClassId) (dI : Nat → Nat → Nat) (cI cZ : ClassId) (a : Nat → Nat) (s0 : tm_St) (sz : Nat)  (K : Int32 → tm_St → Prop) (hw : wp_X7_first s0 K) : Met l yX7_first wsX7_first ({ frames := 0, cells := 0, slots := 0, locals := 0 }) (va_Pc [.ref (a 0)] (tm_Pre dC dI cI cZ (tm_wWay cI cZ a s0) sz)) (va_Qi (fun (r : Int32) (u : tm_St) => K r u) (fun (u : tm_St) t => tm_At dC dI cI cZ (va_A (tm_wWay cI cZ a s0) sz) (tm_wWay cI cZ a u) t) (va_A (tm_wWay cI cZ a s0) sz)) 0 0 (va_A (tm_wWay cI cZ a s0) sz) := by
  refine Met.ofW (cc := cX7_first) (maxL := 1) (ret := (some .int)) (by decide +kernel) rfl ?_
  intro p e z m args below meth c z₁ B hml hv
  obtain ⟨rfl, hsz, hP, hK, hD0⟩ := hv
  have hx := B.exec
  have hb := B.bytes
  have hr := B.returns
  have hts := atoms_spec (ws := wsX7_first) B.pre
  have hown : z.vm.findClass RX7 = some m.cls := findClass_of_methodNamed B.named
  have hlocks := B.notSynchronized
  subst hsz
  have hD := hD0.self (sz := z.heap.size)
  generalize hAe : va_A (tm_wWay cI cZ a s0) z.heap.size = A at hD ⊢
  have hA : ∀ q : Nat, z.heap.size ≤ q → A q := fun q h => by rw [← hAe]; exact Or.inr h
  have hS : va_S A z.heap z.heap [] := va_S.rf
  have h_f15 := hts (.fieldLink RX7 15 "TwoModems$Way" "latest" "[I") (by decide +kernel)
  have h_in7 : ∀ w ∈ u_ws RX7 TX7 8, w ∈ wsX7_first := by decide +kernel
  have hl := lv_entry ([.ref (a 0)]) (n := 1) (Nat.le_of_ble_eq_true rfl)
  rw [lg_entry_eq]
  generalize (lg_sl ([.ref (a 0)]) ++ List.replicate (1 - (lg_sl ([.ref (a 0)])).length) Slot.unset).toArray = ls at hl ⊢
  have hl : lv_has ls 1 [(0, .ref (a 0))] := hl
  unfold wp_X7_first at hw
  refine lv_aload_n hx hb dX7_first_0 rfl (lv_at hl 0 rfl) ?_
  refine va_get (D := (dC, dI)) (ci := 5) (v := .ref (a 2)) (C := RX7) (T := TX7) (N := 8) hx hb hts h_in7 hown hK hP 0 rfl rfl 1 (by decide) h_f15 (fun _ h9 => h9) rfl dX7_first_1 ?_
  refine lv_iconst (v := 1) hx hb dX7_first_4 (by decide) ?_
  have c1 := hw.1
  have hw := hw.2
  refine va_iald hx hb hK hP 2 0 rfl rfl c1 dX7_first_5 ?_
  exact W.iret (v := (s0 2 (1 : Int32).toNatClampNeg)) hx hb hr (fun t ht hW => ⟨⟨(s0 2 (1 : Int32).toNatClampNeg), s0, rfl, hw, by rw [ht]; exact hP, va_K.moved hW.alike hK, hD⟩, hS.F ht⟩) hS.2.2 dX7_first_6
def wp_X7_second  (s0 : tm_St) (K : Int32 → tm_St → Prop) : Prop := (vp_in 2 8 ∧ K (s0 2 (2 : Int32).toNatClampNeg) s0)
set_option maxRecDepth 100000 in
set_option maxHeartbeats 4000000 in
theorem kk_X7_second (l : Launch) (dC : Nat → ClassId) (dI : Nat → Nat → Nat) (cI cZ : ClassId) (a : Nat → Nat) (s0 : tm_St) (sz : Nat)  (K : Int32 → tm_St → Prop) (hw : wp_X7_second s0 K) : Met l yX7_second wsX7_second ({ frames := 0, cells := 0, slots := 0, locals := 0 }) (va_Pc [.ref (a 0)] (tm_Pre dC dI cI cZ (tm_wWay cI cZ a s0) sz)) (va_Qi (fun (r : Int32) (u : tm_St) => K r u) (fun (u : tm_St) t => tm_At dC dI cI cZ (va_A (tm_wWay cI cZ a s0) sz) (tm_wWay cI cZ a u) t) (va_A (tm_wWay cI cZ a s0) sz)) 0 0 (va_A (tm_wWay cI cZ a s0) sz) := by
  refine Met.ofW (cc := cX7_second) (maxL := 1) (ret := (some .int)) (by decide +kernel) rfl ?_
  intro p e z m args below meth c z₁ B hml hv
  obtain ⟨rfl, hsz, hP, hK, hD0⟩ := hv
  have hx := B.exec
  have hb := B.bytes
  have hr := B.returns
  have hts := atoms_spec (ws := wsX7_second) B.pre
  have hown : z.vm.findClass RX7 = some m.cls := findClass_of_methodNamed B.named
  have hlocks := B.notSynchronized
  subst hsz
  have hD := hD0.self (sz := z.heap.size)
  generalize hAe : va_A (tm_wWay cI cZ a s0) z.heap.size = A at hD ⊢
  have hA : ∀ q : Nat, z.heap.size ≤ q → A q := fun q h => by rw [← hAe]; exact Or.inr h
  have hS : va_S A z.heap z.heap [] := va_S.rf
  have h_f15 := hts (.fieldLink RX7 15 "TwoModems$Way" "latest" "[I") (by decide +kernel)
  have h_in7 : ∀ w ∈ u_ws RX7 TX7 8, w ∈ wsX7_second := by decide +kernel
  have hl := lv_entry ([.ref (a 0)]) (n := 1) (Nat.le_of_ble_eq_true rfl)
  rw [lg_entry_eq]
  generalize (lg_sl ([.ref (a 0)]) ++ List.replicate (1 - (lg_sl ([.ref (a 0)])).length) Slot.unset).toArray = ls at hl ⊢
  have hl : lv_has ls 1 [(0, .ref (a 0))] := hl
  unfold wp_X7_second at hw
  refine lv_aload_n hx hb dX7_second_0 rfl (lv_at hl 0 rfl) ?_
  refine va_get (D := (dC, dI)) (ci := 5) (v := .ref (a 2)) (C := RX7) (T := TX7) (N := 8) hx hb hts h_in7 hown hK hP 0 rfl rfl 1 (by decide) h_f15 (fun _ h9 => h9) rfl dX7_second_1 ?_
  refine lv_iconst (v := 2) hx hb dX7_second_4 (by decide) ?_
  have c1 := hw.1
  have hw := hw.2
  refine va_iald hx hb hK hP 2 0 rfl rfl c1 dX7_second_5 ?_
  exact W.iret (v := (s0 2 (2 : Int32).toNatClampNeg)) hx hb hr (fun t ht hW => ⟨⟨(s0 2 (2 : Int32).toNatClampNeg), s0, rfl, hw, by rw [ht]; exact hP, va_K.moved hW.alike hK, hD⟩, hS.F ht⟩) hS.2.2 dX7_second_6
def wp_X7_told  (s0 : tm_St) (K : Int32 → tm_St → Prop) : Prop := (vp_in 4 8 ∧ K (s0 2 (4 : Int32).toNatClampNeg) s0)
set_option maxRecDepth 100000 in
set_option maxHeartbeats 4000000 in
theorem kk_X7_told (l : Launch) (dC : Nat → ClassId) (dI : Nat → Nat → Nat) (cI cZ : ClassId) (a : Nat → Nat) (s0 : tm_St) (sz : Nat)  (K : Int32 → tm_St → Prop) (hw : wp_X7_told s0 K) : Met l yX7_told wsX7_told ({ frames := 0, cells := 0, slots := 0, locals := 0 }) (va_Pc [.ref (a 0)] (tm_Pre dC dI cI cZ (tm_wWay cI cZ a s0) sz)) (va_Qi (fun (r : Int32) (u : tm_St) => K r u) (fun (u : tm_St) t => tm_At dC dI cI cZ (va_A (tm_wWay cI cZ a s0) sz) (tm_wWay cI cZ a u) t) (va_A (tm_wWay cI cZ a s0) sz)) 0 0 (va_A (tm_wWay cI cZ a s0) sz) := by
  refine Met.ofW (cc := cX7_told) (maxL := 1) (ret := (some .int)) (by decide +kernel) rfl ?_
  intro p e z m args below meth c z₁ B hml hv
  obtain ⟨rfl, hsz, hP, hK, hD0⟩ := hv
  have hx := B.exec
  have hb := B.bytes
  have hr := B.returns
  have hts := atoms_spec (ws := wsX7_told) B.pre
  have hown : z.vm.findClass RX7 = some m.cls := findClass_of_methodNamed B.named
  have hlocks := B.notSynchronized
  subst hsz
  have hD := hD0.self (sz := z.heap.size)
  generalize hAe : va_A (tm_wWay cI cZ a s0) z.heap.size = A at hD ⊢
  have hA : ∀ q : Nat, z.heap.size ≤ q → A q := fun q h => by rw [← hAe]; exact Or.inr h
  have hS : va_S A z.heap z.heap [] := va_S.rf
  have h_f15 := hts (.fieldLink RX7 15 "TwoModems$Way" "latest" "[I") (by decide +kernel)
  have h_in7 : ∀ w ∈ u_ws RX7 TX7 8, w ∈ wsX7_told := by decide +kernel
  have hl := lv_entry ([.ref (a 0)]) (n := 1) (Nat.le_of_ble_eq_true rfl)
  rw [lg_entry_eq]
  generalize (lg_sl ([.ref (a 0)]) ++ List.replicate (1 - (lg_sl ([.ref (a 0)])).length) Slot.unset).toArray = ls at hl ⊢
  have hl : lv_has ls 1 [(0, .ref (a 0))] := hl
  unfold wp_X7_told at hw
  refine lv_aload_n hx hb dX7_told_0 rfl (lv_at hl 0 rfl) ?_
  refine va_get (D := (dC, dI)) (ci := 5) (v := .ref (a 2)) (C := RX7) (T := TX7) (N := 8) hx hb hts h_in7 hown hK hP 0 rfl rfl 1 (by decide) h_f15 (fun _ h9 => h9) rfl dX7_told_1 ?_
  refine lv_iconst (v := 4) hx hb dX7_told_4 (by decide) ?_
  have c1 := hw.1
  have hw := hw.2
  refine va_iald hx hb hK hP 2 0 rfl rfl c1 dX7_told_5 ?_
  exact W.iret (v := (s0 2 (4 : Int32).toNatClampNeg)) hx hb hr (fun t ht hW => ⟨⟨(s0 2 (4 : Int32).toNatClampNeg), s0, rfl, hw, by rw [ht]; exact hP, va_K.moved hW.alike hK, hD⟩, hS.F ht⟩) hS.2.2 dX7_told_6
def wp_X7_letters  (s0 : tm_St) (K : Int32 → tm_St → Prop) : Prop := (vp_in 3 8 ∧ K (s0 2 (3 : Int32).toNatClampNeg) s0)
set_option maxRecDepth 100000 in
set_option maxHeartbeats 4000000 in
theorem kk_X7_letters (l : Launch) (dC : Nat → ClassId) (dI : Nat → Nat → Nat) (cI cZ : ClassId) (a : Nat → Nat) (s0 : tm_St) (sz : Nat)  (K : Int32 → tm_St → Prop) (hw : wp_X7_letters s0 K) : Met l yX7_letters wsX7_letters ({ frames := 0, cells := 0, slots := 0, locals := 0 }) (va_Pc [.ref (a 0)] (tm_Pre dC dI cI cZ (tm_wWay cI cZ a s0) sz)) (va_Qi (fun (r : Int32) (u : tm_St) => K r u) (fun (u : tm_St) t => tm_At dC dI cI cZ (va_A (tm_wWay cI cZ a s0) sz) (tm_wWay cI cZ a u) t) (va_A (tm_wWay cI cZ a s0) sz)) 0 0 (va_A (tm_wWay cI cZ a s0) sz) := by
  refine Met.ofW (cc := cX7_letters) (maxL := 1) (ret := (some .int)) (by decide +kernel) rfl ?_
  intro p e z m args below meth c z₁ B hml hv
  obtain ⟨rfl, hsz, hP, hK, hD0⟩ := hv
  have hx := B.exec
  have hb := B.bytes
  have hr := B.returns
  have hts := atoms_spec (ws := wsX7_letters) B.pre
  have hown : z.vm.findClass RX7 = some m.cls := findClass_of_methodNamed B.named
  have hlocks := B.notSynchronized
  subst hsz
  have hD := hD0.self (sz := z.heap.size)
  generalize hAe : va_A (tm_wWay cI cZ a s0) z.heap.size = A at hD ⊢
  have hA : ∀ q : Nat, z.heap.size ≤ q → A q := fun q h => by rw [← hAe]; exact Or.inr h
  have hS : va_S A z.heap z.heap [] := va_S.rf
  have h_f15 := hts (.fieldLink RX7 15 "TwoModems$Way" "latest" "[I") (by decide +kernel)
  have h_in7 : ∀ w ∈ u_ws RX7 TX7 8, w ∈ wsX7_letters := by decide +kernel
  have hl := lv_entry ([.ref (a 0)]) (n := 1) (Nat.le_of_ble_eq_true rfl)
  rw [lg_entry_eq]
  generalize (lg_sl ([.ref (a 0)]) ++ List.replicate (1 - (lg_sl ([.ref (a 0)])).length) Slot.unset).toArray = ls at hl ⊢
  have hl : lv_has ls 1 [(0, .ref (a 0))] := hl
  unfold wp_X7_letters at hw
  refine lv_aload_n hx hb dX7_letters_0 rfl (lv_at hl 0 rfl) ?_
  refine va_get (D := (dC, dI)) (ci := 5) (v := .ref (a 2)) (C := RX7) (T := TX7) (N := 8) hx hb hts h_in7 hown hK hP 0 rfl rfl 1 (by decide) h_f15 (fun _ h9 => h9) rfl dX7_letters_1 ?_
  refine lv_iconst (v := 3) hx hb dX7_letters_4 (by decide) ?_
  have c1 := hw.1
  have hw := hw.2
  refine va_iald hx hb hK hP 2 0 rfl rfl c1 dX7_letters_5 ?_
  exact W.iret (v := (s0 2 (3 : Int32).toNatClampNeg)) hx hb hr (fun t ht hW => ⟨⟨(s0 2 (3 : Int32).toNatClampNeg), s0, rfl, hw, by rw [ht]; exact hP, va_K.moved hW.alike hK, hD⟩, hS.F ht⟩) hS.2.2 dX7_letters_6
def wp_X7_enclosed (p0 : Int32) (s0 : tm_St) (K : Int32 → tm_St → Prop) : Prop := ((p0 < 0 → K 0 s0) ∧ (¬ p0 < 0 → (((3 : Int32) ≤ p0 → K 0 s0) ∧ (¬ (3 : Int32) ≤ p0 → (vp_in (5 + p0) 8 ∧ K (s0 2 ((5 + p0) : Int32).toNatClampNeg) s0)))))
set_option maxRecDepth 100000 in
set_option maxHeartbeats 4000000 in
theorem kk_X7_enclosed (l : Launch) (dC : Nat → ClassId) (dI : Nat → Nat → Nat) (cI cZ : ClassId) (a : Nat → Nat) (s0 : tm_St) (sz : Nat) (p0 : Int32) (K : Int32 → tm_St → Prop) (hw : wp_X7_enclosed p0 s0 K) : Met l yX7_enclosed wsX7_enclosed ({ frames := 0, cells := 0, slots := 0, locals := 0 }) (va_Pc [.ref (a 0), .int p0] (tm_Pre dC dI cI cZ (tm_wWay cI cZ a s0) sz)) (va_Qi (fun (r : Int32) (u : tm_St) => K r u) (fun (u : tm_St) t => tm_At dC dI cI cZ (va_A (tm_wWay cI cZ a s0) sz) (tm_wWay cI cZ a u) t) (va_A (tm_wWay cI cZ a s0) sz)) 0 0 (va_A (tm_wWay cI cZ a s0) sz) := by
  refine Met.ofW (cc := cX7_enclosed) (maxL := 2) (ret := (some .int)) (by decide +kernel) rfl ?_
  intro p e z m args below meth c z₁ B hml hv
  obtain ⟨rfl, hsz, hP, hK, hD0⟩ := hv
  have hx := B.exec
  have hb := B.bytes
  have hr := B.returns
  have hts := atoms_spec (ws := wsX7_enclosed) B.pre
  have hown : z.vm.findClass RX7 = some m.cls := findClass_of_methodNamed B.named
  have hlocks := B.notSynchronized
  subst hsz
  have hD := hD0.self (sz := z.heap.size)
  generalize hAe : va_A (tm_wWay cI cZ a s0) z.heap.size = A at hD ⊢
  have hA : ∀ q : Nat, z.heap.size ≤ q → A q := fun q h => by rw [← hAe]; exact Or.inr h
  have hS : va_S A z.heap z.heap [] := va_S.rf
  have h_f15 := hts (.fieldLink RX7 15 "TwoModems$Way" "latest" "[I") (by decide +kernel)
  have h_in7 : ∀ w ∈ u_ws RX7 TX7 8, w ∈ wsX7_enclosed := by decide +kernel
  have hl := lv_entry ([.ref (a 0), .int p0]) (n := 2) (Nat.le_of_ble_eq_true rfl)
  rw [lg_entry_eq]
  generalize (lg_sl ([.ref (a 0), .int p0]) ++ List.replicate (2 - (lg_sl ([.ref (a 0), .int p0])).length) Slot.unset).toArray = ls at hl ⊢
  have hl : lv_has ls 2 [(0, .ref (a 0)), (1, .int p0)] := hl
  unfold wp_X7_enclosed at hw
  refine lv_iload_n hx hb dX7_enclosed_0 rfl (lv_at hl 1 rfl) ?_
  refine lv_if_lt (tgt := 20) hx hb dX7_enclosed_1 (by decide) (fun c1 => ?_) (fun c1 => ?_)
  · have hw := hw.1 c1
    refine lv_iconst (v := 0) hx hb dX7_enclosed_20 (by decide) ?_
    exact W.iret (v := 0) hx hb hr (fun t ht hW => ⟨⟨0, s0, rfl, hw, by rw [ht]; exact hP, va_K.moved hW.alike hK, hD⟩, hS.F ht⟩) hS.2.2 dX7_enclosed_21
  · have hw := hw.2 c1
    refine lv_iload_n hx hb dX7_enclosed_4 rfl (lv_at hl 1 rfl) ?_
    refine lv_iconst (v := 3) hx hb dX7_enclosed_5 (by decide) ?_
    refine lv_icmp_ge (tgt := 20) hx hb dX7_enclosed_6 (by decide) (fun c2 => ?_) (fun c2 => ?_)
    · have hw := hw.1 c2
      refine lv_iconst (v := 0) hx hb dX7_enclosed_20 (by decide) ?_
      exact W.iret (v := 0) hx hb hr (fun t ht hW => ⟨⟨0, s0, rfl, hw, by rw [ht]; exact hP, va_K.moved hW.alike hK, hD⟩, hS.F ht⟩) hS.2.2 dX7_enclosed_21
    · have hw := hw.2 c2
      refine lv_aload_n hx hb dX7_enclosed_9 rfl (lv_at hl 0 rfl) ?_
      refine va_get (D := (dC, dI)) (ci := 5) (v := .ref (a 2)) (C := RX7) (T := TX7) (N := 8) hx hb hts h_in7 hown hK hP 0 rfl rfl 1 (by decide) h_f15 (fun _ h9 => h9) rfl dX7_enclosed_10 ?_
      refine lv_iconst (v := 5) hx hb dX7_enclosed_13 (by decide) ?_
      refine lv_iload_n hx hb dX7_enclosed_14 rfl (lv_at hl 1 rfl) ?_
      refine lv_iadd hx hb dX7_enclosed_15 ?_
      have c3 := hw.1
      have hw := hw.2
      refine va_iald hx hb hK hP 2 0 rfl rfl c3 dX7_enclosed_16 ?_
      refine lv_goto (tgt := 21) hx hb dX7_enclosed_17 (by decide) ?_
      exact W.iret (v := (s0 2 ((5 + p0) : Int32).toNatClampNeg)) hx hb hr (fun t ht hW => ⟨⟨(s0 2 ((5 + p0) : Int32).toNatClampNeg), s0, rfl, hw, by rw [ht]; exact hP, va_K.moved hW.alike hK, hD⟩, hS.F ht⟩) hS.2.2 dX7_enclosed_21
