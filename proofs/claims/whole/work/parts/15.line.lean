def wp_X1_read_2 (K : tm_St → Prop) : Nat → Int32 → tm_St → Prop
  | 0, _, _ => False
  | n + 1, v2, s => (((8 : Int32) ≤ v2 → (wp_X4_delay  (tm_pj [11, 12] s) (fun r2 u4 => ∀ s3 : tm_St, s3 = tm_pk [11, 12] s u4 → (∀ s5 : tm_St, s5 = tm_s s3 0 (tm_u (s3 0) 2 r2) → (wp_X4_hurtOf 0 (tm_pj [11, 12] s5) (fun r6 u8 => ∀ s7 : tm_St, s7 = tm_pk [11, 12] s5 u8 → (∀ s9 : tm_St, s9 = tm_s s7 1 (tm_u (s7 1) 4 r6) → (wp_X4_hurtOf 1 (tm_pj [11, 12] s9) (fun r10 u12 => ∀ s11 : tm_St, s11 = tm_pk [11, 12] s9 u12 → (∀ s13 : tm_St, s13 = tm_s s11 6 (tm_u (s11 6) 4 r10) → (∀ s14 : tm_St, s14 = tm_s s13 0 (tm_u (s13 0) 3 ((s13 0 3) + 1)) → K s14))))))))))) ∧ (¬ (8 : Int32) ≤ v2 → (wp_X4_qualityAt 0 v2 (tm_pj [11, 12] s) (fun r15 u17 => ∀ s16 : tm_St, s16 = tm_pk [11, 12] s u17 → (vp_in v2 8 ∧ (∀ s19 : tm_St, s19 = tm_s s16 2 (upd (s16 2) (v2 : Int32).toNatClampNeg r15) → (wp_X4_qualityAt 1 v2 (tm_pj [11, 12] s19) (fun r20 u22 => ∀ s21 : tm_St, s21 = tm_pk [11, 12] s19 u22 → (vp_in v2 8 ∧ (∀ s24 : tm_St, s24 = tm_s s21 7 (upd (s21 7) (v2 : Int32).toNatClampNeg r20) → (∀ x25 : Int32, x25 = v2 + 1 → wp_X1_read_2 K n x25 s24)))))))))))
def wp_X1_read  (s0 : tm_St) (K : tm_St → Prop) : Prop := ∃ nf : Nat, wp_X1_read_2 K nf 0 s0
set_option maxRecDepth 100000 in
set_option maxHeartbeats 4000000 in
theorem kk_X1_read (l : Launch) (dC : Nat → ClassId) (dI : Nat → Nat → Nat) (cI cZ : ClassId) (a : Nat → Nat) (s0 : tm_St) (sz : Nat)  (K : tm_St → Prop) (hw : wp_X1_read s0 K) : Met l yX1_read wsX1_read ({ frames := 3, cells := 0, slots := 0, locals := 67 }) (va_Pc [.ref (a 0), .ref (a 11)] (tm_Pre dC dI cI cZ (tm_wLineR cI cZ a s0) sz)) (va_Qv (fun (u : tm_St) => K u) (fun (u : tm_St) t => tm_At dC dI cI cZ (va_A (tm_wLineR cI cZ a s0) sz) (tm_wLineR cI cZ a u) t) (va_A (tm_wLineR cI cZ a s0) sz)) 0 0 (va_A (tm_wLineR cI cZ a s0) sz) := by
  refine Met.ofW (cc := cX1_read) (maxL := 3) (ret := none) (by decide +kernel) rfl ?_
  intro p e z m args below meth c z₁ B hml hv
  obtain ⟨rfl, hsz, hP, hK, hD0⟩ := hv
  have hx := B.exec
  have hb := B.bytes
  have hr := B.returns
  have hts := atoms_spec (ws := wsX1_read) B.pre
  have hown : z.vm.findClass RX1 = some m.cls := findClass_of_methodNamed B.named
  have hlocks := B.notSynchronized
  subst hsz
  have hD := hD0.self (sz := z.heap.size)
  generalize hAe : va_A (tm_wLineR cI cZ a s0) z.heap.size = A at hD ⊢
  have hA : ∀ q : Nat, z.heap.size ≤ q → A q := fun q h => by rw [← hAe]; exact Or.inr h
  have hS : va_S A z.heap z.heap [] := va_S.rf
  have h_f21 := hts (.fieldLink RX1 21 "TwoModems$Line" "delay" "I") (by decide +kernel)
  have h_in1 : ∀ w ∈ u_ws RX1 TX1 4, w ∈ wsX1_read := by decide +kernel
  have h_f12 := hts (.fieldLink RX1 12 "TwoModems$Line" "forth" "LTwoModems$Way;") (by decide +kernel)
  have h_f45 := hts (.fieldLink RX1 45 "TwoModems$Way" "hurt" "I") (by decide +kernel)
  have h_in7 : ∀ w ∈ u_ws RX7 TX7 8, w ∈ wsX1_read := by decide +kernel
  have h_f18 := hts (.fieldLink RX1 18 "TwoModems$Line" "back" "LTwoModems$Way;") (by decide +kernel)
  have h_f25 := hts (.fieldLink RX1 25 "TwoModems$Line" "readings" "I") (by decide +kernel)
  have h_f28 := hts (.fieldLink RX1 28 "TwoModems$Way" "quality" "[I") (by decide +kernel)
  have b2 : ∀ (n : Nat) (v2 : Int32) (s : tm_St) (H : Heap) (locs : List Loc) (ls : Array Slot), wp_X1_read_2 K n v2 s → va_P (dC, dI) vwCl (tm_wLineR cI cZ a s) H → va_D A (tm_wLineR cI cZ a s) → va_S A z.heap H locs → lv_has ls 3 [(0, .ref (a 0)), (1, .ref (a 11)), (2, .int v2)] → W p l e (headSpec wsX1_read ({ frames := 3, cells := 0, slots := 0, locals := 67 })).room z m (([.ref (a 0), .ref (a 11)] : List Value).toArray) below meth c H locs 0 0 (MQ below (va_Qv (fun (u : tm_St) => K u) (fun (u : tm_St) t => tm_At dC dI cI cZ A (tm_wLineR cI cZ a u) t) A) (([.ref (a 0), .ref (a 11)] : List Value).toArray) z 0 0 A) (F0 m 2 ls []) := by
    intro n
    induction n with
    | zero => intro v2 s H locs ls hw hP hD hS hl; unfold wp_X1_read_2 at hw; exact hw.elim
    | succ n ih =>
      intro v2 s H locs ls hw hP hD hS hl
      unfold wp_X1_read_2 at hw
      refine lv_iload_n hx hb dX1_read_2 rfl (lv_at hl 2 rfl) ?_
      refine lv_bipush (v := 8) hx hb dX1_read_3 (by decide) ?_
      refine lv_icmp_ge (tgt := 44) hx hb dX1_read_5 (by decide) (fun c1 => ?_) (fun c1 => ?_)
      · have hw := hw.1 c1
        refine lv_aload_n hx hb dX1_read_44 rfl (lv_at hl 0 rfl) ?_
        refine lv_aload_n hx hb dX1_read_45 rfl (lv_at hl 1 rfl) ?_
        have hPc := hP.sub (ws' := (tm_wPage cI cZ (tm_pj [11, 12] a) (tm_pj [11, 12] s))) [11, 12] rfl
        have hDc := hD.sub (ws' := (tm_wPage cI cZ (tm_pj [11, 12] a) (tm_pj [11, 12] s))) [11, 12] (by decide) rfl
        have hFc := va_free (wc := (tm_wPage cI cZ (tm_pj [11, 12] a) (tm_pj [11, 12] s))) hD hS hA [11, 12] rfl
        refine va_calli (va_runV (As := []) (rest := [.ref (a 0)]) ⟨hx, hb, hml, hown, hts⟩ (kk_X4_delay l dC dI cI cZ (tm_pj [11, 12] a) (tm_pj [11, 12] s) H.size  _ hw) (cwV 0 hts gX1_read_X4_delay rfl rfl rfl (by decide +kernel) ⟨Nat.le_of_ble_eq_true rfl, Nat.le_of_ble_eq_true rfl⟩) ⟨tm_blind, va_recv hK hPc (ci := 4) (q0 := 0) rfl rfl, fun U hU hW => ⟨rfl, by rw [hU], by rw [hU]; exact hPc, va_K.moved hW.alike hK, hDc.weaken (fun _ _ _ _ => trivial)⟩⟩ rfl rfl hl.1 rfl (lv_room (Nat.le_of_ble_eq_true rfl)) dX1_read_46 ⟨Nat.zero_le _, Nat.zero_le _⟩) hS (fun q _ h => hFc q h) hFc (fun r2 u t H1 locs ht hvm hw hB hz1 hk1 hS => ?_)
        obtain ⟨hP1, hK1, hD1⟩ := hB
        rw [ht] at hP1
        obtain ⟨hP, hD⟩ := va_join (wr := ([0, 1, 2, 3, 4, 5, 6, 7, 8, 9, 10] : List Nat).filterMap (fun i => (tm_wLineR cI cZ a s)[i]?)) (w1 := (tm_wPage cI cZ (tm_pj [11, 12] a) u)) hP hD [11, 12] [0, 1, 2, 3, 4, 5, 6, 7, 8, 9, 10] rfl rfl (by decide) (by decide) hk1 hFc hP1 hD1
        generalize H1 = H at hP hS ⊢
        obtain ⟨s3, es3⟩ : ∃ y : tm_St, y = tm_pk [11, 12] s u := ⟨_, rfl⟩
        have hw := hw s3 es3
        have hP : va_P (dC, dI) vwCl (tm_wLineR cI cZ a s3) H := by rw [es3]; exact hP.sub [0, 1, 2, 3, 4, 5, 6, 7, 8, 9, 10, 11, 12] rfl
        have hD : va_D A (tm_wLineR cI cZ a s3) := by rw [es3]; exact hD.sub [0, 1, 2, 3, 4, 5, 6, 7, 8, 9, 10, 11, 12] (by decide) rfl
        refine va_put (D := (dC, dI)) (ci := 1) (v := .int r2) (ty := .int) (C := RX1) (T := TX1) (N := 4) hx hb hts h_in1 tyX1 tyX1_ok nmX1 hown hK hP hD hS 0 rfl rfl 2 (by decide) h_f21 (fun _ h9 => h9) rfl (by decide +kernel) rfl rfl (Nat.le_of_ble_eq_true rfl) dX1_read_49 (fun H locs hP hD hS => ?_)
        obtain ⟨s5, es5⟩ : ∃ y : tm_St, y = tm_s s3 0 (tm_u (s3 0) 2 r2) := ⟨_, rfl⟩
        have hw := hw s5 es5
        have hP : va_P (dC, dI) vwCl (tm_wLineR cI cZ a s5) H := by rw [es5]; exact hP
        have hD : va_D A (tm_wLineR cI cZ a s5) := by rw [es5]; exact hD
        refine lv_aload_n hx hb dX1_read_52 rfl (lv_at hl 0 rfl) ?_
        refine va_get (D := (dC, dI)) (ci := 1) (v := .ref (a 1)) (C := RX1) (T := TX1) (N := 4) hx hb hts h_in1 hown hK hP 0 rfl rfl 0 (by decide) h_f12 (fun _ h9 => h9) rfl dX1_read_53 ?_
        refine lv_aload_n hx hb dX1_read_56 rfl (lv_at hl 1 rfl) ?_
        refine lv_iconst (v := 0) hx hb dX1_read_57 (by decide) ?_
        have hPc := hP.sub (ws' := (tm_wPage cI cZ (tm_pj [11, 12] a) (tm_pj [11, 12] s5))) [11, 12] rfl
        have hDc := hD.sub (ws' := (tm_wPage cI cZ (tm_pj [11, 12] a) (tm_pj [11, 12] s5))) [11, 12] (by decide) rfl
        have hFc := va_free (wc := (tm_wPage cI cZ (tm_pj [11, 12] a) (tm_pj [11, 12] s5))) hD hS hA [11, 12] rfl
        refine va_calli (va_runV (As := [.int 0]) (rest := [.ref (a 1)]) ⟨hx, hb, hml, hown, hts⟩ (kk_X4_hurtOf l dC dI cI cZ (tm_pj [11, 12] a) (tm_pj [11, 12] s5) H.size 0 _ hw) (cwV 1 hts gX1_read_X4_hurtOf rfl rfl rfl (by decide +kernel) ⟨Nat.le_of_ble_eq_true rfl, Nat.le_of_ble_eq_true rfl⟩) ⟨tm_blind, va_recv hK hPc (ci := 4) (q0 := 0) rfl rfl, fun U hU hW => ⟨rfl, by rw [hU], by rw [hU]; exact hPc, va_K.moved hW.alike hK, hDc.weaken (fun _ _ _ _ => trivial)⟩⟩ rfl rfl hl.1 rfl (lv_room (Nat.le_of_ble_eq_true rfl)) dX1_read_58 ⟨Nat.zero_le _, Nat.zero_le _⟩) hS (fun q _ h => hFc q h) hFc (fun r6 u t H1 locs ht hvm hw hB hz1 hk1 hS => ?_)
        obtain ⟨hP1, hK1, hD1⟩ := hB
        rw [ht] at hP1
        obtain ⟨hP, hD⟩ := va_join (wr := ([0, 1, 2, 3, 4, 5, 6, 7, 8, 9, 10] : List Nat).filterMap (fun i => (tm_wLineR cI cZ a s5)[i]?)) (w1 := (tm_wPage cI cZ (tm_pj [11, 12] a) u)) hP hD [11, 12] [0, 1, 2, 3, 4, 5, 6, 7, 8, 9, 10] rfl rfl (by decide) (by decide) hk1 hFc hP1 hD1
        generalize H1 = H at hP hS ⊢
        obtain ⟨s7, es7⟩ : ∃ y : tm_St, y = tm_pk [11, 12] s5 u := ⟨_, rfl⟩
        have hw := hw s7 es7
        have hP : va_P (dC, dI) vwCl (tm_wLineR cI cZ a s7) H := by rw [es7]; exact hP.sub [0, 1, 2, 3, 4, 5, 6, 7, 8, 9, 10, 11, 12] rfl
        have hD : va_D A (tm_wLineR cI cZ a s7) := by rw [es7]; exact hD.sub [0, 1, 2, 3, 4, 5, 6, 7, 8, 9, 10, 11, 12] (by decide) rfl
        refine va_put (D := (dC, dI)) (ci := 5) (v := .int r6) (ty := .int) (C := RX7) (T := TX7) (N := 8) hx hb hts h_in7 tyX7 tyX7_ok nmX7 hown hK hP hD hS 1 rfl rfl 4 (by decide) h_f45 (fun _ h9 => h9) rfl (by decide +kernel) rfl rfl (Nat.le_of_ble_eq_true rfl) dX1_read_61 (fun H locs hP hD hS => ?_)
        obtain ⟨s9, es9⟩ : ∃ y : tm_St, y = tm_s s7 1 (tm_u (s7 1) 4 r6) := ⟨_, rfl⟩
        have hw := hw s9 es9
        have hP : va_P (dC, dI) vwCl (tm_wLineR cI cZ a s9) H := by rw [es9]; exact hP
        have hD : va_D A (tm_wLineR cI cZ a s9) := by rw [es9]; exact hD
        refine lv_aload_n hx hb dX1_read_64 rfl (lv_at hl 0 rfl) ?_
        refine va_get (D := (dC, dI)) (ci := 1) (v := .ref (a 6)) (C := RX1) (T := TX1) (N := 4) hx hb hts h_in1 hown hK hP 0 rfl rfl 1 (by decide) h_f18 (fun _ h9 => h9) rfl dX1_read_65 ?_
        refine lv_aload_n hx hb dX1_read_68 rfl (lv_at hl 1 rfl) ?_
        refine lv_iconst (v := 1) hx hb dX1_read_69 (by decide) ?_
        have hPc := hP.sub (ws' := (tm_wPage cI cZ (tm_pj [11, 12] a) (tm_pj [11, 12] s9))) [11, 12] rfl
        have hDc := hD.sub (ws' := (tm_wPage cI cZ (tm_pj [11, 12] a) (tm_pj [11, 12] s9))) [11, 12] (by decide) rfl
        have hFc := va_free (wc := (tm_wPage cI cZ (tm_pj [11, 12] a) (tm_pj [11, 12] s9))) hD hS hA [11, 12] rfl
        refine va_calli (va_runV (As := [.int 1]) (rest := [.ref (a 6)]) ⟨hx, hb, hml, hown, hts⟩ (kk_X4_hurtOf l dC dI cI cZ (tm_pj [11, 12] a) (tm_pj [11, 12] s9) H.size 1 _ hw) (cwV 1 hts gX1_read_X4_hurtOf rfl rfl rfl (by decide +kernel) ⟨Nat.le_of_ble_eq_true rfl, Nat.le_of_ble_eq_true rfl⟩) ⟨tm_blind, va_recv hK hPc (ci := 4) (q0 := 0) rfl rfl, fun U hU hW => ⟨rfl, by rw [hU], by rw [hU]; exact hPc, va_K.moved hW.alike hK, hDc.weaken (fun _ _ _ _ => trivial)⟩⟩ rfl rfl hl.1 rfl (lv_room (Nat.le_of_ble_eq_true rfl)) dX1_read_70 ⟨Nat.zero_le _, Nat.zero_le _⟩) hS (fun q _ h => hFc q h) hFc (fun r10 u t H1 locs ht hvm hw hB hz1 hk1 hS => ?_)
        obtain ⟨hP1, hK1, hD1⟩ := hB
        rw [ht] at hP1
        obtain ⟨hP, hD⟩ := va_join (wr := ([0, 1, 2, 3, 4, 5, 6, 7, 8, 9, 10] : List Nat).filterMap (fun i => (tm_wLineR cI cZ a s9)[i]?)) (w1 := (tm_wPage cI cZ (tm_pj [11, 12] a) u)) hP hD [11, 12] [0, 1, 2, 3, 4, 5, 6, 7, 8, 9, 10] rfl rfl (by decide) (by decide) hk1 hFc hP1 hD1
        generalize H1 = H at hP hS ⊢
        obtain ⟨s11, es11⟩ : ∃ y : tm_St, y = tm_pk [11, 12] s9 u := ⟨_, rfl⟩
        have hw := hw s11 es11
        have hP : va_P (dC, dI) vwCl (tm_wLineR cI cZ a s11) H := by rw [es11]; exact hP.sub [0, 1, 2, 3, 4, 5, 6, 7, 8, 9, 10, 11, 12] rfl
        have hD : va_D A (tm_wLineR cI cZ a s11) := by rw [es11]; exact hD.sub [0, 1, 2, 3, 4, 5, 6, 7, 8, 9, 10, 11, 12] (by decide) rfl
        refine va_put (D := (dC, dI)) (ci := 5) (v := .int r10) (ty := .int) (C := RX7) (T := TX7) (N := 8) hx hb hts h_in7 tyX7 tyX7_ok nmX7 hown hK hP hD hS 6 rfl rfl 4 (by decide) h_f45 (fun _ h9 => h9) rfl (by decide +kernel) rfl rfl (Nat.le_of_ble_eq_true rfl) dX1_read_73 (fun H locs hP hD hS => ?_)
        obtain ⟨s13, es13⟩ : ∃ y : tm_St, y = tm_s s11 6 (tm_u (s11 6) 4 r10) := ⟨_, rfl⟩
        have hw := hw s13 es13
        have hP : va_P (dC, dI) vwCl (tm_wLineR cI cZ a s13) H := by rw [es13]; exact hP
        have hD : va_D A (tm_wLineR cI cZ a s13) := by rw [es13]; exact hD
        refine lv_aload_n hx hb dX1_read_76 rfl (lv_at hl 0 rfl) ?_
        refine lv_dup hx hb dX1_read_77 rfl ?_
        refine va_get (D := (dC, dI)) (ci := 1) (v := .int (s13 0 3)) (C := RX1) (T := TX1) (N := 4) hx hb hts h_in1 hown hK hP 0 rfl rfl 3 (by decide) h_f25 (fun _ h9 => h9) rfl dX1_read_78 ?_
        refine lv_iconst (v := 1) hx hb dX1_read_81 (by decide) ?_
        refine lv_iadd hx hb dX1_read_82 ?_
        refine va_put (D := (dC, dI)) (ci := 1) (v := .int ((s13 0 3) + 1)) (ty := .int) (C := RX1) (T := TX1) (N := 4) hx hb hts h_in1 tyX1 tyX1_ok nmX1 hown hK hP hD hS 0 rfl rfl 3 (by decide) h_f25 (fun _ h9 => h9) rfl (by decide +kernel) rfl rfl (Nat.le_of_ble_eq_true rfl) dX1_read_83 (fun H locs hP hD hS => ?_)
        obtain ⟨s14, es14⟩ : ∃ y : tm_St, y = tm_s s13 0 (tm_u (s13 0) 3 ((s13 0 3) + 1)) := ⟨_, rfl⟩
        have hw := hw s14 es14
        have hP : va_P (dC, dI) vwCl (tm_wLineR cI cZ a s14) H := by rw [es14]; exact hP
        have hD : va_D A (tm_wLineR cI cZ a s14) := by rw [es14]; exact hD
        exact W.vret hx hb hr (fun t ht hW => ⟨⟨s14, rfl, hw, by rw [ht]; exact hP, va_K.moved hW.alike hK, hD⟩, hS.F ht⟩) hS.2.2 dX1_read_86
      · have hw := hw.2 c1
        refine lv_aload_n hx hb dX1_read_8 rfl (lv_at hl 0 rfl) ?_
        refine va_get (D := (dC, dI)) (ci := 1) (v := .ref (a 1)) (C := RX1) (T := TX1) (N := 4) hx hb hts h_in1 hown hK hP 0 rfl rfl 0 (by decide) h_f12 (fun _ h9 => h9) rfl dX1_read_9 ?_
        refine va_get (D := (dC, dI)) (ci := 5) (v := .ref (a 2)) (C := RX7) (T := TX7) (N := 8) hx hb hts h_in7 hown hK hP 1 rfl rfl 0 (by decide) h_f28 (fun _ h9 => h9) rfl dX1_read_12 ?_
        refine lv_iload_n hx hb dX1_read_15 rfl (lv_at hl 2 rfl) ?_
        refine lv_aload_n hx hb dX1_read_16 rfl (lv_at hl 1 rfl) ?_
        refine lv_iconst (v := 0) hx hb dX1_read_17 (by decide) ?_
        refine lv_iload_n hx hb dX1_read_18 rfl (lv_at hl 2 rfl) ?_
        have hPc := hP.sub (ws' := (tm_wPage cI cZ (tm_pj [11, 12] a) (tm_pj [11, 12] s))) [11, 12] rfl
        have hDc := hD.sub (ws' := (tm_wPage cI cZ (tm_pj [11, 12] a) (tm_pj [11, 12] s))) [11, 12] (by decide) rfl
        have hFc := va_free (wc := (tm_wPage cI cZ (tm_pj [11, 12] a) (tm_pj [11, 12] s))) hD hS hA [11, 12] rfl
        refine va_calli (va_runV (As := [.int 0, .int v2]) (rest := [.int v2, .ref (a 2)]) ⟨hx, hb, hml, hown, hts⟩ (kk_X4_qualityAt l dC dI cI cZ (tm_pj [11, 12] a) (tm_pj [11, 12] s) H.size 0 v2 _ hw) (cwV 2 hts gX1_read_X4_qualityAt rfl rfl rfl (by decide +kernel) ⟨Nat.le_of_ble_eq_true rfl, Nat.le_of_ble_eq_true rfl⟩) ⟨tm_blind, va_recv hK hPc (ci := 4) (q0 := 0) rfl rfl, fun U hU hW => ⟨rfl, by rw [hU], by rw [hU]; exact hPc, va_K.moved hW.alike hK, hDc.weaken (fun _ _ _ _ => trivial)⟩⟩ rfl rfl hl.1 rfl (lv_room (Nat.le_of_ble_eq_true rfl)) dX1_read_19 ⟨Nat.zero_le _, Nat.zero_le _⟩) hS (fun q _ h => hFc q h) hFc (fun r15 u t H1 locs ht hvm hw hB hz1 hk1 hS => ?_)
        obtain ⟨hP1, hK1, hD1⟩ := hB
        rw [ht] at hP1
        obtain ⟨hP, hD⟩ := va_join (wr := ([0, 1, 2, 3, 4, 5, 6, 7, 8, 9, 10] : List Nat).filterMap (fun i => (tm_wLineR cI cZ a s)[i]?)) (w1 := (tm_wPage cI cZ (tm_pj [11, 12] a) u)) hP hD [11, 12] [0, 1, 2, 3, 4, 5, 6, 7, 8, 9, 10] rfl rfl (by decide) (by decide) hk1 hFc hP1 hD1
        generalize H1 = H at hP hS ⊢
        obtain ⟨s16, es16⟩ : ∃ y : tm_St, y = tm_pk [11, 12] s u := ⟨_, rfl⟩
        have hw := hw s16 es16
        have hP : va_P (dC, dI) vwCl (tm_wLineR cI cZ a s16) H := by rw [es16]; exact hP.sub [0, 1, 2, 3, 4, 5, 6, 7, 8, 9, 10, 11, 12] rfl
        have hD : va_D A (tm_wLineR cI cZ a s16) := by rw [es16]; exact hD.sub [0, 1, 2, 3, 4, 5, 6, 7, 8, 9, 10, 11, 12] (by decide) rfl
        have c18 := hw.1
        have hw := hw.2
        refine va_iast hx hb hK hP hD hS 2 0 rfl rfl c18 dX1_read_22 (fun H locs hP hD hS => ?_)
        obtain ⟨s19, es19⟩ : ∃ y : tm_St, y = tm_s s16 2 (upd (s16 2) (v2 : Int32).toNatClampNeg r15) := ⟨_, rfl⟩
        have hw := hw s19 es19
        have hP : va_P (dC, dI) vwCl (tm_wLineR cI cZ a s19) H := by rw [es19]; exact hP
        have hD : va_D A (tm_wLineR cI cZ a s19) := by rw [es19]; exact hD
        refine lv_aload_n hx hb dX1_read_23 rfl (lv_at hl 0 rfl) ?_
        refine va_get (D := (dC, dI)) (ci := 1) (v := .ref (a 6)) (C := RX1) (T := TX1) (N := 4) hx hb hts h_in1 hown hK hP 0 rfl rfl 1 (by decide) h_f18 (fun _ h9 => h9) rfl dX1_read_24 ?_
        refine va_get (D := (dC, dI)) (ci := 5) (v := .ref (a 7)) (C := RX7) (T := TX7) (N := 8) hx hb hts h_in7 hown hK hP 6 rfl rfl 0 (by decide) h_f28 (fun _ h9 => h9) rfl dX1_read_27 ?_
        refine lv_iload_n hx hb dX1_read_30 rfl (lv_at hl 2 rfl) ?_
        refine lv_aload_n hx hb dX1_read_31 rfl (lv_at hl 1 rfl) ?_
        refine lv_iconst (v := 1) hx hb dX1_read_32 (by decide) ?_
        refine lv_iload_n hx hb dX1_read_33 rfl (lv_at hl 2 rfl) ?_
        have hPc := hP.sub (ws' := (tm_wPage cI cZ (tm_pj [11, 12] a) (tm_pj [11, 12] s19))) [11, 12] rfl
        have hDc := hD.sub (ws' := (tm_wPage cI cZ (tm_pj [11, 12] a) (tm_pj [11, 12] s19))) [11, 12] (by decide) rfl
        have hFc := va_free (wc := (tm_wPage cI cZ (tm_pj [11, 12] a) (tm_pj [11, 12] s19))) hD hS hA [11, 12] rfl
        refine va_calli (va_runV (As := [.int 1, .int v2]) (rest := [.int v2, .ref (a 7)]) ⟨hx, hb, hml, hown, hts⟩ (kk_X4_qualityAt l dC dI cI cZ (tm_pj [11, 12] a) (tm_pj [11, 12] s19) H.size 1 v2 _ hw) (cwV 2 hts gX1_read_X4_qualityAt rfl rfl rfl (by decide +kernel) ⟨Nat.le_of_ble_eq_true rfl, Nat.le_of_ble_eq_true rfl⟩) ⟨tm_blind, va_recv hK hPc (ci := 4) (q0 := 0) rfl rfl, fun U hU hW => ⟨rfl, by rw [hU], by rw [hU]; exact hPc, va_K.moved hW.alike hK, hDc.weaken (fun _ _ _ _ => trivial)⟩⟩ rfl rfl hl.1 rfl (lv_room (Nat.le_of_ble_eq_true rfl)) dX1_read_34 ⟨Nat.zero_le _, Nat.zero_le _⟩) hS (fun q _ h => hFc q h) hFc (fun r20 u t H1 locs ht hvm hw hB hz1 hk1 hS => ?_)
        obtain ⟨hP1, hK1, hD1⟩ := hB
        rw [ht] at hP1
        obtain ⟨hP, hD⟩ := va_join (wr := ([0, 1, 2, 3, 4, 5, 6, 7, 8, 9, 10] : List Nat).filterMap (fun i => (tm_wLineR cI cZ a s19)[i]?)) (w1 := (tm_wPage cI cZ (tm_pj [11, 12] a) u)) hP hD [11, 12] [0, 1, 2, 3, 4, 5, 6, 7, 8, 9, 10] rfl rfl (by decide) (by decide) hk1 hFc hP1 hD1
        generalize H1 = H at hP hS ⊢
        obtain ⟨s21, es21⟩ : ∃ y : tm_St, y = tm_pk [11, 12] s19 u := ⟨_, rfl⟩
        have hw := hw s21 es21
        have hP : va_P (dC, dI) vwCl (tm_wLineR cI cZ a s21) H := by rw [es21]; exact hP.sub [0, 1, 2, 3, 4, 5, 6, 7, 8, 9, 10, 11, 12] rfl
        have hD : va_D A (tm_wLineR cI cZ a s21) := by rw [es21]; exact hD.sub [0, 1, 2, 3, 4, 5, 6, 7, 8, 9, 10, 11, 12] (by decide) rfl
        have c23 := hw.1
        have hw := hw.2
        refine va_iast hx hb hK hP hD hS 7 0 rfl rfl c23 dX1_read_37 (fun H locs hP hD hS => ?_)
        obtain ⟨s24, es24⟩ : ∃ y : tm_St, y = tm_s s21 7 (upd (s21 7) (v2 : Int32).toNatClampNeg r20) := ⟨_, rfl⟩
        have hw := hw s24 es24
        have hP : va_P (dC, dI) vwCl (tm_wLineR cI cZ a s24) H := by rw [es24]; exact hP
        have hD : va_D A (tm_wLineR cI cZ a s24) := by rw [es24]; exact hD
        obtain ⟨x25, ex25⟩ : ∃ y : Int32, y = v2 + 1 := ⟨_, rfl⟩
        have hw := hw x25 ex25
        refine lv_iinc (v := x25) (lv' := [(2, .int x25), (0, .ref (a 0)), (1, .ref (a 11))]) hx hb dX1_read_38 hl (k := 2) rfl (by rw [ex25]; rfl) (by decide) rfl (fun ls hl => ?_)
        refine lv_goto (tgt := 2) hx hb dX1_read_41 (by decide) ?_
        exact ih x25 s24 _ _ _ hw hP hD hS (lv_sub hl [1, 2, 0] rfl)
  have hl := lv_entry ([.ref (a 0), .ref (a 11)]) (n := 3) (Nat.le_of_ble_eq_true rfl)
  rw [lg_entry_eq]
  generalize (lg_sl ([.ref (a 0), .ref (a 11)]) ++ List.replicate (3 - (lg_sl ([.ref (a 0), .ref (a 11)])).length) Slot.unset).toArray = ls at hl ⊢
  have hl : lv_has ls 3 [(0, .ref (a 0)), (1, .ref (a 11))] := hl
  unfold wp_X1_read at hw
  refine lv_iconst (v := 0) hx hb dX1_read_0 (by decide) ?_
  refine lv_istore_n (lv' := [(2, .int 0), (0, .ref (a 0)), (1, .ref (a 11))]) hx hb dX1_read_1 rfl hl (by decide) rfl (fun ls hl => ?_)
  obtain ⟨nf, hw⟩ := hw
  exact b2 nf 0 s0 _ _ _ hw hP hD hS (lv_sub hl [1, 2, 0] rfl)
def wp_J6_bitCount_0f7a4 (p0 : Int32) (K : Int32 → Prop) : Prop := (∀ x1 : Int32, x1 = (p0 - (((p0 : Int32).toUInt32 >>> ((1 : Int32).toUInt32 &&& Int32.toUInt32 31)).toInt32 &&& 1431655765)) → (∀ x2 : Int32, x2 = ((x1 &&& 858993459) + (((x1 : Int32).toUInt32 >>> ((2 : Int32).toUInt32 &&& Int32.toUInt32 31)).toInt32 &&& 858993459)) → (∀ x3 : Int32, x3 = ((x2 + ((x2 : Int32).toUInt32 >>> ((4 : Int32).toUInt32 &&& Int32.toUInt32 31)).toInt32) &&& 252645135) → (∀ x4 : Int32, x4 = (x3 + ((x3 : Int32).toUInt32 >>> ((8 : Int32).toUInt32 &&& Int32.toUInt32 31)).toInt32) → (∀ x5 : Int32, x5 = (x4 + ((x4 : Int32).toUInt32 >>> ((16 : Int32).toUInt32 &&& Int32.toUInt32 31)).toInt32) → K (x5 &&& 63))))))
set_option maxRecDepth 100000 in
set_option maxHeartbeats 4000000 in
theorem kk_J6_bitCount_0f7a4 (l : Launch) (dC : Nat → ClassId) (dI : Nat → Nat → Nat) (cI cZ : ClassId) (sz : Nat) (p0 : Int32) (K : Int32 → Prop) (hw : wp_J6_bitCount_0f7a4 p0 K) : Met l yJ6_bitCount_0f7a4 wsJ6_bitCount_0f7a4 ({ frames := 0, cells := 0, slots := 0, locals := 0 }) (va_Pc [.int p0] (tm_Pre dC dI cI cZ ([] : va_W) sz)) (va_Qi (fun (r : Int32) (_ : Unit) => K r) (fun (_ : Unit) t => tm_At dC dI cI cZ (va_A ([] : va_W) sz) ([] : va_W) t) (va_A ([] : va_W) sz)) 0 0 (va_A ([] : va_W) sz) := by
  refine Met.ofW (cc := cJ6_bitCount_0f7a4) (maxL := 1) (ret := (some .int)) (by decide +kernel) rfl ?_
  intro p e z m args below meth c z₁ B hml hv
  obtain ⟨rfl, hsz, hP, hK, hD0⟩ := hv
  have hx := B.exec
  have hb := B.bytes
  have hr := B.returns
  have hts := atoms_spec (ws := wsJ6_bitCount_0f7a4) B.pre
  have hown : z.vm.findClass RJ6 = some m.cls := findClass_of_methodNamed B.named
  have hlocks := B.notSynchronized
  subst hsz
  have hD := hD0.self (sz := z.heap.size)
  generalize hAe : va_A ([] : va_W) z.heap.size = A at hD ⊢
  have hA : ∀ q : Nat, z.heap.size ≤ q → A q := fun q h => by rw [← hAe]; exact Or.inr h
  have hS : va_S A z.heap z.heap [] := va_S.rf
  have h_c265 := hts (.constant RJ6 265 (1431655765)) (by decide +kernel)
  have h_c266 := hts (.constant RJ6 266 (858993459)) (by decide +kernel)
  have h_c267 := hts (.constant RJ6 267 (252645135)) (by decide +kernel)
  have hl := lv_entry ([.int p0]) (n := 1) (Nat.le_of_ble_eq_true rfl)
  rw [lg_entry_eq]
  generalize (lg_sl ([.int p0]) ++ List.replicate (1 - (lg_sl ([.int p0])).length) Slot.unset).toArray = ls at hl ⊢
  have hl : lv_has ls 1 [(0, .int p0)] := hl
  unfold wp_J6_bitCount_0f7a4 at hw
  refine lv_iload_n hx hb dJ6_bitCount_0f7a4_0 rfl (lv_at hl 0 rfl) ?_
  refine lv_iload_n hx hb dJ6_bitCount_0f7a4_1 rfl (lv_at hl 0 rfl) ?_
  refine lv_iconst (v := 1) hx hb dJ6_bitCount_0f7a4_2 (by decide) ?_
  refine lv_iushr hx hb dJ6_bitCount_0f7a4_3 rfl ?_
  refine lv_ldcw (v := 1431655765) hx hb hown h_c265 dJ6_bitCount_0f7a4_4 ?_
  refine lv_iand hx hb dJ6_bitCount_0f7a4_7 ?_
  refine lv_isub hx hb dJ6_bitCount_0f7a4_8 ?_
  refine lv_topi (fun x1 ex1 => ?_)
  have hw := hw x1 ex1
  refine lv_istore_n (lv' := [(0, .int x1)]) hx hb dJ6_bitCount_0f7a4_9 rfl hl (by decide) rfl (fun ls hl => ?_)
  refine lv_iload_n hx hb dJ6_bitCount_0f7a4_10 rfl (lv_at hl 0 rfl) ?_
  refine lv_ldcw (v := 858993459) hx hb hown h_c266 dJ6_bitCount_0f7a4_11 ?_
  refine lv_iand hx hb dJ6_bitCount_0f7a4_14 ?_
  refine lv_iload_n hx hb dJ6_bitCount_0f7a4_15 rfl (lv_at hl 0 rfl) ?_
  refine lv_iconst (v := 2) hx hb dJ6_bitCount_0f7a4_16 (by decide) ?_
  refine lv_iushr hx hb dJ6_bitCount_0f7a4_17 rfl ?_
  refine lv_ldcw (v := 858993459) hx hb hown h_c266 dJ6_bitCount_0f7a4_18 ?_
  refine lv_iand hx hb dJ6_bitCount_0f7a4_21 ?_
  refine lv_iadd hx hb dJ6_bitCount_0f7a4_22 ?_
  refine lv_topi (fun x2 ex2 => ?_)
  have hw := hw x2 ex2
  refine lv_istore_n (lv' := [(0, .int x2)]) hx hb dJ6_bitCount_0f7a4_23 rfl hl (by decide) rfl (fun ls hl => ?_)
  refine lv_iload_n hx hb dJ6_bitCount_0f7a4_24 rfl (lv_at hl 0 rfl) ?_
  refine lv_iload_n hx hb dJ6_bitCount_0f7a4_25 rfl (lv_at hl 0 rfl) ?_
  refine lv_iconst (v := 4) hx hb dJ6_bitCount_0f7a4_26 (by decide) ?_
  refine lv_iushr hx hb dJ6_bitCount_0f7a4_27 rfl ?_
  refine lv_iadd hx hb dJ6_bitCount_0f7a4_28 ?_
  refine lv_ldcw (v := 252645135) hx hb hown h_c267 dJ6_bitCount_0f7a4_29 ?_
  refine lv_iand hx hb dJ6_bitCount_0f7a4_32 ?_
  refine lv_topi (fun x3 ex3 => ?_)
  have hw := hw x3 ex3
  refine lv_istore_n (lv' := [(0, .int x3)]) hx hb dJ6_bitCount_0f7a4_33 rfl hl (by decide) rfl (fun ls hl => ?_)
  refine lv_iload_n hx hb dJ6_bitCount_0f7a4_34 rfl (lv_at hl 0 rfl) ?_
  refine lv_iload_n hx hb dJ6_bitCount_0f7a4_35 rfl (lv_at hl 0 rfl) ?_
  refine lv_bipush (v := 8) hx hb dJ6_bitCount_0f7a4_36 (by decide) ?_
  refine lv_iushr hx hb dJ6_bitCount_0f7a4_38 rfl ?_
  refine lv_iadd hx hb dJ6_bitCount_0f7a4_39 ?_
  refine lv_topi (fun x4 ex4 => ?_)
  have hw := hw x4 ex4
  refine lv_istore_n (lv' := [(0, .int x4)]) hx hb dJ6_bitCount_0f7a4_40 rfl hl (by decide) rfl (fun ls hl => ?_)
  refine lv_iload_n hx hb dJ6_bitCount_0f7a4_41 rfl (lv_at hl 0 rfl) ?_
  refine lv_iload_n hx hb dJ6_bitCount_0f7a4_42 rfl (lv_at hl 0 rfl) ?_
  refine lv_bipush (v := 16) hx hb dJ6_bitCount_0f7a4_43 (by decide) ?_
  refine lv_iushr hx hb dJ6_bitCount_0f7a4_45 rfl ?_
  refine lv_iadd hx hb dJ6_bitCount_0f7a4_46 ?_
  refine lv_topi (fun x5 ex5 => ?_)
  have hw := hw x5 ex5
  refine lv_istore_n (lv' := [(0, .int x5)]) hx hb dJ6_bitCount_0f7a4_47 rfl hl (by decide) rfl (fun ls hl => ?_)
  refine lv_iload_n hx hb dJ6_bitCount_0f7a4_48 rfl (lv_at hl 0 rfl) ?_
  refine lv_bipush (v := 63) hx hb dJ6_bitCount_0f7a4_49 (by decide) ?_
  refine lv_iand hx hb dJ6_bitCount_0f7a4_51 ?_
  exact W.iret (v := (x5 &&& 63)) hx hb hr (fun t ht hW => ⟨⟨(x5 &&& 63), (), rfl, hw, by rw [ht]; exact hP, va_K.moved hW.alike hK, hD⟩, hS.F ht⟩) hS.2.2 dJ6_bitCount_0f7a4_52
