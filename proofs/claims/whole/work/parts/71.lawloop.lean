set_option maxHeartbeats 4000000 in
set_option maxRecDepth 100000 in
theorem law_loop {p : Program} {l : Launch} {e : Env} {s : State} {m : MethodId} {below : List Frame} {meth : Method} {c : Code} {dC : Nat → ClassId} {dI : Nat → Nat → Nat} {cI cZ : ClassId} {b L : Nat} {xs : Nat → Int32} {a a2 : Nat → Nat} (hL : L ≤ 2048) (C0 : lw_At p s m meth c b L xs) (hK : va_K (dC, dI) vwCl [(cI, .int), (cZ, .boolean)] s) :
    ∀ (n i : Nat) (x3 : Int32), L + 4 ≤ i + n → i ≤ L → x3 = nI i → ∀ (u : Nat) (c1 r1 : tm_St) (hh : Int64), u ≤ 50 * i → tm_RR u c1 r1 → ∀ (H : Heap) (locs : List Loc), va_P (dC, dI) vwCl (tm_wTwo cI cZ a c1 ++ tm_wModel cI cZ a2 r1 hh) H → va_D (fun q : Nat => s.heap.size ≤ q) (tm_wTwo cI cZ a c1 ++ tm_wModel cI cZ a2 r1 hh) → va_S (fun q : Nat => s.heap.size ≤ q) s.heap H locs → ∀ (ls : Array Slot), lv_has ls 4 [(0, .ref b), (1, .ref (a 0)), (2, .ref (a2 0)), (3, .int x3)] → W p l e room_1 s m #[Value.ref b] below meth c H locs 48 2553 (lw_Z below #[Value.ref b] s) (F0 m 18 ls []) := by
  obtain ⟨hx, hb, hr, hml, hown, hts, hX, hbl, hlocks, hgv⟩ := C0
  have hown : s.vm.findClass RL = some m.cls := hown
  have hA : ∀ q : Nat, s.heap.size ≤ q → (fun q : Nat => s.heap.size ≤ q) q := fun _ h => h
  have hbA : ¬ (fun q : Nat => s.heap.size ≤ q) b := Nat.not_le.mpr hbl
  intro n
  induction n with
  | zero =>
    intro i x3 h1 h2
    exact absurd h1 (by omega)
  | succ n ih =>
    intro i x3 hin hi ex3 u c1 r1 hh hu hR H locs hP hD hS ls hl
    refine lv_iload_n hx hb dL_law_18 rfl (lv_at hl 3 rfl) ?_
    refine lv_aload_n hx hb dL_law_19 rfl (lv_at hl 0 rfl) ?_
    refine va_slen hx hb hX hbl hbA hS dL_law_20 ?_
    refine lv_iconst (v := 4) hx hb dL_law_21 (by decide) ?_
    refine lv_isub hx hb dL_law_22 ?_
    refine lv_icmp_gt (tgt := 544) hx hb dL_law_23 (by decide) (fun c0 => ?_) (fun c0 => ?_)
    · refine lv_iconst (v := 1) hx hb dL_law_544 (by decide) ?_
      refine va_forget (fun q hq => hS.2.2 q hq) ?_
      exact lw_ret hx hb hr hlocks dL_law_545
    · have hlt : i + 4 ≤ L := by
        rcases Nat.lt_or_ge L (i + 4) with q | q
        · exfalso
          apply c0
          rw [ex3]
          show nI L - nI 4 < nI i
          rcases Nat.lt_or_ge L 4 with q4 | q4
          · exact Int32.lt_of_lt_of_le (pk_sneg (by decide) q4) (nI_le (a := 0) (by omega) (by omega))
          · rw [pk_sub q4]; exact nI_lt (by omega) (by omega)
        · exact q
      have v0 : vp_in x3 L := by rw [ex3]; exact vp_in_nI (by omega) (by omega)
      have v1 : vp_in (x3 + 1) L := by rw [ex3]; exact (show nI i + 1 = nI (i + 1) from nI_add i 1) ▸ vp_in_nI (by omega) (by omega)
      have v2 : vp_in (x3 + 2) L := by rw [ex3]; exact (show nI i + 2 = nI (i + 2) from nI_add i 2) ▸ vp_in_nI (by omega) (by omega)
      have v3 : vp_in (x3 + 3) L := by rw [ex3]; exact (show nI i + 3 = nI (i + 3) from nI_add i 3) ▸ vp_in_nI (by omega) (by omega)
      have next : ∀ (u2 : Nat) (c2 r2 : tm_St) (hh2 : Int64), u2 ≤ u + 200 → tm_RR u2 c2 r2 → ∀ (H : Heap) (locs : List Loc), va_P (dC, dI) vwCl (tm_wTwo cI cZ a c2 ++ tm_wModel cI cZ a2 r2 hh2) H → va_D (fun q : Nat => s.heap.size ≤ q) (tm_wTwo cI cZ a c2 ++ tm_wModel cI cZ a2 r2 hh2) → va_S (fun q : Nat => s.heap.size ≤ q) s.heap H locs → W p l e room_1 s m #[Value.ref b] below meth c H locs 48 2553 (lw_Z below #[Value.ref b] s) (F0 m 538 ls []) := by
        intro u2 c2 r2 hh2 hu2 hR2 H locs hP hD hS
        obtain ⟨y3, ey3⟩ : ∃ y : Int32, y = x3 + 4 := ⟨_, rfl⟩
        refine lv_iinc (v := y3) (lv' := [(3, .int y3), (0, .ref b), (1, .ref (a 0)), (2, .ref (a2 0))]) hx hb dL_law_538 hl (k := 3) rfl (by rw [ey3]; rfl) (by decide) rfl (fun ls hl => ?_)
        refine lv_goto (tgt := 18) hx hb dL_law_541 (by decide) ?_
        exact ih (i + 4) y3 (by omega) hlt (by rw [ey3, ex3]; exact nI_add i 4) u2 c2 r2 hh2 (by omega) hR2 H locs hP hD hS ls (lv_sub hl [1, 2, 3, 0] rfl)
      refine lv_aload_n hx hb dL_law_26 rfl (lv_at hl 0 rfl) ?_
      refine lv_iload_n hx hb dL_law_27 rfl (lv_at hl 3 rfl) ?_
      refine va_sld hx hb hX hbl hbA hS v0 dL_law_28 ?_
      refine lv_bipush (v := 31) hx hb dL_law_29 (by decide) ?_
      refine lv_iand hx hb dL_law_31 ?_
      generalize xs x3.toNatClampNeg &&& 31 = w
      refine (Classical.em (w = 0)).elim (fun k0 => ?_) (fun k0 => ?_)
      · refine lv_tableIn (tgt := 116) hx hb dL_law_32 (by rw [k0]; decide) (by rw [k0]; decide) (by rw [k0]; rfl) (by decide) ?_
        obtain ⟨d1, c2, r2, hR2, q8, q9⟩ := c_letter hR (xs (x3 + 1).toNatClampNeg)
        refine lv_aload_n hx hb dL_law_116 rfl (lv_at hl 1 rfl) ?_
        refine lv_aload_n hx hb dL_law_117 rfl (lv_at hl 0 rfl) ?_
        refine lv_iload_n hx hb dL_law_118 rfl (lv_at hl 3 rfl) ?_
        refine lv_iconst (v := 1) hx hb dL_law_119 (by decide) ?_
        refine lv_iadd hx hb dL_law_120 ?_
        refine va_sld hx hb hX hbl hbA hS v1 dL_law_121 ?_
        have hPc := hP.sub (ws' := tm_wTwo cI cZ a c1) [0, 1, 2, 3, 4, 5, 6, 7, 8, 9, 10, 11, 12, 13, 14, 15, 16, 17, 18, 19, 20, 21, 22, 23, 24, 25, 26, 27, 28, 29] (lw_s8 _ _ _ _ _ _ _)
        have hDc := hD.sub (ws' := tm_wTwo cI cZ a c1) [0, 1, 2, 3, 4, 5, 6, 7, 8, 9, 10, 11, 12, 13, 14, 15, 16, 17, 18, 19, 20, 21, 22, 23, 24, 25, 26, 27, 28, 29] lw_n8 (lw_m8 _ _ _ _ _ _ _)
        have hFc := va_free (wc := tm_wTwo cI cZ a c1) hD hS hA [0, 1, 2, 3, 4, 5, 6, 7, 8, 9, 10, 11, 12, 13, 14, 15, 16, 17, 18, 19, 20, 21, 22, 23, 24, 25, 26, 27, 28, 29] (lw_m8 _ _ _ _ _ _ _)
        refine va_calli (va_runV (As := [.int (xs (x3 + 1).toNatClampNeg)]) (rest := []) ⟨hx, hb, hml, hown, hts⟩ (kk_X8_letter l dC dI cI cZ a c1 H.size (xs (x3 + 1).toNatClampNeg) (fun q v => q = d1 ∧ v = c2) (q8 _ ⟨rfl, rfl⟩)) (cwV 1 hts tL_X8_letter rfl rfl rfl (by decide +kernel) ⟨Nat.le_of_ble_eq_true rfl, Nat.le_of_ble_eq_true rfl⟩) ⟨tm_blind, va_recv hK hPc (ci := 6) (q0 := 0) rfl rfl, fun U hU hW => ⟨rfl, by rw [hU], by rw [hU]; exact hPc, va_K.moved hW.alike hK, hDc.weaken (fun _ _ _ _ => trivial)⟩⟩ rfl rfl hl.1 rfl (lv_room (Nat.le_of_ble_eq_true rfl)) dL_law_122 ⟨Nat.le_of_ble_eq_true rfl, Nat.le_of_ble_eq_true rfl⟩) hS (fun q _ h => hFc q h) hFc (fun g1 g2 t H1 locs ht hvm hw hB hz1 hk1 hS => ?_)
        obtain ⟨e1, e2⟩ := hw
        rw [e1]
        rw [e2] at hB
        obtain ⟨hP1, hK1, hD1⟩ := hB
        rw [ht] at hP1
        obtain ⟨hP, hD⟩ := va_join (wr := tm_wModel cI cZ a2 r1 hh) (w1 := tm_wTwo cI cZ a c2) hP hD [0, 1, 2, 3, 4, 5, 6, 7, 8, 9, 10, 11, 12, 13, 14, 15, 16, 17, 18, 19, 20, 21, 22, 23, 24, 25, 26, 27, 28, 29] [30, 31, 32, 33, 34, 35, 36, 37, 38, 39, 40, 41, 42, 43, 44, 45, 46, 47] (lw_m8 _ _ _ _ _ _ _) (lw_r8 _ _ _ _ _ _ _) lw_o8 lw_d8 hk1 hFc hP1 hD1
        generalize H1 = H at hP hS ⊢
        have hP : va_P (dC, dI) vwCl (tm_wModel cI cZ a2 r1 hh ++ tm_wTwo cI cZ a c2) H := hP
        have hD : va_D (fun q : Nat => s.heap.size ≤ q) (tm_wModel cI cZ a2 r1 hh ++ tm_wTwo cI cZ a c2) := hD
        refine lv_aload_n hx hb dL_law_125 rfl (lv_at hl 2 rfl) ?_
        refine lv_aload_n hx hb dL_law_126 rfl (lv_at hl 0 rfl) ?_
        refine lv_iload_n hx hb dL_law_127 rfl (lv_at hl 3 rfl) ?_
        refine lv_iconst (v := 1) hx hb dL_law_128 (by decide) ?_
        refine lv_iadd hx hb dL_law_129 ?_
        refine va_sld hx hb hX hbl hbA hS v1 dL_law_130 ?_
        have hPc := hP.sub (ws' := tm_wModel cI cZ a2 r1 hh) [0, 1, 2, 3, 4, 5, 6, 7, 8, 9, 10, 11, 12, 13, 14, 15, 16, 17] (lw_s9 _ _ _ _ _ _ _)
        have hDc := hD.sub (ws' := tm_wModel cI cZ a2 r1 hh) [0, 1, 2, 3, 4, 5, 6, 7, 8, 9, 10, 11, 12, 13, 14, 15, 16, 17] lw_n9 (lw_m9 _ _ _ _ _ _ _)
        have hFc := va_free (wc := tm_wModel cI cZ a2 r1 hh) hD hS hA [0, 1, 2, 3, 4, 5, 6, 7, 8, 9, 10, 11, 12, 13, 14, 15, 16, 17] (lw_m9 _ _ _ _ _ _ _)
        refine va_calli (va_runV (As := [.int (xs (x3 + 1).toNatClampNeg)]) (rest := [.int d1]) ⟨hx, hb, hml, hown, hts⟩ (kk_X9_letter l dC dI cI cZ a2 r1 hh H.size (xs (x3 + 1).toNatClampNeg) (fun q v => q = d1 ∧ v = r2) (q9 _ ⟨rfl, rfl⟩)) (cwV 1 hts tL_X9_letter rfl rfl rfl (by decide +kernel) ⟨Nat.le_of_ble_eq_true rfl, Nat.le_of_ble_eq_true rfl⟩) ⟨tm_blind, va_recv hK hPc (ci := 7) (q0 := 0) rfl rfl, fun U hU hW => ⟨rfl, by rw [hU], by rw [hU]; exact hPc, va_K.moved hW.alike hK, hDc.weaken (fun _ _ _ _ => trivial)⟩⟩ rfl rfl hl.1 rfl (lv_room (Nat.le_of_ble_eq_true rfl)) dL_law_131 ⟨Nat.le_of_ble_eq_true rfl, Nat.le_of_ble_eq_true rfl⟩) hS (fun q _ h => hFc q h) hFc (fun g1 g2 t H1 locs ht hvm hw hB hz1 hk1 hS => ?_)
        obtain ⟨e1, e2⟩ := hw
        rw [e1]
        rw [e2] at hB
        obtain ⟨hP1, hK1, hD1⟩ := hB
        rw [ht] at hP1
        obtain ⟨hP, hD⟩ := va_join (wr := tm_wTwo cI cZ a c2) (w1 := tm_wModel cI cZ a2 r2 hh) hP hD [0, 1, 2, 3, 4, 5, 6, 7, 8, 9, 10, 11, 12, 13, 14, 15, 16, 17] [18, 19, 20, 21, 22, 23, 24, 25, 26, 27, 28, 29, 30, 31, 32, 33, 34, 35, 36, 37, 38, 39, 40, 41, 42, 43, 44, 45, 46, 47] (lw_m9 _ _ _ _ _ _ _) (lw_r9 _ _ _ _ _ _ _) lw_o9 lw_d9 hk1 hFc hP1 hD1
        generalize H1 = H at hP hS ⊢
        have hP : va_P (dC, dI) vwCl (tm_wTwo cI cZ a c2 ++ tm_wModel cI cZ a2 r2 hh) H := hP
        have hD : va_D (fun q : Nat => s.heap.size ≤ q) (tm_wTwo cI cZ a c2 ++ tm_wModel cI cZ a2 r2 hh) := hD
        refine lv_icmp_eq (tgt := 538) hx hb dL_law_134 (by decide) (fun c9 => ?_) (fun c9 => ?_)
        · exact next _ c2 r2 hh (Nat.le_refl _) hR2 _ _ hP hD hS
        · exact absurd rfl c9
      refine (Classical.em (w = 1)).elim (fun k1 => ?_) (fun k1 => ?_)
      · refine lv_tableIn (tgt := 139) hx hb dL_law_32 (by rw [k1]; decide) (by rw [k1]; decide) (by rw [k1]; rfl) (by decide) ?_
        obtain ⟨d1, c2, r2, hR2, q8, q9⟩ := c_blank hR
        refine lv_aload_n hx hb dL_law_139 rfl (lv_at hl 1 rfl) ?_
        have hPc := hP.sub (ws' := tm_wTwo cI cZ a c1) [0, 1, 2, 3, 4, 5, 6, 7, 8, 9, 10, 11, 12, 13, 14, 15, 16, 17, 18, 19, 20, 21, 22, 23, 24, 25, 26, 27, 28, 29] (lw_s8 _ _ _ _ _ _ _)
        have hDc := hD.sub (ws' := tm_wTwo cI cZ a c1) [0, 1, 2, 3, 4, 5, 6, 7, 8, 9, 10, 11, 12, 13, 14, 15, 16, 17, 18, 19, 20, 21, 22, 23, 24, 25, 26, 27, 28, 29] lw_n8 (lw_m8 _ _ _ _ _ _ _)
        have hFc := va_free (wc := tm_wTwo cI cZ a c1) hD hS hA [0, 1, 2, 3, 4, 5, 6, 7, 8, 9, 10, 11, 12, 13, 14, 15, 16, 17, 18, 19, 20, 21, 22, 23, 24, 25, 26, 27, 28, 29] (lw_m8 _ _ _ _ _ _ _)
        refine va_calli (va_runV (As := []) (rest := []) ⟨hx, hb, hml, hown, hts⟩ (kk_X8_blank l dC dI cI cZ a c1 H.size (fun q v => q = d1 ∧ v = c2) (q8 _ ⟨rfl, rfl⟩)) (cwV 0 hts tL_X8_blank rfl rfl rfl (by decide +kernel) ⟨Nat.le_of_ble_eq_true rfl, Nat.le_of_ble_eq_true rfl⟩) ⟨tm_blind, va_recv hK hPc (ci := 6) (q0 := 0) rfl rfl, fun U hU hW => ⟨rfl, by rw [hU], by rw [hU]; exact hPc, va_K.moved hW.alike hK, hDc.weaken (fun _ _ _ _ => trivial)⟩⟩ rfl rfl hl.1 rfl (lv_room (Nat.le_of_ble_eq_true rfl)) dL_law_140 ⟨Nat.le_of_ble_eq_true rfl, Nat.le_of_ble_eq_true rfl⟩) hS (fun q _ h => hFc q h) hFc (fun g1 g2 t H1 locs ht hvm hw hB hz1 hk1 hS => ?_)
        obtain ⟨e1, e2⟩ := hw
        rw [e1]
        rw [e2] at hB
        obtain ⟨hP1, hK1, hD1⟩ := hB
        rw [ht] at hP1
        obtain ⟨hP, hD⟩ := va_join (wr := tm_wModel cI cZ a2 r1 hh) (w1 := tm_wTwo cI cZ a c2) hP hD [0, 1, 2, 3, 4, 5, 6, 7, 8, 9, 10, 11, 12, 13, 14, 15, 16, 17, 18, 19, 20, 21, 22, 23, 24, 25, 26, 27, 28, 29] [30, 31, 32, 33, 34, 35, 36, 37, 38, 39, 40, 41, 42, 43, 44, 45, 46, 47] (lw_m8 _ _ _ _ _ _ _) (lw_r8 _ _ _ _ _ _ _) lw_o8 lw_d8 hk1 hFc hP1 hD1
        generalize H1 = H at hP hS ⊢
        have hP : va_P (dC, dI) vwCl (tm_wModel cI cZ a2 r1 hh ++ tm_wTwo cI cZ a c2) H := hP
        have hD : va_D (fun q : Nat => s.heap.size ≤ q) (tm_wModel cI cZ a2 r1 hh ++ tm_wTwo cI cZ a c2) := hD
        refine lv_aload_n hx hb dL_law_143 rfl (lv_at hl 2 rfl) ?_
        have hPc := hP.sub (ws' := tm_wModel cI cZ a2 r1 hh) [0, 1, 2, 3, 4, 5, 6, 7, 8, 9, 10, 11, 12, 13, 14, 15, 16, 17] (lw_s9 _ _ _ _ _ _ _)
        have hDc := hD.sub (ws' := tm_wModel cI cZ a2 r1 hh) [0, 1, 2, 3, 4, 5, 6, 7, 8, 9, 10, 11, 12, 13, 14, 15, 16, 17] lw_n9 (lw_m9 _ _ _ _ _ _ _)
        have hFc := va_free (wc := tm_wModel cI cZ a2 r1 hh) hD hS hA [0, 1, 2, 3, 4, 5, 6, 7, 8, 9, 10, 11, 12, 13, 14, 15, 16, 17] (lw_m9 _ _ _ _ _ _ _)
        refine va_calli (va_runV (As := []) (rest := [.int d1]) ⟨hx, hb, hml, hown, hts⟩ (kk_X9_blank l dC dI cI cZ a2 r1 hh H.size (fun q v => q = d1 ∧ v = r2) (q9 _ ⟨rfl, rfl⟩)) (cwV 0 hts tL_X9_blank rfl rfl rfl (by decide +kernel) ⟨Nat.le_of_ble_eq_true rfl, Nat.le_of_ble_eq_true rfl⟩) ⟨tm_blind, va_recv hK hPc (ci := 7) (q0 := 0) rfl rfl, fun U hU hW => ⟨rfl, by rw [hU], by rw [hU]; exact hPc, va_K.moved hW.alike hK, hDc.weaken (fun _ _ _ _ => trivial)⟩⟩ rfl rfl hl.1 rfl (lv_room (Nat.le_of_ble_eq_true rfl)) dL_law_144 ⟨Nat.le_of_ble_eq_true rfl, Nat.le_of_ble_eq_true rfl⟩) hS (fun q _ h => hFc q h) hFc (fun g1 g2 t H1 locs ht hvm hw hB hz1 hk1 hS => ?_)
        obtain ⟨e1, e2⟩ := hw
        rw [e1]
        rw [e2] at hB
        obtain ⟨hP1, hK1, hD1⟩ := hB
        rw [ht] at hP1
        obtain ⟨hP, hD⟩ := va_join (wr := tm_wTwo cI cZ a c2) (w1 := tm_wModel cI cZ a2 r2 hh) hP hD [0, 1, 2, 3, 4, 5, 6, 7, 8, 9, 10, 11, 12, 13, 14, 15, 16, 17] [18, 19, 20, 21, 22, 23, 24, 25, 26, 27, 28, 29, 30, 31, 32, 33, 34, 35, 36, 37, 38, 39, 40, 41, 42, 43, 44, 45, 46, 47] (lw_m9 _ _ _ _ _ _ _) (lw_r9 _ _ _ _ _ _ _) lw_o9 lw_d9 hk1 hFc hP1 hD1
        generalize H1 = H at hP hS ⊢
        have hP : va_P (dC, dI) vwCl (tm_wTwo cI cZ a c2 ++ tm_wModel cI cZ a2 r2 hh) H := hP
        have hD : va_D (fun q : Nat => s.heap.size ≤ q) (tm_wTwo cI cZ a c2 ++ tm_wModel cI cZ a2 r2 hh) := hD
        refine lv_icmp_eq (tgt := 538) hx hb dL_law_147 (by decide) (fun c9 => ?_) (fun c9 => ?_)
        · exact next _ c2 r2 hh (Nat.le_refl _) hR2 _ _ hP hD hS
        · exact absurd rfl c9
      refine (Classical.em (w = 2)).elim (fun k2 => ?_) (fun k2 => ?_)
      · refine lv_tableIn (tgt := 152) hx hb dL_law_32 (by rw [k2]; decide) (by rw [k2]; decide) (by rw [k2]; rfl) (by decide) ?_
        obtain ⟨d1, c2, r2, hR2, q8, q9⟩ := c_fault hR
        refine lv_aload_n hx hb dL_law_152 rfl (lv_at hl 1 rfl) ?_
        have hPc := hP.sub (ws' := tm_wTwo cI cZ a c1) [0, 1, 2, 3, 4, 5, 6, 7, 8, 9, 10, 11, 12, 13, 14, 15, 16, 17, 18, 19, 20, 21, 22, 23, 24, 25, 26, 27, 28, 29] (lw_s8 _ _ _ _ _ _ _)
        have hDc := hD.sub (ws' := tm_wTwo cI cZ a c1) [0, 1, 2, 3, 4, 5, 6, 7, 8, 9, 10, 11, 12, 13, 14, 15, 16, 17, 18, 19, 20, 21, 22, 23, 24, 25, 26, 27, 28, 29] lw_n8 (lw_m8 _ _ _ _ _ _ _)
        have hFc := va_free (wc := tm_wTwo cI cZ a c1) hD hS hA [0, 1, 2, 3, 4, 5, 6, 7, 8, 9, 10, 11, 12, 13, 14, 15, 16, 17, 18, 19, 20, 21, 22, 23, 24, 25, 26, 27, 28, 29] (lw_m8 _ _ _ _ _ _ _)
        refine va_calli (va_runV (As := []) (rest := []) ⟨hx, hb, hml, hown, hts⟩ (kk_X8_fault l dC dI cI cZ a c1 H.size (fun q v => q = d1 ∧ v = c2) (q8 _ ⟨rfl, rfl⟩)) (cwV 0 hts tL_X8_fault rfl rfl rfl (by decide +kernel) ⟨Nat.le_of_ble_eq_true rfl, Nat.le_of_ble_eq_true rfl⟩) ⟨tm_blind, va_recv hK hPc (ci := 6) (q0 := 0) rfl rfl, fun U hU hW => ⟨rfl, by rw [hU], by rw [hU]; exact hPc, va_K.moved hW.alike hK, hDc.weaken (fun _ _ _ _ => trivial)⟩⟩ rfl rfl hl.1 rfl (lv_room (Nat.le_of_ble_eq_true rfl)) dL_law_153 ⟨Nat.le_of_ble_eq_true rfl, Nat.le_of_ble_eq_true rfl⟩) hS (fun q _ h => hFc q h) hFc (fun g1 g2 t H1 locs ht hvm hw hB hz1 hk1 hS => ?_)
        obtain ⟨e1, e2⟩ := hw
        rw [e1]
        rw [e2] at hB
        obtain ⟨hP1, hK1, hD1⟩ := hB
        rw [ht] at hP1
        obtain ⟨hP, hD⟩ := va_join (wr := tm_wModel cI cZ a2 r1 hh) (w1 := tm_wTwo cI cZ a c2) hP hD [0, 1, 2, 3, 4, 5, 6, 7, 8, 9, 10, 11, 12, 13, 14, 15, 16, 17, 18, 19, 20, 21, 22, 23, 24, 25, 26, 27, 28, 29] [30, 31, 32, 33, 34, 35, 36, 37, 38, 39, 40, 41, 42, 43, 44, 45, 46, 47] (lw_m8 _ _ _ _ _ _ _) (lw_r8 _ _ _ _ _ _ _) lw_o8 lw_d8 hk1 hFc hP1 hD1
        generalize H1 = H at hP hS ⊢
        have hP : va_P (dC, dI) vwCl (tm_wModel cI cZ a2 r1 hh ++ tm_wTwo cI cZ a c2) H := hP
        have hD : va_D (fun q : Nat => s.heap.size ≤ q) (tm_wModel cI cZ a2 r1 hh ++ tm_wTwo cI cZ a c2) := hD
        refine lv_aload_n hx hb dL_law_156 rfl (lv_at hl 2 rfl) ?_
        have hPc := hP.sub (ws' := tm_wModel cI cZ a2 r1 hh) [0, 1, 2, 3, 4, 5, 6, 7, 8, 9, 10, 11, 12, 13, 14, 15, 16, 17] (lw_s9 _ _ _ _ _ _ _)
        have hDc := hD.sub (ws' := tm_wModel cI cZ a2 r1 hh) [0, 1, 2, 3, 4, 5, 6, 7, 8, 9, 10, 11, 12, 13, 14, 15, 16, 17] lw_n9 (lw_m9 _ _ _ _ _ _ _)
        have hFc := va_free (wc := tm_wModel cI cZ a2 r1 hh) hD hS hA [0, 1, 2, 3, 4, 5, 6, 7, 8, 9, 10, 11, 12, 13, 14, 15, 16, 17] (lw_m9 _ _ _ _ _ _ _)
        refine va_calli (va_runV (As := []) (rest := [.int d1]) ⟨hx, hb, hml, hown, hts⟩ (kk_X9_fault l dC dI cI cZ a2 r1 hh H.size (fun q v => q = d1 ∧ v = r2) (q9 _ ⟨rfl, rfl⟩)) (cwV 0 hts tL_X9_fault rfl rfl rfl (by decide +kernel) ⟨Nat.le_of_ble_eq_true rfl, Nat.le_of_ble_eq_true rfl⟩) ⟨tm_blind, va_recv hK hPc (ci := 7) (q0 := 0) rfl rfl, fun U hU hW => ⟨rfl, by rw [hU], by rw [hU]; exact hPc, va_K.moved hW.alike hK, hDc.weaken (fun _ _ _ _ => trivial)⟩⟩ rfl rfl hl.1 rfl (lv_room (Nat.le_of_ble_eq_true rfl)) dL_law_157 ⟨Nat.le_of_ble_eq_true rfl, Nat.le_of_ble_eq_true rfl⟩) hS (fun q _ h => hFc q h) hFc (fun g1 g2 t H1 locs ht hvm hw hB hz1 hk1 hS => ?_)
        obtain ⟨e1, e2⟩ := hw
        rw [e1]
        rw [e2] at hB
        obtain ⟨hP1, hK1, hD1⟩ := hB
        rw [ht] at hP1
        obtain ⟨hP, hD⟩ := va_join (wr := tm_wTwo cI cZ a c2) (w1 := tm_wModel cI cZ a2 r2 hh) hP hD [0, 1, 2, 3, 4, 5, 6, 7, 8, 9, 10, 11, 12, 13, 14, 15, 16, 17] [18, 19, 20, 21, 22, 23, 24, 25, 26, 27, 28, 29, 30, 31, 32, 33, 34, 35, 36, 37, 38, 39, 40, 41, 42, 43, 44, 45, 46, 47] (lw_m9 _ _ _ _ _ _ _) (lw_r9 _ _ _ _ _ _ _) lw_o9 lw_d9 hk1 hFc hP1 hD1
        generalize H1 = H at hP hS ⊢
        have hP : va_P (dC, dI) vwCl (tm_wTwo cI cZ a c2 ++ tm_wModel cI cZ a2 r2 hh) H := hP
        have hD : va_D (fun q : Nat => s.heap.size ≤ q) (tm_wTwo cI cZ a c2 ++ tm_wModel cI cZ a2 r2 hh) := hD
        refine lv_icmp_eq (tgt := 538) hx hb dL_law_160 (by decide) (fun c9 => ?_) (fun c9 => ?_)
        · exact next _ c2 r2 hh (Nat.le_refl _) hR2 _ _ hP hD hS
        · exact absurd rfl c9
      refine (Classical.em (w = 3)).elim (fun k3 => ?_) (fun k3 => ?_)
      · refine lv_tableIn (tgt := 165) hx hb dL_law_32 (by rw [k3]; decide) (by rw [k3]; decide) (by rw [k3]; rfl) (by decide) ?_
        obtain ⟨d1, c2, r2, hR2, q8, q9⟩ := c_line hR
        refine lv_aload_n hx hb dL_law_165 rfl (lv_at hl 1 rfl) ?_
        have hPc := hP.sub (ws' := tm_wTwo cI cZ a c1) [0, 1, 2, 3, 4, 5, 6, 7, 8, 9, 10, 11, 12, 13, 14, 15, 16, 17, 18, 19, 20, 21, 22, 23, 24, 25, 26, 27, 28, 29] (lw_s8 _ _ _ _ _ _ _)
        have hDc := hD.sub (ws' := tm_wTwo cI cZ a c1) [0, 1, 2, 3, 4, 5, 6, 7, 8, 9, 10, 11, 12, 13, 14, 15, 16, 17, 18, 19, 20, 21, 22, 23, 24, 25, 26, 27, 28, 29] lw_n8 (lw_m8 _ _ _ _ _ _ _)
        have hFc := va_free (wc := tm_wTwo cI cZ a c1) hD hS hA [0, 1, 2, 3, 4, 5, 6, 7, 8, 9, 10, 11, 12, 13, 14, 15, 16, 17, 18, 19, 20, 21, 22, 23, 24, 25, 26, 27, 28, 29] (lw_m8 _ _ _ _ _ _ _)
        refine va_calli (va_runV (As := []) (rest := []) ⟨hx, hb, hml, hown, hts⟩ (kk_X8_line l dC dI cI cZ a c1 H.size (fun q v => q = d1 ∧ v = c2) (q8 _ ⟨rfl, rfl⟩)) (cwV 0 hts tL_X8_line rfl rfl rfl (by decide +kernel) ⟨Nat.le_of_ble_eq_true rfl, Nat.le_of_ble_eq_true rfl⟩) ⟨tm_blind, va_recv hK hPc (ci := 6) (q0 := 0) rfl rfl, fun U hU hW => ⟨rfl, by rw [hU], by rw [hU]; exact hPc, va_K.moved hW.alike hK, hDc.weaken (fun _ _ _ _ => trivial)⟩⟩ rfl rfl hl.1 rfl (lv_room (Nat.le_of_ble_eq_true rfl)) dL_law_166 ⟨Nat.le_of_ble_eq_true rfl, Nat.le_of_ble_eq_true rfl⟩) hS (fun q _ h => hFc q h) hFc (fun g1 g2 t H1 locs ht hvm hw hB hz1 hk1 hS => ?_)
        obtain ⟨e1, e2⟩ := hw
        rw [e1]
        rw [e2] at hB
        obtain ⟨hP1, hK1, hD1⟩ := hB
        rw [ht] at hP1
        obtain ⟨hP, hD⟩ := va_join (wr := tm_wModel cI cZ a2 r1 hh) (w1 := tm_wTwo cI cZ a c2) hP hD [0, 1, 2, 3, 4, 5, 6, 7, 8, 9, 10, 11, 12, 13, 14, 15, 16, 17, 18, 19, 20, 21, 22, 23, 24, 25, 26, 27, 28, 29] [30, 31, 32, 33, 34, 35, 36, 37, 38, 39, 40, 41, 42, 43, 44, 45, 46, 47] (lw_m8 _ _ _ _ _ _ _) (lw_r8 _ _ _ _ _ _ _) lw_o8 lw_d8 hk1 hFc hP1 hD1
        generalize H1 = H at hP hS ⊢
        have hP : va_P (dC, dI) vwCl (tm_wModel cI cZ a2 r1 hh ++ tm_wTwo cI cZ a c2) H := hP
        have hD : va_D (fun q : Nat => s.heap.size ≤ q) (tm_wModel cI cZ a2 r1 hh ++ tm_wTwo cI cZ a c2) := hD
        refine lv_aload_n hx hb dL_law_169 rfl (lv_at hl 2 rfl) ?_
        have hPc := hP.sub (ws' := tm_wModel cI cZ a2 r1 hh) [0, 1, 2, 3, 4, 5, 6, 7, 8, 9, 10, 11, 12, 13, 14, 15, 16, 17] (lw_s9 _ _ _ _ _ _ _)
        have hDc := hD.sub (ws' := tm_wModel cI cZ a2 r1 hh) [0, 1, 2, 3, 4, 5, 6, 7, 8, 9, 10, 11, 12, 13, 14, 15, 16, 17] lw_n9 (lw_m9 _ _ _ _ _ _ _)
        have hFc := va_free (wc := tm_wModel cI cZ a2 r1 hh) hD hS hA [0, 1, 2, 3, 4, 5, 6, 7, 8, 9, 10, 11, 12, 13, 14, 15, 16, 17] (lw_m9 _ _ _ _ _ _ _)
        refine va_calli (va_runV (As := []) (rest := [.int d1]) ⟨hx, hb, hml, hown, hts⟩ (kk_X9_line l dC dI cI cZ a2 r1 hh H.size (fun q v => q = d1 ∧ v = r2) (q9 _ ⟨rfl, rfl⟩)) (cwV 0 hts tL_X9_line rfl rfl rfl (by decide +kernel) ⟨Nat.le_of_ble_eq_true rfl, Nat.le_of_ble_eq_true rfl⟩) ⟨tm_blind, va_recv hK hPc (ci := 7) (q0 := 0) rfl rfl, fun U hU hW => ⟨rfl, by rw [hU], by rw [hU]; exact hPc, va_K.moved hW.alike hK, hDc.weaken (fun _ _ _ _ => trivial)⟩⟩ rfl rfl hl.1 rfl (lv_room (Nat.le_of_ble_eq_true rfl)) dL_law_170 ⟨Nat.le_of_ble_eq_true rfl, Nat.le_of_ble_eq_true rfl⟩) hS (fun q _ h => hFc q h) hFc (fun g1 g2 t H1 locs ht hvm hw hB hz1 hk1 hS => ?_)
        obtain ⟨e1, e2⟩ := hw
        rw [e1]
        rw [e2] at hB
        obtain ⟨hP1, hK1, hD1⟩ := hB
        rw [ht] at hP1
        obtain ⟨hP, hD⟩ := va_join (wr := tm_wTwo cI cZ a c2) (w1 := tm_wModel cI cZ a2 r2 hh) hP hD [0, 1, 2, 3, 4, 5, 6, 7, 8, 9, 10, 11, 12, 13, 14, 15, 16, 17] [18, 19, 20, 21, 22, 23, 24, 25, 26, 27, 28, 29, 30, 31, 32, 33, 34, 35, 36, 37, 38, 39, 40, 41, 42, 43, 44, 45, 46, 47] (lw_m9 _ _ _ _ _ _ _) (lw_r9 _ _ _ _ _ _ _) lw_o9 lw_d9 hk1 hFc hP1 hD1
        generalize H1 = H at hP hS ⊢
        have hP : va_P (dC, dI) vwCl (tm_wTwo cI cZ a c2 ++ tm_wModel cI cZ a2 r2 hh) H := hP
        have hD : va_D (fun q : Nat => s.heap.size ≤ q) (tm_wTwo cI cZ a c2 ++ tm_wModel cI cZ a2 r2 hh) := hD
        refine lv_icmp_eq (tgt := 538) hx hb dL_law_173 (by decide) (fun c9 => ?_) (fun c9 => ?_)
        · exact next _ c2 r2 hh (Nat.le_refl _) hR2 _ _ hP hD hS
        · exact absurd rfl c9
      refine (Classical.em (w = 4)).elim (fun k4 => ?_) (fun k4 => ?_)
      · refine lv_tableIn (tgt := 178) hx hb dL_law_32 (by rw [k4]; decide) (by rw [k4]; decide) (by rw [k4]; rfl) (by decide) ?_
        obtain ⟨d1, c2, r2, hR2, q8, q9⟩ := c_say hR (xs (x3 + 1).toNatClampNeg)
        refine lv_aload_n hx hb dL_law_178 rfl (lv_at hl 1 rfl) ?_
        refine lv_aload_n hx hb dL_law_179 rfl (lv_at hl 0 rfl) ?_
        refine lv_iload_n hx hb dL_law_180 rfl (lv_at hl 3 rfl) ?_
        refine lv_iconst (v := 1) hx hb dL_law_181 (by decide) ?_
        refine lv_iadd hx hb dL_law_182 ?_
        refine va_sld hx hb hX hbl hbA hS v1 dL_law_183 ?_
        have hPc := hP.sub (ws' := tm_wTwo cI cZ a c1) [0, 1, 2, 3, 4, 5, 6, 7, 8, 9, 10, 11, 12, 13, 14, 15, 16, 17, 18, 19, 20, 21, 22, 23, 24, 25, 26, 27, 28, 29] (lw_s8 _ _ _ _ _ _ _)
        have hDc := hD.sub (ws' := tm_wTwo cI cZ a c1) [0, 1, 2, 3, 4, 5, 6, 7, 8, 9, 10, 11, 12, 13, 14, 15, 16, 17, 18, 19, 20, 21, 22, 23, 24, 25, 26, 27, 28, 29] lw_n8 (lw_m8 _ _ _ _ _ _ _)
        have hFc := va_free (wc := tm_wTwo cI cZ a c1) hD hS hA [0, 1, 2, 3, 4, 5, 6, 7, 8, 9, 10, 11, 12, 13, 14, 15, 16, 17, 18, 19, 20, 21, 22, 23, 24, 25, 26, 27, 28, 29] (lw_m8 _ _ _ _ _ _ _)
        refine va_calli (va_runV (As := [.int (xs (x3 + 1).toNatClampNeg)]) (rest := []) ⟨hx, hb, hml, hown, hts⟩ (kk_X8_say l dC dI cI cZ a c1 H.size (xs (x3 + 1).toNatClampNeg) (fun q v => q = d1 ∧ v = c2) (q8 _ ⟨rfl, rfl⟩)) (cwV 1 hts tL_X8_say rfl rfl rfl (by decide +kernel) ⟨Nat.le_of_ble_eq_true rfl, Nat.le_of_ble_eq_true rfl⟩) ⟨tm_blind, va_recv hK hPc (ci := 6) (q0 := 0) rfl rfl, fun U hU hW => ⟨rfl, by rw [hU], by rw [hU]; exact hPc, va_K.moved hW.alike hK, hDc.weaken (fun _ _ _ _ => trivial)⟩⟩ rfl rfl hl.1 rfl (lv_room (Nat.le_of_ble_eq_true rfl)) dL_law_184 ⟨Nat.le_of_ble_eq_true rfl, Nat.le_of_ble_eq_true rfl⟩) hS (fun q _ h => hFc q h) hFc (fun g1 g2 t H1 locs ht hvm hw hB hz1 hk1 hS => ?_)
        obtain ⟨e1, e2⟩ := hw
        rw [e1]
        rw [e2] at hB
        obtain ⟨hP1, hK1, hD1⟩ := hB
        rw [ht] at hP1
        obtain ⟨hP, hD⟩ := va_join (wr := tm_wModel cI cZ a2 r1 hh) (w1 := tm_wTwo cI cZ a c2) hP hD [0, 1, 2, 3, 4, 5, 6, 7, 8, 9, 10, 11, 12, 13, 14, 15, 16, 17, 18, 19, 20, 21, 22, 23, 24, 25, 26, 27, 28, 29] [30, 31, 32, 33, 34, 35, 36, 37, 38, 39, 40, 41, 42, 43, 44, 45, 46, 47] (lw_m8 _ _ _ _ _ _ _) (lw_r8 _ _ _ _ _ _ _) lw_o8 lw_d8 hk1 hFc hP1 hD1
        generalize H1 = H at hP hS ⊢
        have hP : va_P (dC, dI) vwCl (tm_wModel cI cZ a2 r1 hh ++ tm_wTwo cI cZ a c2) H := hP
        have hD : va_D (fun q : Nat => s.heap.size ≤ q) (tm_wModel cI cZ a2 r1 hh ++ tm_wTwo cI cZ a c2) := hD
        refine lv_aload_n hx hb dL_law_187 rfl (lv_at hl 2 rfl) ?_
        refine lv_aload_n hx hb dL_law_188 rfl (lv_at hl 0 rfl) ?_
        refine lv_iload_n hx hb dL_law_189 rfl (lv_at hl 3 rfl) ?_
        refine lv_iconst (v := 1) hx hb dL_law_190 (by decide) ?_
        refine lv_iadd hx hb dL_law_191 ?_
        refine va_sld hx hb hX hbl hbA hS v1 dL_law_192 ?_
        have hPc := hP.sub (ws' := tm_wModel cI cZ a2 r1 hh) [0, 1, 2, 3, 4, 5, 6, 7, 8, 9, 10, 11, 12, 13, 14, 15, 16, 17] (lw_s9 _ _ _ _ _ _ _)
        have hDc := hD.sub (ws' := tm_wModel cI cZ a2 r1 hh) [0, 1, 2, 3, 4, 5, 6, 7, 8, 9, 10, 11, 12, 13, 14, 15, 16, 17] lw_n9 (lw_m9 _ _ _ _ _ _ _)
        have hFc := va_free (wc := tm_wModel cI cZ a2 r1 hh) hD hS hA [0, 1, 2, 3, 4, 5, 6, 7, 8, 9, 10, 11, 12, 13, 14, 15, 16, 17] (lw_m9 _ _ _ _ _ _ _)
        refine va_calli (va_runV (As := [.int (xs (x3 + 1).toNatClampNeg)]) (rest := [.int d1]) ⟨hx, hb, hml, hown, hts⟩ (kk_X9_say l dC dI cI cZ a2 r1 hh H.size (xs (x3 + 1).toNatClampNeg) (fun q v => q = d1 ∧ v = r2) (q9 _ ⟨rfl, rfl⟩)) (cwV 1 hts tL_X9_say rfl rfl rfl (by decide +kernel) ⟨Nat.le_of_ble_eq_true rfl, Nat.le_of_ble_eq_true rfl⟩) ⟨tm_blind, va_recv hK hPc (ci := 7) (q0 := 0) rfl rfl, fun U hU hW => ⟨rfl, by rw [hU], by rw [hU]; exact hPc, va_K.moved hW.alike hK, hDc.weaken (fun _ _ _ _ => trivial)⟩⟩ rfl rfl hl.1 rfl (lv_room (Nat.le_of_ble_eq_true rfl)) dL_law_193 ⟨Nat.le_of_ble_eq_true rfl, Nat.le_of_ble_eq_true rfl⟩) hS (fun q _ h => hFc q h) hFc (fun g1 g2 t H1 locs ht hvm hw hB hz1 hk1 hS => ?_)
        obtain ⟨e1, e2⟩ := hw
        rw [e1]
        rw [e2] at hB
        obtain ⟨hP1, hK1, hD1⟩ := hB
        rw [ht] at hP1
        obtain ⟨hP, hD⟩ := va_join (wr := tm_wTwo cI cZ a c2) (w1 := tm_wModel cI cZ a2 r2 hh) hP hD [0, 1, 2, 3, 4, 5, 6, 7, 8, 9, 10, 11, 12, 13, 14, 15, 16, 17] [18, 19, 20, 21, 22, 23, 24, 25, 26, 27, 28, 29, 30, 31, 32, 33, 34, 35, 36, 37, 38, 39, 40, 41, 42, 43, 44, 45, 46, 47] (lw_m9 _ _ _ _ _ _ _) (lw_r9 _ _ _ _ _ _ _) lw_o9 lw_d9 hk1 hFc hP1 hD1
        generalize H1 = H at hP hS ⊢
        have hP : va_P (dC, dI) vwCl (tm_wTwo cI cZ a c2 ++ tm_wModel cI cZ a2 r2 hh) H := hP
        have hD : va_D (fun q : Nat => s.heap.size ≤ q) (tm_wTwo cI cZ a c2 ++ tm_wModel cI cZ a2 r2 hh) := hD
        refine lv_icmp_eq (tgt := 538) hx hb dL_law_196 (by decide) (fun c9 => ?_) (fun c9 => ?_)
        · exact next _ c2 r2 hh (Nat.le_refl _) hR2 _ _ hP hD hS
        · exact absurd rfl c9
      refine (Classical.em (w = 5)).elim (fun k5 => ?_) (fun k5 => ?_)
      · refine lv_tableIn (tgt := 201) hx hb dL_law_32 (by rw [k5]; decide) (by rw [k5]; decide) (by rw [k5]; rfl) (by decide) ?_
        obtain ⟨d1, c2, r2, hR2, q8, q9⟩ := c_echo hR (xs (x3 + 1).toNatClampNeg) (xs (x3 + 2).toNatClampNeg) (xs (x3 + 3).toNatClampNeg)
        refine lv_aload_n hx hb dL_law_201 rfl (lv_at hl 1 rfl) ?_
        refine lv_aload_n hx hb dL_law_202 rfl (lv_at hl 0 rfl) ?_
        refine lv_iload_n hx hb dL_law_203 rfl (lv_at hl 3 rfl) ?_
        refine lv_iconst (v := 1) hx hb dL_law_204 (by decide) ?_
        refine lv_iadd hx hb dL_law_205 ?_
        refine va_sld hx hb hX hbl hbA hS v1 dL_law_206 ?_
        refine lv_aload_n hx hb dL_law_207 rfl (lv_at hl 0 rfl) ?_
        refine lv_iload_n hx hb dL_law_208 rfl (lv_at hl 3 rfl) ?_
        refine lv_iconst (v := 2) hx hb dL_law_209 (by decide) ?_
        refine lv_iadd hx hb dL_law_210 ?_
        refine va_sld hx hb hX hbl hbA hS v2 dL_law_211 ?_
        refine lv_aload_n hx hb dL_law_212 rfl (lv_at hl 0 rfl) ?_
        refine lv_iload_n hx hb dL_law_213 rfl (lv_at hl 3 rfl) ?_
        refine lv_iconst (v := 3) hx hb dL_law_214 (by decide) ?_
        refine lv_iadd hx hb dL_law_215 ?_
        refine va_sld hx hb hX hbl hbA hS v3 dL_law_216 ?_
        have hPc := hP.sub (ws' := tm_wTwo cI cZ a c1) [0, 1, 2, 3, 4, 5, 6, 7, 8, 9, 10, 11, 12, 13, 14, 15, 16, 17, 18, 19, 20, 21, 22, 23, 24, 25, 26, 27, 28, 29] (lw_s8 _ _ _ _ _ _ _)
        have hDc := hD.sub (ws' := tm_wTwo cI cZ a c1) [0, 1, 2, 3, 4, 5, 6, 7, 8, 9, 10, 11, 12, 13, 14, 15, 16, 17, 18, 19, 20, 21, 22, 23, 24, 25, 26, 27, 28, 29] lw_n8 (lw_m8 _ _ _ _ _ _ _)
        have hFc := va_free (wc := tm_wTwo cI cZ a c1) hD hS hA [0, 1, 2, 3, 4, 5, 6, 7, 8, 9, 10, 11, 12, 13, 14, 15, 16, 17, 18, 19, 20, 21, 22, 23, 24, 25, 26, 27, 28, 29] (lw_m8 _ _ _ _ _ _ _)
        refine va_calli (va_runV (As := [.int (xs (x3 + 1).toNatClampNeg), .int (xs (x3 + 2).toNatClampNeg), .int (xs (x3 + 3).toNatClampNeg)]) (rest := []) ⟨hx, hb, hml, hown, hts⟩ (kk_X8_echo l dC dI cI cZ a c1 H.size (xs (x3 + 1).toNatClampNeg) (xs (x3 + 2).toNatClampNeg) (xs (x3 + 3).toNatClampNeg) (fun q v => q = d1 ∧ v = c2) (q8 _ ⟨rfl, rfl⟩)) (cwV 3 hts tL_X8_echo rfl rfl rfl (by decide +kernel) ⟨Nat.le_of_ble_eq_true rfl, Nat.le_of_ble_eq_true rfl⟩) ⟨tm_blind, va_recv hK hPc (ci := 6) (q0 := 0) rfl rfl, fun U hU hW => ⟨rfl, by rw [hU], by rw [hU]; exact hPc, va_K.moved hW.alike hK, hDc.weaken (fun _ _ _ _ => trivial)⟩⟩ rfl rfl hl.1 rfl (lv_room (Nat.le_of_ble_eq_true rfl)) dL_law_217 ⟨Nat.le_of_ble_eq_true rfl, Nat.le_of_ble_eq_true rfl⟩) hS (fun q _ h => hFc q h) hFc (fun g1 g2 t H1 locs ht hvm hw hB hz1 hk1 hS => ?_)
        obtain ⟨e1, e2⟩ := hw
        rw [e1]
        rw [e2] at hB
        obtain ⟨hP1, hK1, hD1⟩ := hB
        rw [ht] at hP1
        obtain ⟨hP, hD⟩ := va_join (wr := tm_wModel cI cZ a2 r1 hh) (w1 := tm_wTwo cI cZ a c2) hP hD [0, 1, 2, 3, 4, 5, 6, 7, 8, 9, 10, 11, 12, 13, 14, 15, 16, 17, 18, 19, 20, 21, 22, 23, 24, 25, 26, 27, 28, 29] [30, 31, 32, 33, 34, 35, 36, 37, 38, 39, 40, 41, 42, 43, 44, 45, 46, 47] (lw_m8 _ _ _ _ _ _ _) (lw_r8 _ _ _ _ _ _ _) lw_o8 lw_d8 hk1 hFc hP1 hD1
        generalize H1 = H at hP hS ⊢
        have hP : va_P (dC, dI) vwCl (tm_wModel cI cZ a2 r1 hh ++ tm_wTwo cI cZ a c2) H := hP
        have hD : va_D (fun q : Nat => s.heap.size ≤ q) (tm_wModel cI cZ a2 r1 hh ++ tm_wTwo cI cZ a c2) := hD
        refine lv_aload_n hx hb dL_law_220 rfl (lv_at hl 2 rfl) ?_
        refine lv_aload_n hx hb dL_law_221 rfl (lv_at hl 0 rfl) ?_
        refine lv_iload_n hx hb dL_law_222 rfl (lv_at hl 3 rfl) ?_
        refine lv_iconst (v := 1) hx hb dL_law_223 (by decide) ?_
        refine lv_iadd hx hb dL_law_224 ?_
        refine va_sld hx hb hX hbl hbA hS v1 dL_law_225 ?_
        refine lv_aload_n hx hb dL_law_226 rfl (lv_at hl 0 rfl) ?_
        refine lv_iload_n hx hb dL_law_227 rfl (lv_at hl 3 rfl) ?_
        refine lv_iconst (v := 2) hx hb dL_law_228 (by decide) ?_
        refine lv_iadd hx hb dL_law_229 ?_
        refine va_sld hx hb hX hbl hbA hS v2 dL_law_230 ?_
        refine lv_aload_n hx hb dL_law_231 rfl (lv_at hl 0 rfl) ?_
        refine lv_iload_n hx hb dL_law_232 rfl (lv_at hl 3 rfl) ?_
        refine lv_iconst (v := 3) hx hb dL_law_233 (by decide) ?_
        refine lv_iadd hx hb dL_law_234 ?_
        refine va_sld hx hb hX hbl hbA hS v3 dL_law_235 ?_
        have hPc := hP.sub (ws' := tm_wModel cI cZ a2 r1 hh) [0, 1, 2, 3, 4, 5, 6, 7, 8, 9, 10, 11, 12, 13, 14, 15, 16, 17] (lw_s9 _ _ _ _ _ _ _)
        have hDc := hD.sub (ws' := tm_wModel cI cZ a2 r1 hh) [0, 1, 2, 3, 4, 5, 6, 7, 8, 9, 10, 11, 12, 13, 14, 15, 16, 17] lw_n9 (lw_m9 _ _ _ _ _ _ _)
        have hFc := va_free (wc := tm_wModel cI cZ a2 r1 hh) hD hS hA [0, 1, 2, 3, 4, 5, 6, 7, 8, 9, 10, 11, 12, 13, 14, 15, 16, 17] (lw_m9 _ _ _ _ _ _ _)
        refine va_calli (va_runV (As := [.int (xs (x3 + 1).toNatClampNeg), .int (xs (x3 + 2).toNatClampNeg), .int (xs (x3 + 3).toNatClampNeg)]) (rest := [.int d1]) ⟨hx, hb, hml, hown, hts⟩ (kk_X9_echo l dC dI cI cZ a2 r1 hh H.size (xs (x3 + 1).toNatClampNeg) (xs (x3 + 2).toNatClampNeg) (xs (x3 + 3).toNatClampNeg) (fun q v => q = d1 ∧ v = r2) (q9 _ ⟨rfl, rfl⟩)) (cwV 3 hts tL_X9_echo rfl rfl rfl (by decide +kernel) ⟨Nat.le_of_ble_eq_true rfl, Nat.le_of_ble_eq_true rfl⟩) ⟨tm_blind, va_recv hK hPc (ci := 7) (q0 := 0) rfl rfl, fun U hU hW => ⟨rfl, by rw [hU], by rw [hU]; exact hPc, va_K.moved hW.alike hK, hDc.weaken (fun _ _ _ _ => trivial)⟩⟩ rfl rfl hl.1 rfl (lv_room (Nat.le_of_ble_eq_true rfl)) dL_law_236 ⟨Nat.le_of_ble_eq_true rfl, Nat.le_of_ble_eq_true rfl⟩) hS (fun q _ h => hFc q h) hFc (fun g1 g2 t H1 locs ht hvm hw hB hz1 hk1 hS => ?_)
        obtain ⟨e1, e2⟩ := hw
        rw [e1]
        rw [e2] at hB
        obtain ⟨hP1, hK1, hD1⟩ := hB
        rw [ht] at hP1
        obtain ⟨hP, hD⟩ := va_join (wr := tm_wTwo cI cZ a c2) (w1 := tm_wModel cI cZ a2 r2 hh) hP hD [0, 1, 2, 3, 4, 5, 6, 7, 8, 9, 10, 11, 12, 13, 14, 15, 16, 17] [18, 19, 20, 21, 22, 23, 24, 25, 26, 27, 28, 29, 30, 31, 32, 33, 34, 35, 36, 37, 38, 39, 40, 41, 42, 43, 44, 45, 46, 47] (lw_m9 _ _ _ _ _ _ _) (lw_r9 _ _ _ _ _ _ _) lw_o9 lw_d9 hk1 hFc hP1 hD1
        generalize H1 = H at hP hS ⊢
        have hP : va_P (dC, dI) vwCl (tm_wTwo cI cZ a c2 ++ tm_wModel cI cZ a2 r2 hh) H := hP
        have hD : va_D (fun q : Nat => s.heap.size ≤ q) (tm_wTwo cI cZ a c2 ++ tm_wModel cI cZ a2 r2 hh) := hD
        refine lv_icmp_eq (tgt := 538) hx hb dL_law_239 (by decide) (fun c9 => ?_) (fun c9 => ?_)
        · exact next _ c2 r2 hh (Nat.le_refl _) hR2 _ _ hP hD hS
        · exact absurd rfl c9
      refine (Classical.em (w = 6)).elim (fun k6 => ?_) (fun k6 => ?_)
      · refine lv_tableIn (tgt := 244) hx hb dL_law_32 (by rw [k6]; decide) (by rw [k6]; decide) (by rw [k6]; rfl) (by decide) ?_
        obtain ⟨d1, c2, r2, hR2, q8, q9⟩ := c_call hR (xs (x3 + 1).toNatClampNeg)
        refine lv_aload_n hx hb dL_law_244 rfl (lv_at hl 1 rfl) ?_
        refine lv_aload_n hx hb dL_law_245 rfl (lv_at hl 0 rfl) ?_
        refine lv_iload_n hx hb dL_law_246 rfl (lv_at hl 3 rfl) ?_
        refine lv_iconst (v := 1) hx hb dL_law_247 (by decide) ?_
        refine lv_iadd hx hb dL_law_248 ?_
        refine va_sld hx hb hX hbl hbA hS v1 dL_law_249 ?_
        have hPc := hP.sub (ws' := tm_wTwo cI cZ a c1) [0, 1, 2, 3, 4, 5, 6, 7, 8, 9, 10, 11, 12, 13, 14, 15, 16, 17, 18, 19, 20, 21, 22, 23, 24, 25, 26, 27, 28, 29] (lw_s8 _ _ _ _ _ _ _)
        have hDc := hD.sub (ws' := tm_wTwo cI cZ a c1) [0, 1, 2, 3, 4, 5, 6, 7, 8, 9, 10, 11, 12, 13, 14, 15, 16, 17, 18, 19, 20, 21, 22, 23, 24, 25, 26, 27, 28, 29] lw_n8 (lw_m8 _ _ _ _ _ _ _)
        have hFc := va_free (wc := tm_wTwo cI cZ a c1) hD hS hA [0, 1, 2, 3, 4, 5, 6, 7, 8, 9, 10, 11, 12, 13, 14, 15, 16, 17, 18, 19, 20, 21, 22, 23, 24, 25, 26, 27, 28, 29] (lw_m8 _ _ _ _ _ _ _)
        refine va_calli (va_runV (As := [.int (xs (x3 + 1).toNatClampNeg)]) (rest := []) ⟨hx, hb, hml, hown, hts⟩ (kk_X8_call l dC dI cI cZ a c1 H.size (xs (x3 + 1).toNatClampNeg) (fun q v => q = d1 ∧ v = c2) (q8 _ ⟨rfl, rfl⟩)) (cwV 1 hts tL_X8_call rfl rfl rfl (by decide +kernel) ⟨Nat.le_of_ble_eq_true rfl, Nat.le_of_ble_eq_true rfl⟩) ⟨tm_blind, va_recv hK hPc (ci := 6) (q0 := 0) rfl rfl, fun U hU hW => ⟨rfl, by rw [hU], by rw [hU]; exact hPc, va_K.moved hW.alike hK, hDc.weaken (fun _ _ _ _ => trivial)⟩⟩ rfl rfl hl.1 rfl (lv_room (Nat.le_of_ble_eq_true rfl)) dL_law_250 ⟨Nat.le_of_ble_eq_true rfl, Nat.le_of_ble_eq_true rfl⟩) hS (fun q _ h => hFc q h) hFc (fun g1 g2 t H1 locs ht hvm hw hB hz1 hk1 hS => ?_)
        obtain ⟨e1, e2⟩ := hw
        rw [e1]
        rw [e2] at hB
        obtain ⟨hP1, hK1, hD1⟩ := hB
        rw [ht] at hP1
        obtain ⟨hP, hD⟩ := va_join (wr := tm_wModel cI cZ a2 r1 hh) (w1 := tm_wTwo cI cZ a c2) hP hD [0, 1, 2, 3, 4, 5, 6, 7, 8, 9, 10, 11, 12, 13, 14, 15, 16, 17, 18, 19, 20, 21, 22, 23, 24, 25, 26, 27, 28, 29] [30, 31, 32, 33, 34, 35, 36, 37, 38, 39, 40, 41, 42, 43, 44, 45, 46, 47] (lw_m8 _ _ _ _ _ _ _) (lw_r8 _ _ _ _ _ _ _) lw_o8 lw_d8 hk1 hFc hP1 hD1
        generalize H1 = H at hP hS ⊢
        have hP : va_P (dC, dI) vwCl (tm_wModel cI cZ a2 r1 hh ++ tm_wTwo cI cZ a c2) H := hP
        have hD : va_D (fun q : Nat => s.heap.size ≤ q) (tm_wModel cI cZ a2 r1 hh ++ tm_wTwo cI cZ a c2) := hD
        refine lv_aload_n hx hb dL_law_253 rfl (lv_at hl 2 rfl) ?_
        refine lv_aload_n hx hb dL_law_254 rfl (lv_at hl 0 rfl) ?_
        refine lv_iload_n hx hb dL_law_255 rfl (lv_at hl 3 rfl) ?_
        refine lv_iconst (v := 1) hx hb dL_law_256 (by decide) ?_
        refine lv_iadd hx hb dL_law_257 ?_
        refine va_sld hx hb hX hbl hbA hS v1 dL_law_258 ?_
        have hPc := hP.sub (ws' := tm_wModel cI cZ a2 r1 hh) [0, 1, 2, 3, 4, 5, 6, 7, 8, 9, 10, 11, 12, 13, 14, 15, 16, 17] (lw_s9 _ _ _ _ _ _ _)
        have hDc := hD.sub (ws' := tm_wModel cI cZ a2 r1 hh) [0, 1, 2, 3, 4, 5, 6, 7, 8, 9, 10, 11, 12, 13, 14, 15, 16, 17] lw_n9 (lw_m9 _ _ _ _ _ _ _)
        have hFc := va_free (wc := tm_wModel cI cZ a2 r1 hh) hD hS hA [0, 1, 2, 3, 4, 5, 6, 7, 8, 9, 10, 11, 12, 13, 14, 15, 16, 17] (lw_m9 _ _ _ _ _ _ _)
        refine va_calli (va_runV (As := [.int (xs (x3 + 1).toNatClampNeg)]) (rest := [.int d1]) ⟨hx, hb, hml, hown, hts⟩ (kk_X9_call l dC dI cI cZ a2 r1 hh H.size (xs (x3 + 1).toNatClampNeg) (fun q v => q = d1 ∧ v = r2) (q9 _ ⟨rfl, rfl⟩)) (cwV 1 hts tL_X9_call rfl rfl rfl (by decide +kernel) ⟨Nat.le_of_ble_eq_true rfl, Nat.le_of_ble_eq_true rfl⟩) ⟨tm_blind, va_recv hK hPc (ci := 7) (q0 := 0) rfl rfl, fun U hU hW => ⟨rfl, by rw [hU], by rw [hU]; exact hPc, va_K.moved hW.alike hK, hDc.weaken (fun _ _ _ _ => trivial)⟩⟩ rfl rfl hl.1 rfl (lv_room (Nat.le_of_ble_eq_true rfl)) dL_law_259 ⟨Nat.le_of_ble_eq_true rfl, Nat.le_of_ble_eq_true rfl⟩) hS (fun q _ h => hFc q h) hFc (fun g1 g2 t H1 locs ht hvm hw hB hz1 hk1 hS => ?_)
        obtain ⟨e1, e2⟩ := hw
        rw [e1]
        rw [e2] at hB
        obtain ⟨hP1, hK1, hD1⟩ := hB
        rw [ht] at hP1
        obtain ⟨hP, hD⟩ := va_join (wr := tm_wTwo cI cZ a c2) (w1 := tm_wModel cI cZ a2 r2 hh) hP hD [0, 1, 2, 3, 4, 5, 6, 7, 8, 9, 10, 11, 12, 13, 14, 15, 16, 17] [18, 19, 20, 21, 22, 23, 24, 25, 26, 27, 28, 29, 30, 31, 32, 33, 34, 35, 36, 37, 38, 39, 40, 41, 42, 43, 44, 45, 46, 47] (lw_m9 _ _ _ _ _ _ _) (lw_r9 _ _ _ _ _ _ _) lw_o9 lw_d9 hk1 hFc hP1 hD1
        generalize H1 = H at hP hS ⊢
        have hP : va_P (dC, dI) vwCl (tm_wTwo cI cZ a c2 ++ tm_wModel cI cZ a2 r2 hh) H := hP
        have hD : va_D (fun q : Nat => s.heap.size ≤ q) (tm_wTwo cI cZ a c2 ++ tm_wModel cI cZ a2 r2 hh) := hD
        refine lv_icmp_eq (tgt := 538) hx hb dL_law_262 (by decide) (fun c9 => ?_) (fun c9 => ?_)
        · exact next _ c2 r2 hh (Nat.le_refl _) hR2 _ _ hP hD hS
        · exact absurd rfl c9
      refine (Classical.em (w = 7)).elim (fun k7 => ?_) (fun k7 => ?_)
      · refine lv_tableIn (tgt := 267) hx hb dL_law_32 (by rw [k7]; decide) (by rw [k7]; decide) (by rw [k7]; rfl) (by decide) ?_
        obtain ⟨d1, c2, r2, hR2, q8, q9⟩ := c_hang hR (xs (x3 + 1).toNatClampNeg)
        refine lv_aload_n hx hb dL_law_267 rfl (lv_at hl 1 rfl) ?_
        refine lv_aload_n hx hb dL_law_268 rfl (lv_at hl 0 rfl) ?_
        refine lv_iload_n hx hb dL_law_269 rfl (lv_at hl 3 rfl) ?_
        refine lv_iconst (v := 1) hx hb dL_law_270 (by decide) ?_
        refine lv_iadd hx hb dL_law_271 ?_
        refine va_sld hx hb hX hbl hbA hS v1 dL_law_272 ?_
        have hPc := hP.sub (ws' := tm_wTwo cI cZ a c1) [0, 1, 2, 3, 4, 5, 6, 7, 8, 9, 10, 11, 12, 13, 14, 15, 16, 17, 18, 19, 20, 21, 22, 23, 24, 25, 26, 27, 28, 29] (lw_s8 _ _ _ _ _ _ _)
        have hDc := hD.sub (ws' := tm_wTwo cI cZ a c1) [0, 1, 2, 3, 4, 5, 6, 7, 8, 9, 10, 11, 12, 13, 14, 15, 16, 17, 18, 19, 20, 21, 22, 23, 24, 25, 26, 27, 28, 29] lw_n8 (lw_m8 _ _ _ _ _ _ _)
        have hFc := va_free (wc := tm_wTwo cI cZ a c1) hD hS hA [0, 1, 2, 3, 4, 5, 6, 7, 8, 9, 10, 11, 12, 13, 14, 15, 16, 17, 18, 19, 20, 21, 22, 23, 24, 25, 26, 27, 28, 29] (lw_m8 _ _ _ _ _ _ _)
        refine va_calli (va_runV (As := [.int (xs (x3 + 1).toNatClampNeg)]) (rest := []) ⟨hx, hb, hml, hown, hts⟩ (kk_X8_hang l dC dI cI cZ a c1 H.size (xs (x3 + 1).toNatClampNeg) (fun q v => q = d1 ∧ v = c2) (q8 _ ⟨rfl, rfl⟩)) (cwV 1 hts tL_X8_hang rfl rfl rfl (by decide +kernel) ⟨Nat.le_of_ble_eq_true rfl, Nat.le_of_ble_eq_true rfl⟩) ⟨tm_blind, va_recv hK hPc (ci := 6) (q0 := 0) rfl rfl, fun U hU hW => ⟨rfl, by rw [hU], by rw [hU]; exact hPc, va_K.moved hW.alike hK, hDc.weaken (fun _ _ _ _ => trivial)⟩⟩ rfl rfl hl.1 rfl (lv_room (Nat.le_of_ble_eq_true rfl)) dL_law_273 ⟨Nat.le_of_ble_eq_true rfl, Nat.le_of_ble_eq_true rfl⟩) hS (fun q _ h => hFc q h) hFc (fun g1 g2 t H1 locs ht hvm hw hB hz1 hk1 hS => ?_)
        obtain ⟨e1, e2⟩ := hw
        rw [e1]
        rw [e2] at hB
        obtain ⟨hP1, hK1, hD1⟩ := hB
        rw [ht] at hP1
        obtain ⟨hP, hD⟩ := va_join (wr := tm_wModel cI cZ a2 r1 hh) (w1 := tm_wTwo cI cZ a c2) hP hD [0, 1, 2, 3, 4, 5, 6, 7, 8, 9, 10, 11, 12, 13, 14, 15, 16, 17, 18, 19, 20, 21, 22, 23, 24, 25, 26, 27, 28, 29] [30, 31, 32, 33, 34, 35, 36, 37, 38, 39, 40, 41, 42, 43, 44, 45, 46, 47] (lw_m8 _ _ _ _ _ _ _) (lw_r8 _ _ _ _ _ _ _) lw_o8 lw_d8 hk1 hFc hP1 hD1
        generalize H1 = H at hP hS ⊢
        have hP : va_P (dC, dI) vwCl (tm_wModel cI cZ a2 r1 hh ++ tm_wTwo cI cZ a c2) H := hP
        have hD : va_D (fun q : Nat => s.heap.size ≤ q) (tm_wModel cI cZ a2 r1 hh ++ tm_wTwo cI cZ a c2) := hD
        refine lv_aload_n hx hb dL_law_276 rfl (lv_at hl 2 rfl) ?_
        refine lv_aload_n hx hb dL_law_277 rfl (lv_at hl 0 rfl) ?_
        refine lv_iload_n hx hb dL_law_278 rfl (lv_at hl 3 rfl) ?_
        refine lv_iconst (v := 1) hx hb dL_law_279 (by decide) ?_
        refine lv_iadd hx hb dL_law_280 ?_
        refine va_sld hx hb hX hbl hbA hS v1 dL_law_281 ?_
        have hPc := hP.sub (ws' := tm_wModel cI cZ a2 r1 hh) [0, 1, 2, 3, 4, 5, 6, 7, 8, 9, 10, 11, 12, 13, 14, 15, 16, 17] (lw_s9 _ _ _ _ _ _ _)
        have hDc := hD.sub (ws' := tm_wModel cI cZ a2 r1 hh) [0, 1, 2, 3, 4, 5, 6, 7, 8, 9, 10, 11, 12, 13, 14, 15, 16, 17] lw_n9 (lw_m9 _ _ _ _ _ _ _)
        have hFc := va_free (wc := tm_wModel cI cZ a2 r1 hh) hD hS hA [0, 1, 2, 3, 4, 5, 6, 7, 8, 9, 10, 11, 12, 13, 14, 15, 16, 17] (lw_m9 _ _ _ _ _ _ _)
        refine va_calli (va_runV (As := [.int (xs (x3 + 1).toNatClampNeg)]) (rest := [.int d1]) ⟨hx, hb, hml, hown, hts⟩ (kk_X9_hang l dC dI cI cZ a2 r1 hh H.size (xs (x3 + 1).toNatClampNeg) (fun q v => q = d1 ∧ v = r2) (q9 _ ⟨rfl, rfl⟩)) (cwV 1 hts tL_X9_hang rfl rfl rfl (by decide +kernel) ⟨Nat.le_of_ble_eq_true rfl, Nat.le_of_ble_eq_true rfl⟩) ⟨tm_blind, va_recv hK hPc (ci := 7) (q0 := 0) rfl rfl, fun U hU hW => ⟨rfl, by rw [hU], by rw [hU]; exact hPc, va_K.moved hW.alike hK, hDc.weaken (fun _ _ _ _ => trivial)⟩⟩ rfl rfl hl.1 rfl (lv_room (Nat.le_of_ble_eq_true rfl)) dL_law_282 ⟨Nat.le_of_ble_eq_true rfl, Nat.le_of_ble_eq_true rfl⟩) hS (fun q _ h => hFc q h) hFc (fun g1 g2 t H1 locs ht hvm hw hB hz1 hk1 hS => ?_)
        obtain ⟨e1, e2⟩ := hw
        rw [e1]
        rw [e2] at hB
        obtain ⟨hP1, hK1, hD1⟩ := hB
        rw [ht] at hP1
        obtain ⟨hP, hD⟩ := va_join (wr := tm_wTwo cI cZ a c2) (w1 := tm_wModel cI cZ a2 r2 hh) hP hD [0, 1, 2, 3, 4, 5, 6, 7, 8, 9, 10, 11, 12, 13, 14, 15, 16, 17] [18, 19, 20, 21, 22, 23, 24, 25, 26, 27, 28, 29, 30, 31, 32, 33, 34, 35, 36, 37, 38, 39, 40, 41, 42, 43, 44, 45, 46, 47] (lw_m9 _ _ _ _ _ _ _) (lw_r9 _ _ _ _ _ _ _) lw_o9 lw_d9 hk1 hFc hP1 hD1
        generalize H1 = H at hP hS ⊢
        have hP : va_P (dC, dI) vwCl (tm_wTwo cI cZ a c2 ++ tm_wModel cI cZ a2 r2 hh) H := hP
        have hD : va_D (fun q : Nat => s.heap.size ≤ q) (tm_wTwo cI cZ a c2 ++ tm_wModel cI cZ a2 r2 hh) := hD
        refine lv_icmp_eq (tgt := 538) hx hb dL_law_285 (by decide) (fun c9 => ?_) (fun c9 => ?_)
        · exact next _ c2 r2 hh (Nat.le_refl _) hR2 _ _ hP hD hS
        · exact absurd rfl c9
      refine (Classical.em (w = 8)).elim (fun k8 => ?_) (fun k8 => ?_)
      · refine lv_tableIn (tgt := 290) hx hb dL_law_32 (by rw [k8]; decide) (by rw [k8]; decide) (by rw [k8]; rfl) (by decide) ?_
        obtain ⟨d1, c2, r2, hR2, q8, q9⟩ := c_go hR (by omega) (xs (x3 + 1).toNatClampNeg)
        refine lv_aload_n hx hb dL_law_290 rfl (lv_at hl 1 rfl) ?_
        refine lv_aload_n hx hb dL_law_291 rfl (lv_at hl 0 rfl) ?_
        refine lv_iload_n hx hb dL_law_292 rfl (lv_at hl 3 rfl) ?_
        refine lv_iconst (v := 1) hx hb dL_law_293 (by decide) ?_
        refine lv_iadd hx hb dL_law_294 ?_
        refine va_sld hx hb hX hbl hbA hS v1 dL_law_295 ?_
        have hPc := hP.sub (ws' := tm_wTwo cI cZ a c1) [0, 1, 2, 3, 4, 5, 6, 7, 8, 9, 10, 11, 12, 13, 14, 15, 16, 17, 18, 19, 20, 21, 22, 23, 24, 25, 26, 27, 28, 29] (lw_s8 _ _ _ _ _ _ _)
        have hDc := hD.sub (ws' := tm_wTwo cI cZ a c1) [0, 1, 2, 3, 4, 5, 6, 7, 8, 9, 10, 11, 12, 13, 14, 15, 16, 17, 18, 19, 20, 21, 22, 23, 24, 25, 26, 27, 28, 29] lw_n8 (lw_m8 _ _ _ _ _ _ _)
        have hFc := va_free (wc := tm_wTwo cI cZ a c1) hD hS hA [0, 1, 2, 3, 4, 5, 6, 7, 8, 9, 10, 11, 12, 13, 14, 15, 16, 17, 18, 19, 20, 21, 22, 23, 24, 25, 26, 27, 28, 29] (lw_m8 _ _ _ _ _ _ _)
        refine va_calli (va_runV (As := [.int (xs (x3 + 1).toNatClampNeg)]) (rest := []) ⟨hx, hb, hml, hown, hts⟩ (kk_X8_go l dC dI cI cZ a c1 H.size (xs (x3 + 1).toNatClampNeg) (fun q v => q = d1 ∧ v = c2) (q8 _ ⟨rfl, rfl⟩)) (cwV 1 hts tL_X8_go rfl rfl rfl (by decide +kernel) ⟨Nat.le_of_ble_eq_true rfl, Nat.le_of_ble_eq_true rfl⟩) ⟨tm_blind, va_recv hK hPc (ci := 6) (q0 := 0) rfl rfl, fun U hU hW => ⟨rfl, by rw [hU], by rw [hU]; exact hPc, va_K.moved hW.alike hK, hDc.weaken (fun _ _ _ _ => trivial)⟩⟩ rfl rfl hl.1 rfl (lv_room (Nat.le_of_ble_eq_true rfl)) dL_law_296 ⟨Nat.le_of_ble_eq_true rfl, Nat.le_of_ble_eq_true rfl⟩) hS (fun q _ h => hFc q h) hFc (fun g1 g2 t H1 locs ht hvm hw hB hz1 hk1 hS => ?_)
        obtain ⟨e1, e2⟩ := hw
        rw [e1]
        rw [e2] at hB
        obtain ⟨hP1, hK1, hD1⟩ := hB
        rw [ht] at hP1
        obtain ⟨hP, hD⟩ := va_join (wr := tm_wModel cI cZ a2 r1 hh) (w1 := tm_wTwo cI cZ a c2) hP hD [0, 1, 2, 3, 4, 5, 6, 7, 8, 9, 10, 11, 12, 13, 14, 15, 16, 17, 18, 19, 20, 21, 22, 23, 24, 25, 26, 27, 28, 29] [30, 31, 32, 33, 34, 35, 36, 37, 38, 39, 40, 41, 42, 43, 44, 45, 46, 47] (lw_m8 _ _ _ _ _ _ _) (lw_r8 _ _ _ _ _ _ _) lw_o8 lw_d8 hk1 hFc hP1 hD1
        generalize H1 = H at hP hS ⊢
        have hP : va_P (dC, dI) vwCl (tm_wModel cI cZ a2 r1 hh ++ tm_wTwo cI cZ a c2) H := hP
        have hD : va_D (fun q : Nat => s.heap.size ≤ q) (tm_wModel cI cZ a2 r1 hh ++ tm_wTwo cI cZ a c2) := hD
        refine lv_aload_n hx hb dL_law_299 rfl (lv_at hl 2 rfl) ?_
        refine lv_aload_n hx hb dL_law_300 rfl (lv_at hl 0 rfl) ?_
        refine lv_iload_n hx hb dL_law_301 rfl (lv_at hl 3 rfl) ?_
        refine lv_iconst (v := 1) hx hb dL_law_302 (by decide) ?_
        refine lv_iadd hx hb dL_law_303 ?_
        refine va_sld hx hb hX hbl hbA hS v1 dL_law_304 ?_
        have hPc := hP.sub (ws' := tm_wModel cI cZ a2 r1 hh) [0, 1, 2, 3, 4, 5, 6, 7, 8, 9, 10, 11, 12, 13, 14, 15, 16, 17] (lw_s9 _ _ _ _ _ _ _)
        have hDc := hD.sub (ws' := tm_wModel cI cZ a2 r1 hh) [0, 1, 2, 3, 4, 5, 6, 7, 8, 9, 10, 11, 12, 13, 14, 15, 16, 17] lw_n9 (lw_m9 _ _ _ _ _ _ _)
        have hFc := va_free (wc := tm_wModel cI cZ a2 r1 hh) hD hS hA [0, 1, 2, 3, 4, 5, 6, 7, 8, 9, 10, 11, 12, 13, 14, 15, 16, 17] (lw_m9 _ _ _ _ _ _ _)
        refine va_calli (va_runV (As := [.int (xs (x3 + 1).toNatClampNeg)]) (rest := [.int d1]) ⟨hx, hb, hml, hown, hts⟩ (kk_X9_go l dC dI cI cZ a2 r1 hh H.size (xs (x3 + 1).toNatClampNeg) (fun q v => q = d1 ∧ v = r2) (q9 _ ⟨rfl, rfl⟩)) (cwV 1 hts tL_X9_go rfl rfl rfl (by decide +kernel) ⟨Nat.le_of_ble_eq_true rfl, Nat.le_of_ble_eq_true rfl⟩) ⟨tm_blind, va_recv hK hPc (ci := 7) (q0 := 0) rfl rfl, fun U hU hW => ⟨rfl, by rw [hU], by rw [hU]; exact hPc, va_K.moved hW.alike hK, hDc.weaken (fun _ _ _ _ => trivial)⟩⟩ rfl rfl hl.1 rfl (lv_room (Nat.le_of_ble_eq_true rfl)) dL_law_305 ⟨Nat.le_of_ble_eq_true rfl, Nat.le_of_ble_eq_true rfl⟩) hS (fun q _ h => hFc q h) hFc (fun g1 g2 t H1 locs ht hvm hw hB hz1 hk1 hS => ?_)
        obtain ⟨e1, e2⟩ := hw
        rw [e1]
        rw [e2] at hB
        obtain ⟨hP1, hK1, hD1⟩ := hB
        rw [ht] at hP1
        obtain ⟨hP, hD⟩ := va_join (wr := tm_wTwo cI cZ a c2) (w1 := tm_wModel cI cZ a2 r2 hh) hP hD [0, 1, 2, 3, 4, 5, 6, 7, 8, 9, 10, 11, 12, 13, 14, 15, 16, 17] [18, 19, 20, 21, 22, 23, 24, 25, 26, 27, 28, 29, 30, 31, 32, 33, 34, 35, 36, 37, 38, 39, 40, 41, 42, 43, 44, 45, 46, 47] (lw_m9 _ _ _ _ _ _ _) (lw_r9 _ _ _ _ _ _ _) lw_o9 lw_d9 hk1 hFc hP1 hD1
        generalize H1 = H at hP hS ⊢
        have hP : va_P (dC, dI) vwCl (tm_wTwo cI cZ a c2 ++ tm_wModel cI cZ a2 r2 hh) H := hP
        have hD : va_D (fun q : Nat => s.heap.size ≤ q) (tm_wTwo cI cZ a c2 ++ tm_wModel cI cZ a2 r2 hh) := hD
        refine lv_icmp_eq (tgt := 538) hx hb dL_law_308 (by decide) (fun c9 => ?_) (fun c9 => ?_)
        · exact next _ c2 r2 hh (Nat.le_refl _) hR2 _ _ hP hD hS
        · exact absurd rfl c9
      refine (Classical.em (w = 9)).elim (fun k9 => ?_) (fun k9 => ?_)
      · refine lv_tableIn (tgt := 313) hx hb dL_law_32 (by rw [k9]; decide) (by rw [k9]; decide) (by rw [k9]; rfl) (by decide) ?_
        obtain ⟨d1, c2, r2, hR2, q8, q9⟩ := c_end hR (xs (x3 + 1).toNatClampNeg) (xs (x3 + 2).toNatClampNeg)
        refine lv_aload_n hx hb dL_law_313 rfl (lv_at hl 1 rfl) ?_
        refine lv_aload_n hx hb dL_law_314 rfl (lv_at hl 0 rfl) ?_
        refine lv_iload_n hx hb dL_law_315 rfl (lv_at hl 3 rfl) ?_
        refine lv_iconst (v := 1) hx hb dL_law_316 (by decide) ?_
        refine lv_iadd hx hb dL_law_317 ?_
        refine va_sld hx hb hX hbl hbA hS v1 dL_law_318 ?_
        refine lv_aload_n hx hb dL_law_319 rfl (lv_at hl 0 rfl) ?_
        refine lv_iload_n hx hb dL_law_320 rfl (lv_at hl 3 rfl) ?_
        refine lv_iconst (v := 2) hx hb dL_law_321 (by decide) ?_
        refine lv_iadd hx hb dL_law_322 ?_
        refine va_sld hx hb hX hbl hbA hS v2 dL_law_323 ?_
        have hPc := hP.sub (ws' := tm_wTwo cI cZ a c1) [0, 1, 2, 3, 4, 5, 6, 7, 8, 9, 10, 11, 12, 13, 14, 15, 16, 17, 18, 19, 20, 21, 22, 23, 24, 25, 26, 27, 28, 29] (lw_s8 _ _ _ _ _ _ _)
        have hDc := hD.sub (ws' := tm_wTwo cI cZ a c1) [0, 1, 2, 3, 4, 5, 6, 7, 8, 9, 10, 11, 12, 13, 14, 15, 16, 17, 18, 19, 20, 21, 22, 23, 24, 25, 26, 27, 28, 29] lw_n8 (lw_m8 _ _ _ _ _ _ _)
        have hFc := va_free (wc := tm_wTwo cI cZ a c1) hD hS hA [0, 1, 2, 3, 4, 5, 6, 7, 8, 9, 10, 11, 12, 13, 14, 15, 16, 17, 18, 19, 20, 21, 22, 23, 24, 25, 26, 27, 28, 29] (lw_m8 _ _ _ _ _ _ _)
        refine va_calli (va_runV (As := [.int (xs (x3 + 1).toNatClampNeg), .int (xs (x3 + 2).toNatClampNeg)]) (rest := []) ⟨hx, hb, hml, hown, hts⟩ (kk_X8_end l dC dI cI cZ a c1 H.size (xs (x3 + 1).toNatClampNeg) (xs (x3 + 2).toNatClampNeg) (fun q v => q = d1 ∧ v = c2) (q8 _ ⟨rfl, rfl⟩)) (cwV 2 hts tL_X8_end rfl rfl rfl (by decide +kernel) ⟨Nat.le_of_ble_eq_true rfl, Nat.le_of_ble_eq_true rfl⟩) ⟨tm_blind, va_recv hK hPc (ci := 6) (q0 := 0) rfl rfl, fun U hU hW => ⟨rfl, by rw [hU], by rw [hU]; exact hPc, va_K.moved hW.alike hK, hDc.weaken (fun _ _ _ _ => trivial)⟩⟩ rfl rfl hl.1 rfl (lv_room (Nat.le_of_ble_eq_true rfl)) dL_law_324 ⟨Nat.le_of_ble_eq_true rfl, Nat.le_of_ble_eq_true rfl⟩) hS (fun q _ h => hFc q h) hFc (fun g1 g2 t H1 locs ht hvm hw hB hz1 hk1 hS => ?_)
        obtain ⟨e1, e2⟩ := hw
        rw [e1]
        rw [e2] at hB
        obtain ⟨hP1, hK1, hD1⟩ := hB
        rw [ht] at hP1
        obtain ⟨hP, hD⟩ := va_join (wr := tm_wModel cI cZ a2 r1 hh) (w1 := tm_wTwo cI cZ a c2) hP hD [0, 1, 2, 3, 4, 5, 6, 7, 8, 9, 10, 11, 12, 13, 14, 15, 16, 17, 18, 19, 20, 21, 22, 23, 24, 25, 26, 27, 28, 29] [30, 31, 32, 33, 34, 35, 36, 37, 38, 39, 40, 41, 42, 43, 44, 45, 46, 47] (lw_m8 _ _ _ _ _ _ _) (lw_r8 _ _ _ _ _ _ _) lw_o8 lw_d8 hk1 hFc hP1 hD1
        generalize H1 = H at hP hS ⊢
        have hP : va_P (dC, dI) vwCl (tm_wModel cI cZ a2 r1 hh ++ tm_wTwo cI cZ a c2) H := hP
        have hD : va_D (fun q : Nat => s.heap.size ≤ q) (tm_wModel cI cZ a2 r1 hh ++ tm_wTwo cI cZ a c2) := hD
        refine lv_aload_n hx hb dL_law_327 rfl (lv_at hl 2 rfl) ?_
        refine lv_aload_n hx hb dL_law_328 rfl (lv_at hl 0 rfl) ?_
        refine lv_iload_n hx hb dL_law_329 rfl (lv_at hl 3 rfl) ?_
        refine lv_iconst (v := 1) hx hb dL_law_330 (by decide) ?_
        refine lv_iadd hx hb dL_law_331 ?_
        refine va_sld hx hb hX hbl hbA hS v1 dL_law_332 ?_
        refine lv_aload_n hx hb dL_law_333 rfl (lv_at hl 0 rfl) ?_
        refine lv_iload_n hx hb dL_law_334 rfl (lv_at hl 3 rfl) ?_
        refine lv_iconst (v := 2) hx hb dL_law_335 (by decide) ?_
        refine lv_iadd hx hb dL_law_336 ?_
        refine va_sld hx hb hX hbl hbA hS v2 dL_law_337 ?_
        have hPc := hP.sub (ws' := tm_wModel cI cZ a2 r1 hh) [0, 1, 2, 3, 4, 5, 6, 7, 8, 9, 10, 11, 12, 13, 14, 15, 16, 17] (lw_s9 _ _ _ _ _ _ _)
        have hDc := hD.sub (ws' := tm_wModel cI cZ a2 r1 hh) [0, 1, 2, 3, 4, 5, 6, 7, 8, 9, 10, 11, 12, 13, 14, 15, 16, 17] lw_n9 (lw_m9 _ _ _ _ _ _ _)
        have hFc := va_free (wc := tm_wModel cI cZ a2 r1 hh) hD hS hA [0, 1, 2, 3, 4, 5, 6, 7, 8, 9, 10, 11, 12, 13, 14, 15, 16, 17] (lw_m9 _ _ _ _ _ _ _)
        refine va_calli (va_runV (As := [.int (xs (x3 + 1).toNatClampNeg), .int (xs (x3 + 2).toNatClampNeg)]) (rest := [.int d1]) ⟨hx, hb, hml, hown, hts⟩ (kk_X9_end l dC dI cI cZ a2 r1 hh H.size (xs (x3 + 1).toNatClampNeg) (xs (x3 + 2).toNatClampNeg) (fun q v => q = d1 ∧ v = r2) (q9 _ ⟨rfl, rfl⟩)) (cwV 2 hts tL_X9_end rfl rfl rfl (by decide +kernel) ⟨Nat.le_of_ble_eq_true rfl, Nat.le_of_ble_eq_true rfl⟩) ⟨tm_blind, va_recv hK hPc (ci := 7) (q0 := 0) rfl rfl, fun U hU hW => ⟨rfl, by rw [hU], by rw [hU]; exact hPc, va_K.moved hW.alike hK, hDc.weaken (fun _ _ _ _ => trivial)⟩⟩ rfl rfl hl.1 rfl (lv_room (Nat.le_of_ble_eq_true rfl)) dL_law_338 ⟨Nat.le_of_ble_eq_true rfl, Nat.le_of_ble_eq_true rfl⟩) hS (fun q _ h => hFc q h) hFc (fun g1 g2 t H1 locs ht hvm hw hB hz1 hk1 hS => ?_)
        obtain ⟨e1, e2⟩ := hw
        rw [e1]
        rw [e2] at hB
        obtain ⟨hP1, hK1, hD1⟩ := hB
        rw [ht] at hP1
        obtain ⟨hP, hD⟩ := va_join (wr := tm_wTwo cI cZ a c2) (w1 := tm_wModel cI cZ a2 r2 hh) hP hD [0, 1, 2, 3, 4, 5, 6, 7, 8, 9, 10, 11, 12, 13, 14, 15, 16, 17] [18, 19, 20, 21, 22, 23, 24, 25, 26, 27, 28, 29, 30, 31, 32, 33, 34, 35, 36, 37, 38, 39, 40, 41, 42, 43, 44, 45, 46, 47] (lw_m9 _ _ _ _ _ _ _) (lw_r9 _ _ _ _ _ _ _) lw_o9 lw_d9 hk1 hFc hP1 hD1
        generalize H1 = H at hP hS ⊢
        have hP : va_P (dC, dI) vwCl (tm_wTwo cI cZ a c2 ++ tm_wModel cI cZ a2 r2 hh) H := hP
        have hD : va_D (fun q : Nat => s.heap.size ≤ q) (tm_wTwo cI cZ a c2 ++ tm_wModel cI cZ a2 r2 hh) := hD
        refine lv_icmp_eq (tgt := 538) hx hb dL_law_341 (by decide) (fun c9 => ?_) (fun c9 => ?_)
        · exact next _ c2 r2 hh (Nat.le_refl _) hR2 _ _ hP hD hS
        · exact absurd rfl c9
      refine (Classical.em (w = 10)).elim (fun k10 => ?_) (fun k10 => ?_)
      · refine lv_tableIn (tgt := 346) hx hb dL_law_32 (by rw [k10]; decide) (by rw [k10]; decide) (by rw [k10]; rfl) (by decide) ?_
        obtain ⟨d1, c2, r2, hR2, q8, q9⟩ := c_band hR (xs (x3 + 1).toNatClampNeg) (xs (x3 + 2).toNatClampNeg)
        refine lv_aload_n hx hb dL_law_346 rfl (lv_at hl 1 rfl) ?_
        refine lv_aload_n hx hb dL_law_347 rfl (lv_at hl 0 rfl) ?_
        refine lv_iload_n hx hb dL_law_348 rfl (lv_at hl 3 rfl) ?_
        refine lv_iconst (v := 1) hx hb dL_law_349 (by decide) ?_
        refine lv_iadd hx hb dL_law_350 ?_
        refine va_sld hx hb hX hbl hbA hS v1 dL_law_351 ?_
        refine lv_aload_n hx hb dL_law_352 rfl (lv_at hl 0 rfl) ?_
        refine lv_iload_n hx hb dL_law_353 rfl (lv_at hl 3 rfl) ?_
        refine lv_iconst (v := 2) hx hb dL_law_354 (by decide) ?_
        refine lv_iadd hx hb dL_law_355 ?_
        refine va_sld hx hb hX hbl hbA hS v2 dL_law_356 ?_
        have hPc := hP.sub (ws' := tm_wTwo cI cZ a c1) [0, 1, 2, 3, 4, 5, 6, 7, 8, 9, 10, 11, 12, 13, 14, 15, 16, 17, 18, 19, 20, 21, 22, 23, 24, 25, 26, 27, 28, 29] (lw_s8 _ _ _ _ _ _ _)
        have hDc := hD.sub (ws' := tm_wTwo cI cZ a c1) [0, 1, 2, 3, 4, 5, 6, 7, 8, 9, 10, 11, 12, 13, 14, 15, 16, 17, 18, 19, 20, 21, 22, 23, 24, 25, 26, 27, 28, 29] lw_n8 (lw_m8 _ _ _ _ _ _ _)
        have hFc := va_free (wc := tm_wTwo cI cZ a c1) hD hS hA [0, 1, 2, 3, 4, 5, 6, 7, 8, 9, 10, 11, 12, 13, 14, 15, 16, 17, 18, 19, 20, 21, 22, 23, 24, 25, 26, 27, 28, 29] (lw_m8 _ _ _ _ _ _ _)
        refine va_calli (va_runV (As := [.int (xs (x3 + 1).toNatClampNeg), .int (xs (x3 + 2).toNatClampNeg)]) (rest := []) ⟨hx, hb, hml, hown, hts⟩ (kk_X8_band l dC dI cI cZ a c1 H.size (xs (x3 + 1).toNatClampNeg) (xs (x3 + 2).toNatClampNeg) (fun q v => q = d1 ∧ v = c2) (q8 _ ⟨rfl, rfl⟩)) (cwV 2 hts tL_X8_band rfl rfl rfl (by decide +kernel) ⟨Nat.le_of_ble_eq_true rfl, Nat.le_of_ble_eq_true rfl⟩) ⟨tm_blind, va_recv hK hPc (ci := 6) (q0 := 0) rfl rfl, fun U hU hW => ⟨rfl, by rw [hU], by rw [hU]; exact hPc, va_K.moved hW.alike hK, hDc.weaken (fun _ _ _ _ => trivial)⟩⟩ rfl rfl hl.1 rfl (lv_room (Nat.le_of_ble_eq_true rfl)) dL_law_357 ⟨Nat.le_of_ble_eq_true rfl, Nat.le_of_ble_eq_true rfl⟩) hS (fun q _ h => hFc q h) hFc (fun g1 g2 t H1 locs ht hvm hw hB hz1 hk1 hS => ?_)
        obtain ⟨e1, e2⟩ := hw
        rw [e1]
        rw [e2] at hB
        obtain ⟨hP1, hK1, hD1⟩ := hB
        rw [ht] at hP1
        obtain ⟨hP, hD⟩ := va_join (wr := tm_wModel cI cZ a2 r1 hh) (w1 := tm_wTwo cI cZ a c2) hP hD [0, 1, 2, 3, 4, 5, 6, 7, 8, 9, 10, 11, 12, 13, 14, 15, 16, 17, 18, 19, 20, 21, 22, 23, 24, 25, 26, 27, 28, 29] [30, 31, 32, 33, 34, 35, 36, 37, 38, 39, 40, 41, 42, 43, 44, 45, 46, 47] (lw_m8 _ _ _ _ _ _ _) (lw_r8 _ _ _ _ _ _ _) lw_o8 lw_d8 hk1 hFc hP1 hD1
        generalize H1 = H at hP hS ⊢
        have hP : va_P (dC, dI) vwCl (tm_wModel cI cZ a2 r1 hh ++ tm_wTwo cI cZ a c2) H := hP
        have hD : va_D (fun q : Nat => s.heap.size ≤ q) (tm_wModel cI cZ a2 r1 hh ++ tm_wTwo cI cZ a c2) := hD
        refine lv_aload_n hx hb dL_law_360 rfl (lv_at hl 2 rfl) ?_
        refine lv_aload_n hx hb dL_law_361 rfl (lv_at hl 0 rfl) ?_
        refine lv_iload_n hx hb dL_law_362 rfl (lv_at hl 3 rfl) ?_
        refine lv_iconst (v := 1) hx hb dL_law_363 (by decide) ?_
        refine lv_iadd hx hb dL_law_364 ?_
        refine va_sld hx hb hX hbl hbA hS v1 dL_law_365 ?_
        refine lv_aload_n hx hb dL_law_366 rfl (lv_at hl 0 rfl) ?_
        refine lv_iload_n hx hb dL_law_367 rfl (lv_at hl 3 rfl) ?_
        refine lv_iconst (v := 2) hx hb dL_law_368 (by decide) ?_
        refine lv_iadd hx hb dL_law_369 ?_
        refine va_sld hx hb hX hbl hbA hS v2 dL_law_370 ?_
        have hPc := hP.sub (ws' := tm_wModel cI cZ a2 r1 hh) [0, 1, 2, 3, 4, 5, 6, 7, 8, 9, 10, 11, 12, 13, 14, 15, 16, 17] (lw_s9 _ _ _ _ _ _ _)
        have hDc := hD.sub (ws' := tm_wModel cI cZ a2 r1 hh) [0, 1, 2, 3, 4, 5, 6, 7, 8, 9, 10, 11, 12, 13, 14, 15, 16, 17] lw_n9 (lw_m9 _ _ _ _ _ _ _)
        have hFc := va_free (wc := tm_wModel cI cZ a2 r1 hh) hD hS hA [0, 1, 2, 3, 4, 5, 6, 7, 8, 9, 10, 11, 12, 13, 14, 15, 16, 17] (lw_m9 _ _ _ _ _ _ _)
        refine va_calli (va_runV (As := [.int (xs (x3 + 1).toNatClampNeg), .int (xs (x3 + 2).toNatClampNeg)]) (rest := [.int d1]) ⟨hx, hb, hml, hown, hts⟩ (kk_X9_band l dC dI cI cZ a2 r1 hh H.size (xs (x3 + 1).toNatClampNeg) (xs (x3 + 2).toNatClampNeg) (fun q v => q = d1 ∧ v = r2) (q9 _ ⟨rfl, rfl⟩)) (cwV 2 hts tL_X9_band rfl rfl rfl (by decide +kernel) ⟨Nat.le_of_ble_eq_true rfl, Nat.le_of_ble_eq_true rfl⟩) ⟨tm_blind, va_recv hK hPc (ci := 7) (q0 := 0) rfl rfl, fun U hU hW => ⟨rfl, by rw [hU], by rw [hU]; exact hPc, va_K.moved hW.alike hK, hDc.weaken (fun _ _ _ _ => trivial)⟩⟩ rfl rfl hl.1 rfl (lv_room (Nat.le_of_ble_eq_true rfl)) dL_law_371 ⟨Nat.le_of_ble_eq_true rfl, Nat.le_of_ble_eq_true rfl⟩) hS (fun q _ h => hFc q h) hFc (fun g1 g2 t H1 locs ht hvm hw hB hz1 hk1 hS => ?_)
        obtain ⟨e1, e2⟩ := hw
        rw [e1]
        rw [e2] at hB
        obtain ⟨hP1, hK1, hD1⟩ := hB
        rw [ht] at hP1
        obtain ⟨hP, hD⟩ := va_join (wr := tm_wTwo cI cZ a c2) (w1 := tm_wModel cI cZ a2 r2 hh) hP hD [0, 1, 2, 3, 4, 5, 6, 7, 8, 9, 10, 11, 12, 13, 14, 15, 16, 17] [18, 19, 20, 21, 22, 23, 24, 25, 26, 27, 28, 29, 30, 31, 32, 33, 34, 35, 36, 37, 38, 39, 40, 41, 42, 43, 44, 45, 46, 47] (lw_m9 _ _ _ _ _ _ _) (lw_r9 _ _ _ _ _ _ _) lw_o9 lw_d9 hk1 hFc hP1 hD1
        generalize H1 = H at hP hS ⊢
        have hP : va_P (dC, dI) vwCl (tm_wTwo cI cZ a c2 ++ tm_wModel cI cZ a2 r2 hh) H := hP
        have hD : va_D (fun q : Nat => s.heap.size ≤ q) (tm_wTwo cI cZ a c2 ++ tm_wModel cI cZ a2 r2 hh) := hD
        refine lv_icmp_eq (tgt := 538) hx hb dL_law_374 (by decide) (fun c9 => ?_) (fun c9 => ?_)
        · exact next _ c2 r2 hh (Nat.le_refl _) hR2 _ _ hP hD hS
        · exact absurd rfl c9
      refine (Classical.em (w = 11)).elim (fun k11 => ?_) (fun k11 => ?_)
      · refine lv_tableIn (tgt := 379) hx hb dL_law_32 (by rw [k11]; decide) (by rw [k11]; decide) (by rw [k11]; rfl) (by decide) ?_
        obtain ⟨d1, c2, r2, hR2, q8, q9⟩ := c_learnt hR (xs (x3 + 1).toNatClampNeg) (xs (x3 + 2).toNatClampNeg)
        refine lv_aload_n hx hb dL_law_379 rfl (lv_at hl 1 rfl) ?_
        refine lv_aload_n hx hb dL_law_380 rfl (lv_at hl 0 rfl) ?_
        refine lv_iload_n hx hb dL_law_381 rfl (lv_at hl 3 rfl) ?_
        refine lv_iconst (v := 1) hx hb dL_law_382 (by decide) ?_
        refine lv_iadd hx hb dL_law_383 ?_
        refine va_sld hx hb hX hbl hbA hS v1 dL_law_384 ?_
        refine lv_aload_n hx hb dL_law_385 rfl (lv_at hl 0 rfl) ?_
        refine lv_iload_n hx hb dL_law_386 rfl (lv_at hl 3 rfl) ?_
        refine lv_iconst (v := 2) hx hb dL_law_387 (by decide) ?_
        refine lv_iadd hx hb dL_law_388 ?_
        refine va_sld hx hb hX hbl hbA hS v2 dL_law_389 ?_
        have hPc := hP.sub (ws' := tm_wTwo cI cZ a c1) [0, 1, 2, 3, 4, 5, 6, 7, 8, 9, 10, 11, 12, 13, 14, 15, 16, 17, 18, 19, 20, 21, 22, 23, 24, 25, 26, 27, 28, 29] (lw_s8 _ _ _ _ _ _ _)
        have hDc := hD.sub (ws' := tm_wTwo cI cZ a c1) [0, 1, 2, 3, 4, 5, 6, 7, 8, 9, 10, 11, 12, 13, 14, 15, 16, 17, 18, 19, 20, 21, 22, 23, 24, 25, 26, 27, 28, 29] lw_n8 (lw_m8 _ _ _ _ _ _ _)
        have hFc := va_free (wc := tm_wTwo cI cZ a c1) hD hS hA [0, 1, 2, 3, 4, 5, 6, 7, 8, 9, 10, 11, 12, 13, 14, 15, 16, 17, 18, 19, 20, 21, 22, 23, 24, 25, 26, 27, 28, 29] (lw_m8 _ _ _ _ _ _ _)
        refine va_calli (va_runV (As := [.int (xs (x3 + 1).toNatClampNeg), .int (xs (x3 + 2).toNatClampNeg)]) (rest := []) ⟨hx, hb, hml, hown, hts⟩ (kk_X8_learnt l dC dI cI cZ a c1 H.size (xs (x3 + 1).toNatClampNeg) (xs (x3 + 2).toNatClampNeg) (fun q v => q = d1 ∧ v = c2) (q8 _ ⟨rfl, rfl⟩)) (cwV 2 hts tL_X8_learnt rfl rfl rfl (by decide +kernel) ⟨Nat.le_of_ble_eq_true rfl, Nat.le_of_ble_eq_true rfl⟩) ⟨tm_blind, va_recv hK hPc (ci := 6) (q0 := 0) rfl rfl, fun U hU hW => ⟨rfl, by rw [hU], by rw [hU]; exact hPc, va_K.moved hW.alike hK, hDc.weaken (fun _ _ _ _ => trivial)⟩⟩ rfl rfl hl.1 rfl (lv_room (Nat.le_of_ble_eq_true rfl)) dL_law_390 ⟨Nat.le_of_ble_eq_true rfl, Nat.le_of_ble_eq_true rfl⟩) hS (fun q _ h => hFc q h) hFc (fun g1 g2 t H1 locs ht hvm hw hB hz1 hk1 hS => ?_)
        obtain ⟨e1, e2⟩ := hw
        rw [e1]
        rw [e2] at hB
        obtain ⟨hP1, hK1, hD1⟩ := hB
        rw [ht] at hP1
        obtain ⟨hP, hD⟩ := va_join (wr := tm_wModel cI cZ a2 r1 hh) (w1 := tm_wTwo cI cZ a c2) hP hD [0, 1, 2, 3, 4, 5, 6, 7, 8, 9, 10, 11, 12, 13, 14, 15, 16, 17, 18, 19, 20, 21, 22, 23, 24, 25, 26, 27, 28, 29] [30, 31, 32, 33, 34, 35, 36, 37, 38, 39, 40, 41, 42, 43, 44, 45, 46, 47] (lw_m8 _ _ _ _ _ _ _) (lw_r8 _ _ _ _ _ _ _) lw_o8 lw_d8 hk1 hFc hP1 hD1
        generalize H1 = H at hP hS ⊢
        have hP : va_P (dC, dI) vwCl (tm_wModel cI cZ a2 r1 hh ++ tm_wTwo cI cZ a c2) H := hP
        have hD : va_D (fun q : Nat => s.heap.size ≤ q) (tm_wModel cI cZ a2 r1 hh ++ tm_wTwo cI cZ a c2) := hD
        refine lv_aload_n hx hb dL_law_393 rfl (lv_at hl 2 rfl) ?_
        refine lv_aload_n hx hb dL_law_394 rfl (lv_at hl 0 rfl) ?_
        refine lv_iload_n hx hb dL_law_395 rfl (lv_at hl 3 rfl) ?_
        refine lv_iconst (v := 1) hx hb dL_law_396 (by decide) ?_
        refine lv_iadd hx hb dL_law_397 ?_
        refine va_sld hx hb hX hbl hbA hS v1 dL_law_398 ?_
        refine lv_aload_n hx hb dL_law_399 rfl (lv_at hl 0 rfl) ?_
        refine lv_iload_n hx hb dL_law_400 rfl (lv_at hl 3 rfl) ?_
        refine lv_iconst (v := 2) hx hb dL_law_401 (by decide) ?_
        refine lv_iadd hx hb dL_law_402 ?_
        refine va_sld hx hb hX hbl hbA hS v2 dL_law_403 ?_
        have hPc := hP.sub (ws' := tm_wModel cI cZ a2 r1 hh) [0, 1, 2, 3, 4, 5, 6, 7, 8, 9, 10, 11, 12, 13, 14, 15, 16, 17] (lw_s9 _ _ _ _ _ _ _)
        have hDc := hD.sub (ws' := tm_wModel cI cZ a2 r1 hh) [0, 1, 2, 3, 4, 5, 6, 7, 8, 9, 10, 11, 12, 13, 14, 15, 16, 17] lw_n9 (lw_m9 _ _ _ _ _ _ _)
        have hFc := va_free (wc := tm_wModel cI cZ a2 r1 hh) hD hS hA [0, 1, 2, 3, 4, 5, 6, 7, 8, 9, 10, 11, 12, 13, 14, 15, 16, 17] (lw_m9 _ _ _ _ _ _ _)
        refine va_calli (va_runV (As := [.int (xs (x3 + 1).toNatClampNeg), .int (xs (x3 + 2).toNatClampNeg)]) (rest := [.int d1]) ⟨hx, hb, hml, hown, hts⟩ (kk_X9_learnt l dC dI cI cZ a2 r1 hh H.size (xs (x3 + 1).toNatClampNeg) (xs (x3 + 2).toNatClampNeg) (fun q v => q = d1 ∧ v = r2) (q9 _ ⟨rfl, rfl⟩)) (cwV 2 hts tL_X9_learnt rfl rfl rfl (by decide +kernel) ⟨Nat.le_of_ble_eq_true rfl, Nat.le_of_ble_eq_true rfl⟩) ⟨tm_blind, va_recv hK hPc (ci := 7) (q0 := 0) rfl rfl, fun U hU hW => ⟨rfl, by rw [hU], by rw [hU]; exact hPc, va_K.moved hW.alike hK, hDc.weaken (fun _ _ _ _ => trivial)⟩⟩ rfl rfl hl.1 rfl (lv_room (Nat.le_of_ble_eq_true rfl)) dL_law_404 ⟨Nat.le_of_ble_eq_true rfl, Nat.le_of_ble_eq_true rfl⟩) hS (fun q _ h => hFc q h) hFc (fun g1 g2 t H1 locs ht hvm hw hB hz1 hk1 hS => ?_)
        obtain ⟨e1, e2⟩ := hw
        rw [e1]
        rw [e2] at hB
        obtain ⟨hP1, hK1, hD1⟩ := hB
        rw [ht] at hP1
        obtain ⟨hP, hD⟩ := va_join (wr := tm_wTwo cI cZ a c2) (w1 := tm_wModel cI cZ a2 r2 hh) hP hD [0, 1, 2, 3, 4, 5, 6, 7, 8, 9, 10, 11, 12, 13, 14, 15, 16, 17] [18, 19, 20, 21, 22, 23, 24, 25, 26, 27, 28, 29, 30, 31, 32, 33, 34, 35, 36, 37, 38, 39, 40, 41, 42, 43, 44, 45, 46, 47] (lw_m9 _ _ _ _ _ _ _) (lw_r9 _ _ _ _ _ _ _) lw_o9 lw_d9 hk1 hFc hP1 hD1
        generalize H1 = H at hP hS ⊢
        have hP : va_P (dC, dI) vwCl (tm_wTwo cI cZ a c2 ++ tm_wModel cI cZ a2 r2 hh) H := hP
        have hD : va_D (fun q : Nat => s.heap.size ≤ q) (tm_wTwo cI cZ a c2 ++ tm_wModel cI cZ a2 r2 hh) := hD
        refine lv_icmp_eq (tgt := 538) hx hb dL_law_407 (by decide) (fun c9 => ?_) (fun c9 => ?_)
        · exact next _ c2 r2 hh (Nat.le_refl _) hR2 _ _ hP hD hS
        · exact absurd rfl c9
      refine (Classical.em (w = 12)).elim (fun k12 => ?_) (fun k12 => ?_)
      · refine lv_tableIn (tgt := 412) hx hb dL_law_32 (by rw [k12]; decide) (by rw [k12]; decide) (by rw [k12]; rfl) (by decide) ?_
        obtain ⟨d1, c2, r2, hR2, q8, q9⟩ := c_got hR (xs (x3 + 1).toNatClampNeg) (xs (x3 + 2).toNatClampNeg)
        refine lv_aload_n hx hb dL_law_412 rfl (lv_at hl 1 rfl) ?_
        refine lv_aload_n hx hb dL_law_413 rfl (lv_at hl 0 rfl) ?_
        refine lv_iload_n hx hb dL_law_414 rfl (lv_at hl 3 rfl) ?_
        refine lv_iconst (v := 1) hx hb dL_law_415 (by decide) ?_
        refine lv_iadd hx hb dL_law_416 ?_
        refine va_sld hx hb hX hbl hbA hS v1 dL_law_417 ?_
        refine lv_aload_n hx hb dL_law_418 rfl (lv_at hl 0 rfl) ?_
        refine lv_iload_n hx hb dL_law_419 rfl (lv_at hl 3 rfl) ?_
        refine lv_iconst (v := 2) hx hb dL_law_420 (by decide) ?_
        refine lv_iadd hx hb dL_law_421 ?_
        refine va_sld hx hb hX hbl hbA hS v2 dL_law_422 ?_
        have hPc := hP.sub (ws' := tm_wTwo cI cZ a c1) [0, 1, 2, 3, 4, 5, 6, 7, 8, 9, 10, 11, 12, 13, 14, 15, 16, 17, 18, 19, 20, 21, 22, 23, 24, 25, 26, 27, 28, 29] (lw_s8 _ _ _ _ _ _ _)
        have hDc := hD.sub (ws' := tm_wTwo cI cZ a c1) [0, 1, 2, 3, 4, 5, 6, 7, 8, 9, 10, 11, 12, 13, 14, 15, 16, 17, 18, 19, 20, 21, 22, 23, 24, 25, 26, 27, 28, 29] lw_n8 (lw_m8 _ _ _ _ _ _ _)
        have hFc := va_free (wc := tm_wTwo cI cZ a c1) hD hS hA [0, 1, 2, 3, 4, 5, 6, 7, 8, 9, 10, 11, 12, 13, 14, 15, 16, 17, 18, 19, 20, 21, 22, 23, 24, 25, 26, 27, 28, 29] (lw_m8 _ _ _ _ _ _ _)
        refine va_calli (va_runV (As := [.int (xs (x3 + 1).toNatClampNeg), .int (xs (x3 + 2).toNatClampNeg)]) (rest := []) ⟨hx, hb, hml, hown, hts⟩ (kk_X8_got l dC dI cI cZ a c1 H.size (xs (x3 + 1).toNatClampNeg) (xs (x3 + 2).toNatClampNeg) (fun q v => q = d1 ∧ v = c2) (q8 _ ⟨rfl, rfl⟩)) (cwV 2 hts tL_X8_got rfl rfl rfl (by decide +kernel) ⟨Nat.le_of_ble_eq_true rfl, Nat.le_of_ble_eq_true rfl⟩) ⟨tm_blind, va_recv hK hPc (ci := 6) (q0 := 0) rfl rfl, fun U hU hW => ⟨rfl, by rw [hU], by rw [hU]; exact hPc, va_K.moved hW.alike hK, hDc.weaken (fun _ _ _ _ => trivial)⟩⟩ rfl rfl hl.1 rfl (lv_room (Nat.le_of_ble_eq_true rfl)) dL_law_423 ⟨Nat.le_of_ble_eq_true rfl, Nat.le_of_ble_eq_true rfl⟩) hS (fun q _ h => hFc q h) hFc (fun g1 g2 t H1 locs ht hvm hw hB hz1 hk1 hS => ?_)
        obtain ⟨e1, e2⟩ := hw
        rw [e1]
        rw [e2] at hB
        obtain ⟨hP1, hK1, hD1⟩ := hB
        rw [ht] at hP1
        obtain ⟨hP, hD⟩ := va_join (wr := tm_wModel cI cZ a2 r1 hh) (w1 := tm_wTwo cI cZ a c2) hP hD [0, 1, 2, 3, 4, 5, 6, 7, 8, 9, 10, 11, 12, 13, 14, 15, 16, 17, 18, 19, 20, 21, 22, 23, 24, 25, 26, 27, 28, 29] [30, 31, 32, 33, 34, 35, 36, 37, 38, 39, 40, 41, 42, 43, 44, 45, 46, 47] (lw_m8 _ _ _ _ _ _ _) (lw_r8 _ _ _ _ _ _ _) lw_o8 lw_d8 hk1 hFc hP1 hD1
        generalize H1 = H at hP hS ⊢
        have hP : va_P (dC, dI) vwCl (tm_wModel cI cZ a2 r1 hh ++ tm_wTwo cI cZ a c2) H := hP
        have hD : va_D (fun q : Nat => s.heap.size ≤ q) (tm_wModel cI cZ a2 r1 hh ++ tm_wTwo cI cZ a c2) := hD
        refine lv_aload_n hx hb dL_law_426 rfl (lv_at hl 2 rfl) ?_
        refine lv_aload_n hx hb dL_law_427 rfl (lv_at hl 0 rfl) ?_
        refine lv_iload_n hx hb dL_law_428 rfl (lv_at hl 3 rfl) ?_
        refine lv_iconst (v := 1) hx hb dL_law_429 (by decide) ?_
        refine lv_iadd hx hb dL_law_430 ?_
        refine va_sld hx hb hX hbl hbA hS v1 dL_law_431 ?_
        refine lv_aload_n hx hb dL_law_432 rfl (lv_at hl 0 rfl) ?_
        refine lv_iload_n hx hb dL_law_433 rfl (lv_at hl 3 rfl) ?_
        refine lv_iconst (v := 2) hx hb dL_law_434 (by decide) ?_
        refine lv_iadd hx hb dL_law_435 ?_
        refine va_sld hx hb hX hbl hbA hS v2 dL_law_436 ?_
        have hPc := hP.sub (ws' := tm_wModel cI cZ a2 r1 hh) [0, 1, 2, 3, 4, 5, 6, 7, 8, 9, 10, 11, 12, 13, 14, 15, 16, 17] (lw_s9 _ _ _ _ _ _ _)
        have hDc := hD.sub (ws' := tm_wModel cI cZ a2 r1 hh) [0, 1, 2, 3, 4, 5, 6, 7, 8, 9, 10, 11, 12, 13, 14, 15, 16, 17] lw_n9 (lw_m9 _ _ _ _ _ _ _)
        have hFc := va_free (wc := tm_wModel cI cZ a2 r1 hh) hD hS hA [0, 1, 2, 3, 4, 5, 6, 7, 8, 9, 10, 11, 12, 13, 14, 15, 16, 17] (lw_m9 _ _ _ _ _ _ _)
        refine va_calli (va_runV (As := [.int (xs (x3 + 1).toNatClampNeg), .int (xs (x3 + 2).toNatClampNeg)]) (rest := [.int d1]) ⟨hx, hb, hml, hown, hts⟩ (kk_X9_got l dC dI cI cZ a2 r1 hh H.size (xs (x3 + 1).toNatClampNeg) (xs (x3 + 2).toNatClampNeg) (fun q v => q = d1 ∧ v = r2) (q9 _ ⟨rfl, rfl⟩)) (cwV 2 hts tL_X9_got rfl rfl rfl (by decide +kernel) ⟨Nat.le_of_ble_eq_true rfl, Nat.le_of_ble_eq_true rfl⟩) ⟨tm_blind, va_recv hK hPc (ci := 7) (q0 := 0) rfl rfl, fun U hU hW => ⟨rfl, by rw [hU], by rw [hU]; exact hPc, va_K.moved hW.alike hK, hDc.weaken (fun _ _ _ _ => trivial)⟩⟩ rfl rfl hl.1 rfl (lv_room (Nat.le_of_ble_eq_true rfl)) dL_law_437 ⟨Nat.le_of_ble_eq_true rfl, Nat.le_of_ble_eq_true rfl⟩) hS (fun q _ h => hFc q h) hFc (fun g1 g2 t H1 locs ht hvm hw hB hz1 hk1 hS => ?_)
        obtain ⟨e1, e2⟩ := hw
        rw [e1]
        rw [e2] at hB
        obtain ⟨hP1, hK1, hD1⟩ := hB
        rw [ht] at hP1
        obtain ⟨hP, hD⟩ := va_join (wr := tm_wTwo cI cZ a c2) (w1 := tm_wModel cI cZ a2 r2 hh) hP hD [0, 1, 2, 3, 4, 5, 6, 7, 8, 9, 10, 11, 12, 13, 14, 15, 16, 17] [18, 19, 20, 21, 22, 23, 24, 25, 26, 27, 28, 29, 30, 31, 32, 33, 34, 35, 36, 37, 38, 39, 40, 41, 42, 43, 44, 45, 46, 47] (lw_m9 _ _ _ _ _ _ _) (lw_r9 _ _ _ _ _ _ _) lw_o9 lw_d9 hk1 hFc hP1 hD1
        generalize H1 = H at hP hS ⊢
        have hP : va_P (dC, dI) vwCl (tm_wTwo cI cZ a c2 ++ tm_wModel cI cZ a2 r2 hh) H := hP
        have hD : va_D (fun q : Nat => s.heap.size ≤ q) (tm_wTwo cI cZ a c2 ++ tm_wModel cI cZ a2 r2 hh) := hD
        refine lv_icmp_eq (tgt := 538) hx hb dL_law_440 (by decide) (fun c9 => ?_) (fun c9 => ?_)
        · exact next _ c2 r2 hh (Nat.le_refl _) hR2 _ _ hP hD hS
        · exact absurd rfl c9
      refine (Classical.em (w = 13)).elim (fun k13 => ?_) (fun k13 => ?_)
      · refine lv_tableIn (tgt := 445) hx hb dL_law_32 (by rw [k13]; decide) (by rw [k13]; decide) (by rw [k13]; rfl) (by decide) ?_
        obtain ⟨d1, c2, r2, hR2, q8, q9⟩ := c_heard hR (xs (x3 + 1).toNatClampNeg) (xs (x3 + 2).toNatClampNeg)
        refine lv_aload_n hx hb dL_law_445 rfl (lv_at hl 1 rfl) ?_
        refine lv_aload_n hx hb dL_law_446 rfl (lv_at hl 0 rfl) ?_
        refine lv_iload_n hx hb dL_law_447 rfl (lv_at hl 3 rfl) ?_
        refine lv_iconst (v := 1) hx hb dL_law_448 (by decide) ?_
        refine lv_iadd hx hb dL_law_449 ?_
        refine va_sld hx hb hX hbl hbA hS v1 dL_law_450 ?_
        refine lv_aload_n hx hb dL_law_451 rfl (lv_at hl 0 rfl) ?_
        refine lv_iload_n hx hb dL_law_452 rfl (lv_at hl 3 rfl) ?_
        refine lv_iconst (v := 2) hx hb dL_law_453 (by decide) ?_
        refine lv_iadd hx hb dL_law_454 ?_
        refine va_sld hx hb hX hbl hbA hS v2 dL_law_455 ?_
        have hPc := hP.sub (ws' := tm_wTwo cI cZ a c1) [0, 1, 2, 3, 4, 5, 6, 7, 8, 9, 10, 11, 12, 13, 14, 15, 16, 17, 18, 19, 20, 21, 22, 23, 24, 25, 26, 27, 28, 29] (lw_s8 _ _ _ _ _ _ _)
        have hDc := hD.sub (ws' := tm_wTwo cI cZ a c1) [0, 1, 2, 3, 4, 5, 6, 7, 8, 9, 10, 11, 12, 13, 14, 15, 16, 17, 18, 19, 20, 21, 22, 23, 24, 25, 26, 27, 28, 29] lw_n8 (lw_m8 _ _ _ _ _ _ _)
        have hFc := va_free (wc := tm_wTwo cI cZ a c1) hD hS hA [0, 1, 2, 3, 4, 5, 6, 7, 8, 9, 10, 11, 12, 13, 14, 15, 16, 17, 18, 19, 20, 21, 22, 23, 24, 25, 26, 27, 28, 29] (lw_m8 _ _ _ _ _ _ _)
        refine va_calli (va_runV (As := [.int (xs (x3 + 1).toNatClampNeg), .int (xs (x3 + 2).toNatClampNeg)]) (rest := []) ⟨hx, hb, hml, hown, hts⟩ (kk_X8_heard l dC dI cI cZ a c1 H.size (xs (x3 + 1).toNatClampNeg) (xs (x3 + 2).toNatClampNeg) (fun q v => q = d1 ∧ v = c2) (q8 _ ⟨rfl, rfl⟩)) (cwV 2 hts tL_X8_heard rfl rfl rfl (by decide +kernel) ⟨Nat.le_of_ble_eq_true rfl, Nat.le_of_ble_eq_true rfl⟩) ⟨tm_blind, va_recv hK hPc (ci := 6) (q0 := 0) rfl rfl, fun U hU hW => ⟨rfl, by rw [hU], by rw [hU]; exact hPc, va_K.moved hW.alike hK, hDc.weaken (fun _ _ _ _ => trivial)⟩⟩ rfl rfl hl.1 rfl (lv_room (Nat.le_of_ble_eq_true rfl)) dL_law_456 ⟨Nat.le_of_ble_eq_true rfl, Nat.le_of_ble_eq_true rfl⟩) hS (fun q _ h => hFc q h) hFc (fun g1 g2 t H1 locs ht hvm hw hB hz1 hk1 hS => ?_)
        obtain ⟨e1, e2⟩ := hw
        rw [e1]
        rw [e2] at hB
        obtain ⟨hP1, hK1, hD1⟩ := hB
        rw [ht] at hP1
        obtain ⟨hP, hD⟩ := va_join (wr := tm_wModel cI cZ a2 r1 hh) (w1 := tm_wTwo cI cZ a c2) hP hD [0, 1, 2, 3, 4, 5, 6, 7, 8, 9, 10, 11, 12, 13, 14, 15, 16, 17, 18, 19, 20, 21, 22, 23, 24, 25, 26, 27, 28, 29] [30, 31, 32, 33, 34, 35, 36, 37, 38, 39, 40, 41, 42, 43, 44, 45, 46, 47] (lw_m8 _ _ _ _ _ _ _) (lw_r8 _ _ _ _ _ _ _) lw_o8 lw_d8 hk1 hFc hP1 hD1
        generalize H1 = H at hP hS ⊢
        have hP : va_P (dC, dI) vwCl (tm_wModel cI cZ a2 r1 hh ++ tm_wTwo cI cZ a c2) H := hP
        have hD : va_D (fun q : Nat => s.heap.size ≤ q) (tm_wModel cI cZ a2 r1 hh ++ tm_wTwo cI cZ a c2) := hD
        refine lv_aload_n hx hb dL_law_459 rfl (lv_at hl 2 rfl) ?_
        refine lv_aload_n hx hb dL_law_460 rfl (lv_at hl 0 rfl) ?_
        refine lv_iload_n hx hb dL_law_461 rfl (lv_at hl 3 rfl) ?_
        refine lv_iconst (v := 1) hx hb dL_law_462 (by decide) ?_
        refine lv_iadd hx hb dL_law_463 ?_
        refine va_sld hx hb hX hbl hbA hS v1 dL_law_464 ?_
        refine lv_aload_n hx hb dL_law_465 rfl (lv_at hl 0 rfl) ?_
        refine lv_iload_n hx hb dL_law_466 rfl (lv_at hl 3 rfl) ?_
        refine lv_iconst (v := 2) hx hb dL_law_467 (by decide) ?_
        refine lv_iadd hx hb dL_law_468 ?_
        refine va_sld hx hb hX hbl hbA hS v2 dL_law_469 ?_
        have hPc := hP.sub (ws' := tm_wModel cI cZ a2 r1 hh) [0, 1, 2, 3, 4, 5, 6, 7, 8, 9, 10, 11, 12, 13, 14, 15, 16, 17] (lw_s9 _ _ _ _ _ _ _)
        have hDc := hD.sub (ws' := tm_wModel cI cZ a2 r1 hh) [0, 1, 2, 3, 4, 5, 6, 7, 8, 9, 10, 11, 12, 13, 14, 15, 16, 17] lw_n9 (lw_m9 _ _ _ _ _ _ _)
        have hFc := va_free (wc := tm_wModel cI cZ a2 r1 hh) hD hS hA [0, 1, 2, 3, 4, 5, 6, 7, 8, 9, 10, 11, 12, 13, 14, 15, 16, 17] (lw_m9 _ _ _ _ _ _ _)
        refine va_calli (va_runV (As := [.int (xs (x3 + 1).toNatClampNeg), .int (xs (x3 + 2).toNatClampNeg)]) (rest := [.int d1]) ⟨hx, hb, hml, hown, hts⟩ (kk_X9_heard l dC dI cI cZ a2 r1 hh H.size (xs (x3 + 1).toNatClampNeg) (xs (x3 + 2).toNatClampNeg) (fun q v => q = d1 ∧ v = r2) (q9 _ ⟨rfl, rfl⟩)) (cwV 2 hts tL_X9_heard rfl rfl rfl (by decide +kernel) ⟨Nat.le_of_ble_eq_true rfl, Nat.le_of_ble_eq_true rfl⟩) ⟨tm_blind, va_recv hK hPc (ci := 7) (q0 := 0) rfl rfl, fun U hU hW => ⟨rfl, by rw [hU], by rw [hU]; exact hPc, va_K.moved hW.alike hK, hDc.weaken (fun _ _ _ _ => trivial)⟩⟩ rfl rfl hl.1 rfl (lv_room (Nat.le_of_ble_eq_true rfl)) dL_law_470 ⟨Nat.le_of_ble_eq_true rfl, Nat.le_of_ble_eq_true rfl⟩) hS (fun q _ h => hFc q h) hFc (fun g1 g2 t H1 locs ht hvm hw hB hz1 hk1 hS => ?_)
        obtain ⟨e1, e2⟩ := hw
        rw [e1]
        rw [e2] at hB
        obtain ⟨hP1, hK1, hD1⟩ := hB
        rw [ht] at hP1
        obtain ⟨hP, hD⟩ := va_join (wr := tm_wTwo cI cZ a c2) (w1 := tm_wModel cI cZ a2 r2 hh) hP hD [0, 1, 2, 3, 4, 5, 6, 7, 8, 9, 10, 11, 12, 13, 14, 15, 16, 17] [18, 19, 20, 21, 22, 23, 24, 25, 26, 27, 28, 29, 30, 31, 32, 33, 34, 35, 36, 37, 38, 39, 40, 41, 42, 43, 44, 45, 46, 47] (lw_m9 _ _ _ _ _ _ _) (lw_r9 _ _ _ _ _ _ _) lw_o9 lw_d9 hk1 hFc hP1 hD1
        generalize H1 = H at hP hS ⊢
        have hP : va_P (dC, dI) vwCl (tm_wTwo cI cZ a c2 ++ tm_wModel cI cZ a2 r2 hh) H := hP
        have hD : va_D (fun q : Nat => s.heap.size ≤ q) (tm_wTwo cI cZ a c2 ++ tm_wModel cI cZ a2 r2 hh) := hD
        refine lv_icmp_eq (tgt := 538) hx hb dL_law_473 (by decide) (fun c9 => ?_) (fun c9 => ?_)
        · exact next _ c2 r2 hh (Nat.le_refl _) hR2 _ _ hP hD hS
        · exact absurd rfl c9
      refine (Classical.em (w = 14)).elim (fun k14 => ?_) (fun k14 => ?_)
      · refine lv_tableIn (tgt := 478) hx hb dL_law_32 (by rw [k14]; decide) (by rw [k14]; decide) (by rw [k14]; rfl) (by decide) ?_
        obtain ⟨d1, c2, r2, hR2, q8, q9⟩ := c_about hR (xs (x3 + 1).toNatClampNeg)
        refine lv_aload_n hx hb dL_law_478 rfl (lv_at hl 1 rfl) ?_
        refine lv_aload_n hx hb dL_law_479 rfl (lv_at hl 0 rfl) ?_
        refine lv_iload_n hx hb dL_law_480 rfl (lv_at hl 3 rfl) ?_
        refine lv_iconst (v := 1) hx hb dL_law_481 (by decide) ?_
        refine lv_iadd hx hb dL_law_482 ?_
        refine va_sld hx hb hX hbl hbA hS v1 dL_law_483 ?_
        have hPc := hP.sub (ws' := tm_wTwo cI cZ a c1) [0, 1, 2, 3, 4, 5, 6, 7, 8, 9, 10, 11, 12, 13, 14, 15, 16, 17, 18, 19, 20, 21, 22, 23, 24, 25, 26, 27, 28, 29] (lw_s8 _ _ _ _ _ _ _)
        have hDc := hD.sub (ws' := tm_wTwo cI cZ a c1) [0, 1, 2, 3, 4, 5, 6, 7, 8, 9, 10, 11, 12, 13, 14, 15, 16, 17, 18, 19, 20, 21, 22, 23, 24, 25, 26, 27, 28, 29] lw_n8 (lw_m8 _ _ _ _ _ _ _)
        have hFc := va_free (wc := tm_wTwo cI cZ a c1) hD hS hA [0, 1, 2, 3, 4, 5, 6, 7, 8, 9, 10, 11, 12, 13, 14, 15, 16, 17, 18, 19, 20, 21, 22, 23, 24, 25, 26, 27, 28, 29] (lw_m8 _ _ _ _ _ _ _)
        refine va_calli (va_runV (As := [.int (xs (x3 + 1).toNatClampNeg)]) (rest := []) ⟨hx, hb, hml, hown, hts⟩ (kk_X8_about l dC dI cI cZ a c1 H.size (xs (x3 + 1).toNatClampNeg) (fun q v => q = d1 ∧ v = c2) (q8 _ ⟨rfl, rfl⟩)) (cwV 1 hts tL_X8_about rfl rfl rfl (by decide +kernel) ⟨Nat.le_of_ble_eq_true rfl, Nat.le_of_ble_eq_true rfl⟩) ⟨tm_blind, va_recv hK hPc (ci := 6) (q0 := 0) rfl rfl, fun U hU hW => ⟨rfl, by rw [hU], by rw [hU]; exact hPc, va_K.moved hW.alike hK, hDc.weaken (fun _ _ _ _ => trivial)⟩⟩ rfl rfl hl.1 rfl (lv_room (Nat.le_of_ble_eq_true rfl)) dL_law_484 ⟨Nat.le_of_ble_eq_true rfl, Nat.le_of_ble_eq_true rfl⟩) hS (fun q _ h => hFc q h) hFc (fun g1 g2 t H1 locs ht hvm hw hB hz1 hk1 hS => ?_)
        obtain ⟨e1, e2⟩ := hw
        rw [e1]
        rw [e2] at hB
        obtain ⟨hP1, hK1, hD1⟩ := hB
        rw [ht] at hP1
        obtain ⟨hP, hD⟩ := va_join (wr := tm_wModel cI cZ a2 r1 hh) (w1 := tm_wTwo cI cZ a c2) hP hD [0, 1, 2, 3, 4, 5, 6, 7, 8, 9, 10, 11, 12, 13, 14, 15, 16, 17, 18, 19, 20, 21, 22, 23, 24, 25, 26, 27, 28, 29] [30, 31, 32, 33, 34, 35, 36, 37, 38, 39, 40, 41, 42, 43, 44, 45, 46, 47] (lw_m8 _ _ _ _ _ _ _) (lw_r8 _ _ _ _ _ _ _) lw_o8 lw_d8 hk1 hFc hP1 hD1
        generalize H1 = H at hP hS ⊢
        have hP : va_P (dC, dI) vwCl (tm_wModel cI cZ a2 r1 hh ++ tm_wTwo cI cZ a c2) H := hP
        have hD : va_D (fun q : Nat => s.heap.size ≤ q) (tm_wModel cI cZ a2 r1 hh ++ tm_wTwo cI cZ a c2) := hD
        refine lv_aload_n hx hb dL_law_487 rfl (lv_at hl 2 rfl) ?_
        refine lv_aload_n hx hb dL_law_488 rfl (lv_at hl 0 rfl) ?_
        refine lv_iload_n hx hb dL_law_489 rfl (lv_at hl 3 rfl) ?_
        refine lv_iconst (v := 1) hx hb dL_law_490 (by decide) ?_
        refine lv_iadd hx hb dL_law_491 ?_
        refine va_sld hx hb hX hbl hbA hS v1 dL_law_492 ?_
        have hPc := hP.sub (ws' := tm_wModel cI cZ a2 r1 hh) [0, 1, 2, 3, 4, 5, 6, 7, 8, 9, 10, 11, 12, 13, 14, 15, 16, 17] (lw_s9 _ _ _ _ _ _ _)
        have hDc := hD.sub (ws' := tm_wModel cI cZ a2 r1 hh) [0, 1, 2, 3, 4, 5, 6, 7, 8, 9, 10, 11, 12, 13, 14, 15, 16, 17] lw_n9 (lw_m9 _ _ _ _ _ _ _)
        have hFc := va_free (wc := tm_wModel cI cZ a2 r1 hh) hD hS hA [0, 1, 2, 3, 4, 5, 6, 7, 8, 9, 10, 11, 12, 13, 14, 15, 16, 17] (lw_m9 _ _ _ _ _ _ _)
        refine va_calli (va_runV (As := [.int (xs (x3 + 1).toNatClampNeg)]) (rest := [.int d1]) ⟨hx, hb, hml, hown, hts⟩ (kk_X9_about l dC dI cI cZ a2 r1 hh H.size (xs (x3 + 1).toNatClampNeg) (fun q v => q = d1 ∧ v = r2) (q9 _ ⟨rfl, rfl⟩)) (cwV 1 hts tL_X9_about rfl rfl rfl (by decide +kernel) ⟨Nat.le_of_ble_eq_true rfl, Nat.le_of_ble_eq_true rfl⟩) ⟨tm_blind, va_recv hK hPc (ci := 7) (q0 := 0) rfl rfl, fun U hU hW => ⟨rfl, by rw [hU], by rw [hU]; exact hPc, va_K.moved hW.alike hK, hDc.weaken (fun _ _ _ _ => trivial)⟩⟩ rfl rfl hl.1 rfl (lv_room (Nat.le_of_ble_eq_true rfl)) dL_law_493 ⟨Nat.le_of_ble_eq_true rfl, Nat.le_of_ble_eq_true rfl⟩) hS (fun q _ h => hFc q h) hFc (fun g1 g2 t H1 locs ht hvm hw hB hz1 hk1 hS => ?_)
        obtain ⟨e1, e2⟩ := hw
        rw [e1]
        rw [e2] at hB
        obtain ⟨hP1, hK1, hD1⟩ := hB
        rw [ht] at hP1
        obtain ⟨hP, hD⟩ := va_join (wr := tm_wTwo cI cZ a c2) (w1 := tm_wModel cI cZ a2 r2 hh) hP hD [0, 1, 2, 3, 4, 5, 6, 7, 8, 9, 10, 11, 12, 13, 14, 15, 16, 17] [18, 19, 20, 21, 22, 23, 24, 25, 26, 27, 28, 29, 30, 31, 32, 33, 34, 35, 36, 37, 38, 39, 40, 41, 42, 43, 44, 45, 46, 47] (lw_m9 _ _ _ _ _ _ _) (lw_r9 _ _ _ _ _ _ _) lw_o9 lw_d9 hk1 hFc hP1 hD1
        generalize H1 = H at hP hS ⊢
        have hP : va_P (dC, dI) vwCl (tm_wTwo cI cZ a c2 ++ tm_wModel cI cZ a2 r2 hh) H := hP
        have hD : va_D (fun q : Nat => s.heap.size ≤ q) (tm_wTwo cI cZ a c2 ++ tm_wModel cI cZ a2 r2 hh) := hD
        refine lv_icmp_eq (tgt := 538) hx hb dL_law_496 (by decide) (fun c9 => ?_) (fun c9 => ?_)
        · exact next _ c2 r2 hh (Nat.le_refl _) hR2 _ _ hP hD hS
        · exact absurd rfl c9
      refine (Classical.em (w = 15)).elim (fun k15 => ?_) (fun k15 => ?_)
      · refine lv_tableIn (tgt := 501) hx hb dL_law_32 (by rw [k15]; decide) (by rw [k15]; decide) (by rw [k15]; rfl) (by decide) ?_
        obtain ⟨d1, c2, r2, hR2, q8, q9⟩ := c_count hR (xs (x3 + 1).toNatClampNeg)
        refine lv_aload_n hx hb dL_law_501 rfl (lv_at hl 1 rfl) ?_
        refine lv_aload_n hx hb dL_law_502 rfl (lv_at hl 0 rfl) ?_
        refine lv_iload_n hx hb dL_law_503 rfl (lv_at hl 3 rfl) ?_
        refine lv_iconst (v := 1) hx hb dL_law_504 (by decide) ?_
        refine lv_iadd hx hb dL_law_505 ?_
        refine va_sld hx hb hX hbl hbA hS v1 dL_law_506 ?_
        have hPc := hP.sub (ws' := tm_wTwo cI cZ a c1) [0, 1, 2, 3, 4, 5, 6, 7, 8, 9, 10, 11, 12, 13, 14, 15, 16, 17, 18, 19, 20, 21, 22, 23, 24, 25, 26, 27, 28, 29] (lw_s8 _ _ _ _ _ _ _)
        have hDc := hD.sub (ws' := tm_wTwo cI cZ a c1) [0, 1, 2, 3, 4, 5, 6, 7, 8, 9, 10, 11, 12, 13, 14, 15, 16, 17, 18, 19, 20, 21, 22, 23, 24, 25, 26, 27, 28, 29] lw_n8 (lw_m8 _ _ _ _ _ _ _)
        have hFc := va_free (wc := tm_wTwo cI cZ a c1) hD hS hA [0, 1, 2, 3, 4, 5, 6, 7, 8, 9, 10, 11, 12, 13, 14, 15, 16, 17, 18, 19, 20, 21, 22, 23, 24, 25, 26, 27, 28, 29] (lw_m8 _ _ _ _ _ _ _)
        refine va_calli (va_runV (As := [.int (xs (x3 + 1).toNatClampNeg)]) (rest := []) ⟨hx, hb, hml, hown, hts⟩ (kk_X8_count l dC dI cI cZ a c1 H.size (xs (x3 + 1).toNatClampNeg) (fun q v => q = d1 ∧ v = c2) (q8 _ ⟨rfl, rfl⟩)) (cwV 1 hts tL_X8_count rfl rfl rfl (by decide +kernel) ⟨Nat.le_of_ble_eq_true rfl, Nat.le_of_ble_eq_true rfl⟩) ⟨tm_blind, va_recv hK hPc (ci := 6) (q0 := 0) rfl rfl, fun U hU hW => ⟨rfl, by rw [hU], by rw [hU]; exact hPc, va_K.moved hW.alike hK, hDc.weaken (fun _ _ _ _ => trivial)⟩⟩ rfl rfl hl.1 rfl (lv_room (Nat.le_of_ble_eq_true rfl)) dL_law_507 ⟨Nat.le_of_ble_eq_true rfl, Nat.le_of_ble_eq_true rfl⟩) hS (fun q _ h => hFc q h) hFc (fun g1 g2 t H1 locs ht hvm hw hB hz1 hk1 hS => ?_)
        obtain ⟨e1, e2⟩ := hw
        rw [e1]
        rw [e2] at hB
        obtain ⟨hP1, hK1, hD1⟩ := hB
        rw [ht] at hP1
        obtain ⟨hP, hD⟩ := va_join (wr := tm_wModel cI cZ a2 r1 hh) (w1 := tm_wTwo cI cZ a c2) hP hD [0, 1, 2, 3, 4, 5, 6, 7, 8, 9, 10, 11, 12, 13, 14, 15, 16, 17, 18, 19, 20, 21, 22, 23, 24, 25, 26, 27, 28, 29] [30, 31, 32, 33, 34, 35, 36, 37, 38, 39, 40, 41, 42, 43, 44, 45, 46, 47] (lw_m8 _ _ _ _ _ _ _) (lw_r8 _ _ _ _ _ _ _) lw_o8 lw_d8 hk1 hFc hP1 hD1
        generalize H1 = H at hP hS ⊢
        have hP : va_P (dC, dI) vwCl (tm_wModel cI cZ a2 r1 hh ++ tm_wTwo cI cZ a c2) H := hP
        have hD : va_D (fun q : Nat => s.heap.size ≤ q) (tm_wModel cI cZ a2 r1 hh ++ tm_wTwo cI cZ a c2) := hD
        refine lv_aload_n hx hb dL_law_510 rfl (lv_at hl 2 rfl) ?_
        refine lv_aload_n hx hb dL_law_511 rfl (lv_at hl 0 rfl) ?_
        refine lv_iload_n hx hb dL_law_512 rfl (lv_at hl 3 rfl) ?_
        refine lv_iconst (v := 1) hx hb dL_law_513 (by decide) ?_
        refine lv_iadd hx hb dL_law_514 ?_
        refine va_sld hx hb hX hbl hbA hS v1 dL_law_515 ?_
        have hPc := hP.sub (ws' := tm_wModel cI cZ a2 r1 hh) [0, 1, 2, 3, 4, 5, 6, 7, 8, 9, 10, 11, 12, 13, 14, 15, 16, 17] (lw_s9 _ _ _ _ _ _ _)
        have hDc := hD.sub (ws' := tm_wModel cI cZ a2 r1 hh) [0, 1, 2, 3, 4, 5, 6, 7, 8, 9, 10, 11, 12, 13, 14, 15, 16, 17] lw_n9 (lw_m9 _ _ _ _ _ _ _)
        have hFc := va_free (wc := tm_wModel cI cZ a2 r1 hh) hD hS hA [0, 1, 2, 3, 4, 5, 6, 7, 8, 9, 10, 11, 12, 13, 14, 15, 16, 17] (lw_m9 _ _ _ _ _ _ _)
        refine va_calli (va_runV (As := [.int (xs (x3 + 1).toNatClampNeg)]) (rest := [.int d1]) ⟨hx, hb, hml, hown, hts⟩ (kk_X9_count l dC dI cI cZ a2 r1 hh H.size (xs (x3 + 1).toNatClampNeg) (fun q v => q = d1 ∧ v = r2) (q9 _ ⟨rfl, rfl⟩)) (cwV 1 hts tL_X9_count rfl rfl rfl (by decide +kernel) ⟨Nat.le_of_ble_eq_true rfl, Nat.le_of_ble_eq_true rfl⟩) ⟨tm_blind, va_recv hK hPc (ci := 7) (q0 := 0) rfl rfl, fun U hU hW => ⟨rfl, by rw [hU], by rw [hU]; exact hPc, va_K.moved hW.alike hK, hDc.weaken (fun _ _ _ _ => trivial)⟩⟩ rfl rfl hl.1 rfl (lv_room (Nat.le_of_ble_eq_true rfl)) dL_law_516 ⟨Nat.le_of_ble_eq_true rfl, Nat.le_of_ble_eq_true rfl⟩) hS (fun q _ h => hFc q h) hFc (fun g1 g2 t H1 locs ht hvm hw hB hz1 hk1 hS => ?_)
        obtain ⟨e1, e2⟩ := hw
        rw [e1]
        rw [e2] at hB
        obtain ⟨hP1, hK1, hD1⟩ := hB
        rw [ht] at hP1
        obtain ⟨hP, hD⟩ := va_join (wr := tm_wTwo cI cZ a c2) (w1 := tm_wModel cI cZ a2 r2 hh) hP hD [0, 1, 2, 3, 4, 5, 6, 7, 8, 9, 10, 11, 12, 13, 14, 15, 16, 17] [18, 19, 20, 21, 22, 23, 24, 25, 26, 27, 28, 29, 30, 31, 32, 33, 34, 35, 36, 37, 38, 39, 40, 41, 42, 43, 44, 45, 46, 47] (lw_m9 _ _ _ _ _ _ _) (lw_r9 _ _ _ _ _ _ _) lw_o9 lw_d9 hk1 hFc hP1 hD1
        generalize H1 = H at hP hS ⊢
        have hP : va_P (dC, dI) vwCl (tm_wTwo cI cZ a c2 ++ tm_wModel cI cZ a2 r2 hh) H := hP
        have hD : va_D (fun q : Nat => s.heap.size ≤ q) (tm_wTwo cI cZ a c2 ++ tm_wModel cI cZ a2 r2 hh) := hD
        refine lv_icmp_eq (tgt := 538) hx hb dL_law_519 (by decide) (fun c9 => ?_) (fun c9 => ?_)
        · exact next _ c2 r2 hh (Nat.le_refl _) hR2 _ _ hP hD hS
        · exact absurd rfl c9
      refine (Classical.em (w = 16)).elim (fun k16 => ?_) (fun k16 => ?_)
      · refine lv_tableIn (tgt := 524) hx hb dL_law_32 (by rw [k16]; decide) (by rw [k16]; decide) (by rw [k16]; rfl) (by decide) ?_
        obtain ⟨d1, q8, q9⟩ := c_digest hR hh
        refine lv_aload_n hx hb dL_law_524 rfl (lv_at hl 1 rfl) ?_
        have hPc := hP.sub (ws' := tm_wTwo cI cZ a c1) [0, 1, 2, 3, 4, 5, 6, 7, 8, 9, 10, 11, 12, 13, 14, 15, 16, 17, 18, 19, 20, 21, 22, 23, 24, 25, 26, 27, 28, 29] (lw_s8 _ _ _ _ _ _ _)
        have hDc := hD.sub (ws' := tm_wTwo cI cZ a c1) [0, 1, 2, 3, 4, 5, 6, 7, 8, 9, 10, 11, 12, 13, 14, 15, 16, 17, 18, 19, 20, 21, 22, 23, 24, 25, 26, 27, 28, 29] lw_n8 (lw_m8 _ _ _ _ _ _ _)
        have hFc := va_free (wc := tm_wTwo cI cZ a c1) hD hS hA [0, 1, 2, 3, 4, 5, 6, 7, 8, 9, 10, 11, 12, 13, 14, 15, 16, 17, 18, 19, 20, 21, 22, 23, 24, 25, 26, 27, 28, 29] (lw_m8 _ _ _ _ _ _ _)
        refine va_calll (va_runV (As := []) (rest := []) ⟨hx, hb, hml, hown, hts⟩ (kk_X8_digest l dC dI cI cZ a c1 H.size (fun q v => q = d1 ∧ v = c1) (q8 _ ⟨rfl, rfl⟩)) (cwV 0 hts tL_X8_digest rfl rfl rfl (by decide +kernel) ⟨Nat.le_of_ble_eq_true rfl, Nat.le_of_ble_eq_true rfl⟩) ⟨tm_blind, va_recv hK hPc (ci := 6) (q0 := 0) rfl rfl, fun U hU hW => ⟨rfl, by rw [hU], by rw [hU]; exact hPc, va_K.moved hW.alike hK, hDc.weaken (fun _ _ _ _ => trivial)⟩⟩ rfl rfl hl.1 rfl (lv_room (Nat.le_of_ble_eq_true rfl)) dL_law_525 ⟨Nat.le_of_ble_eq_true rfl, Nat.le_of_ble_eq_true rfl⟩) hS (fun q _ h => hFc q h) hFc (fun g1 g2 t H1 locs ht hvm hw hB hz1 hk1 hS => ?_)
        obtain ⟨e1, e2⟩ := hw
        rw [e1]
        rw [e2] at hB
        obtain ⟨hP1, hK1, hD1⟩ := hB
        rw [ht] at hP1
        obtain ⟨hP, hD⟩ := va_join (wr := tm_wModel cI cZ a2 r1 hh) (w1 := tm_wTwo cI cZ a c1) hP hD [0, 1, 2, 3, 4, 5, 6, 7, 8, 9, 10, 11, 12, 13, 14, 15, 16, 17, 18, 19, 20, 21, 22, 23, 24, 25, 26, 27, 28, 29] [30, 31, 32, 33, 34, 35, 36, 37, 38, 39, 40, 41, 42, 43, 44, 45, 46, 47] (lw_m8 _ _ _ _ _ _ _) (lw_r8 _ _ _ _ _ _ _) lw_o8 lw_d8 hk1 hFc hP1 hD1
        generalize H1 = H at hP hS ⊢
        have hP : va_P (dC, dI) vwCl (tm_wModel cI cZ a2 r1 hh ++ tm_wTwo cI cZ a c1) H := hP
        have hD : va_D (fun q : Nat => s.heap.size ≤ q) (tm_wModel cI cZ a2 r1 hh ++ tm_wTwo cI cZ a c1) := hD
        refine lv_aload_n hx hb dL_law_528 rfl (lv_at hl 2 rfl) ?_
        have hPc := hP.sub (ws' := tm_wModel cI cZ a2 r1 hh) [0, 1, 2, 3, 4, 5, 6, 7, 8, 9, 10, 11, 12, 13, 14, 15, 16, 17] (lw_s9 _ _ _ _ _ _ _)
        have hDc := hD.sub (ws' := tm_wModel cI cZ a2 r1 hh) [0, 1, 2, 3, 4, 5, 6, 7, 8, 9, 10, 11, 12, 13, 14, 15, 16, 17] lw_n9 (lw_m9 _ _ _ _ _ _ _)
        have hFc := va_free (wc := tm_wModel cI cZ a2 r1 hh) hD hS hA [0, 1, 2, 3, 4, 5, 6, 7, 8, 9, 10, 11, 12, 13, 14, 15, 16, 17] (lw_m9 _ _ _ _ _ _ _)
        refine va_calll (va_runV (As := []) (rest := [.long d1]) ⟨hx, hb, hml, hown, hts⟩ (kk_X9_digest l dC dI cI cZ a2 r1 hh H.size (fun q v w => q = d1 ∧ v = r1 ∧ w = d1) (q9 _ ⟨rfl, rfl, rfl⟩)) (cwV 0 hts tL_X9_digest rfl rfl rfl (by decide +kernel) ⟨Nat.le_of_ble_eq_true rfl, Nat.le_of_ble_eq_true rfl⟩) ⟨tm_blind, va_recv hK hPc (ci := 7) (q0 := 0) rfl rfl, fun U hU hW => ⟨rfl, by rw [hU], by rw [hU]; exact hPc, va_K.moved hW.alike hK, hDc.weaken (fun _ _ _ _ => trivial)⟩⟩ rfl rfl hl.1 rfl (lv_room (Nat.le_of_ble_eq_true rfl)) dL_law_529 ⟨Nat.le_of_ble_eq_true rfl, Nat.le_of_ble_eq_true rfl⟩) hS (fun q _ h => hFc q h) hFc (fun g1 g2 t H1 locs ht hvm hw hB hz1 hk1 hS => ?_)
        obtain ⟨g2, g3⟩ := g2
        obtain ⟨e1, e2, e3⟩ := hw
        try dsimp only at e2 e3
        have hB : tm_At dC dI cI cZ (va_A (tm_wModel cI cZ a2 r1 hh) H.size) (tm_wModel cI cZ a2 g2 g3) t := hB
        rw [e1]
        rw [e2, e3] at hB
        obtain ⟨hP1, hK1, hD1⟩ := hB
        rw [ht] at hP1
        obtain ⟨hP, hD⟩ := va_join (wr := tm_wTwo cI cZ a c1) (w1 := tm_wModel cI cZ a2 r1 d1) hP hD [0, 1, 2, 3, 4, 5, 6, 7, 8, 9, 10, 11, 12, 13, 14, 15, 16, 17] [18, 19, 20, 21, 22, 23, 24, 25, 26, 27, 28, 29, 30, 31, 32, 33, 34, 35, 36, 37, 38, 39, 40, 41, 42, 43, 44, 45, 46, 47] (lw_m9 _ _ _ _ _ _ _) (lw_r9 _ _ _ _ _ _ _) lw_o9 lw_d9 hk1 hFc hP1 hD1
        generalize H1 = H at hP hS ⊢
        have hP : va_P (dC, dI) vwCl (tm_wTwo cI cZ a c1 ++ tm_wModel cI cZ a2 r1 d1) H := hP
        have hD : va_D (fun q : Nat => s.heap.size ≤ q) (tm_wTwo cI cZ a c1 ++ tm_wModel cI cZ a2 r1 d1) := hD
        refine W.lcmp hx hb dL_law_532 ?_
        refine lv_if_eq (tgt := 538) hx hb dL_law_533 (by decide) (fun c9 => ?_) (fun c9 => ?_)
        · exact next u c1 r1 _ (by omega) hR _ _ hP hD hS
        · exact absurd (by simp [lg_cmp]) c9
      have n0 := lv_neT (a := 0) k0 rfl
      have n1 := lv_neT (a := 1) k1 rfl
      have n2 := lv_neT (a := 2) k2 rfl
      have n3 := lv_neT (a := 3) k3 rfl
      have n4 := lv_neT (a := 4) k4 rfl
      have n5 := lv_neT (a := 5) k5 rfl
      have n6 := lv_neT (a := 6) k6 rfl
      have n7 := lv_neT (a := 7) k7 rfl
      have n8 := lv_neT (a := 8) k8 rfl
      have n9 := lv_neT (a := 9) k9 rfl
      have n10 := lv_neT (a := 10) k10 rfl
      have n11 := lv_neT (a := 11) k11 rfl
      have n12 := lv_neT (a := 12) k12 rfl
      have n13 := lv_neT (a := 13) k13 rfl
      have n14 := lv_neT (a := 14) k14 rfl
      have n15 := lv_neT (a := 15) k15 rfl
      have n16 := lv_neT (a := 16) k16 rfl
      refine lv_tableOut (tgt := 538) hx hb dL_law_32 (by omega) (by decide) ?_
      exact next u c1 r1 hh (by omega) hR _ _ hP hD hS
