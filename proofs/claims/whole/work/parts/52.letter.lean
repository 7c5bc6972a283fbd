theorem p_200x {e k : Nat} : (200 * nI e + nI k : Int32) = nI (200 * e + k) := by rw [show (200 : Int32) = nI 200 from rfl, pk_mul, nI_add]
theorem c_got {u : Nat} {c r : tm_St} (h : tm_RR u c r) (p0 p1 : Int32) : tm_CC (u + 200) (wp_X8_got p0 p1 c) (wp_X9_got p0 p1 r) := by
  rcases i_end p0 with e | e | ⟨n0, n1, ni⟩
  · subst e
    have hg : c 18 3 = r 1 (24 * 0 + 9) := (tm_RR_0 h).1.2.2.2.2.2.2.2.2.2.1
    have hr : ∀ j, j < 200 → c 20 j = r 6 (200 * 0 + j) := (tm_RR_0 h).2.1.2.2.2.2
    obtain ⟨G, hG, g1⟩ : ∃ G : Nat, G ≤ 200 ∧ r 1 (24 * 0 + 9) = nI G := by
      obtain ⟨⟨S, X, T, G, S', X', T', G', q0, q1⟩, -⟩ := h
      exact ⟨G, by have := q0.2; unfold tm_N tm_E at this; omega, q0.2.1.2.2.2.2.2.2.2.2.2.1⟩
    by_cases a1 : p1 < 0
    · refine tm_CC_same h (-1001) (fun K hK => ?_) (fun K hK => ?_)
      · unfold wp_X8_got; rw [p_modemAt]
        exact ⟨fun _ => ⟨fun _ => hK, fun q => absurd a1 q⟩, fun q => absurd q (by decide), fun q => absurd q (by decide)⟩
      · unfold wp_X9_got; rw [p_isEnd]
        refine ⟨fun q => absurd q (by decide), fun _ => ?_⟩
        refine (p_of_9 (e := 0) (by decide) r _).mpr ?_
        rw [p_within, if_pos a1]
        exact ⟨fun _ => hK, fun q => absurd rfl q⟩
    · obtain ⟨N, hN, e⟩ := i_nat a1
      have lt : p1 < c 18 3 ↔ N < G := by rw [hg, g1, e]; exact nI_ltI hN (by omega)
      have wt : (if r 1 (24 * 0 + 9) - 1 < p1 then (0 : Int32) else 1) = if N < G then 1 else 0 := by
        rw [g1, e]
        by_cases g0 : G = 0
        · subst g0
          have l : nI 0 - 1 < nI N := Int32.lt_of_lt_of_le (show nI 0 - 1 < nI 0 by decide) (nI_le (by omega) hN)
          rw [if_pos l, if_neg (by omega)]
        · rw [show nI G - 1 = nI (G - 1) from pk_sub (b := 1) (by omega)]
          by_cases c1 : N < G
          · rw [if_neg (fun q => absurd ((nI_ltI (by omega) hN).mp q) (by omega)), if_pos c1]
          · rw [if_pos (nI_lt (by omega) hN), if_neg c1]
      by_cases a2 : N < G
      · have e8 : vp_in p1 200 := by rw [e]; exact vp_in_nI (by omega) (by decide)
        have eC : p1.toNatClampNeg = N := by rw [e]; exact nI_clamp hN
        have e5 : (200 * 0 + p1 : Int32) = nI (200 * 0 + N) := by rw [e]; exact p_200x (e := 0)
        have g5 : ¬ (200 : Int32) ≤ p1 := by rw [e]; exact nI_ge (b := 200) (by omega) (by decide)
        have g6 : ¬ c 18 3 ≤ p1 := by rw [hg, g1, e]; exact nI_ge a2 (by omega)
        refine tm_CC_same h (c 20 N) (fun K hK => ?_) (fun K hK => ?_)
        · unfold wp_X8_got; rw [p_modemAt]
          have : wp_X2_takenAt p1 (tm_pj [18, 19, 20] c) (fun r6 u8 => ∀ s7 : tm_St, s7 = tm_pk [18, 19, 20] c u8 → K r6 s7) := by
            unfold wp_X2_takenAt
            refine ⟨fun q => absurd q a1, fun _ => ⟨fun q => absurd q g6, fun _ => ⟨fun q => absurd q g5, fun _ => ⟨e8, ?_⟩⟩⟩⟩
            intro s7 e7
            rw [e7, tm_pk_pj, eC]
            exact hK
          exact ⟨fun _ => ⟨fun q => absurd q a1, fun _ => ⟨fun _ => this, fun q => absurd (lt.mpr a2) q⟩⟩, fun q => absurd q (by decide), fun q => absurd q (by decide)⟩
        · unfold wp_X9_got; rw [p_isEnd]
          refine ⟨fun q => absurd q (by decide), fun _ => ?_⟩
          refine (p_of_9 (e := 0) (by decide) r _).mpr ?_
          rw [p_within, if_neg a1, wt, if_pos a2, e5, nI_clamp (by omega), ← hr N (by omega)]
          exact ⟨fun q => absurd q (by decide), fun _ => ⟨vp_in_nI (by omega) (by decide), hK⟩⟩
      · refine tm_CC_same h (-1001) (fun K hK => ?_) (fun K hK => ?_)
        · unfold wp_X8_got; rw [p_modemAt]
          exact ⟨fun _ => ⟨fun q => absurd q a1, fun _ => ⟨fun q => absurd (lt.mp q) a2, fun _ => hK⟩⟩, fun q => absurd q (by decide), fun q => absurd q (by decide)⟩
        · unfold wp_X9_got; rw [p_isEnd]
          refine ⟨fun q => absurd q (by decide), fun _ => ?_⟩
          refine (p_of_9 (e := 0) (by decide) r _).mpr ?_
          rw [p_within, if_neg a1, wt, if_neg a2]
          exact ⟨fun _ => hK, fun q => absurd rfl q⟩
  · subst e
    have hg : c 26 3 = r 1 (24 * 1 + 9) := (tm_RR_1 h).1.2.2.2.2.2.2.2.2.2.1
    have hr : ∀ j, j < 200 → c 28 j = r 6 (200 * 1 + j) := (tm_RR_1 h).2.1.2.2.2.2
    obtain ⟨G, hG, g1⟩ : ∃ G : Nat, G ≤ 200 ∧ r 1 (24 * 1 + 9) = nI G := by
      obtain ⟨⟨S, X, T, G, S', X', T', G', q0, q1⟩, -⟩ := h
      exact ⟨G', by have := q1.2; unfold tm_N tm_E at this; omega, q1.2.1.2.2.2.2.2.2.2.2.2.1⟩
    by_cases a1 : p1 < 0
    · refine tm_CC_same h (-1001) (fun K hK => ?_) (fun K hK => ?_)
      · unfold wp_X8_got; rw [p_modemAt]
        exact ⟨fun q => absurd q (by decide), fun _ => ⟨fun _ => hK, fun q => absurd a1 q⟩, fun q => absurd q (by decide)⟩
      · unfold wp_X9_got; rw [p_isEnd]
        refine ⟨fun q => absurd q (by decide), fun _ => ?_⟩
        refine (p_of_9 (e := 1) (by decide) r _).mpr ?_
        rw [p_within, if_pos a1]
        exact ⟨fun _ => hK, fun q => absurd rfl q⟩
    · obtain ⟨N, hN, e⟩ := i_nat a1
      have lt : p1 < c 26 3 ↔ N < G := by rw [hg, g1, e]; exact nI_ltI hN (by omega)
      have wt : (if r 1 (24 * 1 + 9) - 1 < p1 then (0 : Int32) else 1) = if N < G then 1 else 0 := by
        rw [g1, e]
        by_cases g0 : G = 0
        · subst g0
          have l : nI 0 - 1 < nI N := Int32.lt_of_lt_of_le (show nI 0 - 1 < nI 0 by decide) (nI_le (by omega) hN)
          rw [if_pos l, if_neg (by omega)]
        · rw [show nI G - 1 = nI (G - 1) from pk_sub (b := 1) (by omega)]
          by_cases c1 : N < G
          · rw [if_neg (fun q => absurd ((nI_ltI (by omega) hN).mp q) (by omega)), if_pos c1]
          · rw [if_pos (nI_lt (by omega) hN), if_neg c1]
      by_cases a2 : N < G
      · have e8 : vp_in p1 200 := by rw [e]; exact vp_in_nI (by omega) (by decide)
        have eC : p1.toNatClampNeg = N := by rw [e]; exact nI_clamp hN
        have e5 : (200 * 1 + p1 : Int32) = nI (200 * 1 + N) := by rw [e]; exact p_200x (e := 1)
        have g5 : ¬ (200 : Int32) ≤ p1 := by rw [e]; exact nI_ge (b := 200) (by omega) (by decide)
        have g6 : ¬ c 26 3 ≤ p1 := by rw [hg, g1, e]; exact nI_ge a2 (by omega)
        refine tm_CC_same h (c 28 N) (fun K hK => ?_) (fun K hK => ?_)
        · unfold wp_X8_got; rw [p_modemAt]
          have : wp_X2_takenAt p1 (tm_pj [26, 27, 28] c) (fun r6 u8 => ∀ s7 : tm_St, s7 = tm_pk [26, 27, 28] c u8 → K r6 s7) := by
            unfold wp_X2_takenAt
            refine ⟨fun q => absurd q a1, fun _ => ⟨fun q => absurd q g6, fun _ => ⟨fun q => absurd q g5, fun _ => ⟨e8, ?_⟩⟩⟩⟩
            intro s7 e7
            rw [e7, tm_pk_pj, eC]
            exact hK
          exact ⟨fun q => absurd q (by decide), fun _ => ⟨fun q => absurd q a1, fun _ => ⟨fun _ => this, fun q => absurd (lt.mpr a2) q⟩⟩, fun q => absurd q (by decide)⟩
        · unfold wp_X9_got; rw [p_isEnd]
          refine ⟨fun q => absurd q (by decide), fun _ => ?_⟩
          refine (p_of_9 (e := 1) (by decide) r _).mpr ?_
          rw [p_within, if_neg a1, wt, if_pos a2, e5, nI_clamp (by omega), ← hr N (by omega)]
          exact ⟨fun q => absurd q (by decide), fun _ => ⟨vp_in_nI (by omega) (by decide), hK⟩⟩
      · refine tm_CC_same h (-1001) (fun K hK => ?_) (fun K hK => ?_)
        · unfold wp_X8_got; rw [p_modemAt]
          exact ⟨fun q => absurd q (by decide), fun _ => ⟨fun q => absurd q a1, fun _ => ⟨fun q => absurd (lt.mp q) a2, fun _ => hK⟩⟩, fun q => absurd q (by decide)⟩
        · unfold wp_X9_got; rw [p_isEnd]
          refine ⟨fun q => absurd q (by decide), fun _ => ?_⟩
          refine (p_of_9 (e := 1) (by decide) r _).mpr ?_
          rw [p_within, if_neg a1, wt, if_neg a2]
          exact ⟨fun _ => hK, fun q => absurd rfl q⟩
  · refine tm_CC_same h (-1001) (fun K hK => ?_) (fun K hK => ?_)
    · unfold wp_X8_got; rw [p_modemAt, if_neg n0, if_neg n1]
      exact ⟨fun q => absurd q (by decide), fun q => absurd q (by decide), fun _ => hK⟩
    · unfold wp_X9_got; rw [p_isEnd, ni]
      exact ⟨fun _ => hK, fun q => absurd rfl q⟩
theorem c_blank {u : Nat} {c r : tm_St} (h : tm_RR u c r) : tm_CC (u + 200) (wp_X8_blank c) (wp_X9_blank r) := by
  obtain ⟨hq, z0, z1, ⟨n, n1, n2, n3, n4⟩, ht, hl⟩ := tm_RR_u h (show u ≤ u + 200 by omega)
  refine ⟨nI n, tm_s c 1 (tm_u (c 1) 1 0), tm_s r 0 (tm_u (r 0) 18 0), ⟨hq, z0, z1, ⟨0, by omega, rfl, rfl, fun j hj => absurd hj (by omega)⟩, ht, hl⟩, fun K hK => ?_, fun K hK => ?_⟩
  · unfold wp_X8_blank
    intro x e s e2
    rw [e, e2, n2]; exact hK
  · unfold wp_X9_blank
    intro x e s e2
    rw [e, e2, n3]; exact hK
theorem c_letter {u : Nat} {c r : tm_St} (h : tm_RR u c r) (p0 : Int32) : tm_CC (u + 200) (wp_X8_letter p0 c) (wp_X9_letter p0 r) := by
  by_cases c1 : p0 < 32
  · refine tm_CC_same h (-1002) (fun K hK => ?_) (fun K hK => ?_)
    · unfold wp_X8_letter; exact ⟨fun _ => hK, fun q => absurd c1 q⟩
    · unfold wp_X9_letter; rw [p_within, if_pos c1]; exact ⟨fun q => absurd rfl q, fun _ => hK⟩
  · by_cases c2 : p0 ≤ 126
    · have c3 : ¬ (126 : Int32) < p0 := Int32.not_lt.mpr c2
      obtain ⟨hq, z0, z1, ⟨n, n1, n2, n3, n4⟩, ht, hl⟩ := tm_RR_u h (show u ≤ u + 200 by omega)
      by_cases c4 : n = 30
      · have e1 : ¬ c 1 1 < 30 := by rw [n2, c4]; decide
        have e2 : r 0 18 = 30 := by rw [n3, c4]; rfl
        refine tm_CC_same h (-1004) (fun K hK => ?_) (fun K hK => ?_)
        · unfold wp_X8_letter
          exact ⟨fun q => absurd q c1, fun _ => ⟨fun _ => ⟨fun q => absurd q e1, fun _ => hK⟩, fun q => absurd c2 q⟩⟩
        · unfold wp_X9_letter; rw [p_within, if_neg c1, if_neg c3]
          exact ⟨fun _ => ⟨fun q => absurd e2 q, fun _ => hK⟩, fun q => absurd q (by decide)⟩
      · have hn : n < 30 := by omega
        have e1 : c 1 1 < 30 := by rw [n2]; exact nI_lt (b := 30) hn (by decide)
        have e3 : ¬ (30 : Int32) ≤ c 1 1 := by rw [n2]; exact nI_ge (b := 30) hn (by decide)
        have e4 : ¬ c 1 1 < 0 := by rw [n2]; exact nI_pos (by omega)
        have e5 : vp_in (c 1 1) 30 := by rw [n2]; exact vp_in_nI hn (by decide)
        have e6 : (c 1 1).toNatClampNeg = n := by rw [n2]; exact nI_clamp (by omega)
        have e7 : (r 0 18).toNatClampNeg = n := by rw [n3]; exact nI_clamp (by omega)
        have e8 : vp_in (r 0 18) 30 := by rw [n3]; exact vp_in_nI hn (by decide)
        have e2 : ¬ r 0 18 = 30 := by rw [n3]; exact fun q => c4 ((nI_eq (b := 30) (by omega) (by decide)).mp q)
        refine ⟨nI (n + 1), tm_pk [1, 2] c (tm_s (tm_s (tm_pj [1, 2] c) 1 (upd (c 2) n p0)) 0 (tm_u (c 1) 1 (nI (n + 1)))), tm_s (tm_s r 14 (upd (r 14) n p0)) 0 (tm_u (r 0) 18 (nI (n + 1))), ⟨hq, z0, z1, ⟨n + 1, by omega, rfl, rfl, ?_⟩, ht, hl⟩, fun K hK => ?_, fun K hK => ?_⟩
        · intro j hj
          show upd (c 2) n p0 j = upd (r 14) n p0 j
          rw [tm_upd_at, tm_upd_at]
          split
          · rfl
          · exact n4 j (by omega)
        · unfold wp_X8_letter
          refine ⟨fun q => absurd q c1, fun _ => ⟨fun _ => ⟨fun _ => ?_, fun q => absurd e1 q⟩, fun q => absurd c2 q⟩⟩
          unfold wp_X4_add
          refine ⟨fun q => absurd q e4, fun _ => ⟨fun q => absurd q e3, fun _ => ⟨e5, ?_⟩⟩⟩
          intro s4 q4 s5 q5 s6 q6
          have r4 : s4 = tm_s (tm_pj [1, 2] c) 1 (upd (c 2) n p0) := by rw [q4, show (tm_pj [1, 2] c 0 1).toNatClampNeg = n from e6]; rfl
          have r5 : s5 = tm_s (tm_s (tm_pj [1, 2] c) 1 (upd (c 2) n p0)) 0 (tm_u (c 1) 1 (nI (n + 1))) := by
            rw [q5, r4, show (tm_s (tm_pj [1, 2] c) 1 (upd (c 2) n p0)) 0 1 + 1 = nI (n + 1) from (by show c 1 1 + 1 = _; rw [n2, nI_1])]
            rfl
          rw [q6, r5]
          exact hK
        · unfold wp_X9_letter; rw [p_within, if_neg c1, if_neg c3]
          refine ⟨fun _ => ⟨fun _ => ⟨e8, ?_⟩, fun q => absurd q e2⟩, fun q => absurd q (by decide)⟩
          intro s6 q6 s7 q7
          have r6 : s6 = tm_s r 14 (upd (r 14) n p0) := by rw [q6, e7]
          have r7 : s7 = tm_s (tm_s r 14 (upd (r 14) n p0)) 0 (tm_u (r 0) 18 (nI (n + 1))) := by
            rw [q7, r6, show (tm_s r 14 (upd (r 14) n p0)) 0 18 + 1 = nI (n + 1) from (by show r 0 18 + 1 = _; rw [n3, nI_1])]
            rfl
          rw [r7]
          exact hK
    · have c3 : (126 : Int32) < p0 := Int32.not_le.mp c2
      refine tm_CC_same h (-1002) (fun K hK => ?_) (fun K hK => ?_)
      · unfold wp_X8_letter; exact ⟨fun q => absurd q c1, fun _ => ⟨fun q => absurd q c2, fun _ => hK⟩⟩
      · unfold wp_X9_letter; rw [p_within, if_neg c1, if_pos c3]; exact ⟨fun q => absurd rfl q, fun _ => hK⟩
