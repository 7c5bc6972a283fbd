theorem tm_RR_0 {u : Nat} {c r : tm_St} (h : tm_RR u c r) : tm_L 0 (c 22 7) (c 26 6) (tm_pj [14, 15, 16, 17, 18, 19, 20, 21, 3, 9, 10, 11, 12, 13, 4, 5, 6, 7, 8, 4, 9] c) r := by
  obtain ⟨⟨S, X, T, G, S', X', T', G', q0, q1⟩, -⟩ := h
  exact q0.1
theorem tm_RR_1 {u : Nat} {c r : tm_St} (h : tm_RR u c r) : tm_L 1 (c 14 7) (c 18 6) (tm_pj [22, 23, 24, 25, 26, 27, 28, 29, 3, 4, 5, 6, 7, 8, 9, 10, 11, 12, 13, 4, 9] c) r := by
  obtain ⟨⟨S, X, T, G, S', X', T', G', q0, q1⟩, -⟩ := h
  exact q1.1
theorem tm_CC_same {u : Nat} {c r : tm_St} (h : tm_RR u c r) (a : Int32) {A B : (Int32 → tm_St → Prop) → Prop} (hA : ∀ K : Int32 → tm_St → Prop, K a c → A K) (hB : ∀ K : Int32 → tm_St → Prop, K a r → B K) : tm_CC (u + 200) A B := ⟨a, c, r, tm_RR_u h (by omega), hA, hB⟩
theorem i_end (p : Int32) : p = 0 ∨ p = 1 ∨ (¬ p = 0 ∧ ¬ p = 1 ∧ (if p < 0 then (0 : Int32) else if 1 < p then 0 else 1) = 0) := by
  by_cases c0 : p = 0
  · exact Or.inl c0
  · by_cases c1 : p = 1
    · exact Or.inr (Or.inl c1)
    · refine Or.inr (Or.inr ⟨c0, c1, ?_⟩)
      by_cases c2 : p < 0
      · rw [if_pos c2]
      · rw [if_neg c2]
        obtain ⟨N, hN, e⟩ := i_nat c2
        have : 1 < N := by
          rcases (show N = 0 ∨ N = 1 ∨ 1 < N by omega) with q | q | q
          · exact absurd (by rw [e, q]; rfl) c0
          · exact absurd (by rw [e, q]; rfl) c1
          · exact q
        have : (1 : Int32) < p := by rw [e]; exact nI_lt (a := 1) this (by omega)
        rw [if_pos this]
theorem c_band {u : Nat} {c r : tm_St} (h : tm_RR u c r) (p0 p1 : Int32) : tm_CC (u + 200) (wp_X8_band p0 p1 c) (wp_X9_band p0 p1 r) := by
  rcases i_end p0 with e | e | ⟨n0, n1, ni⟩
  · subst e
    by_cases a1 : p1 < 0
    · refine tm_CC_same h (-1001) (fun K hK => ?_) (fun K hK => ?_)
      · unfold wp_X8_band; rw [p_modemAt]; simp [-Int32.not_le, -Int32.not_lt, a1, hK]
      · unfold wp_X9_band; rw [p_isEnd]; simp [-Int32.not_le, -Int32.not_lt, p_within, a1, hK]
    · obtain ⟨N, hN, e⟩ := i_nat a1
      by_cases a2 : p1 < 8
      · have a3 : ¬ (7 : Int32) < p1 := by
          rw [e] at a2 ⊢
          have := (nI_ltI (b := 8) hN (by decide)).mp a2
          exact fun q => absurd ((nI_ltI (a := 7) (by decide) hN).mp q) (by omega)
        have hN2 : N < 8 := by
          rw [e] at a2
          have := (nI_ltI (b := 8) hN (by decide)).mp a2
          omega
        have e8 : vp_in p1 8 := by rw [e]; exact vp_in_nI (by omega) (by decide)
        have eC : p1.toNatClampNeg = N := by rw [e]; exact nI_clamp hN
        have e5 : (8 * 0 + p1 : Int32) = nI (8 * 0 + N) := by rw [e]; exact p_8 (e := 0)
        have e9 : vp_in (8 * 0 + p1) 16 := by rw [e5]; exact vp_in_nI (by omega) (by decide)
        have eD : (8 * 0 + p1 : Int32).toNatClampNeg = 8 * 0 + N := by rw [e5]; exact nI_clamp (by omega)
        have f : c 21 N = r 2 (8 * 0 + N) := (tm_RR_0 h).2.1.2.2.1 N (by omega)
        refine tm_CC_same h (c 21 N) (fun K hK => ?_) (fun K hK => ?_)
        · unfold wp_X8_band; rw [p_modemAt]
          exact ⟨fun _ => ⟨fun q => absurd q a1, fun _ => ⟨fun _ => ⟨e8, by rw [eC]; exact hK⟩, fun q => absurd a2 q⟩⟩, fun q => absurd q (by decide), fun q => absurd q (by decide)⟩
        · unfold wp_X9_band; rw [p_isEnd, p_within, if_neg a1, if_neg a3]
          rw [f] at hK
          rw [← eD] at hK
          exact ⟨fun q => absurd q (by decide), fun _ => ⟨fun q => absurd q (by decide), fun _ => ⟨e9, hK⟩⟩⟩
      · have a3 : (7 : Int32) < p1 := by
          rw [e] at a2 ⊢
          exact nI_lt (a := 7) (by rcases Nat.lt_or_ge 7 N with q | q; exact q; exact absurd ((nI_ltI (b := 8) hN (by decide)).mpr (by omega)) a2) hN
        refine tm_CC_same h (-1001) (fun K hK => ?_) (fun K hK => ?_)
        · unfold wp_X8_band; rw [p_modemAt]
          exact ⟨fun _ => ⟨fun q => absurd q a1, fun _ => ⟨fun q => absurd q a2, fun _ => hK⟩⟩, fun q => absurd q (by decide), fun q => absurd q (by decide)⟩
        · unfold wp_X9_band; rw [p_isEnd, p_within, if_neg a1, if_pos a3]
          exact ⟨fun q => absurd q (by decide), fun _ => ⟨fun _ => hK, fun q => absurd rfl q⟩⟩
  · subst e
    by_cases a1 : p1 < 0
    · refine tm_CC_same h (-1001) (fun K hK => ?_) (fun K hK => ?_)
      · unfold wp_X8_band; rw [p_modemAt]; simp [-Int32.not_le, -Int32.not_lt, a1, hK]
      · unfold wp_X9_band; rw [p_isEnd]; simp [-Int32.not_le, -Int32.not_lt, p_within, a1, hK]
    · obtain ⟨N, hN, e⟩ := i_nat a1
      by_cases a2 : p1 < 8
      · have a3 : ¬ (7 : Int32) < p1 := by
          rw [e] at a2 ⊢
          have := (nI_ltI (b := 8) hN (by decide)).mp a2
          exact fun q => absurd ((nI_ltI (a := 7) (by decide) hN).mp q) (by omega)
        have hN2 : N < 8 := by
          rw [e] at a2
          have := (nI_ltI (b := 8) hN (by decide)).mp a2
          omega
        have e8 : vp_in p1 8 := by rw [e]; exact vp_in_nI (by omega) (by decide)
        have eC : p1.toNatClampNeg = N := by rw [e]; exact nI_clamp hN
        have e5 : (8 * 1 + p1 : Int32) = nI (8 * 1 + N) := by rw [e]; exact p_8 (e := 1)
        have e9 : vp_in (8 * 1 + p1) 16 := by rw [e5]; exact vp_in_nI (by omega) (by decide)
        have eD : (8 * 1 + p1 : Int32).toNatClampNeg = 8 * 1 + N := by rw [e5]; exact nI_clamp (by omega)
        have f : c 29 N = r 2 (8 * 1 + N) := (tm_RR_1 h).2.1.2.2.1 N (by omega)
        refine tm_CC_same h (c 29 N) (fun K hK => ?_) (fun K hK => ?_)
        · unfold wp_X8_band; rw [p_modemAt]
          exact ⟨fun q => absurd q (by decide), fun _ => ⟨fun q => absurd q a1, fun _ => ⟨fun _ => ⟨e8, by rw [eC]; exact hK⟩, fun q => absurd a2 q⟩⟩, fun q => absurd q (by decide)⟩
        · unfold wp_X9_band; rw [p_isEnd, p_within, if_neg a1, if_neg a3]
          rw [f] at hK
          rw [← eD] at hK
          exact ⟨fun q => absurd q (by decide), fun _ => ⟨fun q => absurd q (by decide), fun _ => ⟨e9, hK⟩⟩⟩
      · have a3 : (7 : Int32) < p1 := by
          rw [e] at a2 ⊢
          exact nI_lt (a := 7) (by rcases Nat.lt_or_ge 7 N with q | q; exact q; exact absurd ((nI_ltI (b := 8) hN (by decide)).mpr (by omega)) a2) hN
        refine tm_CC_same h (-1001) (fun K hK => ?_) (fun K hK => ?_)
        · unfold wp_X8_band; rw [p_modemAt]
          exact ⟨fun q => absurd q (by decide), fun _ => ⟨fun q => absurd q a1, fun _ => ⟨fun q => absurd q a2, fun _ => hK⟩⟩, fun q => absurd q (by decide)⟩
        · unfold wp_X9_band; rw [p_isEnd, p_within, if_neg a1, if_pos a3]
          exact ⟨fun q => absurd q (by decide), fun _ => ⟨fun _ => hK, fun q => absurd rfl q⟩⟩
  · refine tm_CC_same h (-1001) (fun K hK => ?_) (fun K hK => ?_)
    · unfold wp_X8_band; rw [p_modemAt, if_neg n0, if_neg n1]
      exact ⟨fun q => absurd q (by decide), fun q => absurd q (by decide), fun _ => hK⟩
    · unfold wp_X9_band; rw [p_isEnd, ni]
      exact ⟨fun _ => hK, fun q => absurd rfl q⟩
theorem c_learnt {u : Nat} {c r : tm_St} (h : tm_RR u c r) (p0 p1 : Int32) : tm_CC (u + 200) (wp_X8_learnt p0 p1 c) (wp_X9_learnt p0 p1 r) := by
  rcases i_end p0 with e | e | ⟨n0, n1, ni⟩
  · subst e
    by_cases a1 : p1 < 0
    · refine tm_CC_same h (-1001) (fun K hK => ?_) (fun K hK => ?_)
      · unfold wp_X8_learnt; rw [p_modemAt]; simp [-Int32.not_le, -Int32.not_lt, a1, hK]
      · unfold wp_X9_learnt; rw [p_isEnd]; simp [-Int32.not_le, -Int32.not_lt, p_within, a1, hK]
    · obtain ⟨N, hN, e⟩ := i_nat a1
      by_cases a2 : p1 < 4
      · have a3 : ¬ (3 : Int32) < p1 := by
          rw [e] at a2 ⊢
          have := (nI_ltI (b := 4) hN (by decide)).mp a2
          exact fun q => absurd ((nI_ltI (a := 3) (by decide) hN).mp q) (by omega)
        have hN2 : N < 4 := by
          rw [e] at a2
          have := (nI_ltI (b := 4) hN (by decide)).mp a2
          omega
        have e8 : vp_in p1 4 := by rw [e]; exact vp_in_nI (by omega) (by decide)
        have eC : p1.toNatClampNeg = N := by rw [e]; exact nI_clamp hN
        have e5 : (4 * 0 + p1 : Int32) = nI (4 * 0 + N) := by rw [e]; exact p_4 (e := 0)
        have e9 : vp_in (4 * 0 + p1) 8 := by rw [e5]; exact vp_in_nI (by omega) (by decide)
        have eD : (4 * 0 + p1 : Int32).toNatClampNeg = 4 * 0 + N := by rw [e5]; exact nI_clamp (by omega)
        have f : c 17 N = r 3 (4 * 0 + N) := (tm_RR_0 h).2.1.2.1 N (by omega)
        refine tm_CC_same h (c 17 N) (fun K hK => ?_) (fun K hK => ?_)
        · unfold wp_X8_learnt; rw [p_modemAt]
          exact ⟨fun _ => ⟨fun q => absurd q a1, fun _ => ⟨fun _ => ⟨e8, by rw [eC]; exact hK⟩, fun q => absurd a2 q⟩⟩, fun q => absurd q (by decide), fun q => absurd q (by decide)⟩
        · unfold wp_X9_learnt; rw [p_isEnd, p_within, if_neg a1, if_neg a3]
          rw [f] at hK
          rw [← eD] at hK
          exact ⟨fun q => absurd q (by decide), fun _ => ⟨fun q => absurd q (by decide), fun _ => ⟨e9, hK⟩⟩⟩
      · have a3 : (3 : Int32) < p1 := by
          rw [e] at a2 ⊢
          exact nI_lt (a := 3) (by rcases Nat.lt_or_ge 3 N with q | q; exact q; exact absurd ((nI_ltI (b := 4) hN (by decide)).mpr (by omega)) a2) hN
        refine tm_CC_same h (-1001) (fun K hK => ?_) (fun K hK => ?_)
        · unfold wp_X8_learnt; rw [p_modemAt]
          exact ⟨fun _ => ⟨fun q => absurd q a1, fun _ => ⟨fun q => absurd q a2, fun _ => hK⟩⟩, fun q => absurd q (by decide), fun q => absurd q (by decide)⟩
        · unfold wp_X9_learnt; rw [p_isEnd, p_within, if_neg a1, if_pos a3]
          exact ⟨fun q => absurd q (by decide), fun _ => ⟨fun _ => hK, fun q => absurd rfl q⟩⟩
  · subst e
    by_cases a1 : p1 < 0
    · refine tm_CC_same h (-1001) (fun K hK => ?_) (fun K hK => ?_)
      · unfold wp_X8_learnt; rw [p_modemAt]; simp [-Int32.not_le, -Int32.not_lt, a1, hK]
      · unfold wp_X9_learnt; rw [p_isEnd]; simp [-Int32.not_le, -Int32.not_lt, p_within, a1, hK]
    · obtain ⟨N, hN, e⟩ := i_nat a1
      by_cases a2 : p1 < 4
      · have a3 : ¬ (3 : Int32) < p1 := by
          rw [e] at a2 ⊢
          have := (nI_ltI (b := 4) hN (by decide)).mp a2
          exact fun q => absurd ((nI_ltI (a := 3) (by decide) hN).mp q) (by omega)
        have hN2 : N < 4 := by
          rw [e] at a2
          have := (nI_ltI (b := 4) hN (by decide)).mp a2
          omega
        have e8 : vp_in p1 4 := by rw [e]; exact vp_in_nI (by omega) (by decide)
        have eC : p1.toNatClampNeg = N := by rw [e]; exact nI_clamp hN
        have e5 : (4 * 1 + p1 : Int32) = nI (4 * 1 + N) := by rw [e]; exact p_4 (e := 1)
        have e9 : vp_in (4 * 1 + p1) 8 := by rw [e5]; exact vp_in_nI (by omega) (by decide)
        have eD : (4 * 1 + p1 : Int32).toNatClampNeg = 4 * 1 + N := by rw [e5]; exact nI_clamp (by omega)
        have f : c 25 N = r 3 (4 * 1 + N) := (tm_RR_1 h).2.1.2.1 N (by omega)
        refine tm_CC_same h (c 25 N) (fun K hK => ?_) (fun K hK => ?_)
        · unfold wp_X8_learnt; rw [p_modemAt]
          exact ⟨fun q => absurd q (by decide), fun _ => ⟨fun q => absurd q a1, fun _ => ⟨fun _ => ⟨e8, by rw [eC]; exact hK⟩, fun q => absurd a2 q⟩⟩, fun q => absurd q (by decide)⟩
        · unfold wp_X9_learnt; rw [p_isEnd, p_within, if_neg a1, if_neg a3]
          rw [f] at hK
          rw [← eD] at hK
          exact ⟨fun q => absurd q (by decide), fun _ => ⟨fun q => absurd q (by decide), fun _ => ⟨e9, hK⟩⟩⟩
      · have a3 : (3 : Int32) < p1 := by
          rw [e] at a2 ⊢
          exact nI_lt (a := 3) (by rcases Nat.lt_or_ge 3 N with q | q; exact q; exact absurd ((nI_ltI (b := 4) hN (by decide)).mpr (by omega)) a2) hN
        refine tm_CC_same h (-1001) (fun K hK => ?_) (fun K hK => ?_)
        · unfold wp_X8_learnt; rw [p_modemAt]
          exact ⟨fun q => absurd q (by decide), fun _ => ⟨fun q => absurd q a1, fun _ => ⟨fun q => absurd q a2, fun _ => hK⟩⟩, fun q => absurd q (by decide)⟩
        · unfold wp_X9_learnt; rw [p_isEnd, p_within, if_neg a1, if_pos a3]
          exact ⟨fun q => absurd q (by decide), fun _ => ⟨fun _ => hK, fun q => absurd rfl q⟩⟩
  · refine tm_CC_same h (-1001) (fun K hK => ?_) (fun K hK => ?_)
    · unfold wp_X8_learnt; rw [p_modemAt, if_neg n0, if_neg n1]
      exact ⟨fun q => absurd q (by decide), fun q => absurd q (by decide), fun _ => hK⟩
    · unfold wp_X9_learnt; rw [p_isEnd, ni]
      exact ⟨fun _ => hK, fun q => absurd rfl q⟩
theorem c_heard {u : Nat} {c r : tm_St} (h : tm_RR u c r) (p0 p1 : Int32) : tm_CC (u + 200) (wp_X8_heard p0 p1 c) (wp_X9_heard p0 p1 r) := by
  rcases i_end p0 with e | e | ⟨n0, n1, ni⟩
  · subst e
    by_cases a1 : p1 < 0
    · refine tm_CC_same h (-1002) (fun K hK => ?_) (fun K hK => ?_)
      · unfold wp_X8_heard; rw [p_modemAt]; simp [-Int32.not_le, -Int32.not_lt, a1, hK]
      · unfold wp_X9_heard; rw [p_isEnd]; simp [-Int32.not_le, -Int32.not_lt, p_within, a1, hK]
    · obtain ⟨N, hN, e⟩ := i_nat a1
      by_cases a2 : p1 ≤ 4
      · have a3 : ¬ (4 : Int32) < p1 := by
          rw [e] at a2 ⊢
          have := (nI_leI (b := 4) hN (by decide)).mp a2
          exact fun q => absurd ((nI_ltI (a := 4) (by decide) hN).mp q) (by omega)
        have hN2 : N < 5 := by
          rw [e] at a2
          have := (nI_leI (b := 4) hN (by decide)).mp a2
          omega
        have e8 : vp_in p1 8 := by rw [e]; exact vp_in_nI (by omega) (by decide)
        have eC : p1.toNatClampNeg = N := by rw [e]; exact nI_clamp hN
        have e5 : (5 * 0 + p1 : Int32) = nI (5 * 0 + N) := by rw [e]; exact p_5 (e := 0)
        have e9 : vp_in (5 * 0 + p1) 10 := by rw [e5]; exact vp_in_nI (by omega) (by decide)
        have eD : (5 * 0 + p1 : Int32).toNatClampNeg = 5 * 0 + N := by rw [e5]; exact nI_clamp (by omega)
        have f : c 11 N = r 7 (5 * 0 + N) := (tm_RR_0 h).2.2.2.2.2.1 N (by omega)
        refine tm_CC_same h (c 11 N) (fun K hK => ?_) (fun K hK => ?_)
        · unfold wp_X8_heard; rw [p_modemAt]
          exact ⟨fun _ => ⟨fun q => absurd q a1, fun _ => ⟨fun _ => ⟨e8, by rw [eC]; exact hK⟩, fun q => absurd a2 q⟩⟩, fun q => absurd q (by decide), fun q => absurd q (by decide)⟩
        · unfold wp_X9_heard; rw [p_isEnd, p_within, if_neg a1, if_neg a3]
          rw [f] at hK
          rw [← eD] at hK
          exact ⟨fun _ => ⟨fun q => absurd q (by decide), fun _ => ⟨e9, hK⟩⟩, fun q => absurd q (by decide)⟩
      · have a3 : (4 : Int32) < p1 := by
          rw [e] at a2 ⊢
          exact nI_lt (a := 4) (by rcases Nat.lt_or_ge 4 N with q | q; exact q; exact absurd ((nI_leI (b := 4) hN (by decide)).mpr (by omega)) a2) hN
        refine tm_CC_same h (-1002) (fun K hK => ?_) (fun K hK => ?_)
        · unfold wp_X8_heard; rw [p_modemAt]
          exact ⟨fun _ => ⟨fun q => absurd q a1, fun _ => ⟨fun q => absurd q a2, fun _ => hK⟩⟩, fun q => absurd q (by decide), fun q => absurd q (by decide)⟩
        · unfold wp_X9_heard; rw [p_isEnd, p_within, if_neg a1, if_pos a3]
          exact ⟨fun _ => ⟨fun _ => hK, fun q => absurd rfl q⟩, fun q => absurd q (by decide)⟩
  · subst e
    by_cases a1 : p1 < 0
    · refine tm_CC_same h (-1002) (fun K hK => ?_) (fun K hK => ?_)
      · unfold wp_X8_heard; rw [p_modemAt]; simp [-Int32.not_le, -Int32.not_lt, a1, hK]
      · unfold wp_X9_heard; rw [p_isEnd]; simp [-Int32.not_le, -Int32.not_lt, p_within, a1, hK]
    · obtain ⟨N, hN, e⟩ := i_nat a1
      by_cases a2 : p1 ≤ 4
      · have a3 : ¬ (4 : Int32) < p1 := by
          rw [e] at a2 ⊢
          have := (nI_leI (b := 4) hN (by decide)).mp a2
          exact fun q => absurd ((nI_ltI (a := 4) (by decide) hN).mp q) (by omega)
        have hN2 : N < 5 := by
          rw [e] at a2
          have := (nI_leI (b := 4) hN (by decide)).mp a2
          omega
        have e8 : vp_in p1 8 := by rw [e]; exact vp_in_nI (by omega) (by decide)
        have eC : p1.toNatClampNeg = N := by rw [e]; exact nI_clamp hN
        have e5 : (5 * 1 + p1 : Int32) = nI (5 * 1 + N) := by rw [e]; exact p_5 (e := 1)
        have e9 : vp_in (5 * 1 + p1) 10 := by rw [e5]; exact vp_in_nI (by omega) (by decide)
        have eD : (5 * 1 + p1 : Int32).toNatClampNeg = 5 * 1 + N := by rw [e5]; exact nI_clamp (by omega)
        have f : c 6 N = r 7 (5 * 1 + N) := (tm_RR_1 h).2.2.2.2.2.1 N (by omega)
        refine tm_CC_same h (c 6 N) (fun K hK => ?_) (fun K hK => ?_)
        · unfold wp_X8_heard; rw [p_modemAt]
          exact ⟨fun q => absurd q (by decide), fun _ => ⟨fun q => absurd q a1, fun _ => ⟨fun _ => ⟨e8, by rw [eC]; exact hK⟩, fun q => absurd a2 q⟩⟩, fun q => absurd q (by decide)⟩
        · unfold wp_X9_heard; rw [p_isEnd, p_within, if_neg a1, if_neg a3]
          rw [f] at hK
          rw [← eD] at hK
          exact ⟨fun _ => ⟨fun q => absurd q (by decide), fun _ => ⟨e9, hK⟩⟩, fun q => absurd q (by decide)⟩
      · have a3 : (4 : Int32) < p1 := by
          rw [e] at a2 ⊢
          exact nI_lt (a := 4) (by rcases Nat.lt_or_ge 4 N with q | q; exact q; exact absurd ((nI_leI (b := 4) hN (by decide)).mpr (by omega)) a2) hN
        refine tm_CC_same h (-1002) (fun K hK => ?_) (fun K hK => ?_)
        · unfold wp_X8_heard; rw [p_modemAt]
          exact ⟨fun q => absurd q (by decide), fun _ => ⟨fun q => absurd q a1, fun _ => ⟨fun q => absurd q a2, fun _ => hK⟩⟩, fun q => absurd q (by decide)⟩
        · unfold wp_X9_heard; rw [p_isEnd, p_within, if_neg a1, if_pos a3]
          exact ⟨fun _ => ⟨fun _ => hK, fun q => absurd rfl q⟩, fun q => absurd q (by decide)⟩
  · refine tm_CC_same h (-1001) (fun K hK => ?_) (fun K hK => ?_)
    · unfold wp_X8_heard; rw [p_modemAt, if_neg n0, if_neg n1]
      exact ⟨fun q => absurd q (by decide), fun q => absurd q (by decide), fun _ => hK⟩
    · unfold wp_X9_heard; rw [p_isEnd, ni]
      exact ⟨fun q => absurd rfl q, fun _ => hK⟩
