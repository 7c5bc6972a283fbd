theorem c_end {u : Nat} {c r : tm_St} (h : tm_RR u c r) (p0 p1 : Int32) : tm_CC (u + 200) (wp_X8_end p0 p1 c) (wp_X9_end p0 p1 r) := by
  rcases i_end p0 with e | e | ⟨n0, n1, ni⟩
  · subst e
    have out : ∀ (a : Int32) (K : Int32 → tm_St → Prop), K a c → (∀ s5 : tm_St, s5 = tm_pk [14, 15, 16, 17, 18, 19, 20, 21, 3, 9, 10, 11, 12, 13, 4, 5, 6, 7, 8] c (tm_pj [14, 15, 16, 17, 18, 19, 20, 21, 3, 9, 10, 11, 12, 13, 4, 5, 6, 7, 8, 4, 9] c) → K a s5) := by
      intro a K hK s5 e5
      rw [e5, show tm_pk [14, 15, 16, 17, 18, 19, 20, 21, 3, 9, 10, 11, 12, 13, 4, 5, 6, 7, 8] c (tm_pj [14, 15, 16, 17, 18, 19, 20, 21, 3, 9, 10, 11, 12, 13, 4, 5, 6, 7, 8, 4, 9] c) = c from tm_pk_pj [14, 15, 16, 17, 18, 19, 20, 21, 3, 9, 10, 11, 12, 13, 4, 5, 6, 7, 8] c]
      exact hK
    have bad : ∀ q : (p1 < 0 ∨ 15 < p1), tm_CC (u + 200) (wp_X8_end 0 p1 c) (wp_X9_end 0 p1 r) := by
      intro q
      have ne : ∀ n : Nat, n ≤ 15 → ¬ p1 = nI n := by
        intro n hn e
        rcases q with q | q
        · rw [e] at q; exact absurd q (nI_pos (by omega))
        · rw [e] at q; exact absurd ((nI_ltI (a := 15) (by decide) (by omega)).mp q) (by omega)
      refine tm_CC_same h (-1002) (fun K hK => ?_) (fun K hK => ?_)
      · unfold wp_X8_end; rw [p_modemAt]
        have : wp_X3_fact p1 (tm_pj [14, 15, 16, 17, 18, 19, 20, 21, 3, 9, 10, 11, 12, 13, 4, 5, 6, 7, 8, 4, 9] c) (fun r4 u6 => ∀ s5 : tm_St, s5 = tm_pk [14, 15, 16, 17, 18, 19, 20, 21, 3, 9, 10, 11, 12, 13, 4, 5, 6, 7, 8] c u6 → K r4 s5) := by
          unfold wp_X3_fact
          exact ⟨fun q => absurd q (ne 0 (by decide)), fun _ => ⟨fun q => absurd q (ne 1 (by decide)), fun _ => ⟨fun q => absurd q (ne 2 (by decide)), fun _ => ⟨fun q => absurd q (ne 3 (by decide)), fun _ => ⟨fun q => absurd q (ne 4 (by decide)), fun _ => ⟨fun q => absurd q (ne 5 (by decide)), fun _ => ⟨fun q => absurd q (ne 6 (by decide)), fun _ => ⟨fun q => absurd q (ne 7 (by decide)), fun _ => ⟨fun q => absurd q (ne 8 (by decide)), fun _ => ⟨fun q => absurd q (ne 9 (by decide)), fun _ => ⟨fun q => absurd q (ne 10 (by decide)), fun _ => ⟨fun q => absurd q (ne 11 (by decide)), fun _ => ⟨fun q => absurd q (ne 12 (by decide)), fun _ => ⟨fun q => absurd q (ne 13 (by decide)), fun _ => ⟨fun q => absurd q (ne 14 (by decide)), fun _ => ⟨fun q => absurd q (ne 15 (by decide)), fun _ => out _ K hK⟩⟩⟩⟩⟩⟩⟩⟩⟩⟩⟩⟩⟩⟩⟩⟩
        exact ⟨fun _ => this, fun q => absurd q (by decide), fun q => absurd q (by decide)⟩
      · unfold wp_X9_end; rw [p_isEnd, p_within]
        have : (if p1 < 0 then (0 : Int32) else if 15 < p1 then 0 else 1) = 0 := by
          rcases q with q | q
          · rw [if_pos q]
          · by_cases q2 : p1 < 0
            · rw [if_pos q2]
            · rw [if_neg q2, if_pos q]
        rw [this]
        exact ⟨fun _ => ⟨fun _ => hK, fun q => absurd rfl q⟩, fun q => absurd q (by decide)⟩
    by_cases a1 : p1 < 0
    · exact bad (Or.inl a1)
    · by_cases a2 : 15 < p1
      · exact bad (Or.inr a2)
      · obtain ⟨N, hN, e⟩ := i_nat a1
        have hN2 : N < 16 := by
          rcases Nat.lt_or_ge N 16 with q | q
          · exact q
          · rw [e] at a2; exact absurd (nI_lt (a := 15) (by omega) hN) a2
        subst e
        obtain ⟨m0, m1, m2, m3, m4, m5, m6, m7, m8, m9, m10, m11, m12, m13, m14, m15, -⟩ := (tm_RR_0 h).1
        have run : ∀ n : Nat, n < 16 → ∀ a : Int32, (∀ K : Int32 → tm_St → Prop, K a (tm_pj [14, 15, 16, 17, 18, 19, 20, 21, 3, 9, 10, 11, 12, 13, 4, 5, 6, 7, 8, 4, 9] c) → wp_X3_fact (nI n) (tm_pj [14, 15, 16, 17, 18, 19, 20, 21, 3, 9, 10, 11, 12, 13, 4, 5, 6, 7, 8, 4, 9] c) K) → (a = r 1 (24 * 0 + n)) → tm_CC (u + 200) (wp_X8_end 0 (nI n) c) (wp_X9_end 0 (nI n) r) := by
          intro n hn a hf ha
          refine tm_CC_same h a (fun K hK => ?_) (fun K hK => ?_)
          · unfold wp_X8_end; rw [p_modemAt]
            exact ⟨fun _ => hf _ (out a K hK), fun q => absurd q (by decide), fun q => absurd q (by decide)⟩
          · unfold wp_X9_end; have g15 : ¬ (15 : Int32) < nI n := fun q => absurd ((nI_ltI (a := 15) (by decide) (by omega)).mp q) (by omega)
            rw [p_isEnd, p_within, if_neg (nI_pos (by omega)), if_neg g15]
            refine ⟨fun _ => ⟨fun q => absurd q (by decide), fun _ => ?_⟩, fun q => absurd q (by decide)⟩
            refine (p_ofk n (nI n) rfl (by omega) (e := 0) (by decide) r _).mpr ?_
            rw [← ha]
            exact hK
        rcases (show N = 0 ∨ N = 1 ∨ N = 2 ∨ N = 3 ∨ N = 4 ∨ N = 5 ∨ N = 6 ∨ N = 7 ∨ N = 8 ∨ N = 9 ∨ N = 10 ∨ N = 11 ∨ N = 12 ∨ N = 13 ∨ N = 14 ∨ N = 15 by omega) with e | e | e | e | e | e | e | e | e | e | e | e | e | e | e | e
        · subst e
          refine run 0 (by decide) (c 14 6) (fun K hK => ?_) m0
          unfold wp_X3_fact
          exact ⟨fun _ => hK, fun q => absurd rfl q⟩
        · subst e
          refine run 1 (by decide) (c 14 8) (fun K hK => ?_) m1
          unfold wp_X3_fact
          exact ⟨fun q => absurd q (by decide), fun _ => ⟨fun _ => hK, fun q => absurd rfl q⟩⟩
        · subst e
          refine run 2 (by decide) (c 14 10) (fun K hK => ?_) m2
          unfold wp_X3_fact
          exact ⟨fun q => absurd q (by decide), fun _ => ⟨fun q => absurd q (by decide), fun _ => ⟨fun _ => hK, fun q => absurd rfl q⟩⟩⟩
        · subst e
          refine run 3 (by decide) (c 14 11) (fun K hK => ?_) m3
          unfold wp_X3_fact
          exact ⟨fun q => absurd q (by decide), fun _ => ⟨fun q => absurd q (by decide), fun _ => ⟨fun q => absurd q (by decide), fun _ => ⟨fun _ => hK, fun q => absurd rfl q⟩⟩⟩⟩
        · subst e
          refine run 4 (by decide) (c 14 12) (fun K hK => ?_) m4
          unfold wp_X3_fact
          exact ⟨fun q => absurd q (by decide), fun _ => ⟨fun q => absurd q (by decide), fun _ => ⟨fun q => absurd q (by decide), fun _ => ⟨fun q => absurd q (by decide), fun _ => ⟨fun _ => hK, fun q => absurd rfl q⟩⟩⟩⟩⟩
        · subst e
          refine run 5 (by decide) (c 14 13) (fun K hK => ?_) m5
          unfold wp_X3_fact
          exact ⟨fun q => absurd q (by decide), fun _ => ⟨fun q => absurd q (by decide), fun _ => ⟨fun q => absurd q (by decide), fun _ => ⟨fun q => absurd q (by decide), fun _ => ⟨fun q => absurd q (by decide), fun _ => ⟨fun _ => hK, fun q => absurd rfl q⟩⟩⟩⟩⟩⟩
        · subst e
          refine run 6 (by decide) (c 18 2) (fun K hK => ?_) m6
          unfold wp_X3_fact
          exact ⟨fun q => absurd q (by decide), fun _ => ⟨fun q => absurd q (by decide), fun _ => ⟨fun q => absurd q (by decide), fun _ => ⟨fun q => absurd q (by decide), fun _ => ⟨fun q => absurd q (by decide), fun _ => ⟨fun q => absurd q (by decide), fun _ => ⟨fun _ => hK, fun q => absurd rfl q⟩⟩⟩⟩⟩⟩⟩
        · subst e
          refine run 7 (by decide) (c 18 5) (fun K hK => ?_) m7
          unfold wp_X3_fact
          exact ⟨fun q => absurd q (by decide), fun _ => ⟨fun q => absurd q (by decide), fun _ => ⟨fun q => absurd q (by decide), fun _ => ⟨fun q => absurd q (by decide), fun _ => ⟨fun q => absurd q (by decide), fun _ => ⟨fun q => absurd q (by decide), fun _ => ⟨fun q => absurd q (by decide), fun _ => ⟨fun _ => hK, fun q => absurd rfl q⟩⟩⟩⟩⟩⟩⟩⟩
        · subst e
          refine run 8 (by decide) (c 18 4) (fun K hK => ?_) m8
          unfold wp_X3_fact
          exact ⟨fun q => absurd q (by decide), fun _ => ⟨fun q => absurd q (by decide), fun _ => ⟨fun q => absurd q (by decide), fun _ => ⟨fun q => absurd q (by decide), fun _ => ⟨fun q => absurd q (by decide), fun _ => ⟨fun q => absurd q (by decide), fun _ => ⟨fun q => absurd q (by decide), fun _ => ⟨fun q => absurd q (by decide), fun _ => ⟨fun _ => hK, fun q => absurd rfl q⟩⟩⟩⟩⟩⟩⟩⟩⟩
        · subst e
          refine run 9 (by decide) (c 18 3) (fun K hK => ?_) m9
          unfold wp_X3_fact
          exact ⟨fun q => absurd q (by decide), fun _ => ⟨fun q => absurd q (by decide), fun _ => ⟨fun q => absurd q (by decide), fun _ => ⟨fun q => absurd q (by decide), fun _ => ⟨fun q => absurd q (by decide), fun _ => ⟨fun q => absurd q (by decide), fun _ => ⟨fun q => absurd q (by decide), fun _ => ⟨fun q => absurd q (by decide), fun _ => ⟨fun q => absurd q (by decide), fun _ => ⟨fun _ => hK, fun q => absurd rfl q⟩⟩⟩⟩⟩⟩⟩⟩⟩⟩
        · subst e
          refine run 10 (by decide) (c 14 14) (fun K hK => ?_) m10
          unfold wp_X3_fact
          exact ⟨fun q => absurd q (by decide), fun _ => ⟨fun q => absurd q (by decide), fun _ => ⟨fun q => absurd q (by decide), fun _ => ⟨fun q => absurd q (by decide), fun _ => ⟨fun q => absurd q (by decide), fun _ => ⟨fun q => absurd q (by decide), fun _ => ⟨fun q => absurd q (by decide), fun _ => ⟨fun q => absurd q (by decide), fun _ => ⟨fun q => absurd q (by decide), fun _ => ⟨fun q => absurd q (by decide), fun _ => ⟨fun _ => hK, fun q => absurd rfl q⟩⟩⟩⟩⟩⟩⟩⟩⟩⟩⟩
        · subst e
          refine run 11 (by decide) (c 14 15) (fun K hK => ?_) m11
          unfold wp_X3_fact
          exact ⟨fun q => absurd q (by decide), fun _ => ⟨fun q => absurd q (by decide), fun _ => ⟨fun q => absurd q (by decide), fun _ => ⟨fun q => absurd q (by decide), fun _ => ⟨fun q => absurd q (by decide), fun _ => ⟨fun q => absurd q (by decide), fun _ => ⟨fun q => absurd q (by decide), fun _ => ⟨fun q => absurd q (by decide), fun _ => ⟨fun q => absurd q (by decide), fun _ => ⟨fun q => absurd q (by decide), fun _ => ⟨fun q => absurd q (by decide), fun _ => ⟨fun _ => hK, fun q => absurd rfl q⟩⟩⟩⟩⟩⟩⟩⟩⟩⟩⟩⟩
        · subst e
          refine run 12 (by decide) (c 14 17) (fun K hK => ?_) m12
          unfold wp_X3_fact
          exact ⟨fun q => absurd q (by decide), fun _ => ⟨fun q => absurd q (by decide), fun _ => ⟨fun q => absurd q (by decide), fun _ => ⟨fun q => absurd q (by decide), fun _ => ⟨fun q => absurd q (by decide), fun _ => ⟨fun q => absurd q (by decide), fun _ => ⟨fun q => absurd q (by decide), fun _ => ⟨fun q => absurd q (by decide), fun _ => ⟨fun q => absurd q (by decide), fun _ => ⟨fun q => absurd q (by decide), fun _ => ⟨fun q => absurd q (by decide), fun _ => ⟨fun q => absurd q (by decide), fun _ => ⟨fun _ => hK, fun q => absurd rfl q⟩⟩⟩⟩⟩⟩⟩⟩⟩⟩⟩⟩⟩
        · subst e
          refine run 13 (by decide) (c 14 18) (fun K hK => ?_) m13
          unfold wp_X3_fact
          exact ⟨fun q => absurd q (by decide), fun _ => ⟨fun q => absurd q (by decide), fun _ => ⟨fun q => absurd q (by decide), fun _ => ⟨fun q => absurd q (by decide), fun _ => ⟨fun q => absurd q (by decide), fun _ => ⟨fun q => absurd q (by decide), fun _ => ⟨fun q => absurd q (by decide), fun _ => ⟨fun q => absurd q (by decide), fun _ => ⟨fun q => absurd q (by decide), fun _ => ⟨fun q => absurd q (by decide), fun _ => ⟨fun q => absurd q (by decide), fun _ => ⟨fun q => absurd q (by decide), fun _ => ⟨fun q => absurd q (by decide), fun _ => ⟨fun _ => hK, fun q => absurd rfl q⟩⟩⟩⟩⟩⟩⟩⟩⟩⟩⟩⟩⟩⟩
        · subst e
          refine run 14 (by decide) (c 14 19) (fun K hK => ?_) m14
          unfold wp_X3_fact
          exact ⟨fun q => absurd q (by decide), fun _ => ⟨fun q => absurd q (by decide), fun _ => ⟨fun q => absurd q (by decide), fun _ => ⟨fun q => absurd q (by decide), fun _ => ⟨fun q => absurd q (by decide), fun _ => ⟨fun q => absurd q (by decide), fun _ => ⟨fun q => absurd q (by decide), fun _ => ⟨fun q => absurd q (by decide), fun _ => ⟨fun q => absurd q (by decide), fun _ => ⟨fun q => absurd q (by decide), fun _ => ⟨fun q => absurd q (by decide), fun _ => ⟨fun q => absurd q (by decide), fun _ => ⟨fun q => absurd q (by decide), fun _ => ⟨fun q => absurd q (by decide), fun _ => ⟨fun _ => hK, fun q => absurd rfl q⟩⟩⟩⟩⟩⟩⟩⟩⟩⟩⟩⟩⟩⟩⟩
        · subst e
          refine run 15 (by decide) (c 14 16) (fun K hK => ?_) m15
          unfold wp_X3_fact
          exact ⟨fun q => absurd q (by decide), fun _ => ⟨fun q => absurd q (by decide), fun _ => ⟨fun q => absurd q (by decide), fun _ => ⟨fun q => absurd q (by decide), fun _ => ⟨fun q => absurd q (by decide), fun _ => ⟨fun q => absurd q (by decide), fun _ => ⟨fun q => absurd q (by decide), fun _ => ⟨fun q => absurd q (by decide), fun _ => ⟨fun q => absurd q (by decide), fun _ => ⟨fun q => absurd q (by decide), fun _ => ⟨fun q => absurd q (by decide), fun _ => ⟨fun q => absurd q (by decide), fun _ => ⟨fun q => absurd q (by decide), fun _ => ⟨fun q => absurd q (by decide), fun _ => ⟨fun q => absurd q (by decide), fun _ => ⟨fun _ => hK, fun q => absurd rfl q⟩⟩⟩⟩⟩⟩⟩⟩⟩⟩⟩⟩⟩⟩⟩⟩
  · subst e
    have out : ∀ (a : Int32) (K : Int32 → tm_St → Prop), K a c → (∀ s5 : tm_St, s5 = tm_pk [22, 23, 24, 25, 26, 27, 28, 29, 3, 4, 5, 6, 7, 8, 9, 10, 11, 12, 13] c (tm_pj [22, 23, 24, 25, 26, 27, 28, 29, 3, 4, 5, 6, 7, 8, 9, 10, 11, 12, 13, 4, 9] c) → K a s5) := by
      intro a K hK s5 e5
      rw [e5, show tm_pk [22, 23, 24, 25, 26, 27, 28, 29, 3, 4, 5, 6, 7, 8, 9, 10, 11, 12, 13] c (tm_pj [22, 23, 24, 25, 26, 27, 28, 29, 3, 4, 5, 6, 7, 8, 9, 10, 11, 12, 13, 4, 9] c) = c from tm_pk_pj [22, 23, 24, 25, 26, 27, 28, 29, 3, 4, 5, 6, 7, 8, 9, 10, 11, 12, 13] c]
      exact hK
    have bad : ∀ q : (p1 < 0 ∨ 15 < p1), tm_CC (u + 200) (wp_X8_end 1 p1 c) (wp_X9_end 1 p1 r) := by
      intro q
      have ne : ∀ n : Nat, n ≤ 15 → ¬ p1 = nI n := by
        intro n hn e
        rcases q with q | q
        · rw [e] at q; exact absurd q (nI_pos (by omega))
        · rw [e] at q; exact absurd ((nI_ltI (a := 15) (by decide) (by omega)).mp q) (by omega)
      refine tm_CC_same h (-1002) (fun K hK => ?_) (fun K hK => ?_)
      · unfold wp_X8_end; rw [p_modemAt]
        have : wp_X3_fact p1 (tm_pj [22, 23, 24, 25, 26, 27, 28, 29, 3, 4, 5, 6, 7, 8, 9, 10, 11, 12, 13, 4, 9] c) (fun r4 u6 => ∀ s5 : tm_St, s5 = tm_pk [22, 23, 24, 25, 26, 27, 28, 29, 3, 4, 5, 6, 7, 8, 9, 10, 11, 12, 13] c u6 → K r4 s5) := by
          unfold wp_X3_fact
          exact ⟨fun q => absurd q (ne 0 (by decide)), fun _ => ⟨fun q => absurd q (ne 1 (by decide)), fun _ => ⟨fun q => absurd q (ne 2 (by decide)), fun _ => ⟨fun q => absurd q (ne 3 (by decide)), fun _ => ⟨fun q => absurd q (ne 4 (by decide)), fun _ => ⟨fun q => absurd q (ne 5 (by decide)), fun _ => ⟨fun q => absurd q (ne 6 (by decide)), fun _ => ⟨fun q => absurd q (ne 7 (by decide)), fun _ => ⟨fun q => absurd q (ne 8 (by decide)), fun _ => ⟨fun q => absurd q (ne 9 (by decide)), fun _ => ⟨fun q => absurd q (ne 10 (by decide)), fun _ => ⟨fun q => absurd q (ne 11 (by decide)), fun _ => ⟨fun q => absurd q (ne 12 (by decide)), fun _ => ⟨fun q => absurd q (ne 13 (by decide)), fun _ => ⟨fun q => absurd q (ne 14 (by decide)), fun _ => ⟨fun q => absurd q (ne 15 (by decide)), fun _ => out _ K hK⟩⟩⟩⟩⟩⟩⟩⟩⟩⟩⟩⟩⟩⟩⟩⟩
        exact ⟨fun q => absurd q (by decide), fun _ => this, fun q => absurd q (by decide)⟩
      · unfold wp_X9_end; rw [p_isEnd, p_within]
        have : (if p1 < 0 then (0 : Int32) else if 15 < p1 then 0 else 1) = 0 := by
          rcases q with q | q
          · rw [if_pos q]
          · by_cases q2 : p1 < 0
            · rw [if_pos q2]
            · rw [if_neg q2, if_pos q]
        rw [this]
        exact ⟨fun _ => ⟨fun _ => hK, fun q => absurd rfl q⟩, fun q => absurd q (by decide)⟩
    by_cases a1 : p1 < 0
    · exact bad (Or.inl a1)
    · by_cases a2 : 15 < p1
      · exact bad (Or.inr a2)
      · obtain ⟨N, hN, e⟩ := i_nat a1
        have hN2 : N < 16 := by
          rcases Nat.lt_or_ge N 16 with q | q
          · exact q
          · rw [e] at a2; exact absurd (nI_lt (a := 15) (by omega) hN) a2
        subst e
        obtain ⟨m0, m1, m2, m3, m4, m5, m6, m7, m8, m9, m10, m11, m12, m13, m14, m15, -⟩ := (tm_RR_1 h).1
        have run : ∀ n : Nat, n < 16 → ∀ a : Int32, (∀ K : Int32 → tm_St → Prop, K a (tm_pj [22, 23, 24, 25, 26, 27, 28, 29, 3, 4, 5, 6, 7, 8, 9, 10, 11, 12, 13, 4, 9] c) → wp_X3_fact (nI n) (tm_pj [22, 23, 24, 25, 26, 27, 28, 29, 3, 4, 5, 6, 7, 8, 9, 10, 11, 12, 13, 4, 9] c) K) → (a = r 1 (24 * 1 + n)) → tm_CC (u + 200) (wp_X8_end 1 (nI n) c) (wp_X9_end 1 (nI n) r) := by
          intro n hn a hf ha
          refine tm_CC_same h a (fun K hK => ?_) (fun K hK => ?_)
          · unfold wp_X8_end; rw [p_modemAt]
            exact ⟨fun q => absurd q (by decide), fun _ => hf _ (out a K hK), fun q => absurd q (by decide)⟩
          · unfold wp_X9_end; have g15 : ¬ (15 : Int32) < nI n := fun q => absurd ((nI_ltI (a := 15) (by decide) (by omega)).mp q) (by omega)
            rw [p_isEnd, p_within, if_neg (nI_pos (by omega)), if_neg g15]
            refine ⟨fun _ => ⟨fun q => absurd q (by decide), fun _ => ?_⟩, fun q => absurd q (by decide)⟩
            refine (p_ofk n (nI n) rfl (by omega) (e := 1) (by decide) r _).mpr ?_
            rw [← ha]
            exact hK
        rcases (show N = 0 ∨ N = 1 ∨ N = 2 ∨ N = 3 ∨ N = 4 ∨ N = 5 ∨ N = 6 ∨ N = 7 ∨ N = 8 ∨ N = 9 ∨ N = 10 ∨ N = 11 ∨ N = 12 ∨ N = 13 ∨ N = 14 ∨ N = 15 by omega) with e | e | e | e | e | e | e | e | e | e | e | e | e | e | e | e
        · subst e
          refine run 0 (by decide) (c 22 6) (fun K hK => ?_) m0
          unfold wp_X3_fact
          exact ⟨fun _ => hK, fun q => absurd rfl q⟩
        · subst e
          refine run 1 (by decide) (c 22 8) (fun K hK => ?_) m1
          unfold wp_X3_fact
          exact ⟨fun q => absurd q (by decide), fun _ => ⟨fun _ => hK, fun q => absurd rfl q⟩⟩
        · subst e
          refine run 2 (by decide) (c 22 10) (fun K hK => ?_) m2
          unfold wp_X3_fact
          exact ⟨fun q => absurd q (by decide), fun _ => ⟨fun q => absurd q (by decide), fun _ => ⟨fun _ => hK, fun q => absurd rfl q⟩⟩⟩
        · subst e
          refine run 3 (by decide) (c 22 11) (fun K hK => ?_) m3
          unfold wp_X3_fact
          exact ⟨fun q => absurd q (by decide), fun _ => ⟨fun q => absurd q (by decide), fun _ => ⟨fun q => absurd q (by decide), fun _ => ⟨fun _ => hK, fun q => absurd rfl q⟩⟩⟩⟩
        · subst e
          refine run 4 (by decide) (c 22 12) (fun K hK => ?_) m4
          unfold wp_X3_fact
          exact ⟨fun q => absurd q (by decide), fun _ => ⟨fun q => absurd q (by decide), fun _ => ⟨fun q => absurd q (by decide), fun _ => ⟨fun q => absurd q (by decide), fun _ => ⟨fun _ => hK, fun q => absurd rfl q⟩⟩⟩⟩⟩
        · subst e
          refine run 5 (by decide) (c 22 13) (fun K hK => ?_) m5
          unfold wp_X3_fact
          exact ⟨fun q => absurd q (by decide), fun _ => ⟨fun q => absurd q (by decide), fun _ => ⟨fun q => absurd q (by decide), fun _ => ⟨fun q => absurd q (by decide), fun _ => ⟨fun q => absurd q (by decide), fun _ => ⟨fun _ => hK, fun q => absurd rfl q⟩⟩⟩⟩⟩⟩
        · subst e
          refine run 6 (by decide) (c 26 2) (fun K hK => ?_) m6
          unfold wp_X3_fact
          exact ⟨fun q => absurd q (by decide), fun _ => ⟨fun q => absurd q (by decide), fun _ => ⟨fun q => absurd q (by decide), fun _ => ⟨fun q => absurd q (by decide), fun _ => ⟨fun q => absurd q (by decide), fun _ => ⟨fun q => absurd q (by decide), fun _ => ⟨fun _ => hK, fun q => absurd rfl q⟩⟩⟩⟩⟩⟩⟩
        · subst e
          refine run 7 (by decide) (c 26 5) (fun K hK => ?_) m7
          unfold wp_X3_fact
          exact ⟨fun q => absurd q (by decide), fun _ => ⟨fun q => absurd q (by decide), fun _ => ⟨fun q => absurd q (by decide), fun _ => ⟨fun q => absurd q (by decide), fun _ => ⟨fun q => absurd q (by decide), fun _ => ⟨fun q => absurd q (by decide), fun _ => ⟨fun q => absurd q (by decide), fun _ => ⟨fun _ => hK, fun q => absurd rfl q⟩⟩⟩⟩⟩⟩⟩⟩
        · subst e
          refine run 8 (by decide) (c 26 4) (fun K hK => ?_) m8
          unfold wp_X3_fact
          exact ⟨fun q => absurd q (by decide), fun _ => ⟨fun q => absurd q (by decide), fun _ => ⟨fun q => absurd q (by decide), fun _ => ⟨fun q => absurd q (by decide), fun _ => ⟨fun q => absurd q (by decide), fun _ => ⟨fun q => absurd q (by decide), fun _ => ⟨fun q => absurd q (by decide), fun _ => ⟨fun q => absurd q (by decide), fun _ => ⟨fun _ => hK, fun q => absurd rfl q⟩⟩⟩⟩⟩⟩⟩⟩⟩
        · subst e
          refine run 9 (by decide) (c 26 3) (fun K hK => ?_) m9
          unfold wp_X3_fact
          exact ⟨fun q => absurd q (by decide), fun _ => ⟨fun q => absurd q (by decide), fun _ => ⟨fun q => absurd q (by decide), fun _ => ⟨fun q => absurd q (by decide), fun _ => ⟨fun q => absurd q (by decide), fun _ => ⟨fun q => absurd q (by decide), fun _ => ⟨fun q => absurd q (by decide), fun _ => ⟨fun q => absurd q (by decide), fun _ => ⟨fun q => absurd q (by decide), fun _ => ⟨fun _ => hK, fun q => absurd rfl q⟩⟩⟩⟩⟩⟩⟩⟩⟩⟩
        · subst e
          refine run 10 (by decide) (c 22 14) (fun K hK => ?_) m10
          unfold wp_X3_fact
          exact ⟨fun q => absurd q (by decide), fun _ => ⟨fun q => absurd q (by decide), fun _ => ⟨fun q => absurd q (by decide), fun _ => ⟨fun q => absurd q (by decide), fun _ => ⟨fun q => absurd q (by decide), fun _ => ⟨fun q => absurd q (by decide), fun _ => ⟨fun q => absurd q (by decide), fun _ => ⟨fun q => absurd q (by decide), fun _ => ⟨fun q => absurd q (by decide), fun _ => ⟨fun q => absurd q (by decide), fun _ => ⟨fun _ => hK, fun q => absurd rfl q⟩⟩⟩⟩⟩⟩⟩⟩⟩⟩⟩
        · subst e
          refine run 11 (by decide) (c 22 15) (fun K hK => ?_) m11
          unfold wp_X3_fact
          exact ⟨fun q => absurd q (by decide), fun _ => ⟨fun q => absurd q (by decide), fun _ => ⟨fun q => absurd q (by decide), fun _ => ⟨fun q => absurd q (by decide), fun _ => ⟨fun q => absurd q (by decide), fun _ => ⟨fun q => absurd q (by decide), fun _ => ⟨fun q => absurd q (by decide), fun _ => ⟨fun q => absurd q (by decide), fun _ => ⟨fun q => absurd q (by decide), fun _ => ⟨fun q => absurd q (by decide), fun _ => ⟨fun q => absurd q (by decide), fun _ => ⟨fun _ => hK, fun q => absurd rfl q⟩⟩⟩⟩⟩⟩⟩⟩⟩⟩⟩⟩
        · subst e
          refine run 12 (by decide) (c 22 17) (fun K hK => ?_) m12
          unfold wp_X3_fact
          exact ⟨fun q => absurd q (by decide), fun _ => ⟨fun q => absurd q (by decide), fun _ => ⟨fun q => absurd q (by decide), fun _ => ⟨fun q => absurd q (by decide), fun _ => ⟨fun q => absurd q (by decide), fun _ => ⟨fun q => absurd q (by decide), fun _ => ⟨fun q => absurd q (by decide), fun _ => ⟨fun q => absurd q (by decide), fun _ => ⟨fun q => absurd q (by decide), fun _ => ⟨fun q => absurd q (by decide), fun _ => ⟨fun q => absurd q (by decide), fun _ => ⟨fun q => absurd q (by decide), fun _ => ⟨fun _ => hK, fun q => absurd rfl q⟩⟩⟩⟩⟩⟩⟩⟩⟩⟩⟩⟩⟩
        · subst e
          refine run 13 (by decide) (c 22 18) (fun K hK => ?_) m13
          unfold wp_X3_fact
          exact ⟨fun q => absurd q (by decide), fun _ => ⟨fun q => absurd q (by decide), fun _ => ⟨fun q => absurd q (by decide), fun _ => ⟨fun q => absurd q (by decide), fun _ => ⟨fun q => absurd q (by decide), fun _ => ⟨fun q => absurd q (by decide), fun _ => ⟨fun q => absurd q (by decide), fun _ => ⟨fun q => absurd q (by decide), fun _ => ⟨fun q => absurd q (by decide), fun _ => ⟨fun q => absurd q (by decide), fun _ => ⟨fun q => absurd q (by decide), fun _ => ⟨fun q => absurd q (by decide), fun _ => ⟨fun q => absurd q (by decide), fun _ => ⟨fun _ => hK, fun q => absurd rfl q⟩⟩⟩⟩⟩⟩⟩⟩⟩⟩⟩⟩⟩⟩
        · subst e
          refine run 14 (by decide) (c 22 19) (fun K hK => ?_) m14
          unfold wp_X3_fact
          exact ⟨fun q => absurd q (by decide), fun _ => ⟨fun q => absurd q (by decide), fun _ => ⟨fun q => absurd q (by decide), fun _ => ⟨fun q => absurd q (by decide), fun _ => ⟨fun q => absurd q (by decide), fun _ => ⟨fun q => absurd q (by decide), fun _ => ⟨fun q => absurd q (by decide), fun _ => ⟨fun q => absurd q (by decide), fun _ => ⟨fun q => absurd q (by decide), fun _ => ⟨fun q => absurd q (by decide), fun _ => ⟨fun q => absurd q (by decide), fun _ => ⟨fun q => absurd q (by decide), fun _ => ⟨fun q => absurd q (by decide), fun _ => ⟨fun q => absurd q (by decide), fun _ => ⟨fun _ => hK, fun q => absurd rfl q⟩⟩⟩⟩⟩⟩⟩⟩⟩⟩⟩⟩⟩⟩⟩
        · subst e
          refine run 15 (by decide) (c 22 16) (fun K hK => ?_) m15
          unfold wp_X3_fact
          exact ⟨fun q => absurd q (by decide), fun _ => ⟨fun q => absurd q (by decide), fun _ => ⟨fun q => absurd q (by decide), fun _ => ⟨fun q => absurd q (by decide), fun _ => ⟨fun q => absurd q (by decide), fun _ => ⟨fun q => absurd q (by decide), fun _ => ⟨fun q => absurd q (by decide), fun _ => ⟨fun q => absurd q (by decide), fun _ => ⟨fun q => absurd q (by decide), fun _ => ⟨fun q => absurd q (by decide), fun _ => ⟨fun q => absurd q (by decide), fun _ => ⟨fun q => absurd q (by decide), fun _ => ⟨fun q => absurd q (by decide), fun _ => ⟨fun q => absurd q (by decide), fun _ => ⟨fun q => absurd q (by decide), fun _ => ⟨fun _ => hK, fun q => absurd rfl q⟩⟩⟩⟩⟩⟩⟩⟩⟩⟩⟩⟩⟩⟩⟩⟩
  · refine tm_CC_same h (-1001) (fun K hK => ?_) (fun K hK => ?_)
    · unfold wp_X8_end; rw [p_modemAt, if_neg n0, if_neg n1]
      exact ⟨fun q => absurd q (by decide), fun q => absurd q (by decide), fun _ => hK⟩
    · unfold wp_X9_end; rw [p_isEnd, ni]
      exact ⟨fun q => absurd rfl q, fun _ => hK⟩
/-- a call that leaves both as they are -/
def tm_C0 (c r : tm_St) (A B : (Int32 → tm_St → Prop) → Prop) : Prop := ∃ a : Int32, (∀ K : Int32 → tm_St → Prop, K a c → A K) ∧ (∀ K : Int32 → tm_St → Prop, K a r → B K)
theorem tm_C0_i {c r : tm_St} (a : Int32) {A B : (Int32 → tm_St → Prop) → Prop} (hA : ∀ K : Int32 → tm_St → Prop, K a c → A K) (hB : ∀ K : Int32 → tm_St → Prop, K a r → B K) : tm_C0 c r A B := ⟨a, hA, hB⟩
theorem tm_C0_C {u : Nat} {c r : tm_St} (h : tm_RR u c r) {A B : (Int32 → tm_St → Prop) → Prop} (q : tm_C0 c r A B) : tm_CC (u + 200) A B := by
  obtain ⟨a, hA, hB⟩ := q
  exact tm_CC_same h a hA hB
theorem c_count0 {u : Nat} {c r : tm_St} (h : tm_RR u c r) (p0 : Int32) : tm_C0 c r (wp_X8_count p0 c) (wp_X9_count p0 r) := by
  have h0 := tm_RR_0 h
  obtain ⟨n, -, g1, g2, -⟩ := h.2.2.2.1
  have w0 := h0.2.2.2.2.1
  have w1 := h0.2.2.2.1
  have x0 : c 1 1 = r 0 18 := g1.trans g2.symm
  have x1 : c 0 4 = r 0 12 := h.2.2.2.2.1
  have x2 : c 4 5 = r 12 0 := w0.2.1
  have x3 : c 9 5 = r 12 1 := w1.2.1
  have x4 : c 4 6 = r 13 0 := w0.2.2.1
  have x5 : c 9 6 = r 13 1 := w1.2.2.1
  have x6 : c 14 7 + c 22 7 = r 0 15 := h0.2.2.2.2.2.2.1
  have x7 : c 3 3 = r 0 16 := h.2.2.2.2.2
  have x8 : c 18 6 + c 26 6 = r 0 17 := h0.2.2.2.2.2.2.2.1
  by_cases e0 : p0 = 0
  · refine tm_C0_i (c 1 1) (fun K hK => ?_) (fun K hK => ?_)
    · unfold wp_X8_count
      exact ⟨fun _ => hK, fun q => absurd e0 q⟩
    · unfold wp_X9_count wp_X9_howMany
      rw [x0] at hK
      exact ⟨fun _ => hK, fun q => absurd e0 q⟩
  · skip
    by_cases e1 : p0 = 1
    · refine tm_C0_i (c 0 4) (fun K hK => ?_) (fun K hK => ?_)
      · unfold wp_X8_count
        exact ⟨fun q => absurd q e0, fun _ => ⟨fun _ => hK, fun q => absurd e1 q⟩⟩
      · unfold wp_X9_count wp_X9_howMany
        rw [x1] at hK
        exact ⟨fun q => absurd q e0, fun _ => ⟨fun _ => hK, fun q => absurd e1 q⟩⟩
    · skip
      by_cases e2 : p0 = 2
      · refine tm_C0_i (c 4 5) (fun K hK => ?_) (fun K hK => ?_)
        · unfold wp_X8_count
          exact ⟨fun q => absurd q e0, fun _ => ⟨fun q => absurd q e1, fun _ => ⟨fun _ => hK, fun q => absurd e2 q⟩⟩⟩
        · unfold wp_X9_count wp_X9_howMany
          rw [x2] at hK
          exact ⟨fun q => absurd q e0, fun _ => ⟨fun q => absurd q e1, fun _ => ⟨fun _ => ⟨by unfold vp_in; decide, hK⟩, fun q => absurd e2 q⟩⟩⟩
      · skip
        by_cases e3 : p0 = 3
        · refine tm_C0_i (c 9 5) (fun K hK => ?_) (fun K hK => ?_)
          · unfold wp_X8_count
            exact ⟨fun q => absurd q e0, fun _ => ⟨fun q => absurd q e1, fun _ => ⟨fun q => absurd q e2, fun _ => ⟨fun _ => hK, fun q => absurd e3 q⟩⟩⟩⟩
          · unfold wp_X9_count wp_X9_howMany
            rw [x3] at hK
            exact ⟨fun q => absurd q e0, fun _ => ⟨fun q => absurd q e1, fun _ => ⟨fun q => absurd q e2, fun _ => ⟨fun _ => ⟨by unfold vp_in; decide, hK⟩, fun q => absurd e3 q⟩⟩⟩⟩
        · skip
          by_cases e4 : p0 = 4
          · refine tm_C0_i (c 4 6) (fun K hK => ?_) (fun K hK => ?_)
            · unfold wp_X8_count
              exact ⟨fun q => absurd q e0, fun _ => ⟨fun q => absurd q e1, fun _ => ⟨fun q => absurd q e2, fun _ => ⟨fun q => absurd q e3, fun _ => ⟨fun _ => hK, fun q => absurd e4 q⟩⟩⟩⟩⟩
            · unfold wp_X9_count wp_X9_howMany
              rw [x4] at hK
              exact ⟨fun q => absurd q e0, fun _ => ⟨fun q => absurd q e1, fun _ => ⟨fun q => absurd q e2, fun _ => ⟨fun q => absurd q e3, fun _ => ⟨fun _ => ⟨by unfold vp_in; decide, hK⟩, fun q => absurd e4 q⟩⟩⟩⟩⟩
          · skip
            by_cases e5 : p0 = 5
            · refine tm_C0_i (c 9 6) (fun K hK => ?_) (fun K hK => ?_)
              · unfold wp_X8_count
                exact ⟨fun q => absurd q e0, fun _ => ⟨fun q => absurd q e1, fun _ => ⟨fun q => absurd q e2, fun _ => ⟨fun q => absurd q e3, fun _ => ⟨fun q => absurd q e4, fun _ => ⟨fun _ => hK, fun q => absurd e5 q⟩⟩⟩⟩⟩⟩
              · unfold wp_X9_count wp_X9_howMany
                rw [x5] at hK
                exact ⟨fun q => absurd q e0, fun _ => ⟨fun q => absurd q e1, fun _ => ⟨fun q => absurd q e2, fun _ => ⟨fun q => absurd q e3, fun _ => ⟨fun q => absurd q e4, fun _ => ⟨fun _ => ⟨by unfold vp_in; decide, hK⟩, fun q => absurd e5 q⟩⟩⟩⟩⟩⟩
            · skip
              by_cases e6 : p0 = 6
              · refine tm_C0_i (c 14 7 + c 22 7) (fun K hK => ?_) (fun K hK => ?_)
                · unfold wp_X8_count
                  exact ⟨fun q => absurd q e0, fun _ => ⟨fun q => absurd q e1, fun _ => ⟨fun q => absurd q e2, fun _ => ⟨fun q => absurd q e3, fun _ => ⟨fun q => absurd q e4, fun _ => ⟨fun q => absurd q e5, fun _ => ⟨fun _ => hK, fun q => absurd e6 q⟩⟩⟩⟩⟩⟩⟩
                · unfold wp_X9_count wp_X9_howMany
                  rw [x6] at hK
                  exact ⟨fun q => absurd q e0, fun _ => ⟨fun q => absurd q e1, fun _ => ⟨fun q => absurd q e2, fun _ => ⟨fun q => absurd q e3, fun _ => ⟨fun q => absurd q e4, fun _ => ⟨fun q => absurd q e5, fun _ => ⟨fun _ => hK, fun q => absurd e6 q⟩⟩⟩⟩⟩⟩⟩
              · skip
                by_cases e7 : p0 = 7
                · refine tm_C0_i (c 3 3) (fun K hK => ?_) (fun K hK => ?_)
                  · unfold wp_X8_count
                    exact ⟨fun q => absurd q e0, fun _ => ⟨fun q => absurd q e1, fun _ => ⟨fun q => absurd q e2, fun _ => ⟨fun q => absurd q e3, fun _ => ⟨fun q => absurd q e4, fun _ => ⟨fun q => absurd q e5, fun _ => ⟨fun q => absurd q e6, fun _ => ⟨fun _ => hK, fun q => absurd e7 q⟩⟩⟩⟩⟩⟩⟩⟩
                  · unfold wp_X9_count wp_X9_howMany
                    rw [x7] at hK
                    exact ⟨fun q => absurd q e0, fun _ => ⟨fun q => absurd q e1, fun _ => ⟨fun q => absurd q e2, fun _ => ⟨fun q => absurd q e3, fun _ => ⟨fun q => absurd q e4, fun _ => ⟨fun q => absurd q e5, fun _ => ⟨fun q => absurd q e6, fun _ => ⟨fun _ => hK, fun q => absurd e7 q⟩⟩⟩⟩⟩⟩⟩⟩
                · skip
                  by_cases e8 : p0 = 8
                  · refine tm_C0_i (c 18 6 + c 26 6) (fun K hK => ?_) (fun K hK => ?_)
                    · unfold wp_X8_count
                      exact ⟨fun q => absurd q e0, fun _ => ⟨fun q => absurd q e1, fun _ => ⟨fun q => absurd q e2, fun _ => ⟨fun q => absurd q e3, fun _ => ⟨fun q => absurd q e4, fun _ => ⟨fun q => absurd q e5, fun _ => ⟨fun q => absurd q e6, fun _ => ⟨fun q => absurd q e7, fun _ => ⟨fun _ => hK, fun q => absurd e8 q⟩⟩⟩⟩⟩⟩⟩⟩⟩
                    · unfold wp_X9_count wp_X9_howMany
                      rw [x8] at hK
                      exact ⟨fun q => absurd q e0, fun _ => ⟨fun q => absurd q e1, fun _ => ⟨fun q => absurd q e2, fun _ => ⟨fun q => absurd q e3, fun _ => ⟨fun q => absurd q e4, fun _ => ⟨fun q => absurd q e5, fun _ => ⟨fun q => absurd q e6, fun _ => ⟨fun q => absurd q e7, fun _ => ⟨fun _ => hK, fun q => absurd e8 q⟩⟩⟩⟩⟩⟩⟩⟩⟩
                  · skip
                    refine tm_C0_i (-1002) (fun K hK => ?_) (fun K hK => ?_)
                    · unfold wp_X8_count
                      exact ⟨fun q => absurd q e0, fun _ => ⟨fun q => absurd q e1, fun _ => ⟨fun q => absurd q e2, fun _ => ⟨fun q => absurd q e3, fun _ => ⟨fun q => absurd q e4, fun _ => ⟨fun q => absurd q e5, fun _ => ⟨fun q => absurd q e6, fun _ => ⟨fun q => absurd q e7, fun _ => ⟨fun q => absurd q e8, fun _ => hK⟩⟩⟩⟩⟩⟩⟩⟩⟩
                    · unfold wp_X9_count wp_X9_howMany
                      exact ⟨fun q => absurd q e0, fun _ => ⟨fun q => absurd q e1, fun _ => ⟨fun q => absurd q e2, fun _ => ⟨fun q => absurd q e3, fun _ => ⟨fun q => absurd q e4, fun _ => ⟨fun q => absurd q e5, fun _ => ⟨fun q => absurd q e6, fun _ => ⟨fun q => absurd q e7, fun _ => ⟨fun q => absurd q e8, fun _ => hK⟩⟩⟩⟩⟩⟩⟩⟩⟩
theorem c_count {u : Nat} {c r : tm_St} (h : tm_RR u c r) (p0 : Int32) : tm_CC (u + 200) (wp_X8_count p0 c) (wp_X9_count p0 r) := tm_C0_C h (c_count0 h p0)
