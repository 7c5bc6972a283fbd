theorem s_hears {e : Nat} (he : e < 2) {c7 c6 : Int32} {u S X T G S' X' T' G' : Nat} {σ r : tm_St} (h : tm_Q e c7 c6 u S X T G S' X' T' G' σ r) (h26 : r 0 26 = 0) (hq : σ 0 6 = 7 → σ 0 9 = r 1 (24 * e + 16)) (hH : tm_H e S' G' (σ 11) r) : ∃ σ' r' : tm_St, (∀ K : tm_St → Prop, K σ' → wp_X3_hear σ K) ∧ (∀ K : tm_St → Prop, K r' → wp_X9_hearsIn (nI e) r K) ∧ tm_P e c7 c6 u S S' X' T' G' σ r σ' r' := by
  have l0 : σ 11 0 = r 7 (5 * e) := h.1.2.2.2.2.2.1 0 (by decide)
  have l1 : σ 11 1 = r 7 (5 * e + 1) := h.1.2.2.2.2.2.1 1 (by decide)
  have l2 : σ 11 2 = r 7 (5 * e + 2) := h.1.2.2.2.2.2.1 2 (by decide)
  have l3 : σ 11 3 = r 7 (5 * e + 3) := h.1.2.2.2.2.2.1 3 (by decide)
  have l4 : σ 11 4 = r 7 (5 * e + 4) := h.1.2.2.2.2.2.1 4 (by decide)
  have m0 : σ 0 6 = r 1 (24 * e) := h.1.1.1
  have m2 : σ 0 10 = r 1 (24 * e + 2) := h.1.1.2.2.1
  have m3 : σ 0 11 = r 1 (24 * e + 3) := h.1.1.2.2.2.1
  obtain ⟨p, hp, ep⟩ := h.2.1.1
  have mp : σ 0 6 = nI p := m0.trans ep
  rcases (show p = 0 ∨ p = 1 ∨ p = 2 ∨ p = 3 ∨ p = 4 ∨ p = 5 ∨ p = 6 ∨ p = 7 by omega) with q | q | q | q | q | q | q | q <;> subst q
  · have n7 : ¬ σ 0 6 = 7 := fun z => absurd (mp.symm.trans z) (by decide)
    by_cases c : r 7 (5 * e) = 1
    · refine ⟨tm_come 2 σ, tm_into e 2 r, fun K hK => ?_, fun K hK => ?_, P_come (p := 2) he ⟨h, tm_F_rf e r, tm_FC_rf σ⟩ rfl rfl rfl (by decide) (by decide)⟩
      · unfold wp_X3_hear
        rw [p_sortA, l0, c]
        exact ⟨fun _ => ⟨fun z => absurd rfl z, fun _ => (p_come_o 2 (by decide) (by decide) (by decide) _ _).mpr hK⟩, fun z => absurd mp z⟩
      · unfold wp_X9_hearsIn
        rw [p_of_0 he, ep]
        refine ⟨fun _ => ?_, fun z => absurd rfl z⟩
        rw [p_ear_0 he, c]
        exact ⟨fun z => absurd rfl z, fun _ => (p_into_o he 2 (by decide) (by decide) (by decide) _ _).mpr hK⟩
    · refine ⟨σ, r, fun K hK => ?_, fun K hK => ?_, P_none h h26 n7⟩
      · unfold wp_X3_hear
        rw [p_sortA, l0]
        exact ⟨fun _ => ⟨fun _ => hK, fun z => absurd z c⟩, fun z => absurd mp z⟩
      · unfold wp_X9_hearsIn
        rw [p_of_0 he, ep]
        refine ⟨fun _ => ?_, fun z => absurd rfl z⟩
        rw [p_ear_0 he]
        exact ⟨fun _ => hK, fun z => absurd z c⟩
  · have n7 : ¬ σ 0 6 = 7 := fun z => absurd (mp.symm.trans z) (by decide)
    have n0 : ¬ σ 0 6 = 0 := fun z => absurd (mp.symm.trans z) (by decide)
    by_cases c : r 7 (5 * e) = 2
    · refine ⟨_, _, fun K hK => ?_, fun K hK => ?_, P_come3 he h⟩
      · unfold wp_X3_hear
        rw [p_sortA, l0, c]
        exact ⟨fun z => absurd z n0, fun _ => ⟨fun _ => ⟨fun z => absurd rfl z, fun _ => p_come_3 _ _ hK⟩, fun z => absurd mp z⟩⟩
      · unfold wp_X9_hearsIn
        rw [p_of_0 he, ep]
        refine ⟨fun z => absurd z (by decide), fun _ => ⟨fun _ => ?_, fun z => absurd rfl z⟩⟩
        rw [p_ear_0 he, c]
        exact ⟨fun z => absurd rfl z, fun _ => p_into_3 he _ _ hK⟩
    · refine ⟨σ, r, fun K hK => ?_, fun K hK => ?_, P_none h h26 n7⟩
      · unfold wp_X3_hear
        rw [p_sortA, l0]
        exact ⟨fun z => absurd z n0, fun _ => ⟨fun _ => ⟨fun _ => hK, fun z => absurd z c⟩, fun z => absurd mp z⟩⟩
      · unfold wp_X9_hearsIn
        rw [p_of_0 he, ep]
        refine ⟨fun z => absurd z (by decide), fun _ => ⟨fun _ => ?_, fun z => absurd rfl z⟩⟩
        rw [p_ear_0 he]
        exact ⟨fun _ => hK, fun z => absurd z c⟩
  · have n7 : ¬ σ 0 6 = 7 := fun z => absurd (mp.symm.trans z) (by decide)
    have n0 : ¬ σ 0 6 = 0 := fun z => absurd (mp.symm.trans z) (by decide)
    have n1 : ¬ σ 0 6 = 1 := fun z => absurd (mp.symm.trans z) (by decide)
    by_cases c : r 7 (5 * e) = 3
    · obtain ⟨b, hb, eb⟩ := hH.1 c
      refine ⟨_, _, fun K hK => ?_, fun K hK => ?_, P_note he (P_come3 he h) hb⟩
      · unfold wp_X3_hear
        rw [p_sortA, l0, c]
        refine ⟨fun z => absurd z n0, fun _ => ⟨fun z => absurd z n1, fun _ => ⟨fun _ => ⟨fun z => absurd rfl z, fun _ => p_come_3 _ _ ?_⟩, fun z => absurd mp z⟩⟩⟩
        rw [p_firstA]
        rw [show (tm_s (tm_come 3 σ) 7 (tm_fl (σ 7) 0 8)) 11 1 = nI b from l1.trans eb, p_noteC hb]
        exact hK
      · unfold wp_X9_hearsIn
        rw [p_of_0 he, ep]
        refine ⟨fun z => absurd z (by decide), fun _ => ⟨fun z => absurd z (by decide), fun _ => ⟨fun _ => ?_, fun z => absurd rfl z⟩⟩⟩
        unfold wp_X9_answers
        rw [p_ear_0 he, c]
        refine ⟨fun z => absurd rfl z, fun _ => p_into_3 he _ _ ?_⟩
        rw [p_noteR he hb]
        · exact hK
        · exact eb
    · refine ⟨σ, r, fun K hK => ?_, fun K hK => ?_, P_none h h26 n7⟩
      · unfold wp_X3_hear
        rw [p_sortA, l0]
        exact ⟨fun z => absurd z n0, fun _ => ⟨fun z => absurd z n1, fun _ => ⟨fun _ => ⟨fun _ => hK, fun z => absurd z c⟩, fun z => absurd mp z⟩⟩⟩
      · unfold wp_X9_hearsIn
        rw [p_of_0 he, ep]
        refine ⟨fun z => absurd z (by decide), fun _ => ⟨fun z => absurd z (by decide), fun _ => ⟨fun _ => ?_, fun z => absurd rfl z⟩⟩⟩
        unfold wp_X9_answers
        rw [p_ear_0 he]
        exact ⟨fun _ => hK, fun z => absurd z c⟩
  · have n7 : ¬ σ 0 6 = 7 := fun z => absurd (mp.symm.trans z) (by decide)
    have n0 : ¬ σ 0 6 = 0 := fun z => absurd (mp.symm.trans z) (by decide)
    have n1 : ¬ σ 0 6 = 1 := fun z => absurd (mp.symm.trans z) (by decide)
    have n2 : ¬ σ 0 6 = 2 := fun z => absurd (mp.symm.trans z) (by decide)
    by_cases c : r 7 (5 * e) = 3
    · obtain ⟨b, hb, eb⟩ := hH.1 c
      refine ⟨_, _, fun K hK => ?_, fun K hK => ?_, P_note he (P_none h h26 n7) hb⟩
      · unfold wp_X3_hear
        rw [p_sortA, l0, c]
        refine ⟨fun z => absurd z n0, fun _ => ⟨fun z => absurd z n1, fun _ => ⟨fun z => absurd z n2, fun _ => ⟨fun _ => ⟨fun z => absurd rfl z, fun _ => ?_⟩, fun z => absurd mp z⟩⟩⟩⟩
        rw [p_firstA, l1, eb, p_noteC hb]
        exact hK
      · unfold wp_X9_hearsIn
        rw [p_of_0 he, ep]
        refine ⟨fun z => absurd z (by decide), fun _ => ⟨fun z => absurd z (by decide), fun _ => ⟨fun z => absurd z (by decide), fun _ => ⟨fun _ => ?_, fun z => absurd rfl z⟩⟩⟩⟩
        rw [p_ear_0 he, c]
        refine ⟨fun z => absurd rfl z, fun _ => ?_⟩
        rw [p_noteR he hb]
        · exact hK
        · exact eb
    · refine ⟨σ, r, fun K hK => ?_, fun K hK => ?_, P_none h h26 n7⟩
      · unfold wp_X3_hear
        rw [p_sortA, l0]
        exact ⟨fun z => absurd z n0, fun _ => ⟨fun z => absurd z n1, fun _ => ⟨fun z => absurd z n2, fun _ => ⟨fun _ => ⟨fun _ => hK, fun z => absurd z c⟩, fun z => absurd mp z⟩⟩⟩⟩
      · unfold wp_X9_hearsIn
        rw [p_of_0 he, ep]
        refine ⟨fun z => absurd z (by decide), fun _ => ⟨fun z => absurd z (by decide), fun _ => ⟨fun z => absurd z (by decide), fun _ => ⟨fun _ => ?_, fun z => absurd rfl z⟩⟩⟩⟩
        rw [p_ear_0 he]
        exact ⟨fun _ => hK, fun z => absurd z c⟩
  · have n0 : ¬ σ 0 6 = 0 := fun z => absurd (mp.symm.trans z) (by decide)
    have n1 : ¬ σ 0 6 = 1 := fun z => absurd (mp.symm.trans z) (by decide)
    have n2 : ¬ σ 0 6 = 2 := fun z => absurd (mp.symm.trans z) (by decide)
    have n3 : ¬ σ 0 6 = 3 := fun z => absurd (mp.symm.trans z) (by decide)
    have n7 : ¬ σ 0 6 = 7 := fun z => absurd (mp.symm.trans z) (by decide)
    refine ⟨σ, r, fun K hK => ?_, fun K hK => ?_, P_none h h26 n7⟩
    · unfold wp_X3_hear
      rw [p_sortA]
      exact ⟨fun z => absurd z n0, fun _ => ⟨fun z => absurd z n1, fun _ => ⟨fun z => absurd z n2, fun _ => ⟨fun z => absurd z n3, fun _ => ⟨fun _ => hK, fun z => absurd mp z⟩⟩⟩⟩⟩
    · unfold wp_X9_hearsIn
      rw [p_of_0 he, ep]
      exact ⟨fun z => absurd z (by decide), fun _ => ⟨fun z => absurd z (by decide), fun _ => ⟨fun z => absurd z (by decide), fun _ => ⟨fun z => absurd z (by decide), fun _ => ⟨fun _ => hK, fun z => absurd rfl z⟩⟩⟩⟩⟩
  · have n0 : ¬ σ 0 6 = 0 := fun z => absurd (mp.symm.trans z) (by decide)
    have n1 : ¬ σ 0 6 = 1 := fun z => absurd (mp.symm.trans z) (by decide)
    have n2 : ¬ σ 0 6 = 2 := fun z => absurd (mp.symm.trans z) (by decide)
    have n3 : ¬ σ 0 6 = 3 := fun z => absurd (mp.symm.trans z) (by decide)
    have n4 : ¬ σ 0 6 = 4 := fun z => absurd (mp.symm.trans z) (by decide)
    have n7 : ¬ σ 0 6 = 7 := fun z => absurd (mp.symm.trans z) (by decide)
    obtain ⟨σ', r', k1, k2, k3⟩ := s_bargain he h h26 n7 hH
    refine ⟨σ', r', fun K hK => ?_, fun K hK => ?_, k3⟩
    · have := k1 K hK
      unfold wp_X3_hear
      rw [p_sortA]
      exact ⟨fun z => absurd z n0, fun _ => ⟨fun z => absurd z n1, fun _ => ⟨fun z => absurd z n2, fun _ => ⟨fun z => absurd z n3, fun _ => ⟨fun z => absurd z n4, fun _ => ⟨fun _ => this, fun z => absurd mp z⟩⟩⟩⟩⟩⟩
    · have := k2 K hK
      unfold wp_X9_hearsIn
      rw [p_of_0 he, ep]
      exact ⟨fun z => absurd z (by decide), fun _ => ⟨fun z => absurd z (by decide), fun _ => ⟨fun z => absurd z (by decide), fun _ => ⟨fun z => absurd z (by decide), fun _ => ⟨fun z => absurd z (by decide), fun _ => ⟨fun _ => this, fun z => absurd rfl z⟩⟩⟩⟩⟩⟩
  · have n0 : ¬ σ 0 6 = 0 := fun z => absurd (mp.symm.trans z) (by decide)
    have n1 : ¬ σ 0 6 = 1 := fun z => absurd (mp.symm.trans z) (by decide)
    have n2 : ¬ σ 0 6 = 2 := fun z => absurd (mp.symm.trans z) (by decide)
    have n3 : ¬ σ 0 6 = 3 := fun z => absurd (mp.symm.trans z) (by decide)
    have n4 : ¬ σ 0 6 = 4 := fun z => absurd (mp.symm.trans z) (by decide)
    have n5 : ¬ σ 0 6 = 5 := fun z => absurd (mp.symm.trans z) (by decide)
    have n7 : ¬ σ 0 6 = 7 := fun z => absurd (mp.symm.trans z) (by decide)
    obtain ⟨σ', r', k1, k2, k3⟩ := s_agree he h h26 n7
    refine ⟨σ', r', fun K hK => ?_, fun K hK => ?_, k3⟩
    · have := k1 K hK
      unfold wp_X3_hear
      rw [p_sortA]
      exact ⟨fun z => absurd z n0, fun _ => ⟨fun z => absurd z n1, fun _ => ⟨fun z => absurd z n2, fun _ => ⟨fun z => absurd z n3, fun _ => ⟨fun z => absurd z n4, fun _ => ⟨fun z => absurd z n5, fun _ => ⟨fun _ => this, fun z => absurd mp z⟩⟩⟩⟩⟩⟩⟩
    · have := k2 K hK
      unfold wp_X9_hearsIn
      rw [p_of_0 he, ep]
      exact ⟨fun z => absurd z (by decide), fun _ => ⟨fun z => absurd z (by decide), fun _ => ⟨fun z => absurd z (by decide), fun _ => ⟨fun z => absurd z (by decide), fun _ => ⟨fun z => absurd z (by decide), fun _ => ⟨fun z => absurd z (by decide), fun _ => ⟨fun _ => this, fun z => absurd rfl z⟩⟩⟩⟩⟩⟩⟩
  · have n0 : ¬ σ 0 6 = 0 := fun z => absurd (mp.symm.trans z) (by decide)
    have n1 : ¬ σ 0 6 = 1 := fun z => absurd (mp.symm.trans z) (by decide)
    have n2 : ¬ σ 0 6 = 2 := fun z => absurd (mp.symm.trans z) (by decide)
    have n3 : ¬ σ 0 6 = 3 := fun z => absurd (mp.symm.trans z) (by decide)
    have n4 : ¬ σ 0 6 = 4 := fun z => absurd (mp.symm.trans z) (by decide)
    have n5 : ¬ σ 0 6 = 5 := fun z => absurd (mp.symm.trans z) (by decide)
    have n6 : ¬ σ 0 6 = 6 := fun z => absurd (mp.symm.trans z) (by decide)
    obtain ⟨σ', r', k1, k2, k3⟩ := s_data he h h26 (hq mp) mp hH
    refine ⟨σ', r', fun K hK => ?_, fun K hK => ?_, k3⟩
    · have := k1 K hK
      unfold wp_X3_hear
      rw [p_sortA]
      exact ⟨fun z => absurd z n0, fun _ => ⟨fun z => absurd z n1, fun _ => ⟨fun z => absurd z n2, fun _ => ⟨fun z => absurd z n3, fun _ => ⟨fun z => absurd z n4, fun _ => ⟨fun z => absurd z n5, fun _ => ⟨fun z => absurd z n6, fun _ => ⟨fun _ => this, fun z => absurd mp z⟩⟩⟩⟩⟩⟩⟩⟩
    · have := k2 K hK
      unfold wp_X9_hearsIn
      rw [p_of_0 he, ep]
      exact ⟨fun z => absurd z (by decide), fun _ => ⟨fun z => absurd z (by decide), fun _ => ⟨fun z => absurd z (by decide), fun _ => ⟨fun z => absurd z (by decide), fun _ => ⟨fun z => absurd z (by decide), fun _ => ⟨fun z => absurd z (by decide), fun _ => ⟨fun z => absurd z (by decide), fun _ => this⟩⟩⟩⟩⟩⟩⟩
