theorem tm_RR_rf {u : Nat} {c r ρ : tm_St} (h : tm_RR u c r) (hr : tm_rf r ρ) : tm_RR u c ρ := by
  have e1 : ρ 1 = r 1 := hr.1 1 (by decide) (by decide) (by decide)
  have e2 : ρ 2 = r 2 := hr.1 2 (by decide) (by decide) (by decide)
  have e3 : ρ 3 = r 3 := hr.1 3 (by decide) (by decide) (by decide)
  have e4 : ρ 4 = r 4 := hr.1 4 (by decide) (by decide) (by decide)
  have e5 : ρ 5 = r 5 := hr.1 5 (by decide) (by decide) (by decide)
  have e6 : ρ 6 = r 6 := hr.1 6 (by decide) (by decide) (by decide)
  have e7 : ρ 7 = r 7 := hr.1 7 (by decide) (by decide) (by decide)
  have e8 : ρ 8 = r 8 := hr.1 8 (by decide) (by decide) (by decide)
  have e9 : ρ 9 = r 9 := hr.1 9 (by decide) (by decide) (by decide)
  have e10 : ρ 10 = r 10 := hr.1 10 (by decide) (by decide) (by decide)
  have e11 : ρ 11 = r 11 := hr.1 11 (by decide) (by decide) (by decide)
  have e12 : ρ 12 = r 12 := hr.1 12 (by decide) (by decide) (by decide)
  have e13 : ρ 13 = r 13 := hr.1 13 (by decide) (by decide) (by decide)
  have e14 : ρ 14 = r 14 := hr.1 14 (by decide) (by decide) (by decide)
  have f8 : ρ 0 8 = r 0 8 := hr.2 8 (by decide) (by decide) (by decide)
  have f12 : ρ 0 12 = r 0 12 := hr.2 12 (by decide) (by decide) (by decide)
  have f15 : ρ 0 15 = r 0 15 := hr.2 15 (by decide) (by decide) (by decide)
  have f16 : ρ 0 16 = r 0 16 := hr.2 16 (by decide) (by decide) (by decide)
  have f17 : ρ 0 17 = r 0 17 := hr.2 17 (by decide) (by decide) (by decide)
  have f18 : ρ 0 18 = r 0 18 := hr.2 18 (by decide) (by decide) (by decide)
  unfold tm_RR tm_RQ tm_Q tm_L tm_N tm_R tm_W tm_RP
  simp only [e1, e2, e3, e4, e5, e6, e7, e8, e9, e10, e11, e12, e13, e14, f8, f12, f15, f16, f17, f18]
  exact h
theorem s_reads {n : Nat} {g : Nat → Int32} {s : tm_St} (h : tm_pg n g s) {r : tm_St} (h18 : r 0 18 = nI n) (hg : ∀ j, j < n → r 14 j = g j) : ∀ (m i : Nat) (ρ : tm_St), i + m = n → tm_rf r ρ → tm_iv g i ρ → ∃ (k : Nat) (ρ' : tm_St), k ≤ n ∧ tm_rf r ρ' ∧ (k = n → tm_iv g n ρ') ∧ (∀ K : Int32 → tm_St → Prop, K (nI k) s → wp_X4_firstFault_2 K (m + 1) (nI i) s) ∧ (∀ K : Int32 → tm_St → Prop, K (nI k) ρ' → wp_X9_read_26 K (m + 1) (nI i) ρ) := by
  have h30 := h.1
  intro m
  induction m with
  | zero =>
    intro i ρ hi hr hv
    have hi : i = n := by omega
    subst hi
    refine ⟨i, ρ, Nat.le_refl _, hr, fun _ => hv, fun K hK => ?_, fun K hK => ?_⟩
    · unfold wp_X4_firstFault_2
      rw [h.2.1]
      exact ⟨fun _ => hK, fun q => absurd (nI_le (Nat.le_refl _) (by omega)) q⟩
    · unfold wp_X9_read_26
      rw [hr.2 18 (by decide) (by decide) (by decide), h18]
      exact ⟨fun _ => hK, fun q => absurd (nI_le (Nat.le_refl _) (by omega)) q⟩
  | succ m ih =>
    intro i ρ hi hr hv
    obtain ⟨ok, ρ1, a1, a2, a3, a4⟩ := s_take h (k := i) (by omega) hr hv
    have z14 : ρ 14 i = g i := by rw [hr.1 14 (by decide) (by decide) (by decide)]; exact hg i (by omega)
    have nl : ¬ nI n ≤ nI i := nI_ge (by omega) (by omega)
    by_cases c : ok = 0
    · subst c
      refine ⟨i, ρ1, by omega, a3, fun q => absurd q (by omega), fun K hK => ?_, fun K hK => ?_⟩
      · unfold wp_X4_firstFault_2
        rw [h.2.1]
        exact ⟨fun q => absurd q nl, fun _ => a1 _ ⟨fun q => absurd rfl q, fun _ => hK⟩⟩
      · unfold wp_X9_read_26
        rw [hr.2 18 (by decide) (by decide) (by decide), h18, nI_clamp (by omega), z14]
        exact ⟨fun q => absurd q nl, fun _ => ⟨vp_in_nI (by omega) (by decide), a2 _ ⟨fun _ => hK, fun q => absurd rfl q⟩⟩⟩
    · obtain ⟨k, ρ', b1, b2, b3, b4, b5⟩ := ih (i + 1) ρ1 (by omega) a3 (a4 c)
      refine ⟨k, ρ', b1, b2, b3, fun K hK => ?_, fun K hK => ?_⟩
      · unfold wp_X4_firstFault_2
        rw [h.2.1]
        refine ⟨fun q => absurd q nl, fun _ => a1 _ ⟨fun _ x5 e5 => ?_, fun q => absurd q c⟩⟩
        rw [e5, nI_1]
        exact b4 K hK
      · unfold wp_X9_read_26
        rw [hr.2 18 (by decide) (by decide) (by decide), h18, nI_clamp (by omega), z14]
        refine ⟨fun q => absurd q nl, fun _ => ⟨vp_in_nI (by omega) (by decide), a2 _ ⟨fun q => absurd q c, fun _ x5 e5 => ?_⟩⟩⟩
        rw [e5, nI_1]
        exact b5 K hK
theorem s_read {n : Nat} {g : Nat → Int32} {s : tm_St} (h : tm_pg n g s) {r : tm_St} (h18 : r 0 18 = nI n) (hg : ∀ j, j < n → r 14 j = g j) : ∃ (k : Nat) (ρ' : tm_St), k ≤ n ∧ tm_rf r ρ' ∧ (k = n → tm_iv g n ρ') ∧ (∀ K : Int32 → tm_St → Prop, K (nI k) s → wp_X4_firstFault s K) ∧ (∀ K : Int32 → tm_St → Prop, K (nI k) ρ' → wp_X9_read r K) := by
  have hr : tm_rf r (tm_s (tm_s (tm_s (tm_s r 16 (upd (r 16) 0 0)) 16 (upd (upd (r 16) 0 0) 1 0)) 0 (tm_u (r 0) 23 (-1))) 0 (tm_u (tm_u (r 0) 23 (-1)) 24 (-1))) := by
    refine ⟨fun i i0 i15 i16 => ?_, fun q q1 q2 q3 => ?_⟩
    · rw [tm_s_at, if_neg i0, tm_s_at, if_neg i0, tm_s_at, if_neg i16, tm_s_at, if_neg i16]
    · show tm_u (tm_u (r 0) 23 (-1)) 24 (-1) q = _
      rw [tm_u_at, if_neg q3, tm_u_at, if_neg q2]
  obtain ⟨k, ρ', b1, b2, b3, b4, b5⟩ := s_reads h h18 hg n 0 _ (by omega) hr ⟨fun j _ q => absurd q (by omega), fun j _ _ q => absurd q (by omega), fun q => absurd q (by omega), fun _ => ⟨rfl, rfl, rfl⟩, fun q => absurd q (by omega)⟩
  refine ⟨k, ρ', b1, b2, b3, fun K hK => ⟨n + 1, b4 K hK⟩, fun K hK => ?_⟩
  unfold wp_X9_read
  refine ⟨by unfold vp_in; decide, fun s2 e2 => ⟨by unfold vp_in; decide, fun s4 e4 s5 e5 s6 e6 => ⟨n + 1, ?_⟩⟩⟩
  rw [e6, e5, e4, e2]
  exact b5 K hK
theorem tm_RR_pg {u : Nat} {c r : tm_St} (h : tm_RR u c r) : ∃ n : Nat, tm_pg n (c 2) (tm_pj [1, 2] c) ∧ r 0 18 = nI n ∧ (∀ j, j < n → r 14 j = c 2 j) := by
  obtain ⟨n, n1, n2, n3, n4⟩ := h.2.2.2.1
  exact ⟨n, ⟨n1, n2, fun _ _ => rfl⟩, n3, fun j hj => (n4 j hj).symm⟩
theorem c_fault {u : Nat} {c r : tm_St} (h : tm_RR u c r) : tm_CC (u + 200) (wp_X8_fault c) (wp_X9_fault r) := by
  obtain ⟨n, p1, p2, p3⟩ := tm_RR_pg h
  obtain ⟨k, ρ', b1, b2, b3, b4, b5⟩ := s_read p1 p2 p3
  refine ⟨nI k, c, ρ', tm_RR_u (tm_RR_rf h b2) (by omega), fun K hK => ?_, fun K hK => ?_⟩
  · unfold wp_X8_fault
    refine b4 _ ?_
    intro s2 e2
    rw [e2, tm_pk_pj]; exact hK
  · unfold wp_X9_fault
    exact b5 _ hK
