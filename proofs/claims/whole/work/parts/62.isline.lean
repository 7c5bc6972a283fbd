/-- the two ways that a whole LINE may end: without hurts, or with both -/
def tm_ln (g : Nat → Int32) (n : Nat) (ρ : tm_St) : Prop := (n = 19) ∨ (∃ j q, 20 < j ∧ j + 1 < n ∧ g j = 44 ∧ tm_nc g j ∧ ρ 16 0 = tm_nb g 20 (j - 20) ∧ q ≤ 50 ∧ tm_nb g (j + 1) (n - (j + 1)) = nI q ∧ ρ 16 1 = nI q)
theorem s_isLine {n : Nat} {g : Nat → Int32} {s : tm_St} (h : tm_pg n g s) {r : tm_St} (h18 : r 0 18 = nI n) (hg : ∀ j, j < n → r 14 j = g j) : ∃ ρ' : tm_St, tm_rf r ρ' ∧ (((∀ K : Int32 → tm_St → Prop, K 0 s → wp_X4_isLine s K) ∧ (∀ K : Int32 → tm_St → Prop, K (-1003) ρ' → wp_X9_line r K)) ∨ ((∀ K : Int32 → tm_St → Prop, K 1 s → wp_X4_isLine s K) ∧ (∀ K : Int32 → tm_St → Prop, (∃ nf : Nat, wp_X9_line_61 K nf 0 ρ') → wp_X9_line r K) ∧ tm_iv g n ρ' ∧ 19 ≤ n ∧ tm_ln g n ρ')) := by
  have h30 := h.1
  obtain ⟨k, ρ', b1, b2, b3, b4, b5⟩ := s_read h h18 hg
  have z18 : ρ' 0 18 = nI n := (b2.2 18 (by decide) (by decide) (by decide)).trans h18
  refine ⟨ρ', b2, ?_⟩
  have e19 : nI n = 19 ↔ n = 19 := nI_eq (b := 19) (by omega) (by decide)
  have l19 : nI n ≤ 19 ↔ n ≤ 19 := nI_leI (b := 19) (by omega) (by decide)
  by_cases ck : k = n
  · subst ck
    have iv := b3 rfl
    have cls : ∀ K : Int32 → tm_St → Prop, wp_X4_commaAhead (nI k) s (fun r4 s5 => (((s5 0 1) = 19 → K 1 s5) ∧ (¬ (s5 0 1) = 19 → ((r4 < 0 → K 0 s5) ∧ (¬ r4 < 0 → (((s5 0 1) ≤ (r4 + 1) → K 0 s5) ∧ (¬ (s5 0 1) ≤ (r4 + 1) → K 1 s5))))))) → wp_X4_isLine s K := by
      intro K hK
      unfold wp_X4_isLine
      refine b4 _ ?_
      rw [h.2.1]
      exact ⟨fun _ => hK, fun q => absurd (nI_le (Nat.le_refl _) (by omega)) q⟩
    have ref : ∀ K : Int32 → tm_St → Prop, (k = 19 → ∃ nf : Nat, wp_X9_line_61 K nf 0 ρ') → (¬ k = 19 → k ≤ 19 → K (-1003) ρ') → (19 < k → ((¬ (ρ' 0 23) = 1 → K (-1003) ρ') ∧ ((ρ' 0 23) = 1 → (((ρ' 0 24) = (-1) → K (-1003) ρ') ∧ (¬ (ρ' 0 24) = (-1) → ∃ nf : Nat, wp_X9_line_61 K nf 0 ρ'))))) → wp_X9_line r K := by
      intro K k1 k2 k3
      unfold wp_X9_line
      refine b5 _ ?_
      rw [z18]
      refine ⟨fun q => absurd rfl q, fun _ => ⟨fun q => k1 (e19.mp q), fun q => ⟨fun q2 => k2 (fun z => q (e19.mpr z)) (l19.mp q2), fun q2 => k3 ?_⟩⟩⟩
      rcases Nat.lt_or_ge 19 k with y | y
      · exact y
      · exact absurd (l19.mpr y) q2
    by_cases c1 : k = 19
    · refine Or.inr ⟨fun K hK => cls K ?_, fun K hK => ref K (fun _ => hK) (fun q => absurd c1 q) (fun q => absurd q (by omega)), iv, by omega, Or.inl c1⟩
      refine p_comma_n h (Nat.le_refl _) (fun i x1 x2 => absurd x2 (by omega)) _ ?_
      rw [h.2.1]
      exact ⟨fun _ => hK, fun q => absurd (e19.mpr c1) q⟩
    · have n19 : ¬ nI k = 19 := fun q => c1 (e19.mp q)
      by_cases c2 : k ≤ 19
      · refine Or.inl ⟨fun K hK => cls K ?_, fun K hK => ref K (fun q => absurd q c1) (fun _ _ => hK) (fun q => absurd q (by omega))⟩
        refine p_comma_n h (Nat.le_refl _) (fun i x1 x2 => absurd x2 (by omega)) _ ?_
        rw [h.2.1]
        exact ⟨fun q => absurd q n19, fun _ => ⟨fun _ => hK, fun q => absurd (by decide) q⟩⟩
      · rcases iv.2.2.2.2 (by omega) with ⟨a1, a2, a3, a4⟩ | ⟨j, d1, d2, d3, d4, d5, d6, d7⟩
        · have t1 : ¬ ρ' 0 23 = 1 := by rw [a2]; decide
          refine Or.inl ⟨fun K hK => cls K ?_, fun K hK => ref K (fun q => absurd q c1) (fun _ q => absurd q c2) (fun _ => ⟨fun _ => hK, fun q => absurd q t1⟩)⟩
          refine p_comma_n h (Nat.le_refl _) a1 _ ?_
          rw [h.2.1]
          exact ⟨fun q => absurd q n19, fun _ => ⟨fun _ => hK, fun q => absurd (by decide) q⟩⟩
        · have jn : ¬ nI j < 0 := nI_pos (by omega)
          rcases d7 with ⟨f1, f2, f3⟩ | ⟨f1, q, f2, f3, f4, f5⟩
          · refine Or.inl ⟨fun K hK => cls K ?_, fun K hK => ref K (fun q => absurd q c1) (fun _ q => absurd q c2) (fun _ => ⟨fun q => absurd d5 q, fun _ => ⟨fun _ => hK, fun q => absurd f2 q⟩⟩)⟩
            refine p_comma_s h (Nat.le_refl _) (by omega) d2 d3 d4 _ ?_
            rw [h.2.1, nI_1]
            exact ⟨fun q => absurd q n19, fun _ => ⟨fun q => absurd q jn, fun _ => ⟨fun _ => hK, fun q => absurd (nI_le (by omega) (by omega)) q⟩⟩⟩
          · have nm : ¬ ρ' 0 24 = -1 := by
              rw [f4]; intro z
              have : nI q < 0 := by rw [z]; decide
              exact absurd this (nI_pos (by omega))
            refine Or.inr ⟨fun K hK => cls K ?_, fun K hK => ref K (fun q => absurd q c1) (fun _ q => absurd q c2) (fun _ => ⟨fun q => absurd d5 q, fun _ => ⟨fun q => absurd q nm, fun _ => hK⟩⟩), iv, by omega, Or.inr ⟨j, q, d1, f1, d3, d4, d6, f2, f3, f5⟩⟩
            refine p_comma_s h (Nat.le_refl _) (by omega) d2 d3 d4 _ ?_
            rw [h.2.1, nI_1]
            exact ⟨fun q => absurd q n19, fun _ => ⟨fun q => absurd q jn, fun _ => ⟨fun q => absurd q (nI_ge (by omega) (by omega)), fun _ => hK⟩⟩⟩
  · have lt : k < n := by omega
    refine Or.inl ⟨fun K hK => ?_, fun K hK => ?_⟩
    · unfold wp_X4_isLine
      refine b4 _ ?_
      rw [h.2.1]
      exact ⟨fun q => absurd q (nI_ge lt (by omega)), fun _ => hK⟩
    · unfold wp_X9_line
      refine b5 _ ?_
      rw [z18]
      exact ⟨fun _ => hK, fun q => absurd ((nI_eq (by omega) (by omega)).mp q) ck⟩
