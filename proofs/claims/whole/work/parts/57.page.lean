/-- what a digit of the LINE stands for, or -1 -/
def tm_fg (p : Int32) : Int32 := if p < 48 then (if p < 97 then -1 else if 102 < p then -1 else (p - 97) + 10) else if 57 < p then (if p < 97 then -1 else if 102 < p then -1 else (p - 97) + 10) else p - 48
theorem p_fg8 (p : Int32) (s : tm_St) (K : Int32 → tm_St → Prop) (h : K (tm_fg p) s) : wp_X4_figure p s K := by
  unfold wp_X4_figure
  unfold tm_fg at h
  refine ⟨fun c1 => ?_, fun c1 => ?_⟩
  · rw [if_pos c1] at h
    refine ⟨fun c2 => ?_, fun c2 => ?_⟩
    · rw [if_pos c2] at h; exact h
    · rw [if_neg c2] at h
      refine ⟨fun c3 => ?_, fun c3 => ?_⟩
      · rw [if_pos c3] at h; exact h
      · rw [if_neg c3] at h; exact h
  · rw [if_neg c1] at h
    refine ⟨fun c4 => ?_, fun c4 => ?_⟩
    · rw [if_pos c4] at h
      refine ⟨fun c2 => ?_, fun c2 => ?_⟩
      · rw [if_pos c2] at h; exact h
      · rw [if_neg c2] at h
        refine ⟨fun c3 => ?_, fun c3 => ?_⟩
        · rw [if_pos c3] at h; exact h
        · rw [if_neg c3] at h; exact h
    · rw [if_neg c4] at h; exact h
theorem p_fg9 (p : Int32) (K : Int32 → Prop) (h : K (tm_fg p)) : wp_X9_sixteenth p K := by
  unfold wp_X9_sixteenth
  unfold tm_fg at h
  rw [p_within, p_within]
  by_cases c1 : p < 48
  · rw [if_pos c1] at h ⊢
    refine ⟨fun _ => ?_, fun q => absurd rfl q⟩
    by_cases c2 : p < 97
    · rw [if_pos c2] at h ⊢
      exact ⟨fun _ => h, fun q => absurd rfl q⟩
    · rw [if_neg c2] at h ⊢
      by_cases c3 : 102 < p
      · rw [if_pos c3] at h ⊢
        exact ⟨fun _ => h, fun q => absurd rfl q⟩
      · rw [if_neg c3] at h ⊢
        exact ⟨fun q => absurd q (by decide), fun _ => h⟩
  · rw [if_neg c1] at h ⊢
    by_cases c4 : 57 < p
    · rw [if_pos c4] at h ⊢
      refine ⟨fun _ => ?_, fun q => absurd rfl q⟩
      by_cases c2 : p < 97
      · rw [if_pos c2] at h ⊢
        exact ⟨fun _ => h, fun q => absurd rfl q⟩
      · rw [if_neg c2] at h ⊢
        by_cases c3 : 102 < p
        · rw [if_pos c3] at h ⊢
          exact ⟨fun _ => h, fun q => absurd rfl q⟩
        · rw [if_neg c3] at h ⊢
          exact ⟨fun q => absurd q (by decide), fun _ => h⟩
    · rw [if_neg c4] at h ⊢
      exact ⟨fun q => absurd q (by decide), fun _ => h⟩
/-- a digit stands for -1, or for a number that is not below 0 -/
theorem tm_fg_neg (p : Int32) : tm_fg p < 0 ↔ tm_fg p = -1 := by
  have dig : ∀ (a : Nat) (b : Nat) (d : Nat), a ≤ b → b < 2 ^ 20 → d < 100 → ¬ p < nI a → ¬ nI b < p → ∃ q : Nat, q < 2 ^ 20 + 100 ∧ (p - nI a) + nI d = nI q := by
    intro a b d hab hb hd h1 h2
    have h0 : ¬ p < 0 := by
      intro q
      rcases Nat.eq_zero_or_pos a with z | z
      · rw [z] at h1; exact h1 q
      · exact h1 (Int32.lt_trans q (nI_lt (a := 0) z (by omega)))
    obtain ⟨N, hN, e⟩ := i_nat h0
    have g1 : a ≤ N := by
      rcases Nat.lt_or_ge N a with q | q
      · rw [e] at h1; exact absurd (nI_lt q (by omega)) h1
      · exact q
    have g2 : N ≤ b := by
      rcases Nat.lt_or_ge b N with q | q
      · rw [e] at h2; exact absurd (nI_lt q hN) h2
      · exact q
    refine ⟨N - a + d, by omega, ?_⟩
    rw [e, pk_sub g1, nI_add]
  have pos : ∀ q : Nat, q < 2 ^ 20 + 100 → ∀ x : Int32, x = nI q → (x < 0 ↔ x = -1) := by
    intro q hq x e
    subst e
    refine ⟨fun z => absurd z (nI_pos (by omega)), fun z => ?_⟩
    have : nI q < 0 := by rw [z]; decide
    exact absurd this (nI_pos (by omega))
  have m1 : ∀ x : Int32, x = -1 → (x < 0 ↔ x = -1) := by
    intro x e; subst e; exact ⟨fun _ => rfl, fun _ => by decide⟩
  unfold tm_fg
  by_cases c1 : p < 48
  · rw [if_pos c1]
    by_cases c2 : p < 97
    · rw [if_pos c2]; exact m1 _ rfl
    · rw [if_neg c2]
      by_cases c3 : 102 < p
      · rw [if_pos c3]; exact m1 _ rfl
      · rw [if_neg c3]
        obtain ⟨q, hq, e⟩ := dig 97 102 10 (by decide) (by decide) (by decide) c2 c3
        exact pos q hq _ e
  · rw [if_neg c1]
    by_cases c4 : 57 < p
    · rw [if_pos c4]
      by_cases c2 : p < 97
      · rw [if_pos c2]; exact m1 _ rfl
      · rw [if_neg c2]
        by_cases c3 : 102 < p
        · rw [if_pos c3]; exact m1 _ rfl
        · rw [if_neg c3]
          obtain ⟨q, hq, e⟩ := dig 97 102 10 (by decide) (by decide) (by decide) c2 c3
          exact pos q hq _ e
    · rw [if_neg c4]
      obtain ⟨q, hq, e⟩ := dig 48 57 0 (by decide) (by decide) (by decide) c1 c4
      refine pos q hq _ ?_
      rw [← e]
      show p - nI 48 = p - nI 48 + 0
      rw [Int32.add_zero]
/-- s: a page of n codes g -/
def tm_pg (n : Nat) (g : Nat → Int32) (s : tm_St) : Prop := n ≤ 30 ∧ s 0 1 = nI n ∧ ∀ j, j < n → s 1 j = g j
theorem p_codeAt {n : Nat} {g : Nat → Int32} {s : tm_St} (h : tm_pg n g s) {i : Nat} (hi : i < n) (K : Int32 → tm_St → Prop) (hK : K (g i) s) : wp_X4_codeAt (nI i) s K := by
  obtain ⟨h1, h2, h3⟩ := h
  unfold wp_X4_codeAt
  rw [h2, nI_clamp (by omega), h3 i hi]
  exact ⟨fun q => absurd q (nI_pos (by omega)), fun _ => ⟨fun q => absurd q (nI_ge hi (by omega)), fun _ => ⟨fun q => absurd q (nI_ge (b := 30) (by omega) (by decide)), fun _ => ⟨vp_in_nI (by omega) (by decide), hK⟩⟩⟩⟩
/-- no comma in [20, k) -/
def tm_nc (g : Nat → Int32) (k : Nat) : Prop := ∀ i, 20 ≤ i → i < k → ¬ g i = 44
theorem p_comma_n {n : Nat} {g : Nat → Int32} {s : tm_St} (h : tm_pg n g s) {k : Nat} (hk : k ≤ n) (hc : tm_nc g k) (K : Int32 → tm_St → Prop) (hK : K (-1) s) : wp_X4_commaAhead (nI k) s K := by
  have h30 := h.1
  have loop : ∀ (m i : Nat), 20 ≤ i → k ≤ i + m → wp_X4_commaAhead_3 K (m + 1) (nI k) (nI i) s := by
    intro m
    induction m with
    | zero =>
      intro i h20 hi
      unfold wp_X4_commaAhead_3
      by_cases c : i < 2 ^ 20
      · exact ⟨fun _ => hK, fun q => absurd (nI_le (by omega) (by omega)) q⟩
      · sorry
    | succ m ih =>
      intro i h20 hi
      unfold wp_X4_commaAhead_3
      sorry
  exact ⟨k + 1, loop k 20 (by omega) (by omega)⟩
