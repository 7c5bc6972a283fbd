/-- what a digit of the LINE stands for, or -1 -/
def tm_fg (p : Int32) : Int32 := if p < 48 then (if p < 97 then -1 else if 102 < p then -1 else (p - 97) + 10) else if 57 < p then (if p < 97 then -1 else if 102 < p then -1 else (p - 97) + 10) else p - 48
theorem p_fg8 (p : Int32) (s : tm_St) (K : Int32 → tm_St → Prop) (h : K (tm_fg p) s) : wp_X4_figure p s K := by
  unfold wp_X4_figure
  unfold tm_fg at h
  refine ⟨fun c1 => ?_, fun c1 => ?_⟩
  · rw [if_pos c1] at h
    refine ⟨fun c2 => ?_, fun c2 => ?_⟩
    · rw [if_pos c2] at h; exact h
    · rw [if_neg c2] at h
      refine ⟨fun c3 => ?_, fun c3 => ?_⟩
      · rw [if_pos c3] at h; exact h
      · rw [if_neg c3] at h; exact h
  · rw [if_neg c1] at h
    refine ⟨fun c4 => ?_, fun c4 => ?_⟩
    · rw [if_pos c4] at h
      refine ⟨fun c2 => ?_, fun c2 => ?_⟩
      · rw [if_pos c2] at h; exact h
      · rw [if_neg c2] at h
        refine ⟨fun c3 => ?_, fun c3 => ?_⟩
        · rw [if_pos c3] at h; exact h
        · rw [if_neg c3] at h; exact h
    · rw [if_neg c4] at h; exact h
theorem p_fg9 (p : Int32) (K : Int32 → Prop) (h : K (tm_fg p)) : wp_X9_sixteenth p K := by
  unfold wp_X9_sixteenth
  unfold tm_fg at h
  rw [p_within, p_within]
  by_cases c1 : p < 48
  · rw [if_pos c1] at h ⊢
    refine ⟨fun _ => ?_, fun q => absurd rfl q⟩
    by_cases c2 : p < 97
    · rw [if_pos c2] at h ⊢
      exact ⟨fun _ => h, fun q => absurd rfl q⟩
    · rw [if_neg c2] at h ⊢
      by_cases c3 : 102 < p
      · rw [if_pos c3] at h ⊢
        exact ⟨fun _ => h, fun q => absurd rfl q⟩
      · rw [if_neg c3] at h ⊢
        exact ⟨fun q => absurd q (by decide), fun _ => h⟩
  · rw [if_neg c1] at h ⊢
    by_cases c4 : 57 < p
    · rw [if_pos c4] at h ⊢
      refine ⟨fun _ => ?_, fun q => absurd rfl q⟩
      by_cases c2 : p < 97
      · rw [if_pos c2] at h ⊢
        exact ⟨fun _ => h, fun q => absurd rfl q⟩
      · rw [if_neg c2] at h ⊢
        by_cases c3 : 102 < p
        · rw [if_pos c3] at h ⊢
          exact ⟨fun _ => h, fun q => absurd rfl q⟩
        · rw [if_neg c3] at h ⊢
          exact ⟨fun q => absurd q (by decide), fun _ => h⟩
    · rw [if_neg c4] at h ⊢
      exact ⟨fun q => absurd q (by decide), fun _ => h⟩
/-- a digit stands for -1, or for a number that is not below 0 -/
theorem tm_fg_neg (p : Int32) : tm_fg p < 0 ↔ tm_fg p = -1 := by
  have dig : ∀ (a : Nat) (b : Nat) (d : Nat), a ≤ b → b < 2 ^ 20 → d < 100 → ¬ p < nI a → ¬ nI b < p → ∃ q : Nat, q < 2 ^ 20 + 100 ∧ (p - nI a) + nI d = nI q := by
    intro a b d hab hb hd h1 h2
    have h0 : ¬ p < 0 := by
      intro q
      rcases Nat.eq_zero_or_pos a with z | z
      · rw [z] at h1; exact h1 q
      · exact h1 (Int32.lt_trans q (nI_lt (a := 0) z (by omega)))
    obtain ⟨N, hN, e⟩ := i_nat h0
    have g1 : a ≤ N := by
      rcases Nat.lt_or_ge N a with q | q
      · rw [e] at h1; exact absurd (nI_lt q (by omega)) h1
      · exact q
    have g2 : N ≤ b := by
      rcases Nat.lt_or_ge b N with q | q
      · rw [e] at h2; exact absurd (nI_lt q hN) h2
      · exact q
    refine ⟨N - a + d, by omega, ?_⟩
    rw [e, pk_sub g1, nI_add]
  have pos : ∀ q : Nat, q < 2 ^ 20 + 100 → ∀ x : Int32, x = nI q → (x < 0 ↔ x = -1) := by
    intro q hq x e
    subst e
    refine ⟨fun z => absurd z (nI_pos (by omega)), fun z => ?_⟩
    have : nI q < 0 := by rw [z]; decide
    exact absurd this (nI_pos (by omega))
  have m1 : ∀ x : Int32, x = -1 → (x < 0 ↔ x = -1) := by
    intro x e; subst e; exact ⟨fun _ => rfl, fun _ => by decide⟩
  unfold tm_fg
  by_cases c1 : p < 48
  · rw [if_pos c1]
    by_cases c2 : p < 97
    · rw [if_pos c2]; exact m1 _ rfl
    · rw [if_neg c2]
      by_cases c3 : 102 < p
      · rw [if_pos c3]; exact m1 _ rfl
      · rw [if_neg c3]
        obtain ⟨q, hq, e⟩ := dig 97 102 10 (by decide) (by decide) (by decide) c2 c3
        exact pos q hq _ e
  · rw [if_neg c1]
    by_cases c4 : 57 < p
    · rw [if_pos c4]
      by_cases c2 : p < 97
      · rw [if_pos c2]; exact m1 _ rfl
      · rw [if_neg c2]
        by_cases c3 : 102 < p
        · rw [if_pos c3]; exact m1 _ rfl
        · rw [if_neg c3]
          obtain ⟨q, hq, e⟩ := dig 97 102 10 (by decide) (by decide) (by decide) c2 c3
          exact pos q hq _ e
    · rw [if_neg c4]
      obtain ⟨q, hq, e⟩ := dig 48 57 0 (by decide) (by decide) (by decide) c1 c4
      refine pos q hq _ ?_
      rw [← e]
      show p - nI 48 = p - nI 48 + 0
      rw [Int32.add_zero]
/-- s: a page of n codes g -/
def tm_pg (n : Nat) (g : Nat → Int32) (s : tm_St) : Prop := n ≤ 30 ∧ s 0 1 = nI n ∧ ∀ j, j < n → s 1 j = g j
theorem p_codeAt {n : Nat} {g : Nat → Int32} {s : tm_St} (h : tm_pg n g s) {i : Nat} (hi : i < n) (K : Int32 → tm_St → Prop) (hK : K (g i) s) : wp_X4_codeAt (nI i) s K := by
  obtain ⟨h1, h2, h3⟩ := h
  unfold wp_X4_codeAt
  rw [h2, nI_clamp (by omega), h3 i hi]
  exact ⟨fun q => absurd q (nI_pos (by omega)), fun _ => ⟨fun q => absurd q (nI_ge hi (by omega)), fun _ => ⟨fun q => absurd q (nI_ge (b := 30) (by omega) (by decide)), fun _ => ⟨vp_in_nI (by omega) (by decide), hK⟩⟩⟩⟩
/-- no comma in [20, k) -/
def tm_nc (g : Nat → Int32) (k : Nat) : Prop := ∀ i, 20 ≤ i → i < k → ¬ g i = 44
theorem p_comma_n {n : Nat} {g : Nat → Int32} {s : tm_St} (h : tm_pg n g s) {k : Nat} (hk : k ≤ n) (hc : tm_nc g k) (K : Int32 → tm_St → Prop) (hK : K (-1) s) : wp_X4_commaAhead (nI k) s K := by
  have h30 := h.1
  by_cases c : k ≤ 20
  · refine ⟨1, ?_⟩
    unfold wp_X4_commaAhead_3
    exact ⟨fun _ => hK, fun q => absurd (nI_le (b := 20) c (by decide)) q⟩
  · have loop : ∀ (m i : Nat), 20 ≤ i → i + m = k → wp_X4_commaAhead_3 K (m + 1) (nI k) (nI i) s := by
      intro m
      induction m with
      | zero =>
        intro i h20 hi
        unfold wp_X4_commaAhead_3
        exact ⟨fun _ => hK, fun q => absurd (nI_le (by omega) (by omega)) q⟩
      | succ m ih =>
        intro i h20 hi
        unfold wp_X4_commaAhead_3
        refine ⟨fun q => absurd q (nI_ge (by omega) (by omega)), fun _ => p_codeAt h (by omega) _ ?_⟩
        refine ⟨fun _ x5 e5 => ?_, fun q => absurd q (hc i h20 (by omega))⟩
        rw [e5, nI_1]
        exact ih (i + 1) (by omega) (by omega)
    exact ⟨k - 20 + 1, loop (k - 20) 20 (by omega) (by omega)⟩
theorem p_comma_s {n : Nat} {g : Nat → Int32} {s : tm_St} (h : tm_pg n g s) {k j : Nat} (hk : k ≤ n) (hj : 20 ≤ j) (hjk : j < k) (hg : g j = 44) (hc : tm_nc g j) (K : Int32 → tm_St → Prop) (hK : K (nI j) s) : wp_X4_commaAhead (nI k) s K := by
  have h30 := h.1
  have loop : ∀ (m i : Nat), 20 ≤ i → i + m = j → wp_X4_commaAhead_3 K (m + 1) (nI k) (nI i) s := by
    intro m
    induction m with
    | zero =>
      intro i h20 hi
      have hi : i = j := by omega
      subst hi
      unfold wp_X4_commaAhead_3
      refine ⟨fun q => absurd q (nI_ge (by omega) (by omega)), fun _ => p_codeAt h (by omega) _ ?_⟩
      exact ⟨fun q => absurd hg q, fun _ => hK⟩
    | succ m ih =>
      intro i h20 hi
      unfold wp_X4_commaAhead_3
      refine ⟨fun q => absurd q (nI_ge (by omega) (by omega)), fun _ => p_codeAt h (by omega) _ ?_⟩
      refine ⟨fun _ x5 e5 => ?_, fun q => absurd q (hc i h20 (by omega))⟩
      rw [e5, nI_1]
      exact ih (i + 1) (by omega) (by omega)
  exact ⟨j - 20 + 1, loop (j - 20) 20 (by omega) (by omega)⟩
/-- the number of m digits from a on -/
def tm_nb (g : Nat → Int32) (a : Nat) : Nat → Int32
  | 0 => 0
  | m + 1 => tm_nb g a m * 10 + (g (a + m) - 48)
theorem p_number {n : Nat} {g : Nat → Int32} {s : tm_St} (h : tm_pg n g s) {a b : Nat} (hb : b ≤ n) (hab : a ≤ b) (K : Int32 → tm_St → Prop) (hK : K (tm_nb g a (b - a)) s) : wp_X4_number (nI a) (nI b) s K := by
  have h30 := h.1
  have loop : ∀ (m i : Nat), a + i + m = b → wp_X4_number_5 K (m + 1) (nI b) (tm_nb g a i) (nI (a + i)) s := by
    intro m
    induction m with
    | zero =>
      intro i hi
      unfold wp_X4_number_5
      refine ⟨fun _ => ?_, fun q => absurd (nI_le (by omega) (by omega)) q⟩
      rw [show b - a = i by omega] at hK
      exact hK
    | succ m ih =>
      intro i hi
      unfold wp_X4_number_5
      refine ⟨fun q => absurd q (nI_ge (by omega) (by omega)), fun _ => p_codeAt h (by omega) _ ?_⟩
      intro x4 e4 x5 e5
      rw [e4, e5, nI_1]
      exact ih (i + 1) (by omega)
  exact ⟨b - a + 1, loop (b - a) 0 (by omega)⟩
/-- the figures read so far, from a on up to k: none, or a number up to 50 that the reference keeps too -/
def tm_fi (g : Nat → Int32) (a k : Nat) (f24 f16 : Int32) : Prop := (k = a ∧ f24 = -1 ∧ f16 = 0) ∨ (a < k ∧ ∃ q : Nat, q ≤ 50 ∧ tm_nb g a (k - a) = nI q ∧ f24 = nI q ∧ f16 = nI q)
/-- the reference when it has read k codes: ρ, r0: before it began -/
def tm_rf (r0 ρ : tm_St) : Prop := (∀ i, ¬ i = 0 → ¬ i = 15 → ¬ i = 16 → ρ i = r0 i) ∧ (∀ q, ¬ q = 21 → ¬ q = 23 → ¬ q = 24 → ρ 0 q = r0 0 q)
def tm_iv (g : Nat → Int32) (k : Nat) (ρ : tm_St) : Prop :=
  (∀ j, j < 8 → j < k → ρ 15 j = tm_fg (g j)) ∧ (∀ j, 9 ≤ j → j < 17 → j < k → ρ 15 (j - 1) = tm_fg (g j)) ∧ (18 < k → ρ 0 21 = g 18 - 48 ∧ ∃ d : Nat, 1 ≤ d ∧ d ≤ 8 ∧ ρ 0 21 = nI d) ∧ (k ≤ 19 → ρ 16 0 = 0 ∧ ρ 16 1 = 0 ∧ ρ 0 24 = -1) ∧ (20 ≤ k → (tm_nc g k ∧ ρ 0 23 = 0 ∧ ρ 16 1 = 0 ∧ tm_fi g 20 k (ρ 0 24) (ρ 16 0)) ∨ (∃ j, 20 < j ∧ j < k ∧ g j = 44 ∧ tm_nc g j ∧ ρ 0 23 = 1 ∧ ρ 16 0 = tm_nb g 20 (j - 20) ∧ tm_fi g (j + 1) k (ρ 0 24) (ρ 16 1)))
/-- one code: class and reference both take it, or neither does -/
def tm_tk (n : Nat) (g : Nat → Int32) (r0 : tm_St) (k : Nat) (s ρ : tm_St) : Prop := ∃ (ok : Int32) (ρ' : tm_St), (∀ K : Int32 → tm_St → Prop, K ok s → wp_X4_fits (nI k) s K) ∧ (∀ K : Int32 → tm_St → Prop, K ok ρ' → wp_X9_takes (nI k) (g k) ρ K) ∧ tm_rf r0 ρ' ∧ (¬ ok = 0 → tm_iv g (k + 1) ρ')
theorem p_fits {n : Nat} {g : Nat → Int32} {s : tm_St} (h : tm_pg n g s) {k : Nat} (hk : k < n) (ok : Int32) (K : Int32 → tm_St → Prop) (hK : K ok s)
    (h8 : k = 8 → ok = if g k = 47 then 1 else 0) (h17 : k = 17 → ok = if g k = 59 then 1 else 0) (h18 : k = 18 → ok = if g k < 49 then 0 else if 56 < g k then 0 else 1) (h19 : k = 19 → ok = if g k = 104 then 1 else 0) (hq : k < 17 → ¬ k = 8 → ok = if tm_fg (g k) < 0 then 0 else 1) (hh : 20 ≤ k → wp_X4_fitsHurt (nI k) (g k) s K) : wp_X4_fits (nI k) s K := by
  have h30 := h.1
  have E : ∀ m : Nat, m < 2 ^ 31 → (nI k = nI m ↔ k = m) := fun m hm => nI_eq (by omega) hm
  have e8 : nI k = 8 ↔ k = 8 := E 8 (by decide)
  have e17 : nI k = 17 ↔ k = 17 := E 17 (by decide)
  have e18 : nI k = 18 ↔ k = 18 := E 18 (by decide)
  have e19 : nI k = 19 ↔ k = 19 := E 19 (by decide)
  have l17 : (17 : Int32) ≤ nI k ↔ 17 ≤ k := nI_leI (a := 17) (by decide) (by omega)
  unfold wp_X4_fits
  refine p_codeAt h hk _ ?_
  refine ⟨fun c => ?_, fun c8 => ⟨fun c => ?_, fun c17 => ⟨fun c => ?_, fun c18 => ⟨fun c => ?_, fun c19 => ⟨fun c => ?_, fun c => ?_⟩⟩⟩⟩⟩
  · have w := h8 (e8.mp c)
    by_cases z : g k = 47
    · rw [if_pos z] at w; rw [w] at hK; exact ⟨fun q => absurd z q, fun _ => hK⟩
    · rw [if_neg z] at w; rw [w] at hK; exact ⟨fun _ => hK, fun q => absurd q z⟩
  · have w := h17 (e17.mp c)
    by_cases z : g k = 59
    · rw [if_pos z] at w; rw [w] at hK; exact ⟨fun q => absurd z q, fun _ => hK⟩
    · rw [if_neg z] at w; rw [w] at hK; exact ⟨fun _ => hK, fun q => absurd q z⟩
  · have w := h18 (e18.mp c)
    by_cases z : g k < 49
    · rw [if_pos z] at w; rw [w] at hK; exact ⟨fun _ => hK, fun q => absurd z q⟩
    · rw [if_neg z] at w
      refine ⟨fun q => absurd q z, fun _ => ?_⟩
      by_cases z2 : 56 < g k
      · rw [if_pos z2] at w; rw [w] at hK; exact ⟨fun _ => hK, fun q => absurd z2 q⟩
      · rw [if_neg z2] at w; rw [w] at hK; exact ⟨fun q => absurd q z2, fun _ => hK⟩
  · have w := h19 (e19.mp c)
    by_cases z : g k = 104
    · rw [if_pos z] at w; rw [w] at hK; exact ⟨fun q => absurd z q, fun _ => hK⟩
    · rw [if_neg z] at w; rw [w] at hK; exact ⟨fun _ => hK, fun q => absurd q z⟩
  · have := l17.mp c
    have t1 : ¬ k = 17 := fun q => c17 (e17.mpr q)
    have t2 : ¬ k = 18 := fun q => c18 (e18.mpr q)
    have t3 : ¬ k = 19 := fun q => c19 (e19.mpr q)
    exact hh (by omega)
  · have t1 : ¬ 17 ≤ k := fun q => c (l17.mpr q)
    have w := hq (by omega) (fun q => c8 (e8.mpr q))
    refine p_fg8 _ _ _ ?_
    by_cases z : tm_fg (g k) < 0
    · rw [if_pos z] at w; rw [w] at hK; exact ⟨fun _ => hK, fun q => absurd z q⟩
    · rw [if_neg z] at w; rw [w] at hK; exact ⟨fun q => absurd q z, fun _ => hK⟩
