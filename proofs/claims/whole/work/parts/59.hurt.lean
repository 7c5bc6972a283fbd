theorem p_hurt {n : Nat} {g : Nat → Int32} {s : tm_St} (h : tm_pg n g s) {k : Nat} (hk : k < n) (hc : tm_nc g k) (p : Int32) (K : Int32 → tm_St → Prop) (hK : wp_X4_fitsHurt_18 K (nI k) p (-1) 20 s) : wp_X4_fitsHurt (nI k) p s K := by
  unfold wp_X4_fitsHurt
  refine p_comma_n h (by omega) hc _ ?_
  exact ⟨fun q => absurd q (by decide), fun _ => hK⟩
theorem p_hurt_s {n : Nat} {g : Nat → Int32} {s : tm_St} (h : tm_pg n g s) {k j : Nat} (hk : k < n) (hj : 20 ≤ j) (hjk : j < k) (hg : g j = 44) (hc : tm_nc g j) (p : Int32) (K : Int32 → tm_St → Prop) (hK : wp_X4_fitsHurt_18 K (nI k) p (nI j) (nI (j + 1)) s) : wp_X4_fitsHurt (nI k) p s K := by
  have h30 := h.1
  unfold wp_X4_fitsHurt
  refine p_comma_s h (by omega) hj hjk hg hc _ ?_
  rw [nI_1]
  exact ⟨fun _ => hK, fun q => absurd (nI_le (a := 0) (by omega) (by omega)) q⟩
/-- a code that is no figure and no comma: neither takes it -/
theorem s_none {s : tm_St} {k : Nat} {p v3 t0 : Int32} {ρ : tm_St} (h44 : ¬ p = 44) (hp : p < 48 ∨ 57 < p) : (∀ K : Int32 → tm_St → Prop, K 0 s → wp_X4_fitsHurt_18 K (nI k) p v3 t0 s) ∧ (∀ K : Int32 → tm_St → Prop, K 0 ρ → wp_X9_takesHurt p ρ K) := by
  refine ⟨fun K hK => ?_, fun K hK => ?_⟩
  · unfold wp_X4_fitsHurt_18
    refine ⟨fun _ => ⟨fun _ => hK, fun c => ⟨fun c2 => ?_, fun _ => hK⟩⟩, fun q => absurd q h44⟩
    rcases hp with q | q
    · exact absurd q c
    · exact absurd c2 (Int32.not_le.mpr q)
  · unfold wp_X9_takesHurt
    have : (if p < 48 then (0 : Int32) else if 57 < p then 0 else 1) = 0 := by
      rcases hp with q | q
      · rw [if_pos q]
      · by_cases c : p < 48
        · rw [if_pos c]
        · rw [if_neg c, if_pos q]
    rw [p_within, this]
    refine ⟨fun _ => ⟨fun _ s5 e5 s6 e6 => ?_, fun q => absurd q h44⟩, fun q => absurd rfl q⟩
    rw [tm_u_id, tm_s_id] at e5
    subst e5
    rw [tm_u_id, tm_s_id] at e6
    rw [e6]; exact hK
theorem tm_rf_t {r0 ρ ρ' : tm_St} (h : tm_rf r0 ρ) (h1 : ∀ i, ¬ i = 0 → ¬ i = 16 → ρ' i = ρ i) (h2 : ∀ q, ¬ q = 23 → ¬ q = 24 → ρ' 0 q = ρ 0 q) : tm_rf r0 ρ' :=
  ⟨fun i i0 i15 i16 => (h1 i i0 i16).trans (h.1 i i0 i15 i16), fun q q1 q2 q3 => (h2 q q2 q3).trans (h.2 q q1 q2 q3)⟩
theorem s_hurt {n : Nat} {g : Nat → Int32} {s : tm_St} (h : tm_pg n g s) {k : Nat} (hk : k < n) (h20 : 20 ≤ k) {r0 ρ : tm_St} (hr : tm_rf r0 ρ) (hi : tm_iv g k ρ) : ∃ (ok : Int32) (ρ' : tm_St), (∀ K : Int32 → tm_St → Prop, K ok s → wp_X4_fitsHurt (nI k) (g k) s K) ∧ (∀ K : Int32 → tm_St → Prop, K ok ρ' → wp_X9_takesHurt (g k) ρ K) ∧ tm_rf r0 ρ' ∧ (¬ ok = 0 → tm_iv g (k + 1) ρ') := by
  have h30 := h.1
  obtain ⟨i1, i2, i3, i4, i5⟩ := hi
  have mk : ∀ ρ' : tm_St, ρ' 15 = ρ 15 → ρ' 0 21 = ρ 0 21 → ((tm_nc g (k + 1) ∧ ρ' 0 23 = 0 ∧ ρ' 16 1 = 0 ∧ tm_fi g 20 (k + 1) (ρ' 0 24) (ρ' 16 0)) ∨ (∃ j, 20 < j ∧ j < k + 1 ∧ g j = 44 ∧ tm_nc g j ∧ ρ' 0 23 = 1 ∧ ρ' 16 0 = tm_nb g 20 (j - 20) ∧ tm_fi g (j + 1) (k + 1) (ρ' 0 24) (ρ' 16 1))) → tm_iv g (k + 1) ρ' := by
    intro ρ' e15 e21 hh
    refine ⟨fun j j1 j2 => ?_, fun j j1 j2 j3 => ?_, fun _ => ?_, fun q => absurd q (by omega), fun _ => hh⟩
    · rw [e15]; exact i1 j j1 (by omega)
    · rw [e15]; exact i2 j j1 j2 (by omega)
    · rw [e21]; exact i3 (by omega)
  by_cases c44 : g k = 44
  · -- a comma
    have l48 : g k < 48 := by rw [c44]; decide
    rcases i5 h20 with ⟨a1, a2, a3, a4⟩ | ⟨j, b1, b2, b3, b4, b5, b6, b7⟩
    · rcases a4 with ⟨f1, f2, f3⟩ | ⟨f1, q, f2, f3, f4, f5⟩
      · refine ⟨0, ρ, fun K hK => p_hurt h hk a1 _ _ ?_, fun K hK => ?_, hr, fun z => absurd rfl z⟩
        · unfold wp_X4_fitsHurt_18
          refine ⟨fun z => absurd c44 z, fun _ => ⟨fun _ => hK, fun _ => ⟨fun _ => hK, fun z => absurd ?_ z⟩⟩⟩
          rw [f1]; decide
        · unfold wp_X9_takesHurt
          rw [p_within, if_pos l48]
          refine ⟨fun _ => ⟨fun z => absurd c44 z, fun _ => ⟨fun z => absurd a2 z, fun _ => ⟨fun _ s11 e11 s12 e12 => ?_, fun z => absurd f2 z⟩⟩⟩, fun z => absurd rfl z⟩
          rw [tm_u_id, tm_s_id] at e11
          subst e11
          rw [tm_u_id, tm_s_id] at e12
          rw [e12]; exact hK
      · have nm : ¬ ρ 0 24 = -1 := by
          rw [f4]; intro z
          have : nI q < 0 := by rw [z]; decide
          exact absurd this (nI_pos (by omega))
        have w0 : ∀ i, ¬ i = 0 → (tm_s (tm_s ρ 0 (tm_u (ρ 0) 23 1)) 0 (tm_u (tm_u (ρ 0) 23 1) 24 (-1))) i = ρ i := by
          intro i i0
          rw [tm_s_at, if_neg i0, tm_s_at, if_neg i0]
        have wq : ∀ q, ¬ q = 23 → ¬ q = 24 → (tm_s (tm_s ρ 0 (tm_u (ρ 0) 23 1)) 0 (tm_u (tm_u (ρ 0) 23 1) 24 (-1))) 0 q = ρ 0 q := by
          intro q q1 q2
          show tm_u (tm_u (ρ 0) 23 1) 24 (-1) q = _
          rw [tm_u_at, if_neg q2, tm_u_at, if_neg q1]
        refine ⟨1, tm_s (tm_s ρ 0 (tm_u (ρ 0) 23 1)) 0 (tm_u (tm_u (ρ 0) 23 1) 24 (-1)), fun K hK => p_hurt h hk a1 _ _ ?_, fun K hK => ?_, tm_rf_t hr (fun i i0 _ => w0 i i0) wq, fun _ => mk _ (w0 15 (by decide)) (wq 21 (by decide) (by decide)) (Or.inr ⟨k, by omega, by omega, c44, a1, rfl, ?_, Or.inl ⟨rfl, rfl, ?_⟩⟩)⟩
        · unfold wp_X4_fitsHurt_18
          exact ⟨fun z => absurd c44 z, fun _ => ⟨fun z => absurd z (by decide), fun _ => ⟨fun z => absurd z (nI_ge (a := 20) (by omega) (by omega)), fun _ => hK⟩⟩⟩
        · unfold wp_X9_takesHurt
          rw [p_within, if_pos l48]
          refine ⟨fun _ => ⟨fun z => absurd c44 z, fun _ => ⟨fun z => absurd a2 z, fun _ => ⟨fun z => absurd z nm, fun _ s13 e13 s14 e14 => ?_⟩⟩⟩, fun z => absurd rfl z⟩
          rw [e14, e13]; exact hK
        · rw [w0 16 (by decide), f5, f3]
        · rw [w0 16 (by decide)]; exact a3
    · have nz : ¬ ρ 0 23 = 0 := by rw [b5]; decide
      refine ⟨0, ρ, fun K hK => p_hurt_s h hk (by omega) b2 b3 b4 _ _ ?_, fun K hK => ?_, hr, fun z => absurd rfl z⟩
      · unfold wp_X4_fitsHurt_18
        exact ⟨fun z => absurd c44 z, fun _ => ⟨fun _ => hK, fun z => absurd (nI_le (a := 0) (by omega) (by omega)) z⟩⟩
      · unfold wp_X9_takesHurt
        rw [p_within, if_pos l48]
        refine ⟨fun _ => ⟨fun z => absurd c44 z, fun _ => ⟨fun _ s8 e8 s9 e9 => ?_, fun z => absurd z nz⟩⟩, fun z => absurd rfl z⟩
        rw [tm_u_id, tm_s_id] at e8
        subst e8
        rw [tm_u_id, tm_s_id] at e9
        rw [e9]; exact hK
  · by_cases cd : g k < 48 ∨ 57 < g k
    · rcases i5 h20 with ⟨a1, a2, a3, a4⟩ | ⟨j, b1, b2, b3, b4, b5, b6, b7⟩
      · exact ⟨0, ρ, fun K hK => p_hurt h hk a1 _ _ ((s_none (ρ := ρ) c44 cd).1 K hK), fun K hK => (s_none (s := s) (k := k) (v3 := 0) (t0 := 0) c44 cd).2 K hK, hr, fun z => absurd rfl z⟩
      · exact ⟨0, ρ, fun K hK => p_hurt_s h hk (by omega) b2 b3 b4 _ _ ((s_none (ρ := ρ) c44 cd).1 K hK), fun K hK => (s_none (s := s) (k := k) (v3 := 0) (t0 := 0) c44 cd).2 K hK, hr, fun z => absurd rfl z⟩
    · have d1 : ¬ g k < 48 := fun q => cd (Or.inl q)
      have d2 : g k ≤ 57 := Int32.not_lt.mp (fun q => cd (Or.inr q))
      obtain ⟨N, hN, e⟩ := i_nat (p := g k) (fun q => d1 (Int32.lt_trans q (by decide)))
      have N1 : 48 ≤ N := by
        rcases Nat.lt_or_ge N 48 with q | q
        · rw [e] at d1; exact absurd (nI_lt (b := 48) q (by decide)) d1
        · exact q
      have N2 : N ≤ 57 := by rw [e] at d2; exact (nI_leI (b := 57) hN (by decide)).mp d2
      have hp : g k = nI (48 + (N - 48)) := by rw [e]; congr 1; omega
      rcases i5 h20 with ⟨a1, a2, a3, a4⟩ | ⟨j, b1, b2, b3, b4, b5, b6, b7⟩
      · obtain ⟨ok, ρ', m1, m2, m3, m4, m5, m6⟩ := s_digit h hk (v3 := -1) (w := 0) (by decide) a2 a4 (d := N - 48) (by omega) hp
        refine ⟨ok, ρ', fun K hK => p_hurt h hk a1 _ _ (m1 K hK), m2, tm_rf_t hr m3 (fun q _ q2 => m4 q q2), fun z => mk ρ' (m3 15 (by decide) (by decide)) (m4 21 (by decide)) (Or.inl ⟨?_, (m4 23 (by decide)).trans a2, (m5 1 (by decide)).trans a3, m6 z⟩)⟩
        intro i x1 x2
        rcases Nat.lt_or_ge i k with y | y
        · exact a1 i x1 y
        · rw [show i = k by omega]; exact c44
      · obtain ⟨ok, ρ', m1, m2, m3, m4, m5, m6⟩ := s_digit h hk (v3 := nI j) (w := 1) (by decide) b5 b7 (d := N - 48) (by omega) hp
        exact ⟨ok, ρ', fun K hK => p_hurt_s h hk (by omega) b2 b3 b4 _ _ (m1 K hK), m2, tm_rf_t hr m3 (fun q _ q2 => m4 q q2), fun z => mk ρ' (m3 15 (by decide) (by decide)) (m4 21 (by decide)) (Or.inr ⟨j, b1, by omega, b3, b4, (m4 23 (by decide)).trans b5, (m5 0 (by decide)).trans b6, m6 z⟩)⟩
