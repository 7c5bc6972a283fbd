theorem p_onWay_4 (K : Int32 → tm_St → Prop) (s : tm_St) (h : K (tm_sm (s 10) 32) s) : ∀ (m i : Nat), i + m = 32 → wp_X9_onWay_4 K (m + 1) (tm_sm (s 10) i) (nI i) s := by
  intro m
  induction m with
  | zero =>
    intro i hi
    have hi : i = 32 := by omega
    subst hi
    unfold wp_X9_onWay_4
    exact ⟨fun _ => h, fun q => absurd (by decide) q⟩
  | succ m ih =>
    intro i hi
    unfold wp_X9_onWay_4
    have e8 : (8 * nI i : Int32) = nI (8 * i) := by rw [show (8 : Int32) = nI 8 from rfl, pk_mul]
    refine ⟨fun q => absurd q (nI_ge (b := 32) (by omega) (by decide)), fun _ => ⟨by rw [e8]; exact vp_in_nI (by omega) (by decide), fun x3 e3 x4 e4 => ?_⟩⟩
    rw [e8, nI_clamp (by omega)] at e3
    rw [e3, e4, nI_1]
    exact ih (i + 1) (by omega)
theorem p_onWay (s : tm_St) (K : Int32 → tm_St → Prop) (h : K (tm_sm (s 10) 32) s) : wp_X9_onWay s K := ⟨33, p_onWay_4 K s h 32 0 rfl⟩
theorem i_out {p : Int32} (n : Nat) (hn : n < 2 ^ 31) {N : Nat} (hN : N < 2 ^ 31) (e : p = nI N) (h : ¬ N = n) : ¬ p = nI n := by
  intro q
  rw [e] at q
  exact h ((nI_eq hN hn).mp q)
theorem c_about0 {u : Nat} {c r : tm_St} (h : tm_RR u c r) (p0 : Int32) : tm_C0 c r (wp_X8_about p0 c) (wp_X9_about p0 r) := by
  have h0 := tm_RR_0 h
  have h1 := tm_RR_1 h
  have w0 := h0.2.2.2.2.1
  have w1 := h0.2.2.2.1
  have x0 : c 3 2 = r 0 8 := h0.2.2.1
  have x1 : c 4 4 = r 9 0 := w0.1
  have x2 : c 9 4 = r 9 1 := w1.1
  have x3 : c 4 7 + c 9 7 = tm_sm (r 10) 32 := h1.2.2.2.2.2.2.2.2
  have y0 : ∀ b, b < 8 → c 5 b = r 8 (8 * 0 + b) := w0.2.2.2.1
  have y1 : ∀ b, b < 8 → c 10 b = r 8 (8 * 1 + b) := w1.2.2.2.1
  have neg : p0 < 0 → tm_C0 c r (wp_X8_about p0 c) (wp_X9_about p0 r) := by
    intro q
    have e10 : p0 < 10 := Int32.lt_trans q (by decide)
    have e20 : p0 < 20 := Int32.lt_trans q (by decide)
    have ne : ∀ n : Nat, n < 2 ^ 31 → ¬ p0 = nI n := by
      intro n hn e
      rw [e] at q; exact absurd q (nI_pos hn)
    refine tm_C0_i (-1002) (fun K hK => ?_) (fun K hK => ?_)
    · unfold wp_X8_about wp_X8_about_56
      exact ⟨fun _ => ⟨fun _ => ⟨fun q => absurd q (ne 0 (by decide)), fun _ => ⟨fun q => absurd q (ne 1 (by decide)), fun _ => ⟨fun q => absurd q (ne 2 (by decide)), fun _ => ⟨fun q => absurd q (ne 3 (by decide)), fun _ => hK⟩⟩⟩⟩, fun q => absurd e20 q⟩, fun q => absurd e10 q⟩
    · unfold wp_X9_about
      rw [p_within, if_pos q, p_within, if_pos e10, p_within, if_pos e20]
      exact ⟨fun q => absurd rfl q, fun _ => ⟨fun q => absurd rfl q, fun _ => ⟨fun _ => hK, fun q => absurd rfl q⟩⟩⟩
  by_cases a1 : p0 < 0
  · exact neg a1
  · obtain ⟨N, hN, e⟩ := i_nat a1
    have L : ∀ n : Nat, n < 2 ^ 31 → (p0 < nI n ↔ N < n) := by intro n hn; rw [e]; exact nI_ltI hN hn
    have M : ∀ n : Nat, n < 2 ^ 31 → (nI n < p0 ↔ n < N) := by intro n hn; rw [e]; exact nI_ltI hn hN
    have G : ∀ n : Nat, n < 2 ^ 31 → (nI n ≤ p0 ↔ n ≤ N) := by intro n hn; rw [e]; exact nI_leI hn hN
    have E : ∀ n : Nat, n < 2 ^ 31 → (p0 = nI n ↔ N = n) := by intro n hn; rw [e]; exact nI_eq hN hn
    have l10 : p0 < 10 ↔ N < 10 := L 10 (by decide)
    have l20 : p0 < 20 ↔ N < 20 := L 20 (by decide)
    have g18 : (18 : Int32) ≤ p0 ↔ 18 ≤ N := G 18 (by decide)
    have g20 : (20 : Int32) ≤ p0 ↔ 20 ≤ N := G 20 (by decide)
    have g28 : (28 : Int32) ≤ p0 ↔ 28 ≤ N := G 28 (by decide)
    have q0 : p0 = 0 ↔ N = 0 := E 0 (by decide)
    have q1 : p0 = 1 ↔ N = 1 := E 1 (by decide)
    have q2 : p0 = 2 ↔ N = 2 := E 2 (by decide)
    have q3 : p0 = 3 ↔ N = 3 := E 3 (by decide)
    have m3 : (3 : Int32) < p0 ↔ 3 < N := M 3 (by decide)
    have m17 : (17 : Int32) < p0 ↔ 17 < N := M 17 (by decide)
    have m27 : (27 : Int32) < p0 ↔ 27 < N := M 27 (by decide)
    have wi : ∀ (K : Int32 → tm_St → Prop), (N < 4 → wp_X9_aboutNow p0 r (fun r4 s5 => K r4 s5)) → (10 ≤ N ∧ N ≤ 17 → wp_X9_aboutNow p0 r (fun r4 s5 => K r4 s5)) → (20 ≤ N ∧ N ≤ 27 → wp_X9_aboutNow p0 r (fun r4 s5 => K r4 s5)) → ((4 ≤ N ∧ N < 10) ∨ (18 ≤ N ∧ N < 20) ∨ 28 ≤ N → K (-1002) r) → wp_X9_about p0 r K := by
      intro K k1 k2 k3 k4
      unfold wp_X9_about
      rw [p_within, if_neg a1, p_within, p_within]
      by_cases c1 : 3 < N
      · rw [if_pos (m3.mpr c1)]
        refine ⟨fun q => absurd rfl q, fun _ => ?_⟩
        by_cases c2 : N < 10
        · rw [if_pos (l10.mpr c2), if_pos (l20.mpr (by omega))]
          exact ⟨fun q => absurd rfl q, fun _ => ⟨fun _ => k4 (by omega), fun q => absurd rfl q⟩⟩
        · rw [if_neg (fun q => c2 (l10.mp q))]
          by_cases c3 : 17 < N
          · rw [if_pos (m17.mpr c3)]
            refine ⟨fun q => absurd rfl q, fun _ => ?_⟩
            by_cases c4 : N < 20
            · rw [if_pos (l20.mpr c4)]
              exact ⟨fun _ => k4 (by omega), fun q => absurd rfl q⟩
            · rw [if_neg (fun q => c4 (l20.mp q))]
              by_cases c5 : 27 < N
              · rw [if_pos (m27.mpr c5)]
                exact ⟨fun _ => k4 (by omega), fun q => absurd rfl q⟩
              · rw [if_neg (fun q => c5 (m27.mp q))]
                exact ⟨fun q => absurd q (by decide), fun _ => k3 (by omega)⟩
          · rw [if_neg (fun q => c3 (m17.mp q))]
            exact ⟨fun _ => k2 (by omega), fun q => absurd q (by decide)⟩
      · rw [if_neg (fun q => c1 (m3.mp q))]
        exact ⟨fun _ => k1 (by omega), fun q => absurd q (by decide)⟩
    have to56 : ∀ (K : Int32 → tm_St → Prop), (N < 10 ∨ (18 ≤ N ∧ N < 20) ∨ 28 ≤ N) → wp_X8_about_56 K p0 c → wp_X8_about p0 c K := by
      intro K k1 k2
      unfold wp_X8_about
      exact ⟨fun q => ⟨fun _ => k2, fun q2 => absurd (l20.mpr (by have := l10.mp q; omega)) q2⟩, fun q => ⟨fun _ => ⟨fun _ => k2, fun q2 => ⟨fun _ => k2, fun q3 => absurd (g28.mpr (by have t1 : 10 ≤ N := Nat.le_of_not_lt (fun z => q (l10.mpr z)); have t2 : 20 ≤ N := Nat.le_of_not_lt (fun z => q2 (l20.mpr z)); omega)) q3⟩⟩, fun q2 => absurd (g18.mpr (by have t1 : 10 ≤ N := Nat.le_of_not_lt (fun z => q (l10.mpr z)); omega)) q2⟩⟩
    by_cases b1 : N < 4
    · rcases (show N = 0 ∨ N = 1 ∨ N = 2 ∨ N = 3 by omega) with z | z | z | z
      · refine tm_C0_i (c 3 2) (fun K hK => to56 K (by omega) ?_) (fun K hK => wi K (fun _ => ?_) (fun q => absurd q (by omega)) (fun q => absurd q (by omega)) (fun q => absurd q (by omega)))
        · unfold wp_X8_about_56; exact ⟨fun _ => hK, fun q => absurd (q0.mpr z) q⟩
        · unfold wp_X9_aboutNow; exact ⟨fun _ => by rw [← x0]; exact hK, fun q => absurd (q0.mpr z) q⟩
      · refine tm_C0_i (c 4 4) (fun K hK => to56 K (by omega) ?_) (fun K hK => wi K (fun _ => ?_) (fun q => absurd q (by omega)) (fun q => absurd q (by omega)) (fun q => absurd q (by omega)))
        · unfold wp_X8_about_56; exact ⟨fun q => absurd (q0.mp q) (by omega), fun _ => ⟨fun _ => hK, fun q => absurd (q1.mpr z) q⟩⟩
        · unfold wp_X9_aboutNow; exact ⟨fun q => absurd (q0.mp q) (by omega), fun _ => ⟨fun _ => ⟨by unfold vp_in; decide, by rw [x1] at hK; exact hK⟩, fun q => absurd (q1.mpr z) q⟩⟩
      · refine tm_C0_i (c 9 4) (fun K hK => to56 K (by omega) ?_) (fun K hK => wi K (fun _ => ?_) (fun q => absurd q (by omega)) (fun q => absurd q (by omega)) (fun q => absurd q (by omega)))
        · unfold wp_X8_about_56; exact ⟨fun q => absurd (q0.mp q) (by omega), fun _ => ⟨fun q => absurd (q1.mp q) (by omega), fun _ => ⟨fun _ => hK, fun q => absurd (q2.mpr z) q⟩⟩⟩
        · unfold wp_X9_aboutNow; exact ⟨fun q => absurd (q0.mp q) (by omega), fun _ => ⟨fun q => absurd (q1.mp q) (by omega), fun _ => ⟨fun _ => ⟨by unfold vp_in; decide, by rw [x2] at hK; exact hK⟩, fun q => absurd (q2.mpr z) q⟩⟩⟩
      · refine tm_C0_i (c 4 7 + c 9 7) (fun K hK => to56 K (by omega) ?_) (fun K hK => wi K (fun _ => ?_) (fun q => absurd q (by omega)) (fun q => absurd q (by omega)) (fun q => absurd q (by omega)))
        · unfold wp_X8_about_56; exact ⟨fun q => absurd (q0.mp q) (by omega), fun _ => ⟨fun q => absurd (q1.mp q) (by omega), fun _ => ⟨fun q => absurd (q2.mp q) (by omega), fun _ => ⟨fun _ => hK, fun q => absurd (q3.mpr z) q⟩⟩⟩⟩
        · unfold wp_X9_aboutNow; exact ⟨fun q => absurd (q0.mp q) (by omega), fun _ => ⟨fun q => absurd (q1.mp q) (by omega), fun _ => ⟨fun q => absurd (q2.mp q) (by omega), fun _ => ⟨fun _ => p_onWay r _ (by rw [← x3]; exact hK), fun q => absurd (q3.mpr z) q⟩⟩⟩⟩
    · by_cases b2 : 10 ≤ N ∧ N ≤ 17
      · have e1 : p0 - 10 = nI (N - 10) := by rw [e]; exact pk_sub (b := 10) (by omega)
        refine tm_C0_i (c 5 (N - 10)) (fun K hK => ?_) (fun K hK => wi K (fun q => absurd q (by omega)) (fun _ => ?_) (fun q => absurd q (by omega)) (fun q => absurd q (by omega)))
        · unfold wp_X8_about
          refine ⟨fun q => absurd (l10.mp q) (by omega), fun _ => ⟨fun q => absurd (g18.mp q) (by omega), fun _ => ?_⟩⟩
          rw [e1, nI_clamp (by omega)]
          exact ⟨vp_in_nI (by omega) (by decide), hK⟩
        · unfold wp_X9_aboutNow
          refine ⟨fun q => absurd (q0.mp q) (by omega), fun _ => ⟨fun q => absurd (q1.mp q) (by omega), fun _ => ⟨fun q => absurd (q2.mp q) (by omega), fun _ => ⟨fun q => absurd (q3.mp q) (by omega), fun _ => ⟨fun q => absurd (g20.mp q) (by omega), fun _ => ?_⟩⟩⟩⟩⟩
          rw [e1, nI_clamp (by omega)]
          rw [y0 _ (by omega), Nat.mul_zero, Nat.zero_add] at hK
          exact ⟨vp_in_nI (by omega) (by decide), hK⟩
      · by_cases b3 : 20 ≤ N ∧ N ≤ 27
        · have e1 : p0 - 20 = nI (N - 20) := by rw [e]; exact pk_sub (b := 20) (by omega)
          have e2 : p0 - 12 = nI (N - 12) := by rw [e]; exact pk_sub (b := 12) (by omega)
          refine tm_C0_i (c 10 (N - 20)) (fun K hK => ?_) (fun K hK => wi K (fun q => absurd q (by omega)) (fun q => absurd q (by omega)) (fun _ => ?_) (fun q => absurd q (by omega)))
          · unfold wp_X8_about
            refine ⟨fun q => absurd (l10.mp q) (by omega), fun _ => ⟨fun _ => ⟨fun q => absurd (l20.mp q) (by omega), fun _ => ⟨fun q => absurd (g28.mp q) (by omega), fun _ => ?_⟩⟩, fun q => absurd (g18.mpr (by omega)) q⟩⟩
            rw [e1, nI_clamp (by omega)]
            exact ⟨vp_in_nI (by omega) (by decide), hK⟩
          · unfold wp_X9_aboutNow
            refine ⟨fun q => absurd (q0.mp q) (by omega), fun _ => ⟨fun q => absurd (q1.mp q) (by omega), fun _ => ⟨fun q => absurd (q2.mp q) (by omega), fun _ => ⟨fun q => absurd (q3.mp q) (by omega), fun _ => ⟨fun _ => ?_, fun q => absurd (g20.mpr (by omega)) q⟩⟩⟩⟩⟩
            rw [e2, nI_clamp (by omega)]
            rw [y1 _ (by omega), show 8 * 1 + (N - 20) = N - 12 by omega] at hK
            exact ⟨vp_in_nI (by omega) (by decide), hK⟩
        · refine tm_C0_i (-1002) (fun K hK => to56 K (by omega) ?_) (fun K hK => wi K (fun q => absurd q (by omega)) (fun q => absurd q (by omega)) (fun q => absurd q (by omega)) (fun _ => hK))
          unfold wp_X8_about_56
          exact ⟨fun q => absurd (q0.mp q) (by omega), fun _ => ⟨fun q => absurd (q1.mp q) (by omega), fun _ => ⟨fun q => absurd (q2.mp q) (by omega), fun _ => ⟨fun q => absurd (q3.mp q) (by omega), fun _ => hK⟩⟩⟩⟩
theorem c_about {u : Nat} {c r : tm_St} (h : tm_RR u c r) (p0 : Int32) : tm_CC (u + 200) (wp_X8_about p0 c) (wp_X9_about p0 r) := tm_C0_C h (c_about0 h p0)
