theorem s_send {e : Nat} (he : e < 2) {c7 c6 : Int32} {u S X T G S' X' T' G' : Nat} {σ r : tm_St} (h : tm_Q e c7 c6 u S X T G S' X' T' G' σ r) {t d : Nat} (hD : t + d < 2 ^ 31) (h12 : r 0 12 = nI t) (h08 : r 0 8 = nI d) {so on tw nn aa : Int32} (k3 : so = 3 → ∃ b, b < 8 ∧ on = nI b) (k5 : so = 5 ∨ so = 6 → ∃ q, q ≤ 24 ∧ tw = nI q) (k7 : ¬ so = 7) : ∃ σ' r' : tm_St, (∀ K : tm_St → Prop, K σ' → wp_X7_send (nI (t + d)) so on tw nn aa (tm_pj [14, 15, 16, 17, 18] σ) (fun u3 => ∀ s2 : tm_St, s2 = tm_pk [14, 15, 16, 17, 18] σ u3 → K s2)) ∧ (∀ K : tm_St → Prop, K r' → wp_X9_send (nI e) so on tw nn aa r K) ∧ tm_Q e c7 c6 u S X T G S' X' T' G' σ' r' ∧ tm_F e r r' ∧ tm_FC σ σ' ∧ σ' 0 = σ 0 ∧ r' 1 = r 1 := by
  obtain ⟨d1, d2, d3⟩ := q_send he h (j := (t + d) % 16) (Nat.mod_lt _ (by decide)) (so := so) (on := on) (tw := tw) (nn := nn) (aa := aa) k3 k5 (fun q => absurd q k7) (nI (8 * (16 * e + (t + d) % 16)))
  have hf2 : (tm_pj [14, 15, 16, 17, 18] σ) 4 ((t + d) % 16) = 0 ∨ (tm_pj [14, 15, 16, 17, 18] σ) 4 ((t + d) % 16) = 1 := by
    have : (tm_pj [14, 15, 16, 17, 18] σ) 4 ((t + d) % 16) = σ 18 ((t + d) % 16) := rfl
    rw [this, h.1.2.2.2.2.1.2.2.2.2.1 _ (Nat.mod_lt _ (by decide))]
    exact (h.2.2.2.2.1 _ (Nat.mod_lt _ (by decide))).1
  refine ⟨_, _, fun K hK => ?_, fun K hK => ?_, d1, d2, d3, rfl, rfl⟩
  · refine p_sendC hD _ _ _ _ _ _ hf2 _ ?_
    intro s6 e6
    rw [tm_pk_B_3, tm_pk_B_0, tm_pk_B_4, tm_pk_pj] at e6
    rw [e6]
    exact hK
  · exact p_sendR (t := t) (d := d) he hD r _ _ _ _ _ h12 h08 _ hK
def tm_P3 (e : Nat) (c7 c6 : Int32) (u S' X' T' G' : Nat) (σ r σ' r' : tm_St) : Prop :=
  (∃ S X T G, tm_Q e c7 c6 u S X T G S' X' T' G' σ' r') ∧ tm_F e r r' ∧ tm_FC σ σ' ∧ (∀ k, ¬ k = 13 → σ' 0 k = σ 0 k) ∧ r' 1 (24 * e + 16) = r 1 (24 * e + 16)
theorem s_speak {e : Nat} (he : e < 2) {c7 c6 : Int32} {u S X T G S' X' T' G' : Nat} {σ r : tm_St} (h : tm_Q e c7 c6 u S X T G S' X' T' G' σ r) {t d : Nat} (hD : t + d < 2 ^ 31) (h12 : r 0 12 = nI t) (h08 : r 0 8 = nI d) (hL : u < 2 ^ 31) : ∃ σ' r' : tm_St, (∀ K : tm_St → Prop, K σ' → wp_X3_speak (nI (t + d)) σ K) ∧ (∀ K : tm_St → Prop, K r' → wp_X9_sendsIn (nI e) r K) ∧ tm_P3 e c7 c6 u S' X' T' G' σ r σ' r' := by
  have m0 : σ 0 6 = r 1 (24 * e) := h.1.1.1
  have m1 : σ 0 8 = r 1 (24 * e + 1) := h.1.1.2.1
  have m2 : σ 0 10 = r 1 (24 * e + 2) := h.1.1.2.2.1
  have m3 : σ 0 11 = r 1 (24 * e + 3) := h.1.1.2.2.2.1
  have m4 : σ 0 12 = r 1 (24 * e + 4) := h.1.1.2.2.2.2.1
  obtain ⟨⟨p, hp, ep⟩, ⟨L, hLu, eL⟩, ⟨og, hog, eog⟩, ⟨rt, hrt, ert⟩, hE5⟩ := h.2.1
  rcases (show p = 0 ∨ p = 1 ∨ p = 2 ∨ p = 3 ∨ p = 4 ∨ p = 5 ∨ p = 6 ∨ p = 7 by omega) with q | q | q | q | q | q | q | q <;> subst q
  · obtain ⟨σ', r', k1, k2, k3, k4, k5, k6, k7⟩ := s_send he h hD h12 h08 (so := 0) (on := 0) (tw := 0) (nn := 0) (aa := 0) (fun z => absurd z (by decide)) (fun z => absurd z (by decide)) (by decide)
    refine ⟨σ', r', fun K hK => ?_, fun K hK => ?_, ⟨⟨S, X, T, G, k3⟩, k4, k5, fun k _ => by rw [k6], by rw [k7]⟩⟩
    · have := k1 K hK
      unfold wp_X3_speak
      rw [m0, ep]
      exact ⟨fun z => absurd z (by decide), fun _ => ⟨fun z => absurd z (by decide), fun _ => ⟨fun z => absurd z (by decide), fun _ => ⟨fun z => absurd z (by decide), fun _ => ⟨fun z => absurd z (by decide), fun _ => ⟨fun z => absurd z (by decide), fun _ => ⟨fun z => absurd z (by decide), fun _ => this⟩⟩⟩⟩⟩⟩⟩
    · have := k2 K hK
      unfold wp_X9_sendsIn
      rw [p_of_0 he, ep]
      exact ⟨fun _ => this, fun z => absurd rfl z⟩
  · obtain ⟨σ', r', k1, k2, k3, k4, k5, k6, k7⟩ := s_send he h hD h12 h08 (so := 1) (on := 0) (tw := 0) (nn := 0) (aa := 0) (fun z => absurd z (by decide)) (fun z => absurd z (by decide)) (by decide)
    refine ⟨σ', r', fun K hK => ?_, fun K hK => ?_, ⟨⟨S, X, T, G, k3⟩, k4, k5, fun k _ => by rw [k6], by rw [k7]⟩⟩
    · have := k1 K hK
      unfold wp_X3_speak
      rw [m0, ep]
      exact ⟨fun _ => this, fun z => absurd rfl z⟩
    · have := k2 K hK
      unfold wp_X9_sendsIn
      rw [p_of_0 he, ep]
      exact ⟨fun z => absurd z (by decide), fun _ => ⟨fun _ => this, fun z => absurd rfl z⟩⟩
  · obtain ⟨σ', r', k1, k2, k3, k4, k5, k6, k7⟩ := s_send he h hD h12 h08 (so := 2) (on := 0) (tw := 0) (nn := 0) (aa := 0) (fun z => absurd z (by decide)) (fun z => absurd z (by decide)) (by decide)
    refine ⟨σ', r', fun K hK => ?_, fun K hK => ?_, ⟨⟨S, X, T, G, k3⟩, k4, k5, fun k _ => by rw [k6], by rw [k7]⟩⟩
    · have := k1 K hK
      unfold wp_X3_speak
      rw [m0, ep]
      exact ⟨fun z => absurd z (by decide), fun _ => ⟨fun _ => this, fun z => absurd rfl z⟩⟩
    · have := k2 K hK
      unfold wp_X9_sendsIn
      rw [p_of_0 he, ep]
      exact ⟨fun z => absurd z (by decide), fun _ => ⟨fun z => absurd z (by decide), fun _ => ⟨fun _ => this, fun z => absurd rfl z⟩⟩⟩
  · by_cases c : L < 8
    · have c1 : ¬ (8 : Int32) ≤ nI L := nI_ge (b := 8) c (by decide)
      obtain ⟨σ', r', k1, k2, k3, k4, k5, k6, k7⟩ := s_send he h hD h12 h08 (so := 3) (on := nI L) (tw := 0) (nn := 0) (aa := 0) (fun _ => ⟨L, c, rfl⟩) (fun z => absurd z (by decide)) (by decide)
      refine ⟨σ', r', fun K hK => ?_, fun K hK => ?_, ⟨⟨S, X, T, G, k3⟩, k4, k5, fun k _ => by rw [k6], by rw [k7]⟩⟩
      · have := k1 K hK
        unfold wp_X3_speak
        rw [m0, ep]
        refine ⟨fun z => absurd z (by decide), fun _ => ⟨fun z => absurd z (by decide), fun _ => ⟨fun _ => ?_, fun z => absurd rfl z⟩⟩⟩
        unfold wp_X3_speakProbe
        rw [m1, eL]
        exact ⟨fun z => absurd z c1, fun _ => this⟩
      · have := k2 K hK
        unfold wp_X9_sendsIn
        rw [p_of_0 he, ep]
        refine ⟨fun z => absurd z (by decide), fun _ => ⟨fun z => absurd z (by decide), fun _ => ⟨fun z => absurd z (by decide), fun _ => ⟨fun _ => ?_, fun z => absurd rfl z⟩⟩⟩⟩
        rw [p_of_1 he, eL]
        refine ⟨fun z => absurd z c1, fun _ => ?_⟩
        unfold wp_X9_sendsIn_103
        refine ⟨fun z => absurd z (by decide), fun _ => ⟨fun z => absurd z (by decide), fun _ => ?_⟩⟩
        rw [p_of_1 he, eL]
        exact this
    · have c1 : (8 : Int32) ≤ nI L := nI_le (a := 8) (by omega) (by omega)
      obtain ⟨σ', r', k1, k2, k3, k4, k5, k6, k7⟩ := s_send he h hD h12 h08 (so := 0) (on := 0) (tw := 0) (nn := 0) (aa := 0) (fun z => absurd z (by decide)) (fun z => absurd z (by decide)) (by decide)
      refine ⟨σ', r', fun K hK => ?_, fun K hK => ?_, ⟨⟨S, X, T, G, k3⟩, k4, k5, fun k _ => by rw [k6], by rw [k7]⟩⟩
      · have := k1 K hK
        unfold wp_X3_speak
        rw [m0, ep]
        refine ⟨fun z => absurd z (by decide), fun _ => ⟨fun z => absurd z (by decide), fun _ => ⟨fun _ => ?_, fun z => absurd rfl z⟩⟩⟩
        unfold wp_X3_speakProbe
        rw [m1, eL]
        exact ⟨fun _ => this, fun z => absurd c1 z⟩
      · have := k2 K hK
        unfold wp_X9_sendsIn
        rw [p_of_0 he, ep]
        refine ⟨fun z => absurd z (by decide), fun _ => ⟨fun z => absurd z (by decide), fun _ => ⟨fun z => absurd z (by decide), fun _ => ⟨fun _ => ?_, fun z => absurd rfl z⟩⟩⟩⟩
        rw [p_of_1 he, eL]
        refine ⟨fun _ => ?_, fun z => absurd c1 z⟩
        unfold wp_X9_sendsIn_103
        exact ⟨fun _ => ⟨fun _ => this, fun z => absurd rfl z⟩, fun z => absurd rfl z⟩
  · obtain ⟨σ1, r1, k1, k2, k3, k4, k5, k6, k7⟩ := s_send he h hD h12 h08 (so := 4) (on := 0) (tw := 0) (nn := 0) (aa := 0) (fun z => absurd z (by decide)) (fun z => absurd z (by decide)) (by decide)
    obtain ⟨σ2, r2, j1, j2, j3, j4, j5, j6, j7, j8⟩ := q_train he k3
    refine ⟨σ2, r2, fun K hK => ?_, fun K hK => ?_, ⟨S, X, T, G, j3⟩, tm_F_tr k4 j4, tm_FC_tr k5 j5, fun k _ => by rw [j6, k6], by rw [j7, k7]⟩
    · have := k1 (fun s10 => wp_X0_follow (s10 0 8) (tm_pj [1, 2, 3] s10) (fun u13 => ∀ s12 : tm_St, s12 = tm_pk [1, 2, 3] s10 u13 → K s12)) (j1 K hK)
      unfold wp_X3_speak
      rw [m0, ep]
      exact ⟨fun z => absurd z (by decide), fun _ => ⟨fun z => absurd z (by decide), fun _ => ⟨fun z => absurd z (by decide), fun _ => ⟨fun _ => this, fun z => absurd rfl z⟩⟩⟩⟩
    · have := k2 (fun s25 => wp_X9_trains (nI e) s25 (fun s26 => K s26)) (j2 K hK)
      unfold wp_X9_sendsIn
      rw [p_of_0 he, ep]
      exact ⟨fun z => absurd z (by decide), fun _ => ⟨fun z => absurd z (by decide), fun _ => ⟨fun z => absurd z (by decide), fun _ => ⟨fun z => absurd z (by decide), fun _ => ⟨fun _ => this, fun z => absurd rfl z⟩⟩⟩⟩⟩
  · obtain ⟨σ', r', k1, k2, k3, k4, k5, k6, k7⟩ := s_send he h hD h12 h08 (so := 5) (on := r 1 (24 * e + 2)) (tw := nI og) (nn := 0) (aa := 0) (fun z => absurd z (by decide)) (fun _ => ⟨og, hog, rfl⟩) (by decide)
    refine ⟨σ', r', fun K hK => ?_, fun K hK => ?_, ⟨⟨S, X, T, G, k3⟩, k4, k5, fun k _ => by rw [k6], by rw [k7]⟩⟩
    · have := k1 K hK
      unfold wp_X3_speak
      rw [m0, ep]
      refine ⟨fun z => absurd z (by decide), fun _ => ⟨fun z => absurd z (by decide), fun _ => ⟨fun z => absurd z (by decide), fun _ => ⟨fun z => absurd z (by decide), fun _ => ⟨fun _ => ?_, fun z => absurd rfl z⟩⟩⟩⟩⟩
      rw [m2, m3, eog]
      exact this
    · have := k2 K hK
      unfold wp_X9_sendsIn
      rw [p_of_0 he, ep]
      refine ⟨fun z => absurd z (by decide), fun _ => ⟨fun z => absurd z (by decide), fun _ => ⟨fun z => absurd z (by decide), fun _ => ⟨fun z => absurd z (by decide), fun _ => ⟨fun z => absurd z (by decide), fun _ => ⟨fun _ => ?_, fun z => absurd rfl z⟩⟩⟩⟩⟩⟩
      rw [p_of_2 he, p_of_3 he, eog]
      exact this
  · obtain ⟨σ', r', k1, k2, k3, k4, k5, k6, k7⟩ := s_send he h hD h12 h08 (so := 6) (on := r 1 (24 * e + 2)) (tw := nI rt) (nn := 0) (aa := 0) (fun z => absurd z (by decide)) (fun _ => ⟨rt, hrt, rfl⟩) (by decide)
    refine ⟨σ', r', fun K hK => ?_, fun K hK => ?_, ⟨⟨S, X, T, G, k3⟩, k4, k5, fun k _ => by rw [k6], by rw [k7]⟩⟩
    · have := k1 K hK
      unfold wp_X3_speak
      rw [m0, ep]
      refine ⟨fun z => absurd z (by decide), fun _ => ⟨fun z => absurd z (by decide), fun _ => ⟨fun z => absurd z (by decide), fun _ => ⟨fun z => absurd z (by decide), fun _ => ⟨fun z => absurd z (by decide), fun _ => ⟨fun _ => ?_, fun z => absurd rfl z⟩⟩⟩⟩⟩⟩
      rw [m2, m4, ert]
      exact this
    · have := k2 K hK
      unfold wp_X9_sendsIn
      rw [p_of_0 he, ep]
      refine ⟨fun z => absurd z (by decide), fun _ => ⟨fun z => absurd z (by decide), fun _ => ⟨fun z => absurd z (by decide), fun _ => ⟨fun z => absurd z (by decide), fun _ => ⟨fun z => absurd z (by decide), fun _ => ⟨fun z => absurd z (by decide), fun _ => ⟨fun _ => ?_, fun z => absurd rfl z⟩⟩⟩⟩⟩⟩⟩
      rw [p_of_2 he, p_of_4 he, ert]
      exact this
  · obtain ⟨σ', r', S2, X2, k1, k2, k3, k4, k5, k6, k7, k8⟩ := s_frame he h hD h12 h08
    refine ⟨σ', r', fun K hK => ?_, fun K hK => ?_, ⟨S2, X2, T, G, k3⟩, k4, k5, k6, k8⟩
    · have := k1 K hK
      unfold wp_X3_speak
      rw [m0, ep]
      exact ⟨fun z => absurd z (by decide), fun _ => ⟨fun z => absurd z (by decide), fun _ => ⟨fun z => absurd z (by decide), fun _ => ⟨fun z => absurd z (by decide), fun _ => ⟨fun z => absurd z (by decide), fun _ => ⟨fun z => absurd z (by decide), fun _ => ⟨fun _ => this, fun z => absurd rfl z⟩⟩⟩⟩⟩⟩⟩
    · have := k2 K hK
      unfold wp_X9_sendsIn
      rw [p_of_0 he, ep]
      exact ⟨fun z => absurd z (by decide), fun _ => ⟨fun z => absurd z (by decide), fun _ => ⟨fun z => absurd z (by decide), fun _ => ⟨fun z => absurd z (by decide), fun _ => ⟨fun z => absurd z (by decide), fun _ => ⟨fun z => absurd z (by decide), fun _ => ⟨fun z => absurd z (by decide), fun _ => this⟩⟩⟩⟩⟩⟩⟩
