theorem q_phase {e : Nat} (he : e < 2) {c7 c6 : Int32} {u S X T G S' X' T' G' : Nat} {σ r : tm_St} (h : tm_Q e c7 c6 u S X T G S' X' T' G' σ r) {p : Nat} (hp : p ≤ 7) : tm_Q e c7 c6 u S X T G S' X' T' G' (tm_s (tm_s σ 0 (tm_u (σ 0) 6 (nI p))) 0 (tm_u (tm_u (σ 0) 6 (nI p)) 8 0)) (tm_s r 1 (upd (upd (r 1) (24 * e) (nI p)) (24 * e + 1) 0)) ∧ tm_F e r (tm_s r 1 (upd (upd (r 1) (24 * e) (nI p)) (24 * e + 1) 0)) ∧ tm_FC σ (tm_s (tm_s σ 0 (tm_u (σ 0) 6 (nI p))) 0 (tm_u (tm_u (σ 0) 6 (nI p)) 8 0)) := by
  obtain ⟨⟨hM, hR, h8, hWi, hWo, hla, h7, h6, hu⟩, hE, hE', hx, hs, hs', ht, hd⟩ := h
  have hF : ∀ k, k < 24 → upd (upd (r 1) (24 * e) (nI p)) (24 * e + 1) 0 (24 * (1 - e) + k) = r 1 (24 * (1 - e) + k) := tm_ux he 1 (by decide) _ (tm_ux0 he _ (fun _ _ => rfl))
  refine ⟨⟨⟨?_, hR, h8, hWi, hWo, hla, h7, h6, hu⟩, tm_E_01 hE hp, tm_E_x he hE' hF, hx, hs, hs', ht, hd⟩, ⟨hF, fun _ _ => rfl, fun _ _ => rfl, rfl, rfl, fun _ _ => rfl, fun _ _ => rfl, rfl, rfl, rfl, rfl, rfl, rfl, rfl⟩, ⟨rfl, rfl, rfl, rfl, rfl, rfl⟩⟩
  exact (by
    obtain ⟨m0, m1, m2, m3, m4, m5, m6, m7, m8, m9, m10, m11, m12, m13, m14, m15, m17⟩ := hM
    refine ⟨?_, ?_, ?_, ?_, ?_, ?_, ?_, ?_, ?_, ?_, ?_, ?_, ?_, ?_, ?_, ?_, ?_⟩ <;> simp [tm_s_at, tm_u_at, tm_upd_at, m0, m1, m2, m3, m4, m5, m6, m7, m8, m9, m10, m11, m12, m13, m14, m15, m17])
theorem r_put0 {u : Nat} {c r σ' r' : tm_St} (h : tm_RR u c r) (step : ∀ S X T G S' X' T' G' : Nat, tm_Q 0 (c 22 7) (c 26 6) u S X T G S' X' T' G' (tm_pj [14, 15, 16, 17, 18, 19, 20, 21, 3, 9, 10, 11, 12, 13, 4, 5, 6, 7, 8, 4, 9] c) r → tm_Q 0 (c 22 7) (c 26 6) u S X T G S' X' T' G' σ' r') (k4 : tm_F 0 r r') (k5 : tm_FC (tm_pj [14, 15, 16, 17, 18, 19, 20, 21, 3, 9, 10, 11, 12, 13, 4, 5, 6, 7, 8, 4, 9] c) σ') (k6 : σ' 0 6 = 7 → σ' 0 9 = r' 1 16) : tm_RR u (tm_pk [14, 15, 16, 17, 18, 19, 20, 21, 3, 9, 10, 11, 12, 13, 4, 5, 6, 7, 8] c σ') r' := by
  obtain ⟨⟨S, X, T, G, S', X', T', G', q0, q1⟩, z0, z1, ⟨n, n1, n2, n3, n4⟩, ht, hl⟩ := h
  have k3 := step _ _ _ _ _ _ _ _ q0
  have k7 := q_swap (e := 0) (by decide) (τ := tm_pj [22, 23, 24, 25, 26, 27, 28, 29, 3, 4, 5, 6, 7, 8, 9, 10, 11, 12, 13, 4, 9] c) k3 q1.1 k4 k5 rfl
  refine ⟨⟨S, X, T, G, S', X', T', G', k3, k7⟩, k6, ?_, ⟨n, n1, n2, ?_, ?_⟩, ?_, ?_⟩
  · intro q
    exact (z1 q).trans (k4.1 16 (by decide)).symm
  · exact k4.2.2.2.2.2.2.2.2.2.2.2.2.2.trans n3
  · intro j hj
    rw [k4.2.2.2.2.2.2.2.2.2.1]
    exact n4 j hj
  · exact ht.trans k4.2.2.2.2.2.2.2.2.2.2.2.1.symm
  · show σ' 8 3 = _
    rw [k5.2.2.1, k4.2.2.2.2.2.2.2.2.2.2.2.2.1]
    exact hl
theorem r_force0 {u : Nat} {c r : tm_St} (h : tm_RR u c r) {p : Nat} (hp : p < 7) : ∃ c' r' : tm_St, tm_RR u c' r' ∧ (∀ K : tm_St → Prop, K c' → wp_X3_force (nI p) (tm_pj [14, 15, 16, 17, 18, 19, 20, 21, 3, 9, 10, 11, 12, 13, 4, 5, 6, 7, 8, 4, 9] c) (fun u6 => ∀ s5 : tm_St, s5 = tm_pk [14, 15, 16, 17, 18, 19, 20, 21, 3, 9, 10, 11, 12, 13, 4, 5, 6, 7, 8] c u6 → K s5)) ∧ (∀ K : tm_St → Prop, K r' → wp_X9_goesTo 0 (nI p) r (fun s7 => K s7)) := by
  refine ⟨_, _, r_put0 h (fun S X T G S' X' T' G' q => (q_phase (e := 0) (by decide) q (p := p) (by omega)).1) ?_ ?_ ?_, ?_, ?_⟩
  · obtain ⟨⟨S, X, T, G, S', X', T', G', q0, q1⟩, -⟩ := h
    exact (q_phase (e := 0) (by decide) q0 (p := p) (by omega)).2.1
  · exact ⟨rfl, rfl, rfl, rfl, rfl, rfl⟩
  · intro q
    have q2 : nI p = nI 7 := q
    exact absurd ((nI_eq (by omega) (by decide)).mp q2) (by omega)
  · intro K hK
    unfold wp_X3_force
    intro s1 e1 s2 e2 s5 e5
    rw [e5, e2, e1]
    exact hK
  · intro K hK
    unfold wp_X9_goesTo
    refine (p_put_0 (e := 0) (by decide) _ r _).mpr ?_
    refine (p_put_1 (e := 0) (by decide) _ _ _).mpr ?_
    show K _
    rw [tm_s_ss]
    exact hK
theorem r_put1 {u : Nat} {c r σ' r' : tm_St} (h : tm_RR u c r) (step : ∀ S X T G S' X' T' G' : Nat, tm_Q 1 (c 14 7) (c 18 6) u S X T G S' X' T' G' (tm_pj [22, 23, 24, 25, 26, 27, 28, 29, 3, 4, 5, 6, 7, 8, 9, 10, 11, 12, 13, 4, 9] c) r → tm_Q 1 (c 14 7) (c 18 6) u S X T G S' X' T' G' σ' r') (k4 : tm_F 1 r r') (k5 : tm_FC (tm_pj [22, 23, 24, 25, 26, 27, 28, 29, 3, 4, 5, 6, 7, 8, 9, 10, 11, 12, 13, 4, 9] c) σ') (k6 : σ' 0 6 = 7 → σ' 0 9 = r' 1 40) : tm_RR u (tm_pk [22, 23, 24, 25, 26, 27, 28, 29, 3, 4, 5, 6, 7, 8, 9, 10, 11, 12, 13] c σ') r' := by
  obtain ⟨⟨S, X, T, G, S', X', T', G', q0, q1⟩, z0, z1, ⟨n, n1, n2, n3, n4⟩, ht, hl⟩ := h
  have k3 := step _ _ _ _ _ _ _ _ q1
  have k7 := q_swap (e := 1) (by decide) (τ := tm_pj [14, 15, 16, 17, 18, 19, 20, 21, 3, 9, 10, 11, 12, 13, 4, 5, 6, 7, 8, 4, 9] c) k3 q0.1 k4 k5 rfl
  refine ⟨⟨S, X, T, G, S', X', T', G', k7, k3⟩, ?_, k6, ⟨n, n1, n2, ?_, ?_⟩, ?_, ?_⟩
  · intro q
    exact (z0 q).trans (k4.1 16 (by decide)).symm
  · exact k4.2.2.2.2.2.2.2.2.2.2.2.2.2.trans n3
  · intro j hj
    rw [k4.2.2.2.2.2.2.2.2.2.1]
    exact n4 j hj
  · exact ht.trans k4.2.2.2.2.2.2.2.2.2.2.2.1.symm
  · show σ' 8 3 = _
    rw [k5.2.2.1, k4.2.2.2.2.2.2.2.2.2.2.2.2.1]
    exact hl
theorem r_force1 {u : Nat} {c r : tm_St} (h : tm_RR u c r) {p : Nat} (hp : p < 7) : ∃ c' r' : tm_St, tm_RR u c' r' ∧ (∀ K : tm_St → Prop, K c' → wp_X3_force (nI p) (tm_pj [22, 23, 24, 25, 26, 27, 28, 29, 3, 4, 5, 6, 7, 8, 9, 10, 11, 12, 13, 4, 9] c) (fun u6 => ∀ s5 : tm_St, s5 = tm_pk [22, 23, 24, 25, 26, 27, 28, 29, 3, 4, 5, 6, 7, 8, 9, 10, 11, 12, 13] c u6 → K s5)) ∧ (∀ K : tm_St → Prop, K r' → wp_X9_goesTo 1 (nI p) r (fun s7 => K s7)) := by
  refine ⟨_, _, r_put1 h (fun S X T G S' X' T' G' q => (q_phase (e := 1) (by decide) q (p := p) (by omega)).1) ?_ ?_ ?_, ?_, ?_⟩
  · obtain ⟨⟨S, X, T, G, S', X', T', G', q0, q1⟩, -⟩ := h
    exact (q_phase (e := 1) (by decide) q1 (p := p) (by omega)).2.1
  · exact ⟨rfl, rfl, rfl, rfl, rfl, rfl⟩
  · intro q
    have q2 : nI p = nI 7 := q
    exact absurd ((nI_eq (by omega) (by decide)).mp q2) (by omega)
  · intro K hK
    unfold wp_X3_force
    intro s1 e1 s2 e2 s5 e5
    rw [e5, e2, e1]
    exact hK
  · intro K hK
    unfold wp_X9_goesTo
    refine (p_put_0 (e := 1) (by decide) _ r _).mpr ?_
    refine (p_put_1 (e := 1) (by decide) _ _ _).mpr ?_
    show K _
    rw [tm_s_ss]
    exact hK
theorem c_call {u : Nat} {c r : tm_St} (h : tm_RR u c r) (p0 : Int32) : tm_CC (u + 200) (wp_X8_call p0 c) (wp_X9_call p0 r) := by
  rcases i_end p0 with e | e | ⟨n0, n1, ni⟩
  · subst e
    have hp : c 14 6 = r 1 (24 * 0) := (tm_RR_0 h).1.1
    by_cases a1 : c 14 6 = 0
    · have a2 : r 1 (24 * 0) = 0 := by rw [← hp]; exact a1
      obtain ⟨c', r', k0, k1, k2⟩ := r_force0 h (p := 1) (by decide)
      refine ⟨1, c', r', tm_RR_u k0 (by omega), fun K hK => ?_, fun K hK => ?_⟩
      · unfold wp_X8_call; rw [p_modemAt]
        exact ⟨fun _ => ⟨fun _ => k1 (fun s5 => K 1 s5) hK, fun q => absurd a1 q⟩, fun q => absurd q (by decide), fun q => absurd q (by decide)⟩
      · unfold wp_X9_call; rw [p_isEnd]
        refine ⟨fun _ => ?_, fun q => absurd q (by decide)⟩
        refine (p_of_0 (e := 0) (by decide) r _).mpr ?_
        exact ⟨fun _ => k2 (fun s7 => K 1 s7) hK, fun q => absurd a2 q⟩
    · have a2 : ¬ r 1 (24 * 0) = 0 := by rw [← hp]; exact a1
      refine tm_CC_same h (-1003) (fun K hK => ?_) (fun K hK => ?_)
      · unfold wp_X8_call; rw [p_modemAt]
        exact ⟨fun _ => ⟨fun q => absurd q a1, fun _ => hK⟩, fun q => absurd q (by decide), fun q => absurd q (by decide)⟩
      · unfold wp_X9_call; rw [p_isEnd]
        refine ⟨fun _ => ?_, fun q => absurd q (by decide)⟩
        refine (p_of_0 (e := 0) (by decide) r _).mpr ?_
        exact ⟨fun q => absurd q a2, fun _ => hK⟩
  · subst e
    have hp : c 22 6 = r 1 (24 * 1) := (tm_RR_1 h).1.1
    by_cases a1 : c 22 6 = 0
    · have a2 : r 1 (24 * 1) = 0 := by rw [← hp]; exact a1
      obtain ⟨c', r', k0, k1, k2⟩ := r_force1 h (p := 1) (by decide)
      refine ⟨1, c', r', tm_RR_u k0 (by omega), fun K hK => ?_, fun K hK => ?_⟩
      · unfold wp_X8_call; rw [p_modemAt]
        exact ⟨fun q => absurd q (by decide), fun _ => ⟨fun _ => k1 (fun s5 => K 1 s5) hK, fun q => absurd a1 q⟩, fun q => absurd q (by decide)⟩
      · unfold wp_X9_call; rw [p_isEnd]
        refine ⟨fun _ => ?_, fun q => absurd q (by decide)⟩
        refine (p_of_0 (e := 1) (by decide) r _).mpr ?_
        exact ⟨fun _ => k2 (fun s7 => K 1 s7) hK, fun q => absurd a2 q⟩
    · have a2 : ¬ r 1 (24 * 1) = 0 := by rw [← hp]; exact a1
      refine tm_CC_same h (-1003) (fun K hK => ?_) (fun K hK => ?_)
      · unfold wp_X8_call; rw [p_modemAt]
        exact ⟨fun q => absurd q (by decide), fun _ => ⟨fun q => absurd q a1, fun _ => hK⟩, fun q => absurd q (by decide)⟩
      · unfold wp_X9_call; rw [p_isEnd]
        refine ⟨fun _ => ?_, fun q => absurd q (by decide)⟩
        refine (p_of_0 (e := 1) (by decide) r _).mpr ?_
        exact ⟨fun q => absurd q a2, fun _ => hK⟩
  · refine tm_CC_same h (-1001) (fun K hK => ?_) (fun K hK => ?_)
    · unfold wp_X8_call; rw [p_modemAt, if_neg n0, if_neg n1]
      exact ⟨fun q => absurd q (by decide), fun q => absurd q (by decide), fun _ => hK⟩
    · unfold wp_X9_call; rw [p_isEnd, ni]
      exact ⟨fun q => absurd rfl q, fun _ => hK⟩
theorem c_hang {u : Nat} {c r : tm_St} (h : tm_RR u c r) (p0 : Int32) : tm_CC (u + 200) (wp_X8_hang p0 c) (wp_X9_hang p0 r) := by
  rcases i_end p0 with e | e | ⟨n0, n1, ni⟩
  · subst e
    have hp : c 14 6 = r 1 (24 * 0) := (tm_RR_0 h).1.1
    by_cases a1 : c 14 6 = 0
    · have a2 : r 1 (24 * 0) = 0 := by rw [← hp]; exact a1
      refine tm_CC_same h (-1003) (fun K hK => ?_) (fun K hK => ?_)
      · unfold wp_X8_hang; rw [p_modemAt]
        exact ⟨fun _ => ⟨fun q => absurd a1 q, fun _ => hK⟩, fun q => absurd q (by decide), fun q => absurd q (by decide)⟩
      · unfold wp_X9_hang; rw [p_isEnd]
        refine ⟨fun _ => ?_, fun q => absurd q (by decide)⟩
        refine (p_of_0 (e := 0) (by decide) r _).mpr ?_
        exact ⟨fun q => absurd a2 q, fun _ => hK⟩
    · have a2 : ¬ r 1 (24 * 0) = 0 := by rw [← hp]; exact a1
      obtain ⟨c', r', k0, k1, k2⟩ := r_force0 h (p := 0) (by decide)
      refine ⟨c 14 6, c', r', tm_RR_u k0 (by omega), fun K hK => ?_, fun K hK => ?_⟩
      · unfold wp_X8_hang; rw [p_modemAt]
        exact ⟨fun _ => ⟨fun _ x5 e5 => by rw [e5]; exact k1 (fun s6 => K (c 14 6) s6) hK, fun q => absurd q a1⟩, fun q => absurd q (by decide), fun q => absurd q (by decide)⟩
      · unfold wp_X9_hang; rw [p_isEnd]
        refine ⟨fun _ => ?_, fun q => absurd q (by decide)⟩
        refine (p_of_0 (e := 0) (by decide) r _).mpr ?_
        exact ⟨fun _ => k2 (fun s7 => K (r 1 (24 * 0)) s7) (by rw [hp] at hK; exact hK), fun q => absurd q a2⟩
  · subst e
    have hp : c 22 6 = r 1 (24 * 1) := (tm_RR_1 h).1.1
    by_cases a1 : c 22 6 = 0
    · have a2 : r 1 (24 * 1) = 0 := by rw [← hp]; exact a1
      refine tm_CC_same h (-1003) (fun K hK => ?_) (fun K hK => ?_)
      · unfold wp_X8_hang; rw [p_modemAt]
        exact ⟨fun q => absurd q (by decide), fun _ => ⟨fun q => absurd a1 q, fun _ => hK⟩, fun q => absurd q (by decide)⟩
      · unfold wp_X9_hang; rw [p_isEnd]
        refine ⟨fun _ => ?_, fun q => absurd q (by decide)⟩
        refine (p_of_0 (e := 1) (by decide) r _).mpr ?_
        exact ⟨fun q => absurd a2 q, fun _ => hK⟩
    · have a2 : ¬ r 1 (24 * 1) = 0 := by rw [← hp]; exact a1
      obtain ⟨c', r', k0, k1, k2⟩ := r_force1 h (p := 0) (by decide)
      refine ⟨c 22 6, c', r', tm_RR_u k0 (by omega), fun K hK => ?_, fun K hK => ?_⟩
      · unfold wp_X8_hang; rw [p_modemAt]
        exact ⟨fun q => absurd q (by decide), fun _ => ⟨fun _ x5 e5 => by rw [e5]; exact k1 (fun s6 => K (c 22 6) s6) hK, fun q => absurd q a1⟩, fun q => absurd q (by decide)⟩
      · unfold wp_X9_hang; rw [p_isEnd]
        refine ⟨fun _ => ?_, fun q => absurd q (by decide)⟩
        refine (p_of_0 (e := 1) (by decide) r _).mpr ?_
        exact ⟨fun _ => k2 (fun s7 => K (r 1 (24 * 1)) s7) (by rw [hp] at hK; exact hK), fun q => absurd q a2⟩
  · refine tm_CC_same h (-1001) (fun K hK => ?_) (fun K hK => ?_)
    · unfold wp_X8_hang; rw [p_modemAt, if_neg n0, if_neg n1]
      exact ⟨fun q => absurd q (by decide), fun q => absurd q (by decide), fun _ => hK⟩
    · unfold wp_X9_hang; rw [p_isEnd, ni]
      exact ⟨fun q => absurd rfl q, fun _ => hK⟩
theorem c_echo {u : Nat} {c r : tm_St} (h : tm_RR u c r) (p0 p1 p2 : Int32) : tm_CC (u + 200) (wp_X8_echo p0 p1 p2 c) (wp_X9_echo p0 p1 p2 r) := by
  rcases i_end p0 with e | e | ⟨n0, n1, ni⟩
  · subst e
    by_cases a1 : p1 < 0
    · refine tm_CC_same h (-1001) (fun K hK => ?_) (fun K hK => ?_)
      · unfold wp_X8_echo; rw [p_modemAt]
        exact ⟨fun _ => ⟨fun _ => hK, fun q => absurd a1 q⟩, fun q => absurd q (by decide), fun q => absurd q (by decide)⟩
      · unfold wp_X9_echo; rw [p_isEnd, p_within, if_pos a1]
        exact ⟨fun q => absurd q (by decide), fun _ => ⟨fun q => absurd rfl q, fun _ => hK⟩⟩
    · obtain ⟨N, hN, e⟩ := i_nat a1
      have l4 : p1 < 4 ↔ N < 4 := by rw [e]; exact nI_ltI (b := 4) hN (by decide)
      have m3 : (3 : Int32) < p1 ↔ 3 < N := by rw [e]; exact nI_ltI (a := 3) (by decide) hN
      by_cases a2 : N < 4
      · have a3 : ¬ (3 : Int32) < p1 := fun q => absurd (m3.mp q) (by omega)
        by_cases b1 : p2 < (-100)
        · refine tm_CC_same h (-1002) (fun K hK => ?_) (fun K hK => ?_)
          · unfold wp_X8_echo; rw [p_modemAt]
            exact ⟨fun _ => ⟨fun q => absurd q a1, fun _ => ⟨fun _ => ⟨fun _ => hK, fun q => absurd b1 q⟩, fun q => absurd (l4.mpr a2) q⟩⟩, fun q => absurd q (by decide), fun q => absurd q (by decide)⟩
          · unfold wp_X9_echo; rw [p_isEnd, p_within, if_neg a1, if_neg a3, p_within, if_pos b1]
            exact ⟨fun q => absurd q (by decide), fun _ => ⟨fun _ => ⟨fun q => absurd rfl q, fun _ => hK⟩, fun q => absurd q (by decide)⟩⟩
        · by_cases b2 : p2 ≤ 100
          · have b3 : ¬ (100 : Int32) < p2 := Int32.not_lt.mpr b2
            have e8 : vp_in p1 4 := by rw [e]; exact vp_in_nI (by omega) (by decide)
            have eC : p1.toNatClampNeg = N := by rw [e]; exact nI_clamp hN
            have e5 : (4 * 0 + p1 : Int32) = nI (4 * 0 + N) := by rw [e]; exact p_4 (e := 0)
            have e9 : vp_in (4 * 0 + p1) 8 := by rw [e5]; exact vp_in_nI (by omega) (by decide)
            have eD : (4 * 0 + p1 : Int32).toNatClampNeg = 4 * 0 + N := by rw [e5]; exact nI_clamp (by omega)
            have f : c 16 N = r 4 (4 * 0 + N) := (tm_RR_0 h).2.1.1 N (by omega)
            refine ⟨c 16 N, tm_s c 16 (upd (c 16) N p2), tm_s r 4 (upd (r 4) (4 * 0 + N) p2), ?_, fun K hK => ?_, fun K hK => ?_⟩
            · obtain ⟨⟨S, X, T, G, S', X', T', G', ⟨q0, t0⟩, ⟨q1, t1⟩⟩, hh⟩ := tm_RR_u h (show u ≤ u + 200 by omega)
              obtain ⟨hM, ⟨r1, r2, r3, r4, r5⟩, h8, hWi, hWo, hla, h7, h6, hu⟩ := q0
              obtain ⟨hM', ⟨r1', r2', r3', r4', r5'⟩, h8', hWi', hWo', hla', h7', h6', hu'⟩ := q1
              have n0 : ∀ j, j < 4 → upd (c 16) N p2 j = upd (r 4) (4 * 0 + N) p2 (4 * 0 + j) := by
                intro j hj
                rw [tm_upd_at, tm_upd_at]
                by_cases z : j = N
                · rw [if_pos z, if_pos (by omega)]
                · rw [if_neg z, if_neg (by omega)]
                  exact r1 j hj
              have n1 : ∀ j, j < 4 → c 24 j = upd (r 4) (4 * 0 + N) p2 (4 * 1 + j) := by
                intro j hj
                rw [tm_upd_at, if_neg (by omega)]
                exact r1' j hj
              exact ⟨⟨S, X, T, G, S', X', T', G', ⟨⟨hM, ⟨n0, r2, r3, r4, r5⟩, h8, hWi, hWo, hla, h7, h6, hu⟩, t0⟩, ⟨⟨hM', ⟨n1, r2', r3', r4', r5'⟩, h8', hWi', hWo', hla', h7', h6', hu'⟩, t1⟩⟩, hh⟩
            · unfold wp_X8_echo; rw [p_modemAt]
              exact ⟨fun _ => ⟨fun q => absurd q a1, fun _ => ⟨fun _ => ⟨fun q => absurd q b1, fun _ => ⟨fun _ => ⟨e8, fun x ex => ⟨e8, fun s es => by rw [es, ex, eC]; exact hK⟩⟩, fun q => absurd b2 q⟩⟩, fun q => absurd (l4.mpr a2) q⟩⟩, fun q => absurd q (by decide), fun q => absurd q (by decide)⟩
            · unfold wp_X9_echo; rw [p_isEnd, p_within, if_neg a1, if_neg a3, p_within, if_neg b1, if_neg b3]
              exact ⟨fun q => absurd q (by decide), fun _ => ⟨fun _ => ⟨fun _ => ⟨e9, fun x ex => ⟨e9, fun s es => by rw [es, ex, eD, ← f]; exact hK⟩⟩, fun q => absurd q (by decide)⟩, fun q => absurd q (by decide)⟩⟩
          · have b3 : (100 : Int32) < p2 := Int32.not_le.mp b2
            refine tm_CC_same h (-1002) (fun K hK => ?_) (fun K hK => ?_)
            · unfold wp_X8_echo; rw [p_modemAt]
              exact ⟨fun _ => ⟨fun q => absurd q a1, fun _ => ⟨fun _ => ⟨fun q => absurd q b1, fun _ => ⟨fun q => absurd q b2, fun _ => hK⟩⟩, fun q => absurd (l4.mpr a2) q⟩⟩, fun q => absurd q (by decide), fun q => absurd q (by decide)⟩
            · unfold wp_X9_echo; rw [p_isEnd, p_within, if_neg a1, if_neg a3, p_within, if_neg b1, if_pos b3]
              exact ⟨fun q => absurd q (by decide), fun _ => ⟨fun _ => ⟨fun q => absurd rfl q, fun _ => hK⟩, fun q => absurd q (by decide)⟩⟩
      · have a3 : (3 : Int32) < p1 := m3.mpr (by omega)
        refine tm_CC_same h (-1001) (fun K hK => ?_) (fun K hK => ?_)
        · unfold wp_X8_echo; rw [p_modemAt]
          exact ⟨fun _ => ⟨fun q => absurd q a1, fun _ => ⟨fun q => absurd (l4.mp q) a2, fun _ => hK⟩⟩, fun q => absurd q (by decide), fun q => absurd q (by decide)⟩
        · unfold wp_X9_echo; rw [p_isEnd, p_within, if_neg a1, if_pos a3]
          exact ⟨fun q => absurd q (by decide), fun _ => ⟨fun q => absurd rfl q, fun _ => hK⟩⟩
  · subst e
    by_cases a1 : p1 < 0
    · refine tm_CC_same h (-1001) (fun K hK => ?_) (fun K hK => ?_)
      · unfold wp_X8_echo; rw [p_modemAt]
        exact ⟨fun q => absurd q (by decide), fun _ => ⟨fun _ => hK, fun q => absurd a1 q⟩, fun q => absurd q (by decide)⟩
      · unfold wp_X9_echo; rw [p_isEnd, p_within, if_pos a1]
        exact ⟨fun q => absurd q (by decide), fun _ => ⟨fun q => absurd rfl q, fun _ => hK⟩⟩
    · obtain ⟨N, hN, e⟩ := i_nat a1
      have l4 : p1 < 4 ↔ N < 4 := by rw [e]; exact nI_ltI (b := 4) hN (by decide)
      have m3 : (3 : Int32) < p1 ↔ 3 < N := by rw [e]; exact nI_ltI (a := 3) (by decide) hN
      by_cases a2 : N < 4
      · have a3 : ¬ (3 : Int32) < p1 := fun q => absurd (m3.mp q) (by omega)
        by_cases b1 : p2 < (-100)
        · refine tm_CC_same h (-1002) (fun K hK => ?_) (fun K hK => ?_)
          · unfold wp_X8_echo; rw [p_modemAt]
            exact ⟨fun q => absurd q (by decide), fun _ => ⟨fun q => absurd q a1, fun _ => ⟨fun _ => ⟨fun _ => hK, fun q => absurd b1 q⟩, fun q => absurd (l4.mpr a2) q⟩⟩, fun q => absurd q (by decide)⟩
          · unfold wp_X9_echo; rw [p_isEnd, p_within, if_neg a1, if_neg a3, p_within, if_pos b1]
            exact ⟨fun q => absurd q (by decide), fun _ => ⟨fun _ => ⟨fun q => absurd rfl q, fun _ => hK⟩, fun q => absurd q (by decide)⟩⟩
        · by_cases b2 : p2 ≤ 100
          · have b3 : ¬ (100 : Int32) < p2 := Int32.not_lt.mpr b2
            have e8 : vp_in p1 4 := by rw [e]; exact vp_in_nI (by omega) (by decide)
            have eC : p1.toNatClampNeg = N := by rw [e]; exact nI_clamp hN
            have e5 : (4 * 1 + p1 : Int32) = nI (4 * 1 + N) := by rw [e]; exact p_4 (e := 1)
            have e9 : vp_in (4 * 1 + p1) 8 := by rw [e5]; exact vp_in_nI (by omega) (by decide)
            have eD : (4 * 1 + p1 : Int32).toNatClampNeg = 4 * 1 + N := by rw [e5]; exact nI_clamp (by omega)
            have f : c 24 N = r 4 (4 * 1 + N) := (tm_RR_1 h).2.1.1 N (by omega)
            refine ⟨c 24 N, tm_s c 24 (upd (c 24) N p2), tm_s r 4 (upd (r 4) (4 * 1 + N) p2), ?_, fun K hK => ?_, fun K hK => ?_⟩
            · obtain ⟨⟨S, X, T, G, S', X', T', G', ⟨q0, t0⟩, ⟨q1, t1⟩⟩, hh⟩ := tm_RR_u h (show u ≤ u + 200 by omega)
              obtain ⟨hM, ⟨r1, r2, r3, r4, r5⟩, h8, hWi, hWo, hla, h7, h6, hu⟩ := q1
              obtain ⟨hM', ⟨r1', r2', r3', r4', r5'⟩, h8', hWi', hWo', hla', h7', h6', hu'⟩ := q0
              have n1 : ∀ j, j < 4 → upd (c 24) N p2 j = upd (r 4) (4 * 1 + N) p2 (4 * 1 + j) := by
                intro j hj
                rw [tm_upd_at, tm_upd_at]
                by_cases z : j = N
                · rw [if_pos z, if_pos (by omega)]
                · rw [if_neg z, if_neg (by omega)]
                  exact r1 j hj
              have n0 : ∀ j, j < 4 → c 16 j = upd (r 4) (4 * 1 + N) p2 (4 * 0 + j) := by
                intro j hj
                rw [tm_upd_at, if_neg (by omega)]
                exact r1' j hj
              exact ⟨⟨S, X, T, G, S', X', T', G', ⟨⟨hM', ⟨n0, r2', r3', r4', r5'⟩, h8', hWi', hWo', hla', h7', h6', hu'⟩, t0⟩, ⟨⟨hM, ⟨n1, r2, r3, r4, r5⟩, h8, hWi, hWo, hla, h7, h6, hu⟩, t1⟩⟩, hh⟩
            · unfold wp_X8_echo; rw [p_modemAt]
              exact ⟨fun q => absurd q (by decide), fun _ => ⟨fun q => absurd q a1, fun _ => ⟨fun _ => ⟨fun q => absurd q b1, fun _ => ⟨fun _ => ⟨e8, fun x ex => ⟨e8, fun s es => by rw [es, ex, eC]; exact hK⟩⟩, fun q => absurd b2 q⟩⟩, fun q => absurd (l4.mpr a2) q⟩⟩, fun q => absurd q (by decide)⟩
            · unfold wp_X9_echo; rw [p_isEnd, p_within, if_neg a1, if_neg a3, p_within, if_neg b1, if_neg b3]
              exact ⟨fun q => absurd q (by decide), fun _ => ⟨fun _ => ⟨fun _ => ⟨e9, fun x ex => ⟨e9, fun s es => by rw [es, ex, eD, ← f]; exact hK⟩⟩, fun q => absurd q (by decide)⟩, fun q => absurd q (by decide)⟩⟩
          · have b3 : (100 : Int32) < p2 := Int32.not_le.mp b2
            refine tm_CC_same h (-1002) (fun K hK => ?_) (fun K hK => ?_)
            · unfold wp_X8_echo; rw [p_modemAt]
              exact ⟨fun q => absurd q (by decide), fun _ => ⟨fun q => absurd q a1, fun _ => ⟨fun _ => ⟨fun q => absurd q b1, fun _ => ⟨fun q => absurd q b2, fun _ => hK⟩⟩, fun q => absurd (l4.mpr a2) q⟩⟩, fun q => absurd q (by decide)⟩
            · unfold wp_X9_echo; rw [p_isEnd, p_within, if_neg a1, if_neg a3, p_within, if_neg b1, if_pos b3]
              exact ⟨fun q => absurd q (by decide), fun _ => ⟨fun _ => ⟨fun q => absurd rfl q, fun _ => hK⟩, fun q => absurd q (by decide)⟩⟩
      · have a3 : (3 : Int32) < p1 := m3.mpr (by omega)
        refine tm_CC_same h (-1001) (fun K hK => ?_) (fun K hK => ?_)
        · unfold wp_X8_echo; rw [p_modemAt]
          exact ⟨fun q => absurd q (by decide), fun _ => ⟨fun q => absurd q a1, fun _ => ⟨fun q => absurd (l4.mp q) a2, fun _ => hK⟩⟩, fun q => absurd q (by decide)⟩
        · unfold wp_X9_echo; rw [p_isEnd, p_within, if_neg a1, if_pos a3]
          exact ⟨fun q => absurd q (by decide), fun _ => ⟨fun q => absurd rfl q, fun _ => hK⟩⟩
  · refine tm_CC_same h (-1001) (fun K hK => ?_) (fun K hK => ?_)
    · unfold wp_X8_echo; rw [p_modemAt, if_neg n0, if_neg n1]
      exact ⟨fun q => absurd q (by decide), fun q => absurd q (by decide), fun _ => hK⟩
    · unfold wp_X9_echo; rw [p_isEnd, ni]
      exact ⟨fun _ => hK, fun q => absurd rfl q⟩
