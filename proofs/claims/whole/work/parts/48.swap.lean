/-- the other Modem's world, when this one has moved to σ: its own cells of τ, the LINE of σ with the WAYs changed over -/
def tm_sw (σ τ : tm_St) : tm_St := fun i => cond (Nat.blt i 8) (τ i) (σ ([0, 0, 0, 0, 0, 0, 0, 0, 8, 14, 15, 16, 17, 18, 9, 10, 11, 12, 13].getD i 0))
theorem tm_N_sw {e : Nat} (he : e < 2) {u S X T G S' X' T' G' : Nat} {r : tm_St} (h : tm_N e u S X T G S' X' T' G' r) : tm_N (1 - e) u S' X' T' G' S X T G r := by
  obtain ⟨hE, hE', ⟨x1, x2, x3, x4⟩, hs, hs', ht, hd⟩ := h
  have he2 : 1 - (1 - e) = e := by omega
  refine ⟨hE', ?_, ⟨x3, x4, x1, x2⟩, hs', ?_, ht, hd⟩
  · rw [he2]; exact hE
  · rw [he2]; exact hs
theorem q_swap {e : Nat} (he : e < 2) {d7 d6 : Int32} {u S X T G S' X' T' G' : Nat} {σ σ' τ r r' : tm_St} (hN : tm_Q e (τ 0 7) (τ 4 6) u S X T G S' X' T' G' σ' r') (hO : tm_L (1 - e) d7 d6 τ r) (hF : tm_F e r r') (hC : tm_FC σ σ') (h16 : σ 16 = τ 11) : tm_Q (1 - e) (σ' 0 7) (σ' 4 6) u S' X' T' G' S X T G (tm_sw σ' τ) r' := by
  obtain ⟨⟨hM, hR, h8, hWi, hWo, hla, h7, h6, hu⟩, hn⟩ := hN
  obtain ⟨hM2, ⟨r1, r2, r3, r4, r5⟩, -, -, -, hla2, -, -, -⟩ := hO
  obtain ⟨f1, f2, f3, f4, f5, f6, f7, f8, f9, f14, f08, f012, f016, f018⟩ := hF
  obtain ⟨-, -, -, -, -, c16⟩ := hC
  have he2 : 1 - (1 - e) = e := by omega
  refine ⟨⟨?_, ⟨?_, ?_, ?_, ?_, ?_⟩, h8, ?_, hWi, ?_, ?_, ?_, ?_⟩, tm_N_sw he hn⟩
  · obtain ⟨m0, m1, m2, m3, m4, m5, m6, m7, m8, m9, m10, m11, m12, m13, m14, m15, m17⟩ := hM2
    have f0 := f1 0 (by decide)
    rw [Nat.add_zero] at f0
    exact ⟨m0.trans f0.symm, m1.trans (f1 1 (by decide)).symm, m2.trans (f1 2 (by decide)).symm, m3.trans (f1 3 (by decide)).symm, m4.trans (f1 4 (by decide)).symm, m5.trans (f1 5 (by decide)).symm, m6.trans (f1 6 (by decide)).symm, m7.trans (f1 7 (by decide)).symm, m8.trans (f1 8 (by decide)).symm, m9.trans (f1 9 (by decide)).symm, m10.trans (f1 10 (by decide)).symm, m11.trans (f1 11 (by decide)).symm, m12.trans (f1 12 (by decide)).symm, m13.trans (f1 13 (by decide)).symm, m14.trans (f1 14 (by decide)).symm, m15.trans (f1 15 (by decide)).symm, m17.trans (f1 17 (by decide)).symm⟩
  · intro j hj; rw [f4]; exact r1 j hj
  · intro j hj; exact (r2 j hj).trans (f3 j hj).symm
  · intro j hj; exact (r3 j hj).trans (f2 j hj).symm
  · intro j hj; rw [f5]; exact r4 j hj
  · intro j hj; exact (r5 j hj).trans (f6 j hj).symm
  · rw [he2]; exact hWo
  · intro k hk
    show σ' 16 k = _
    rw [c16, h16, f7 k hk]
    exact hla2 k hk
  · show τ 0 7 + σ' 0 7 = _
    rw [Int32.add_comm]; exact h7
  · show τ 4 6 + σ' 4 6 = _
    rw [Int32.add_comm]; exact h6
  · show σ' 14 7 + σ' 9 7 = _
    rw [Int32.add_comm]; exact hu
/-- the page and the letters in front of it, in class and reference -/
def tm_RP (c r : tm_St) : Prop := ∃ n : Nat, n ≤ 30 ∧ c 1 1 = nI n ∧ r 0 18 = nI n ∧ ∀ j, j < n → c 2 j = r 14 j
def tm_RQ (u : Nat) (c r : tm_St) : Prop := ∃ S X T G S' X' T' G' : Nat, tm_Q 0 (c 22 7) (c 26 6) u S X T G S' X' T' G' (tm_pj [14, 15, 16, 17, 18, 19, 20, 21, 3, 9, 10, 11, 12, 13, 4, 5, 6, 7, 8, 4, 9] c) r ∧ tm_Q 1 (c 14 7) (c 18 6) u S' X' T' G' S X T G (tm_pj [22, 23, 24, 25, 26, 27, 28, 29, 3, 4, 5, 6, 7, 8, 9, 10, 11, 12, 13, 4, 9] c) r
/-- class and reference are alike, after u ticks of single ENDs at most -/
def tm_RR (u : Nat) (c r : tm_St) : Prop := tm_RQ u c r ∧ (c 14 6 = 7 → c 14 9 = r 1 16) ∧ (c 22 6 = 7 → c 22 9 = r 1 40) ∧ tm_RP c r ∧ c 0 4 = r 0 12 ∧ c 3 3 = r 0 16
theorem r_live0 {u : Nat} {c r : tm_St} (h : tm_RR u c r) {t : Nat} (h12 : r 0 12 = nI t) (htt : t + 8 < 2 ^ 31) (huu : u < 2 ^ 31) : ∃ σ' r' : tm_St, (∀ K : tm_St → Prop, K σ' → wp_X3_live (c 0 4) (tm_pj [14, 15, 16, 17, 18, 19, 20, 21, 3, 9, 10, 11, 12, 13, 4, 5, 6, 7, 8, 4, 9] c) K) ∧ (∀ K : tm_St → Prop, K r' → wp_X9_does 0 r K) ∧ tm_RR (u + 1) (tm_pk [14, 15, 16, 17, 18, 19, 20, 21, 3, 9, 10, 11, 12, 13, 4, 5, 6, 7, 8] c σ') r' ∧ r' 0 12 = nI t := by
  obtain ⟨⟨S, X, T, G, S', X', T', G', q0, q1⟩, z0, z1, ⟨n, n1, n2, n3, n4⟩, ht, hl⟩ := h
  obtain ⟨σ', r', k1, k2, ⟨S2, X2, T2, G2, k3⟩, k4, k5, k6⟩ := s_live (e := 0) (by decide) q0 h12 htt huu z0
  have k7 := q_swap (e := 0) (by decide) (τ := tm_pj [22, 23, 24, 25, 26, 27, 28, 29, 3, 4, 5, 6, 7, 8, 9, 10, 11, 12, 13, 4, 9] c) k3 q1.1 k4 k5 rfl
  refine ⟨σ', r', fun K hK => ?_, k2, ⟨⟨S2, X2, T2, G2, S', X', T', G', k3, k7⟩, k6, ?_, ⟨n, n1, n2, ?_, ?_⟩, ?_, ?_⟩, ?_⟩
  · rw [ht, h12]; exact k1 K hK
  · intro q
    exact (z1 q).trans (k4.1 16 (by decide)).symm
  · exact k4.2.2.2.2.2.2.2.2.2.2.2.2.2.trans n3
  · intro j hj
    rw [k4.2.2.2.2.2.2.2.2.2.1]
    exact n4 j hj
  · exact ht.trans k4.2.2.2.2.2.2.2.2.2.2.2.1.symm
  · show σ' 8 3 = _
    rw [k5.2.2.1, k4.2.2.2.2.2.2.2.2.2.2.2.2.1]
    exact hl
  · exact k4.2.2.2.2.2.2.2.2.2.2.2.1.trans h12
theorem r_live1 {u : Nat} {c r : tm_St} (h : tm_RR u c r) {t : Nat} (h12 : r 0 12 = nI t) (htt : t + 8 < 2 ^ 31) (huu : u < 2 ^ 31) : ∃ σ' r' : tm_St, (∀ K : tm_St → Prop, K σ' → wp_X3_live (c 0 4) (tm_pj [22, 23, 24, 25, 26, 27, 28, 29, 3, 4, 5, 6, 7, 8, 9, 10, 11, 12, 13, 4, 9] c) K) ∧ (∀ K : tm_St → Prop, K r' → wp_X9_does 1 r K) ∧ tm_RR (u + 1) (tm_pk [22, 23, 24, 25, 26, 27, 28, 29, 3, 4, 5, 6, 7, 8, 9, 10, 11, 12, 13] c σ') r' ∧ r' 0 12 = nI t := by
  obtain ⟨⟨S, X, T, G, S', X', T', G', q0, q1⟩, z0, z1, ⟨n, n1, n2, n3, n4⟩, ht, hl⟩ := h
  obtain ⟨σ', r', k1, k2, ⟨S2, X2, T2, G2, k3⟩, k4, k5, k6⟩ := s_live (e := 1) (by decide) q1 h12 htt huu z1
  have k7 := q_swap (e := 1) (by decide) (τ := tm_pj [14, 15, 16, 17, 18, 19, 20, 21, 3, 9, 10, 11, 12, 13, 4, 5, 6, 7, 8, 4, 9] c) k3 q0.1 k4 k5 rfl
  refine ⟨σ', r', fun K hK => ?_, k2, ⟨⟨S, X, T, G, S2, X2, T2, G2, k7, k3⟩, ?_, k6, ⟨n, n1, n2, ?_, ?_⟩, ?_, ?_⟩, ?_⟩
  · rw [ht, h12]; exact k1 K hK
  · intro q
    exact (z0 q).trans (k4.1 16 (by decide)).symm
  · exact k4.2.2.2.2.2.2.2.2.2.2.2.2.2.trans n3
  · intro j hj
    rw [k4.2.2.2.2.2.2.2.2.2.1]
    exact n4 j hj
  · exact ht.trans k4.2.2.2.2.2.2.2.2.2.2.2.1.symm
  · show σ' 8 3 = _
    rw [k5.2.2.1, k4.2.2.2.2.2.2.2.2.2.2.2.2.1]
    exact hl
  · exact k4.2.2.2.2.2.2.2.2.2.2.2.1.trans h12
theorem tm_N_t {e u S X T G S' X' T' G' t : Nat} {r : tm_St} (h : tm_N e u S X T G S' X' T' G' r) (v : Int32) (hv : v = nI t) (ht : t ≤ u) : tm_N e u S X T G S' X' T' G' (tm_s r 0 (tm_u (r 0) 12 v)) := by
  obtain ⟨hE, hE', hx, hs, hs', -, hd⟩ := h
  exact ⟨hE, hE', hx, hs, hs', ⟨t, ht, hv⟩, hd⟩
theorem r_tick {u : Nat} {c r : tm_St} (h : tm_RR u c r) {t : Nat} (h12 : r 0 12 = nI t) (ht : t + 1 ≤ u) : tm_RR u (tm_s c 0 (tm_u (c 0) 4 (c 0 4 + 1))) (tm_s r 0 (tm_u (r 0) 12 (r 0 12 + 1))) := by
  obtain ⟨⟨S, X, T, G, S', X', T', G', q0, q1⟩, z0, z1, hp, hc, hl⟩ := h
  have e1 : r 0 12 + 1 = nI (t + 1) := by rw [h12]; exact nI_add t 1
  refine ⟨⟨S, X, T, G, S', X', T', G', ⟨q0.1, tm_N_t q0.2 _ e1 ht⟩, ⟨q1.1, tm_N_t q1.2 _ e1 ht⟩⟩, z0, z1, hp, ?_, hl⟩
  show c 0 4 + 1 = r 0 12 + 1
  rw [hc]
theorem r_go {N : Nat} (hN : N ≤ 100) (v2 w2 : Int32) : ∀ (m i u t : Nat) (c r : tm_St), i + m = N → tm_RR u c r → r 0 12 = nI t → t ≤ u → u + 2 * m + 8 < 2 ^ 31 → ∃ c' r' : tm_St, tm_RR (u + 2 * m) c' r' ∧ (∀ K : Int32 → tm_St → Prop, K (c' 14 7 + c' 22 7 - v2) c' → wp_X8_go_22 K (m + 1) (nI N) v2 (nI i) c) ∧ (∀ K : Int32 → tm_St → Prop, K (r' 0 15 - w2) r' → wp_X9_go_21 K (m + 1) (nI N) w2 (nI i) r) := by
  intro m
  induction m with
  | zero =>
    intro i u t c r hi h h12 htu hb
    have c1 : nI N ≤ nI i := by rw [nI_leI (by omega) (by omega)]; omega
    refine ⟨c, r, h, fun K hK => ?_, fun K hK => ?_⟩
    · unfold wp_X8_go_22; exact ⟨fun _ => hK, fun q => absurd c1 q⟩
    · unfold wp_X9_go_21; exact ⟨fun _ => hK, fun q => absurd c1 q⟩
  | succ m ih =>
    intro i u t c r hi h h12 htu hb
    have c1 : ¬ nI N ≤ nI i := by rw [nI_leI (by omega) (by omega)]; omega
    obtain ⟨σ1, r1, a1, a2, a3, a4⟩ := r_live0 h h12 (by omega) (by omega)
    obtain ⟨σ2, r2, b1, b2, b3, b4⟩ := r_live1 a3 a4 (by omega) (by omega)
    have d1 := r_tick b3 b4 (by omega)
    have d2 : (tm_s r2 0 (tm_u (r2 0) 12 (r2 0 12 + 1))) 0 12 = nI (t + 1) := by
      show r2 0 12 + 1 = _
      rw [b4]; exact nI_add t 1
    obtain ⟨c', r', g1, g2, g3⟩ := ih (i + 1) (u + 1 + 1) (t + 1) _ _ (by omega) d1 d2 (by omega) (by omega)
    refine ⟨c', r', ?_, fun K hK => ?_, fun K hK => ?_⟩
    · have : u + 1 + 1 + 2 * m = u + 2 * (m + 1) := by omega
      rw [← this]; exact g1
    · unfold wp_X8_go_22
      refine ⟨fun q => absurd q c1, fun _ => ?_⟩
      refine a1 _ ?_
      intro s8 e8
      rw [e8]
      refine b1 _ ?_
      intro s10 e10 s12 e12 x13 e13
      rw [e12, e10, e13, show (nI i + 1 : Int32) = nI (i + 1) from nI_add i 1]
      exact g2 K hK
    · unfold wp_X9_go_21
      refine ⟨fun q => absurd q c1, fun _ => ?_⟩
      refine a2 _ ?_
      refine b2 _ ?_
      intro s8 e8 x9 e9
      rw [e8, e9, show (nI i + 1 : Int32) = nI (i + 1) from nI_add i 1]
      exact g3 K hK
theorem tm_E_um {b u u' S X T G : Nat} {f : Nat → Int32} (h : tm_E b u S X T G f) (hu : u ≤ u') : tm_E b u' S X T G f := tm_E_u h hu
theorem tm_N_u {e u u' S X T G S' X' T' G' : Nat} {r : tm_St} (h : tm_N e u S X T G S' X' T' G' r) (hu : u ≤ u') : tm_N e u' S X T G S' X' T' G' r := by
  obtain ⟨hE, hE', hx, hs, hs', ⟨t, ht, ht2⟩, hd⟩ := h
  exact ⟨tm_E_u hE hu, tm_E_u hE' hu, hx, hs, hs', ⟨t, Nat.le_trans ht hu, ht2⟩, hd⟩
theorem tm_RR_u {u u' : Nat} {c r : tm_St} (h : tm_RR u c r) (hu : u ≤ u') : tm_RR u' c r := by
  obtain ⟨⟨S, X, T, G, S', X', T', G', q0, q1⟩, hh⟩ := h
  exact ⟨⟨S, X, T, G, S', X', T', G', ⟨q0.1, tm_N_u q0.2 hu⟩, ⟨q1.1, tm_N_u q1.2 hu⟩⟩, hh⟩
/-- a call of the class and of the reference: they answer alike, and stay alike -/
def tm_CC (u : Nat) (A B : (Int32 → tm_St → Prop) → Prop) : Prop := ∃ (a : Int32) (c' r' : tm_St), tm_RR u c' r' ∧ (∀ K : Int32 → tm_St → Prop, K a c' → A K) ∧ (∀ K : Int32 → tm_St → Prop, K a r' → B K)
theorem i_nat {p : Int32} (h : ¬ p < 0) : ∃ N : Nat, N < 2 ^ 31 ∧ p = nI N := nI_of h
theorem c_go {u : Nat} {c r : tm_St} (h : tm_RR u c r) (hb : u + 200 + 8 < 2 ^ 31) (p0 : Int32) : tm_CC (u + 200) (wp_X8_go p0 c) (wp_X9_go p0 r) := by
  by_cases c1 : p0 < 1
  · refine ⟨-1002, c, r, tm_RR_u h (by omega), fun K hK => ?_, fun K hK => ?_⟩
    · unfold wp_X8_go; exact ⟨fun _ => hK, fun q => absurd c1 q⟩
    · unfold wp_X9_go; rw [p_within, if_pos c1]; exact ⟨fun q => absurd rfl q, fun _ => hK⟩
  · by_cases c2 : p0 ≤ 100
    · have c3 : ¬ (100 : Int32) < p0 := Int32.not_lt.mpr c2
      obtain ⟨N, hN, e⟩ := i_nat (p := p0) (fun q => c1 (Int32.lt_trans q (by decide)))
      have hN2 : N ≤ 100 := by rw [e] at c2; exact (nI_leI (b := 100) (by omega) (by decide)).mp c2
      obtain ⟨t, ht, h12⟩ : ∃ t, t ≤ u ∧ r 0 12 = nI t := by
        obtain ⟨⟨S, X, T, G, S', X', T', G', q0, q1⟩, -⟩ := h
        exact q0.2.2.2.2.2.2.1
      have h7 : ∀ {u : Nat} {c r : tm_St}, tm_RR u c r → c 14 7 + c 22 7 = r 0 15 := by
        intro u c r h
        obtain ⟨⟨S, X, T, G, S', X', T', G', q0, q1⟩, -⟩ := h
        exact q0.1.2.2.2.2.2.2.1
      obtain ⟨c', r', g1, g2, g3⟩ := r_go hN2 (c 14 7 + c 22 7) (r 0 15) N 0 u t c r (by omega) h h12 ht (by omega)
      refine ⟨c' 14 7 + c' 22 7 - (c 14 7 + c 22 7), c', r', tm_RR_u g1 (by omega), fun K hK => ?_, fun K hK => ?_⟩
      · unfold wp_X8_go
        refine ⟨fun q => absurd q c1, fun _ => ⟨fun _ => ⟨N + 1, ?_⟩, fun q => absurd c2 q⟩⟩
        rw [e]
        exact g2 K hK
      · unfold wp_X9_go
        rw [p_within, if_neg c1, if_neg c3]
        refine ⟨fun _ x4 e4 => ⟨N + 1, ?_⟩, fun q => absurd q (by decide)⟩
        rw [e4, e]
        refine g3 K ?_
        rw [← h7 g1, ← h7 h]
        exact hK
    · have c3 : (100 : Int32) < p0 := Int32.not_le.mp c2
      refine ⟨-1002, c, r, tm_RR_u h (by omega), fun K hK => ?_, fun K hK => ?_⟩
      · unfold wp_X8_go; exact ⟨fun q => absurd q c1, fun _ => ⟨fun q => absurd q c2, fun _ => hK⟩⟩
      · unfold wp_X9_go; rw [p_within, if_neg c1, if_pos c3]; exact ⟨fun q => absurd rfl q, fun _ => hK⟩
