theorem tm_u_id (f : Nat → Int32) (k : Nat) : tm_u f k (f k) = f := by
  funext j; rw [tm_u_at]; split
  · next h => rw [h]
  · rfl
theorem tm_u_idv (f : Nat → Int32) (k : Nat) (v : Int32) (h : f k = v) : tm_u f k v = f := by rw [← h, tm_u_id]
theorem tm_upd_id (f : Nat → Int32) (k : Nat) (v : Int32) (h : f k = v) : upd f k v = f := by
  funext j; rw [tm_upd_at]; split
  · next q => rw [q, h]
  · rfl
theorem tm_Sl_mono {S G G2 : Nat} {f g : Nat → Int32} {k : Nat} (hG : G ≤ G2) (h : tm_Sl S G f g k) : tm_Sl S G2 f g k := by
  obtain ⟨h0, h1, h2, h3⟩ := h
  refine ⟨h0, h1, h2, fun q => ?_⟩
  obtain ⟨P, N, A, g1, g2, g3, g4⟩ := h3 q
  exact ⟨P, N, A, g1, g2, by omega, g4⟩
theorem tm_Sl_monoS {S S2 G : Nat} {f g : Nat → Int32} {k : Nat} (hG : S ≤ S2) (h : tm_Sl S G f g k) : tm_Sl S2 G f g k := by
  obtain ⟨h0, h1, h2, h3⟩ := h
  refine ⟨h0, h1, h2, fun q => ?_⟩
  obtain ⟨P, N, A, g1, g2, g3, g4⟩ := h3 q
  exact ⟨P, N, A, by omega, g2, g3, g4⟩
theorem p_take_13 {N G : Nat} (hN : N ≤ 3) (hG : G + N ≤ 200) (K : tm_St → Prop) : ∀ (m i : Nat) (s : tm_St), i + m = N → s 5 3 = nI N → s 0 3 = nI (G + i) → K (tm_s (tm_s s 2 (tm_cp (fun k => s 5 (5 + k)) (s 2) G i (G + N))) 0 (tm_u (tm_u (s 0) 3 (nI (G + N))) 4 (if s 0 4 < s 5 4 then s 5 4 else s 0 4))) → wp_X2_take_13 K (m + 1) (nI i) s := by
  intro m
  induction m with
  | zero =>
    intro i s hi h3 h0 h
    have hi : i = N := by omega
    subst hi
    unfold wp_X2_take_13
    rw [tm_cp_e _ _ _ _ _ (Nat.le_refl _), tm_s_id, tm_u_idv (s 0) 3 _ h0] at h
    have hle : nI i ≤ nI i := nI_le (Nat.le_refl _) (by omega)
    simp [-Int32.not_le, -Int32.not_lt, p_letters, p_told, tm_pk_pj, tm_pj_at, h3, hle]
    exact h
  | succ m ih =>
    intro i s hi h3 h0 h
    unfold wp_X2_take_13
    have c1 : ¬ nI N ≤ nI i := nI_ge (by omega) (by omega)
    have c2 : ¬ nI (G + i) < 0 := nI_pos (by omega)
    have c3 : ¬ (200 : Int32) ≤ nI (G + i) := nI_ge (b := 200) (by omega) (by decide)
    have c4 : vp_in (nI (G + i)) 200 := vp_in_nI (by omega) (by decide)
    have c5 : ¬ nI i < 0 := nI_pos (by omega)
    have c6 : ¬ (3 : Int32) ≤ nI i := nI_ge (b := 3) (by omega) (by decide)
    have c7 : (5 : Int32) + nI i = nI (5 + i) := by rw [show (5 : Int32) = nI 5 from rfl, nI_add]
    have c8 : vp_in (nI (5 + i)) 8 := vp_in_nI (by omega) (by decide)
    simp [-Int32.not_le, -Int32.not_lt, p_letters, wp_X7_enclosed, tm_pk_pj, tm_pj_at, h3, h0, c1, c2, c3, c4, c5, c6, c7, c8, nI_clamp (show G + i < 2 ^ 31 by omega), nI_clamp (show 5 + i < 2 ^ 31 by omega), nI_1]
    refine ih (i + 1) _ (by omega) (by simpa [tm_s_at] using h3) (by simp [tm_s_at, tm_u_at, h0, nI_1]; rfl) ?_
    rw [← tm_cp_s _ _ _ _ _ (by omega)] at h
    have e1 : ∀ v w x : Int32, tm_u (tm_u (tm_u (s 0) 3 v) 3 w) 4 x = tm_u (tm_u (s 0) 3 w) 4 x := by
      intro v w x; funext q; simp only [tm_u_at]; split <;> (try rfl); split <;> rfl
    have e2 : ∀ f g k : Nat → Int32, tm_s (tm_s (tm_s (tm_s s 2 f) 0 g) 2 k) 0 = fun q => tm_s (tm_s s 2 k) 0 q := by
      intro f g k; funext q i9; simp only [tm_s_at]; by_cases h9 : i9 = 0
      · simp [h9]
      · by_cases h8 : i9 = 2
        · simp [h8]
        · simp [h9, h8]
    rw [e2]
    simpa [tm_s_at, tm_u_at, e1, h0, nI_1] using h
theorem p_take {N G P : Nat} (hN : N ≤ 3) (hG : P = G → G + N ≤ 200) (hG2 : G ≤ 200) (s : tm_St) (h3 : s 5 3 = nI N) (h0 : s 0 3 = nI G) (h2 : s 5 2 = nI P) (hP : P < 2 ^ 31) (K : tm_St → Prop) (h : K (if P = G then tm_s (tm_s s 2 (tm_cp (fun k => s 5 (5 + k)) (s 2) G 0 (G + N))) 0 (tm_u (tm_u (s 0) 3 (nI (G + N))) 4 (if s 0 4 < s 5 4 then s 5 4 else s 0 4)) else tm_s s 0 (tm_u (s 0) 4 (if s 0 4 < s 5 4 then s 5 4 else s 0 4)))) : wp_X2_take s K := by
  unfold wp_X2_take
  by_cases c : P = G
  · rw [if_pos c] at h
    have hl := p_take_13 hN (hG c) K N 0 s (by omega) h3 h0 h
    subst c
    simp [-Int32.not_le, -Int32.not_lt, p_second, tm_pk_pj, tm_pj_at, h2, h0]
    exact ⟨N + 1, hl⟩
  · rw [if_neg c] at h
    have c1 : ¬ nI P = nI G := fun q => c ((nI_eq hP (by omega)).mp q)
    simp [-Int32.not_le, -Int32.not_lt, p_second, p_told, tm_pk_pj, tm_pj_at, h2, h0, c1]
    exact h
theorem p_200 {e G i : Nat} : (200 * nI e + nI G + nI i : Int32) = nI (200 * e + G + i) := by rw [show (200 : Int32) = nI 200 from rfl, pk_mul, nI_add, nI_add]
theorem p_frame_25 {e N G : Nat} (he : e < 2) (hN : N ≤ 3) (hG : G + N ≤ 200) (K : tm_St → Prop) : ∀ (m i : Nat) (s : tm_St), i + m = N → s 1 (24 * e + 9) = nI G → K (if s 7 (5 * e + 4) ≤ s 1 (24 * e + 8) then tm_s (tm_s s 6 (tm_cp (fun k => s 17 (3 * e + k)) (s 6) (200 * e + G) i (200 * e + G + N))) 1 (upd (s 1) (24 * e + 9) (nI (G + N))) else tm_s (tm_s (tm_s s 6 (tm_cp (fun k => s 17 (3 * e + k)) (s 6) (200 * e + G) i (200 * e + G + N))) 1 (upd (upd (s 1) (24 * e + 9) (nI (G + N))) (24 * e + 8) (s 7 (5 * e + 4)))) 0 (tm_u (s 0) 27 1)) → wp_X9_takesFrame_25 K (m + 1) (nI e) (nI N) (nI i) s := by
  intro m
  induction m with
  | zero =>
    intro i s hi h9 h
    have hi : i = N := by omega
    subst hi
    unfold wp_X9_takesFrame_25
    rw [tm_cp_e _ _ _ _ _ (by omega), tm_s_id] at h
    have hle : nI i ≤ nI i := nI_le (Nat.le_refl _) (by omega)
    refine ⟨fun _ => ?_, fun q => absurd hle q⟩
    rw [p_add_9 he, p_ear_4 he, p_of_8 he, h9, nI_add]
    by_cases c : s 7 (5 * e + 4) ≤ s 1 (24 * e + 8)
    · rw [if_pos c] at h
      simpa [-Int32.not_le, -Int32.not_lt, tm_s_at, tm_upd_at, c] using h
    · rw [if_neg c] at h
      simpa [-Int32.not_le, -Int32.not_lt, tm_s_at, tm_upd_at, c, p_ear_4 he, p_put_8 he, tm_s_ss] using h
  | succ m ih =>
    intro i s hi h9 h
    unfold wp_X9_takesFrame_25
    refine ⟨fun q => absurd q (nI_ge (by omega) (by omega)), fun _ => ?_⟩
    rw [p_of_9 he, h9, p_3, p_200, nI_clamp (by omega), nI_clamp (by omega)]
    refine ⟨vp_in_nI (by omega) (by decide), vp_in_nI (by omega) (by decide), fun s1 e1 x1 ex => ?_⟩
    subst e1; subst ex
    rw [nI_1]
    refine ih (i + 1) _ (by omega) (by simpa [tm_s_at] using h9) ?_
    rw [← tm_cp_s _ _ (200 * e + G) _ _ (by omega)] at h
    simpa [tm_s_at, tm_s_ss] using h
theorem p_frame {e N G P : Nat} (he : e < 2) (hN : N ≤ 3) (hG : P = G → G + N ≤ 200) (hG2 : G ≤ 200) (hP : P < 2 ^ 31) (s : tm_St) (h9 : s 1 (24 * e + 9) = nI G) (h2 : s 7 (5 * e + 2) = nI P) (h3 : s 7 (5 * e + 3) = nI N) (K : tm_St → Prop)
    (h : K (if P = G then (if s 7 (5 * e + 4) ≤ s 1 (24 * e + 8) then tm_s (tm_s s 6 (tm_cp (fun k => s 17 (3 * e + k)) (s 6) (200 * e + G) 0 (200 * e + G + N))) 1 (upd (s 1) (24 * e + 9) (nI (G + N))) else tm_s (tm_s (tm_s s 6 (tm_cp (fun k => s 17 (3 * e + k)) (s 6) (200 * e + G) 0 (200 * e + G + N))) 1 (upd (upd (s 1) (24 * e + 9) (nI (G + N))) (24 * e + 8) (s 7 (5 * e + 4)))) 0 (tm_u (s 0) 27 1)) else (if s 7 (5 * e + 4) ≤ s 1 (24 * e + 8) then s else tm_s (tm_s s 1 (upd (s 1) (24 * e + 8) (s 7 (5 * e + 4)))) 0 (tm_u (s 0) 27 1)))) : wp_X9_takesFrame (nI e) s K := by
  unfold wp_X9_takesFrame
  rw [p_ear_3 he, p_ear_2 he, p_of_9 he, h9, h2, h3]
  refine ⟨fun q => ?_, fun q => ?_⟩
  · have c : ¬ P = G := fun z => q (by rw [z])
    rw [if_neg c] at h
    rw [p_ear_4 he, p_of_8 he]
    by_cases c : s 7 (5 * e + 4) ≤ s 1 (24 * e + 8)
    · rw [if_pos c] at h
      exact ⟨fun _ => h, fun z => absurd c z⟩
    · rw [if_neg c] at h
      refine ⟨fun z => absurd z c, fun _ => ?_⟩
      rw [p_ear_4 he, p_put_8 he]
      intro s16 e16
      rw [e16]
      exact h
  · have c : P = G := (nI_eq hP (by omega)).mp q
    rw [if_pos c] at h
    exact ⟨N + 1, p_frame_25 he hN (hG c) K N 0 s (by omega) h9 h⟩
theorem q_take {e : Nat} (he : e < 2) {c7 c6 : Int32} {u S X T G S' X' T' G' : Nat} {σ r : tm_St} (h : tm_Q e c7 c6 u S X T G S' X' T' G' σ r) {N : Nat} (hN : N ≤ 3) (hG : G + N ≤ S') (hl : ∀ k, k < 3 → σ 11 (5 + k) = r 17 (3 * e + k)) :
    tm_Q e c7 c6 u S X T (G + N) S' X' T' G' (tm_s (tm_s σ 6 (tm_cp (fun k => σ 11 (5 + k)) (σ 6) G 0 (G + N))) 4 (tm_u (σ 4) 3 (nI (G + N)))) (tm_s (tm_s r 6 (tm_cp (fun k => r 17 (3 * e + k)) (r 6) (200 * e + G) 0 (200 * e + G + N))) 1 (upd (r 1) (24 * e + 9) (nI (G + N)))) ∧ tm_F e r (tm_s (tm_s r 6 (tm_cp (fun k => r 17 (3 * e + k)) (r 6) (200 * e + G) 0 (200 * e + G + N))) 1 (upd (r 1) (24 * e + 9) (nI (G + N)))) ∧ tm_FC σ (tm_s (tm_s σ 6 (tm_cp (fun k => σ 11 (5 + k)) (σ 6) G 0 (G + N))) 4 (tm_u (σ 4) 3 (nI (G + N)))) := by
  obtain ⟨⟨hM, hR, h8, hWi, hWo, hla, h7, h6, hu⟩, hE, hE', hx, hs, hs', ht, hd⟩ := h
  obtain ⟨r1, r2, r3, r4, r5⟩ := hR
  have hF : ∀ k, k < 24 → upd (r 1) (24 * e + 9) (nI (G + N)) (24 * (1 - e) + k) = r 1 (24 * (1 - e) + k) := tm_ux he 9 (by decide) _ (fun _ _ => rfl)
  have hS' : S' ≤ 200 := hE'.2.2.2.2.2.2.2.2.2.2.2.1
  refine ⟨⟨⟨?_, ⟨r1, r2, r3, r4, ?_⟩, h8, hWi, hWo, hla, h7, h6, hu⟩, tm_E_9 hE, tm_E_x he hE' hF, ⟨hx.1, hx.2.1, by omega, hG⟩, fun j hj => tm_Sl_mono (Nat.le_add_right _ _) (hs j hj), hs', ht, hd⟩, ⟨hF, fun _ _ => rfl, fun _ _ => rfl, rfl, rfl, ?_, fun _ _ => rfl, rfl, rfl, rfl, rfl, rfl, rfl, rfl⟩, ⟨rfl, rfl, rfl, rfl, rfl, rfl⟩⟩
  · exact (by
    obtain ⟨m0, m1, m2, m3, m4, m5, m6, m7, m8, m9, m10, m11, m12, m13, m14, m15, m17⟩ := hM
    refine ⟨?_, ?_, ?_, ?_, ?_, ?_, ?_, ?_, ?_, ?_, ?_, ?_, ?_, ?_, ?_, ?_, ?_⟩ <;> simp [tm_s_at, tm_u_at, tm_upd_at, m0, m1, m2, m3, m4, m5, m6, m7, m8, m9, m10, m11, m12, m13, m14, m15, m17])
  · intro j hj
    show tm_cp (fun k => σ 11 (5 + k)) (σ 6) G 0 (G + N) j = tm_cp (fun k => r 17 (3 * e + k)) (r 6) (200 * e + G) 0 (200 * e + G + N) (200 * e + j)
    rw [tm_cp_at, tm_cp_at]
    by_cases c : G + 0 ≤ j ∧ j < G + N
    · rw [if_pos c, if_pos (by omega), show 200 * e + j - (200 * e + G) = j - G by omega]
      exact hl _ (by omega)
    · rw [if_neg c, if_neg (by omega)]
      exact r5 j hj
  · intro j hj
    show tm_cp (fun k => r 17 (3 * e + k)) (r 6) (200 * e + G) 0 (200 * e + G + N) (200 * (1 - e) + j) = _
    rw [tm_cp_out _ _ _ _ _ (by omega)]
