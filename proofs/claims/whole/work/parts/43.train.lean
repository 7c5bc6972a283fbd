-- the echo is followed
def tm_er (t l : Nat → Int32) (L : Int32) : Nat → Int32
  | 0 => 0
  | n + 1 => tm_er t l L n + (16 * t n - l n) * tm_sg (L - nI n)
theorem tm_er_c {t l t' l' : Nat → Int32} (L : Int32) : ∀ n, (∀ k, k < n → t k = t' k) → (∀ k, k < n → l k = l' k) → tm_er t l L n = tm_er t' l' L n := by
  intro n
  induction n with
  | zero => intro _ _; rfl
  | succ n ih =>
    intro h1 h2
    show tm_er t l L n + _ = tm_er t' l' L n + _
    rw [ih (fun k hk => h1 k (by omega)) (fun k hk => h2 k (by omega)), h1 n (by omega), h2 n (by omega)]
theorem p_fol_44 (K : tm_St → Prop) (L E : Int32) (f : Nat → Int32) : ∀ (m i : Nat) (s : tm_St), i + m = 4 → (∀ k, i ≤ k → s 2 k = f k) → K (tm_s s 2 (tm_cp (fun k => f k + (E * tm_sg (L - nI k)) / 8) (s 2) 0 i 4)) → wp_X0_follow_44 K (m + 1) L E (nI i) s := by
  intro m
  induction m with
  | zero =>
    intro i s hi hf h
    have hi : i = 4 := by omega
    subst hi
    unfold wp_X0_follow_44
    rw [tm_cp_e _ _ _ _ _ (by omega), tm_s_id] at h
    exact ⟨fun _ => h, fun q => absurd (by decide) q⟩
  | succ m ih =>
    intro i s hi hf h
    unfold wp_X0_follow_44
    refine ⟨fun q => absurd q (nI_ge (b := 4) (by omega) (by decide)), fun _ => ⟨vp_in_nI (by omega) (by decide), ?_⟩⟩
    rw [p_sign, nI_clamp (by omega)]
    refine ⟨vp_in_nI (by omega) (by decide), fun s7 e7 x8 e8 => ?_⟩
    rw [hf i (Nat.le_refl _)] at e7
    subst e7; subst e8
    rw [nI_1]
    refine ih (i + 1) _ (by omega) (fun k hk => ?_) ?_
    · rw [tm_s_at, if_pos rfl, tm_upd_at, if_neg (by omega)]; exact hf k (by omega)
    · rw [← tm_cp_s _ _ _ _ _ (by omega)] at h
      simpa [tm_s_at, tm_s_ss] using h
theorem p_fol_4 (K : tm_St → Prop) (L : Int32) (s : tm_St) (h : ∃ nf : Nat, wp_X0_follow_44 K nf L (tm_er (s 1) (s 2) L 4) 0 s) : ∀ (m i : Nat), i + m = 4 → wp_X0_follow_4 K (m + 1) L (tm_er (s 1) (s 2) L i) (nI i) s := by
  intro m
  induction m with
  | zero =>
    intro i hi
    have hi : i = 4 := by omega
    subst hi
    unfold wp_X0_follow_4
    exact ⟨fun _ => h, fun q => absurd (by decide) q⟩
  | succ m ih =>
    intro i hi
    unfold wp_X0_follow_4
    refine ⟨fun q => absurd q (nI_ge (b := 4) (by omega) (by decide)), fun _ => ⟨vp_in_nI (by omega) (by decide), vp_in_nI (by omega) (by decide), ?_⟩⟩
    rw [p_sign, nI_clamp (by omega)]
    intro x13 e13 x14 e14
    rw [e13, e14, nI_1]
    exact ih (i + 1) (by omega)
theorem p_follow (s : tm_St) (L : Int32) (K : tm_St → Prop) (h : K (tm_s s 2 (tm_cp (fun k => s 2 k + (tm_er (s 1) (s 2) L 4 * tm_sg (L - nI k)) / 8) (s 2) 0 0 4))) : wp_X0_follow L s K :=
  ⟨5, p_fol_4 K L s ⟨5, p_fol_44 K L _ (s 2) 4 0 s rfl (fun _ _ => rfl) h⟩ 4 0 rfl⟩
theorem p_tr_64 {e : Nat} (he : e < 2) (K : tm_St → Prop) (L E : Int32) (f : Nat → Int32) : ∀ (m i : Nat) (s : tm_St), i + m = 4 → (∀ k, i ≤ k → s 3 (4 * e + k) = f k) → K (tm_s s 3 (tm_cp (fun k => f k + (E * tm_sg (L - nI k)) / 8) (s 3) (4 * e) i (4 * e + 4))) → wp_X9_trains_64 K (m + 1) (nI e) L E (nI i) s := by
  intro m
  induction m with
  | zero =>
    intro i s hi hf h
    have hi : i = 4 := by omega
    subst hi
    unfold wp_X9_trains_64
    rw [tm_cp_e _ _ _ _ _ (by omega), tm_s_id] at h
    exact ⟨fun _ => h, fun q => absurd (by decide) q⟩
  | succ m ih =>
    intro i s hi hf h
    unfold wp_X9_trains_64
    refine ⟨fun q => absurd q (nI_ge (b := 4) (by omega) (by decide)), fun _ => ?_⟩
    rw [p_4, p_signOf, nI_clamp (by omega)]
    refine ⟨vp_in_nI (by omega) (by decide), vp_in_nI (by omega) (by decide), fun s7 e7 x8 e8 => ?_⟩
    rw [hf i (Nat.le_refl _)] at e7
    subst e7; subst e8
    rw [nI_1]
    refine ih (i + 1) _ (by omega) (fun k hk => ?_) ?_
    · rw [tm_s_at, if_pos rfl, tm_upd_at, if_neg (by omega)]; exact hf k (by omega)
    · rw [← tm_cp_s _ _ (4 * e) _ _ (by omega)] at h
      simpa [tm_s_at, tm_s_ss] using h
theorem p_tr_12 {e : Nat} (he : e < 2) (K : tm_St → Prop) (L : Int32) (s : tm_St) (h : ∃ nf : Nat, wp_X9_trains_64 K nf (nI e) L (tm_er (fun k => s 4 (4 * e + k)) (fun k => s 3 (4 * e + k)) L 4) 0 s) : ∀ (m i : Nat), i + m = 4 → wp_X9_trains_12 K (m + 1) (nI e) L (tm_er (fun k => s 4 (4 * e + k)) (fun k => s 3 (4 * e + k)) L i) (nI i) s := by
  intro m
  induction m with
  | zero =>
    intro i hi
    have hi : i = 4 := by omega
    subst hi
    unfold wp_X9_trains_12
    exact ⟨fun _ => h, fun q => absurd (by decide) q⟩
  | succ m ih =>
    intro i hi
    unfold wp_X9_trains_12
    refine ⟨fun q => absurd q (nI_ge (b := 4) (by omega) (by decide)), fun _ => ?_⟩
    rw [p_4, p_signOf, nI_clamp (by omega)]
    refine ⟨vp_in_nI (by omega) (by decide), vp_in_nI (by omega) (by decide), fun x13 e13 x14 e14 => ?_⟩
    rw [e13, e14, nI_1]
    exact ih (i + 1) (by omega)
theorem p_trains {e : Nat} (he : e < 2) (s : tm_St) (K : tm_St → Prop) (h : K (tm_s s 3 (tm_cp (fun k => s 3 (4 * e + k) + (tm_er (fun k => s 4 (4 * e + k)) (fun k => s 3 (4 * e + k)) (s 1 (24 * e + 1)) 4 * tm_sg (s 1 (24 * e + 1) - nI k)) / 8) (s 3) (4 * e) 0 (4 * e + 4)))) : wp_X9_trains (nI e) s K := by
  unfold wp_X9_trains
  rw [p_of_1 he]
  exact ⟨5, p_tr_12 he K _ s ⟨5, p_tr_64 he K _ _ (fun k => s 3 (4 * e + k)) 4 0 s rfl (fun _ _ => rfl) h⟩ 4 0 rfl⟩
theorem q_train {e : Nat} (he : e < 2) {c7 c6 : Int32} {u S X T G S' X' T' G' : Nat} {σ r : tm_St} (h : tm_Q e c7 c6 u S X T G S' X' T' G' σ r) : ∃ σ' r' : tm_St, (∀ K : tm_St → Prop, K σ' → wp_X0_follow (σ 0 8) (tm_pj [1, 2, 3] σ) (fun u13 => ∀ s12 : tm_St, s12 = tm_pk [1, 2, 3] σ u13 → K s12)) ∧ (∀ K : tm_St → Prop, K r' → wp_X9_trains (nI e) r K) ∧ tm_Q e c7 c6 u S X T G S' X' T' G' σ' r' ∧ tm_F e r r' ∧ tm_FC σ σ' ∧ σ' 0 = σ 0 ∧ r' 1 = r 1 ∧ σ' 11 = σ 11 := by
  obtain ⟨⟨hM, hR, h8, hWi, hWo, hla, h7, h6, hu⟩, hE, hE', hx, hs, hs', ht, hd⟩ := h
  obtain ⟨r1, r2, r3, r4, r5⟩ := hR
  have m1 : σ 0 8 = r 1 (24 * e + 1) := hM.2.1
  refine ⟨tm_s σ 3 (tm_cp (fun k => σ 3 k + (tm_er (σ 2) (σ 3) (σ 0 8) 4 * tm_sg (σ 0 8 - nI k)) / 8) (σ 3) 0 0 4), tm_s r 3 (tm_cp (fun k => r 3 (4 * e + k) + (tm_er (fun k => r 4 (4 * e + k)) (fun k => r 3 (4 * e + k)) (r 1 (24 * e + 1)) 4 * tm_sg (r 1 (24 * e + 1) - nI k)) / 8) (r 3) (4 * e) 0 (4 * e + 4)), fun K hK => ?_, fun K hK => p_trains he r K hK, ⟨⟨hM, ⟨r1, ?_, r3, r4, r5⟩, h8, hWi, hWo, hla, h7, h6, hu⟩, hE, hE', hx, hs, hs', ht, hd⟩, ⟨fun _ _ => rfl, fun _ _ => rfl, ?_, rfl, rfl, fun _ _ => rfl, fun _ _ => rfl, rfl, rfl, rfl, rfl, rfl, rfl, rfl⟩, ⟨rfl, rfl, rfl, rfl, rfl, rfl⟩, rfl, rfl, rfl⟩
  · refine p_follow _ _ _ ?_
    intro s12 e12
    rw [tm_pk_E_2, tm_pk_pj] at e12
    rw [e12]
    exact hK
  · intro j hj
    rw [tm_s_at, if_pos rfl, tm_s_at, if_pos rfl, tm_cp_in _ _ _ _ _ (by omega), tm_cp_at, if_pos (by omega), Nat.sub_zero, m1, r2 j hj, tm_er_c _ 4 r1 r2]
  · intro j hj
    rw [tm_s_at, if_pos rfl, tm_cp_out _ _ _ _ _ (by omega)]
-- letters in a frame
theorem p_pass {n M : Nat} (hn : n < 200) (hM : M ≤ 200) (s : tm_St) (h5 : s 0 5 = nI n) (h7 : s 0 7 = nI M) (K : Int32 → tm_St → Prop) (h : K (s 1 n) (tm_s s 0 (tm_u (tm_u (tm_u (s 0) 5 (nI (n + 1))) 6 (s 0 6 + (if n < M then 1 else 0))) 7 (nI (max M (n + 1)))))) : wp_X2_pass s K := by
  unfold wp_X2_pass
  rw [h5]
  refine ⟨fun q => absurd q (nI_pos (by omega)), fun _ => ⟨fun q => absurd q (nI_ge (b := 200) (by omega) (by decide)), fun _ => ⟨vp_in_nI (by omega) (by decide), ?_⟩⟩⟩
  rw [nI_clamp (by omega)]
  unfold wp_X2_pass_30
  rw [h5, h7]
  have hmx : (if nI M < nI (n + 1) then nI (n + 1) else nI M) = nI (max M (n + 1)) := by
    by_cases c : M < n + 1
    · rw [if_pos (nI_lt c (by omega)), Nat.max_eq_right (by omega)]
    · rw [if_neg (nI_nlt (by omega) (by omega)), Nat.max_eq_left (by omega)]
  refine ⟨fun c => ?_, fun c => ?_⟩
  · have c1 : ¬ n < M := fun q => absurd c (nI_ge q (by omega))
    rw [if_neg c1, Int32.add_zero] at h
    intro s3 e3 x4 e4 s5 e5
    have z7 : s3 0 7 = nI M := by rw [e3]; exact h7
    have z5 : s3 0 5 = nI (n + 1) := by rw [e3, nI_1]; rfl
    rw [z7, z5, hmx] at e4
    rw [e5, e4, e3, nI_1]
    have e1 : ∀ v w : Int32, tm_u (tm_u (tm_u (s 0) 5 v) 6 (s 0 6)) 7 w = tm_u (tm_u (s 0) 5 v) 7 w := by
      intro v w; rw [tm_u_idv (tm_u (s 0) 5 v) 6 (s 0 6) rfl]
    rw [e1] at h
    simpa [tm_s_at, tm_s_ss] using h
  · have c1 : n < M := by
      rcases Nat.lt_or_ge n M with q | q
      · exact q
      · exact absurd (nI_le q (by omega)) c
    rw [if_pos c1] at h
    intro s6 e6 s7 e7 x8 e8 s9 e9
    have z5 : s6 0 5 = nI n := by rw [e6]; exact h5
    have z7 : s7 0 7 = nI M := by rw [e7, e6]; exact h7
    have z5' : s7 0 5 = nI (n + 1) := by rw [e7, z5, nI_1]; rfl
    rw [z7, z5', hmx] at e8
    rw [e9, e8, e7, z5, e6, nI_1]
    have e1 : ∀ v w y : Int32, tm_u (tm_u (tm_u (s 0) 6 v) 5 w) 7 y = tm_u (tm_u (tm_u (s 0) 5 w) 6 v) 7 y := by
      intro v w y; funext q; simp only [tm_u_at]; by_cases q7 : q = 7
      · simp [q7]
      · by_cases q6 : q = 6
        · simp [q6]
        · by_cases q5 : q = 5
          · simp [q5]
          · simp [q7, q6, q5]
    rw [← e1] at h
    simpa [tm_s_at, tm_s_ss] using h
