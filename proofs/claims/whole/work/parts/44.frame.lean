theorem i_mN {a b : Nat} (ha : a < 2 ^ 31) (hb : b < 2 ^ 31) : (if nI a < nI b then nI a else nI b) = nI (min a b) := by
  by_cases c : a < b
  · rw [if_pos ((nI_ltI ha hb).mpr c), Nat.min_eq_left (by omega)]
  · rw [if_neg (fun q => c ((nI_ltI ha hb).mp q)), Nat.min_eq_right (by omega)]
theorem i_mN2 {a b : Nat} (ha : a < 2 ^ 31) (hb : b < 2 ^ 31) : (if nI a ≤ nI b then nI a else nI b) = nI (min a b) := by
  by_cases c : a ≤ b
  · rw [if_pos ((nI_leI ha hb).mpr c), Nat.min_eq_left (by omega)]
  · rw [if_neg (fun q => c ((nI_leI ha hb).mp q)), Nat.min_eq_right (by omega)]
theorem tm_u3 (f : Nat → Int32) (a b c a' b' c' : Int32) : tm_u (tm_u (tm_u (tm_u (tm_u (tm_u f 5 a) 6 b) 7 c) 5 a') 6 b') 7 c' = tm_u (tm_u (tm_u f 5 a') 6 b') 7 c' := by
  funext q; simp only [tm_u_at]; by_cases q7 : q = 7
  · simp [q7]
  · by_cases q6 : q = 6
    · simp [q6]
    · by_cases q5 : q = 5
      · simp [q5]
      · simp [q7, q6, q5]
theorem p_encl {D i : Nat} (hD : D < 2 ^ 31) (hi : i < 3) (v : Int32) (s : tm_St) (K : tm_St → Prop) (h : K (tm_s s 3 (upd (s 3) (8 * (D % 16) + 5 + i) v))) : wp_X7_enclose (nI D) (nI i) v s K := by
  unfold wp_X7_enclose
  rw [p_row hD, show (nI (D % 16) * 8 : Int32) = nI (8 * (D % 16)) by rw [show (8 : Int32) = nI 8 from rfl, pk_mul, Nat.mul_comm], show (nI (8 * (D % 16)) + 5 : Int32) = nI (8 * (D % 16) + 5) from nI_add _ 5, nI_add, nI_clamp (by omega)]
  exact ⟨fun q => absurd q (nI_pos (by omega)), fun _ => ⟨fun q => absurd q (nI_ge (b := 3) (by omega) (by decide)), fun _ => ⟨vp_in_nI (by omega) (by decide), fun s4 e4 => e4 ▸ h⟩⟩⟩
theorem p_sf64 {X M N D : Nat} (hN : N ≤ 3) (hX : X + N ≤ 200) (hM : M ≤ 200) (hD : D < 2 ^ 31) (ts : Nat → Int32) (R0 : Int32) (K : tm_St → Prop) : ∀ (m i : Nat) (σ : tm_St), i + m = N → σ 5 = ts → σ 4 5 = nI (X + i) → σ 4 7 = nI (max M (X + i)) → σ 4 6 = R0 + nI (min i (M - X)) → K (tm_s (tm_s (tm_s σ 4 (tm_u (tm_u (tm_u (σ 4) 5 (nI (X + N))) 6 (R0 + nI (min N (M - X)))) 7 (nI (max M (X + N))))) 17 (tm_cp (fun k => ts (X + k)) (σ 17) (8 * (D % 16) + 5) i (8 * (D % 16) + 5 + N))) 0 (tm_u (σ 0) 13 (σ 0 13 - nI (8 * N)))) → wp_X3_speakFrame_64 K (m + 1) (nI D) (nI N) (nI i) σ := by
  intro m
  induction m with
  | zero =>
    intro i σ hi h5 k5 k7 k6 h
    have hi : i = N := by omega
    subst hi
    unfold wp_X3_speakFrame_64
    refine ⟨fun _ s9 e9 => ?_, fun q => absurd (nI_le (Nat.le_refl _) (by omega)) q⟩
    rw [tm_cp_e _ _ _ _ _ (by omega), tm_u_idv (σ 4) 5 _ k5, tm_u_idv (σ 4) 6 _ k6, tm_u_idv (σ 4) 7 _ k7, tm_s_id, tm_s_id] at h
    rw [e9, show (8 * nI i : Int32) = nI (8 * i) by rw [show (8 : Int32) = nI 8 from rfl, pk_mul]]
    exact h
  | succ m ih =>
    intro i σ hi h5 k5 k7 k6 h
    unfold wp_X3_speakFrame_64
    refine ⟨fun q => absurd q (nI_ge (by omega) (by omega)), fun _ => ?_⟩
    refine p_pass (n := X + i) (M := max M (X + i)) (by omega) (by omega) _ k5 k7 _ ?_
    intro s11 e11
    rw [tm_pk_M_0, tm_pk_pj] at e11
    have z6 : (tm_pj [4, 5, 6] σ 0 6 + (if X + i < max M (X + i) then 1 else 0) : Int32) = R0 + nI (min (i + 1) (M - X)) := by
      rw [show tm_pj [4, 5, 6] σ 0 6 = R0 + nI (min i (M - X)) from k6, Int32.add_assoc]
      by_cases c : X + i < max M (X + i)
      · rw [if_pos c, nI_1, show min (i + 1) (M - X) = min i (M - X) + 1 by omega]
      · rw [if_neg c, Int32.add_zero, show min (i + 1) (M - X) = min i (M - X) by omega]
    rw [z6, show max (max M (X + i)) (X + i + 1) = max M (X + (i + 1)) by omega] at e11
    have z1 : tm_pj [4, 5, 6] σ 1 (X + i) = ts (X + i) := by rw [← h5]; rfl
    rw [z1]
    refine p_encl hD (by omega) _ _ _ ?_
    intro s13 e13
    rw [tm_pk_B_3, tm_pk_pj] at e13
    intro x15 e15
    rw [e15, nI_1]
    have w4 : s13 4 = tm_u (tm_u (tm_u (σ 4) 5 (nI (X + i + 1))) 6 (R0 + nI (min (i + 1) (M - X)))) 7 (nI (max M (X + (i + 1)))) := by rw [e13, e11]; rfl
    refine ih (i + 1) s13 (by omega) (by rw [e13, e11]; exact h5) (by rw [w4]; rfl) (by rw [w4]; rfl) (by rw [w4]; rfl) ?_
    have w0 : s13 0 = σ 0 := by rw [e13, e11]; rfl
    have w17 : s13 17 = upd (σ 17) (8 * (D % 16) + 5 + i) (ts (X + i)) := by rw [e13, e11]; rfl
    rw [w4, w0, w17, tm_u3]
    rw [← tm_cp_s _ _ _ _ _ (by omega)] at h
    refine cast (congrArg K ?_) h
    rw [e13, e11]
    funext q
    simp only [tm_s_at]
    by_cases q0 : q = 0
    · simp [q0]
    · by_cases q17 : q = 17
      · simp [q17]
      · by_cases q4 : q = 4
        · simp [q4]
        · simp [q0, q17, q4]
theorem p_sf94 {e X M N B : Nat} (he : e < 2) (hN : N ≤ 3) (hX : X + N ≤ 200) (hM : M ≤ 200) (hB : B + 8 ≤ 256) (A0 : Int32) (sd : Nat → Int32) (K : tm_St → Prop) : ∀ (m i : Nat) (s : tm_St), i + m = N → s 0 28 = nI B → s 1 (24 * e + 17) = nI M → s 5 = sd → s 0 17 = A0 + nI (min i (M - X)) → K (tm_s (tm_s (tm_s s 10 (tm_cp (fun k => sd (200 * e + X + k)) (s 10) (B + 5) i (B + 5 + N))) 0 (tm_u (s 0) 17 (A0 + nI (min N (M - X))))) 1 (upd (upd (upd (s 1) (24 * e + 5) (s 1 (24 * e + 5) + (-8) * nI N)) (24 * e + 7) (nI (X + N))) (24 * e + 17) (nI (max M (X + N))))) → wp_X9_sendsFrame_94 K (m + 1) (nI e) (nI X) (nI N) (nI i) s := by
  intro m
  induction m with
  | zero =>
    intro i s hi k28 k17 k5 kA h
    have hi : i = N := by omega
    subst hi
    unfold wp_X9_sendsFrame_94
    refine ⟨fun _ => ?_, fun q => absurd (nI_le (Nat.le_refl _) (by omega)) q⟩
    rw [tm_cp_e _ _ (B + 5) _ _ (by omega), tm_s_id, tm_u_idv (s 0) 17 _ kA, tm_s_id] at h
    rw [p_add_5 he, p_put_7 he, p_of_17 he, nI_add]
    have z : ∀ v w : Int32, (tm_s (tm_s s 1 (upd (s 1) (24 * e + 5) v)) 1 (upd ((tm_s s 1 (upd (s 1) (24 * e + 5) v)) 1) (24 * e + 7) w)) 1 (24 * e + 17) = nI M := by
      intro v w; simp [tm_s_at, tm_upd_at, k17]
    rw [z]
    refine ⟨fun c => ?_, fun c => ?_⟩
    · have c1 : X + i ≤ M := (nI_leI (by omega) (by omega)).mp c
      rw [p_of_17 he, p_put_17 he, z]
      rw [show max M (X + i) = M by omega] at h
      simpa [tm_s_ss, tm_s_at] using h
    · have c1 : M < X + i := by
        rcases Nat.lt_or_ge M (X + i) with q | q
        · exact q
        · exact absurd (nI_le q (by omega)) c
      rw [p_put_17 he]
      rw [show max M (X + i) = X + i by omega] at h
      simpa [tm_s_ss, tm_s_at] using h
  | succ m ih =>
    intro i s hi k28 k17 k5 kA h
    unfold wp_X9_sendsFrame_94
    refine ⟨fun q => absurd q (nI_ge (by omega) (by omega)), fun _ => ?_⟩
    rw [k28, p_200, show (nI B + 5 + nI i : Int32) = nI (B + 5 + i) by rw [show (nI B + 5 : Int32) = nI (B + 5) from nI_add _ 5, nI_add], nI_clamp (by omega), nI_clamp (by omega), nI_add]
    refine ⟨vp_in_nI (by omega) (by decide), vp_in_nI (by omega) (by decide), fun s37 e37 => ?_⟩
    have z17 : s37 1 (24 * e + 17) = nI M := by rw [e37]; exact k17
    have zA : s37 0 17 = A0 + nI (min i (M - X)) := by rw [e37]; exact kA
    rw [k5] at e37
    rw [p_of_17 he, z17]
    have fin : ∀ (w : Int32) (s41 : tm_St), A0 + nI (min i (M - X)) + w = A0 + nI (min (i + 1) (M - X)) → s41 = tm_s s37 0 (tm_u (s37 0) 17 ((s37 0 17) + w)) → ∀ x42 : Int32, x42 = nI i + 1 → wp_X9_sendsFrame_94 K (m + 1) (nI e) (nI X) (nI N) x42 s41 := by
      intro w s41 hw e41 x42 e42
      rw [e42, nI_1]
      rw [zA, hw] at e41
      have w0 : s41 0 = tm_u (s 0) 17 (A0 + nI (min (i + 1) (M - X))) := by rw [e41, e37]; rfl
      have w1 : s41 1 = s 1 := by rw [e41, e37]; rfl
      have w10 : s41 10 = upd (s 10) (B + 5 + i) (sd (200 * e + X + i)) := by rw [e41, e37]; rfl
      refine ih (i + 1) s41 (by omega) (by rw [w0]; exact k28) (by rw [w1]; exact k17) (by rw [e41, e37]; exact k5) (by rw [w0]; rfl) ?_
      rw [w0, w1, w10]
      rw [← tm_cp_s _ _ (B + 5) _ _ (by omega)] at h
      have e1 : ∀ v w : Int32, tm_u (tm_u (s 0) 17 v) 17 w = tm_u (s 0) 17 w := by
        intro v w; funext q; simp only [tm_u_at]; split <;> rfl
      rw [e1]
      refine cast (congrArg K ?_) h
      rw [e41, e37]
      funext q
      simp only [tm_s_at]
      by_cases q1 : q = 1
      · simp [q1]
      · by_cases q0 : q = 0
        · simp [q0]
        · by_cases q10 : q = 10
          · simp [q10]
          · simp [q1, q0, q10]
    refine ⟨fun c s41 e41 => ?_, fun c s41 e41 => ?_⟩
    · have c1 : M ≤ X + i := (nI_leI (by omega) (by omega)).mp c
      exact fin 0 s41 (by rw [Int32.add_zero, show min (i + 1) (M - X) = min i (M - X) by omega]) e41
    · have c1 : X + i < M := by
        rcases Nat.lt_or_ge (X + i) M with q | q
        · exact q
        · exact absurd (nI_le q (by omega)) c
      exact fin 1 s41 (by rw [Int32.add_assoc, nI_1, show min (i + 1) (M - X) = min i (M - X) + 1 by omega]) e41
