theorem tm_pk_A_0 (σ τ : tm_St) (f : Nat → Int32) : tm_pk [9, 10, 11, 12, 13] σ (tm_s τ 0 f) = tm_s (tm_pk [9, 10, 11, 12, 13] σ τ) 9 f := by
  funext i
  simp only [tm_pk_at, tm_pkl_c, tm_pkl_n, tm_s_at]
  by_cases h0 : i = 9
  · subst h0; simp
  by_cases h1 : i = 10
  · subst h1; simp
  by_cases h2 : i = 11
  · subst h2; simp
  by_cases h3 : i = 12
  · subst h3; simp
  by_cases h4 : i = 13
  · subst h4; simp
  simp [h0, h1, h2, h3, h4]
theorem tm_pk_A_2 (σ τ : tm_St) (f : Nat → Int32) : tm_pk [9, 10, 11, 12, 13] σ (tm_s τ 2 f) = tm_s (tm_pk [9, 10, 11, 12, 13] σ τ) 11 f := by
  funext i
  simp only [tm_pk_at, tm_pkl_c, tm_pkl_n, tm_s_at]
  by_cases h0 : i = 9
  · subst h0; simp
  by_cases h1 : i = 10
  · subst h1; simp
  by_cases h2 : i = 11
  · subst h2; simp
  by_cases h3 : i = 12
  · subst h3; simp
  by_cases h4 : i = 13
  · subst h4; simp
  simp [h0, h1, h2, h3, h4]
theorem tm_pk_A_4 (σ τ : tm_St) (f : Nat → Int32) : tm_pk [9, 10, 11, 12, 13] σ (tm_s τ 4 f) = tm_s (tm_pk [9, 10, 11, 12, 13] σ τ) 13 f := by
  funext i
  simp only [tm_pk_at, tm_pkl_c, tm_pkl_n, tm_s_at]
  by_cases h0 : i = 9
  · subst h0; simp
  by_cases h1 : i = 10
  · subst h1; simp
  by_cases h2 : i = 11
  · subst h2; simp
  by_cases h3 : i = 12
  · subst h3; simp
  by_cases h4 : i = 13
  · subst h4; simp
  simp [h0, h1, h2, h3, h4]
theorem tm_pk_B_0 (σ τ : tm_St) (f : Nat → Int32) : tm_pk [14, 15, 16, 17, 18] σ (tm_s τ 0 f) = tm_s (tm_pk [14, 15, 16, 17, 18] σ τ) 14 f := by
  funext i
  simp only [tm_pk_at, tm_pkl_c, tm_pkl_n, tm_s_at]
  by_cases h0 : i = 14
  · subst h0; simp
  by_cases h1 : i = 15
  · subst h1; simp
  by_cases h2 : i = 16
  · subst h2; simp
  by_cases h3 : i = 17
  · subst h3; simp
  by_cases h4 : i = 18
  · subst h4; simp
  simp [h0, h1, h2, h3, h4]
theorem tm_pk_B_3 (σ τ : tm_St) (f : Nat → Int32) : tm_pk [14, 15, 16, 17, 18] σ (tm_s τ 3 f) = tm_s (tm_pk [14, 15, 16, 17, 18] σ τ) 17 f := by
  funext i
  simp only [tm_pk_at, tm_pkl_c, tm_pkl_n, tm_s_at]
  by_cases h0 : i = 14
  · subst h0; simp
  by_cases h1 : i = 15
  · subst h1; simp
  by_cases h2 : i = 16
  · subst h2; simp
  by_cases h3 : i = 17
  · subst h3; simp
  by_cases h4 : i = 18
  · subst h4; simp
  simp [h0, h1, h2, h3, h4]
theorem tm_pk_B_4 (σ τ : tm_St) (f : Nat → Int32) : tm_pk [14, 15, 16, 17, 18] σ (tm_s τ 4 f) = tm_s (tm_pk [14, 15, 16, 17, 18] σ τ) 18 f := by
  funext i
  simp only [tm_pk_at, tm_pkl_c, tm_pkl_n, tm_s_at]
  by_cases h0 : i = 14
  · subst h0; simp
  by_cases h1 : i = 15
  · subst h1; simp
  by_cases h2 : i = 16
  · subst h2; simp
  by_cases h3 : i = 17
  · subst h3; simp
  by_cases h4 : i = 18
  · subst h4; simp
  simp [h0, h1, h2, h3, h4]
theorem tm_pk_M_0 (σ τ : tm_St) (f : Nat → Int32) : tm_pk [4, 5, 6] σ (tm_s τ 0 f) = tm_s (tm_pk [4, 5, 6] σ τ) 4 f := by
  funext i
  simp only [tm_pk_at, tm_pkl_c, tm_pkl_n, tm_s_at]
  by_cases h0 : i = 4
  · subst h0; simp
  by_cases h1 : i = 5
  · subst h1; simp
  by_cases h2 : i = 6
  · subst h2; simp
  simp [h0, h1, h2]
theorem tm_pk_M_1 (σ τ : tm_St) (f : Nat → Int32) : tm_pk [4, 5, 6] σ (tm_s τ 1 f) = tm_s (tm_pk [4, 5, 6] σ τ) 5 f := by
  funext i
  simp only [tm_pk_at, tm_pkl_c, tm_pkl_n, tm_s_at]
  by_cases h0 : i = 4
  · subst h0; simp
  by_cases h1 : i = 5
  · subst h1; simp
  by_cases h2 : i = 6
  · subst h2; simp
  simp [h0, h1, h2]
theorem tm_pk_M_2 (σ τ : tm_St) (f : Nat → Int32) : tm_pk [4, 5, 6] σ (tm_s τ 2 f) = tm_s (tm_pk [4, 5, 6] σ τ) 6 f := by
  funext i
  simp only [tm_pk_at, tm_pkl_c, tm_pkl_n, tm_s_at]
  by_cases h0 : i = 4
  · subst h0; simp
  by_cases h1 : i = 5
  · subst h1; simp
  by_cases h2 : i = 6
  · subst h2; simp
  simp [h0, h1, h2]
theorem tm_pk_E_2 (σ τ : tm_St) (f : Nat → Int32) : tm_pk [1, 2, 3] σ (tm_s τ 2 f) = tm_s (tm_pk [1, 2, 3] σ τ) 3 f := by
  funext i
  simp only [tm_pk_at, tm_pkl_c, tm_pkl_n, tm_s_at]
  by_cases h0 : i = 1
  · subst h0; simp
  by_cases h1 : i = 2
  · subst h1; simp
  by_cases h2 : i = 3
  · subst h2; simp
  simp [h0, h1, h2]
theorem tm_pk_T_0 (σ τ : tm_St) (f : Nat → Int32) : tm_pk [4, 5, 6, 9, 10, 11, 12, 13] σ (tm_s τ 0 f) = tm_s (tm_pk [4, 5, 6, 9, 10, 11, 12, 13] σ τ) 4 f := by
  funext i
  simp only [tm_pk_at, tm_pkl_c, tm_pkl_n, tm_s_at]
  by_cases h0 : i = 4
  · subst h0; simp
  by_cases h1 : i = 5
  · subst h1; simp
  by_cases h2 : i = 6
  · subst h2; simp
  by_cases h3 : i = 9
  · subst h3; simp
  by_cases h4 : i = 10
  · subst h4; simp
  by_cases h5 : i = 11
  · subst h5; simp
  by_cases h6 : i = 12
  · subst h6; simp
  by_cases h7 : i = 13
  · subst h7; simp
  simp [h0, h1, h2, h3, h4, h5, h6, h7]
theorem tm_pk_T_2 (σ τ : tm_St) (f : Nat → Int32) : tm_pk [4, 5, 6, 9, 10, 11, 12, 13] σ (tm_s τ 2 f) = tm_s (tm_pk [4, 5, 6, 9, 10, 11, 12, 13] σ τ) 6 f := by
  funext i
  simp only [tm_pk_at, tm_pkl_c, tm_pkl_n, tm_s_at]
  by_cases h0 : i = 4
  · subst h0; simp
  by_cases h1 : i = 5
  · subst h1; simp
  by_cases h2 : i = 6
  · subst h2; simp
  by_cases h3 : i = 9
  · subst h3; simp
  by_cases h4 : i = 10
  · subst h4; simp
  by_cases h5 : i = 11
  · subst h5; simp
  by_cases h6 : i = 12
  · subst h6; simp
  by_cases h7 : i = 13
  · subst h7; simp
  simp [h0, h1, h2, h3, h4, h5, h6, h7]
theorem tm_Sl_fl {S G : Nat} {f g : Nat → Int32} {k : Nat} (k' : Nat) {v : Int32} (hv : v = 0 ∨ v = 1) (h : tm_Sl S G f g k) : tm_Sl S G (upd f (8 * k') v) g k := by
  obtain ⟨h0, h1, h2, h3⟩ := h
  have e1 : upd f (8 * k') v (8 * k + 1) = f (8 * k + 1) := by rw [tm_upd_at, if_neg (by omega)]
  have e2 : upd f (8 * k') v (8 * k + 2) = f (8 * k + 2) := by rw [tm_upd_at, if_neg (by omega)]
  have e3 : upd f (8 * k') v (8 * k + 3) = f (8 * k + 3) := by rw [tm_upd_at, if_neg (by omega)]
  have e4 : upd f (8 * k') v (8 * k + 4) = f (8 * k + 4) := by rw [tm_upd_at, if_neg (by omega)]
  unfold tm_Sl
  rw [e1, e2, e3, e4]
  refine ⟨?_, h1, h2, h3⟩
  rw [tm_upd_at]
  split
  · exact hv
  · exact h0
theorem i_sm (a b c : Int32) : a + b + c = a + c + b := by rw [Int32.add_assoc, Int32.add_comm b c, ← Int32.add_assoc]
theorem tm_sm_o (f : Nat → Int32) (k : Nat) (v : Int32) : ∀ n, n ≤ k → tm_sm (upd f (8 * k) v) n = tm_sm f n := by
  intro n
  induction n with
  | zero => intro _; rfl
  | succ n ih =>
    intro h
    show tm_sm (upd f (8 * k) v) n + upd f (8 * k) v (8 * n) = tm_sm f n + f (8 * n)
    rw [ih (by omega), tm_upd_at, if_neg (by omega)]
theorem tm_sm_u (f : Nat → Int32) (k : Nat) (v : Int32) : ∀ n, k < n → tm_sm (upd f (8 * k) v) n + f (8 * k) = tm_sm f n + v := by
  intro n
  induction n with
  | zero => intro h; omega
  | succ n ih =>
    intro h
    show tm_sm (upd f (8 * k) v) n + upd f (8 * k) v (8 * n) + f (8 * k) = tm_sm f n + f (8 * n) + v
    by_cases hk : k = n
    · subst hk
      rw [tm_sm_o f k v k (Nat.le_refl _), tm_upd_at, if_pos rfl, i_sm]
    · rw [tm_upd_at, if_neg (by omega), i_sm, ih (by omega), i_sm]
/-- what an END heard, as told by who sent it -/
def tm_H (e S' G' : Nat) (win : Nat → Int32) (r : tm_St) : Prop :=
  (r 7 (5 * e) = 3 → ∃ b, b < 8 ∧ r 7 (5 * e + 1) = nI b) ∧ (r 7 (5 * e) = 5 ∨ r 7 (5 * e) = 6 → ∃ q, q ≤ 24 ∧ r 7 (5 * e + 2) = nI q) ∧ (r 7 (5 * e) = 7 → ∃ P N A, P + N ≤ S' ∧ N ≤ 3 ∧ A ≤ G' ∧ r 7 (5 * e + 2) = nI P ∧ r 7 (5 * e + 3) = nI N ∧ r 7 (5 * e + 4) = nI A ∧ ∀ k, k < 3 → win (5 + k) = r 17 (3 * e + k))
theorem s_hear_mid {e : Nat} (he : e < 2) {c7 c6 : Int32} {u S X T G S' X' T' G' : Nat} {σ r : tm_St} (h : tm_Q e c7 c6 u S X T G S' X' T' G' σ r) {j : Nat} (hj : j < 16) (f9 f11 f13 g d12 d13 : Nat → Int32) (a : Int32)
    (k4 : f9 4 = r 9 (1 - e)) (k5 : f9 5 = d12 (1 - e)) (k6 : f9 6 = d13 (1 - e)) (k12 : d12 e = r 12 e) (k13 : d13 e = r 13 e) (kf : ∀ j', j' < 16 → f13 j' = upd (r 10) (8 * (16 * (1 - e) + j)) 0 (8 * (16 * (1 - e) + j'))) (kl : ∀ k, k < 4 → f11 k = g k) (ka : f11 4 = a) (ku : f9 7 + σ 14 7 = tm_sm (upd (r 10) (8 * (16 * (1 - e) + j)) 0) 32) :
    tm_Q e c7 c6 u S X T G S' X' T' G' (tm_s (tm_s (tm_s σ 13 f13) 9 f9) 11 f11) (tm_hr e (8 * (16 * (1 - e) + j)) g a (tm_s (tm_s r 12 d12) 13 d13)) ∧ tm_F e r (tm_hr e (8 * (16 * (1 - e) + j)) g a (tm_s (tm_s r 12 d12) 13 d13)) ∧ tm_FC σ (tm_s (tm_s (tm_s σ 13 f13) 9 f9) 11 f11) := by
  obtain ⟨⟨hM, hR, h8, hWi, hWo, hla, h7, h6, hu⟩, hE, hE', hx, hs, hs', ht, hd⟩ := h
  obtain ⟨w1, w2, w3, w4, w5, w6, w7, w8⟩ := hWi
  obtain ⟨o1, o2, o3, o4, o5, o6, o7, o8⟩ := hWo
  refine ⟨⟨⟨hM, hR, h8, ⟨k4, k5, k6, w4, kf, ?_, w7, ?_⟩, ⟨o1, ?_, ?_, o4, ?_, ?_, o7, ?_⟩, ?_, h7, h6, ku⟩, hE, hE', hx, ?_, ?_, ht, hd⟩, ⟨fun _ _ => rfl, fun _ _ => rfl, fun _ _ => rfl, rfl, rfl, fun _ _ => rfl, ?_, rfl, rfl, rfl, rfl, rfl, rfl, rfl⟩, ⟨rfl, rfl, rfl, rfl, rfl, rfl⟩⟩
  · intro j' k hj' hk
    show σ 12 (8 * j' + k) = upd (r 10) (8 * (16 * (1 - e) + j)) 0 (8 * (16 * (1 - e) + j') + 1 + k)
    rw [tm_upd_at, if_neg (by omega)]
    exact w6 j' k hj' hk
  · intro j' k hj' hk
    show σ 12 (8 * j' + 5 + k) = upd (r 10) (8 * (16 * (1 - e) + j)) 0 (8 * (16 * (1 - e) + j') + 5 + k)
    rw [tm_upd_at, if_neg (by omega)]
    exact w8 j' k hj' hk
  · show σ 14 5 = d12 e
    rw [k12]; exact o2
  · show σ 14 6 = d13 e
    rw [k13]; exact o3
  · intro j' hj'
    show σ 18 j' = upd (r 10) (8 * (16 * (1 - e) + j)) 0 (8 * (16 * e + j'))
    rw [tm_upd_at, if_neg (by omega)]
    exact o5 j' hj'
  · intro j' k hj' hk
    show σ 17 (8 * j' + k) = upd (r 10) (8 * (16 * (1 - e) + j)) 0 (8 * (16 * e + j') + 1 + k)
    rw [tm_upd_at, if_neg (by omega)]
    exact o6 j' k hj' hk
  · intro j' k hj' hk
    show σ 17 (8 * j' + 5 + k) = upd (r 10) (8 * (16 * (1 - e) + j)) 0 (8 * (16 * e + j') + 5 + k)
    rw [tm_upd_at, if_neg (by omega)]
    exact o8 j' k hj' hk
  · intro k hk
    show f11 k = upd (tm_cp g (r 7) (5 * e) 0 (5 * e + 4)) (5 * e + 4) a (5 * e + k)
    rw [tm_upd_at]
    by_cases q : k = 4
    · rw [q, if_pos rfl]; exact ka
    · rw [if_neg (by omega), tm_cp_in _ _ _ _ _ (by omega)]; exact kl k (by omega)
  · intro j' hj'
    exact tm_Sl_fl _ (Or.inl rfl) (hs j' hj')
  · intro j' hj'
    exact tm_Sl_fl _ (Or.inl rfl) (hs' j' hj')
  · intro k hk
    show upd (tm_cp g (r 7) (5 * e) 0 (5 * e + 4)) (5 * e + 4) a (5 * (1 - e) + k) = _
    rw [tm_upd_at, if_neg (by omega), tm_cp_out _ _ _ _ _ (by omega)]
theorem i_m1 (a b : Int32) : a - 1 + b = a + b + (-1) := by rw [Int32.sub_eq_add_neg, i_sm]
theorem i_nx {a b : Int32} (h : a + 1 = b) : b + (-1) = a := by rw [← h, Int32.add_assoc]; show a + 0 = a; rw [Int32.add_zero]
theorem s_hear {e : Nat} (he : e < 2) {c7 c6 : Int32} {u S X T G S' X' T' G' : Nat} {σ r : tm_St} (h : tm_Q e c7 c6 u S X T G S' X' T' G' σ r) {t : Nat} (ht : t < 2 ^ 31) (h0 : r 0 12 = nI t) :
    ∃ σ' r' : tm_St, (∀ K : tm_St → Prop, K σ' → wp_X7_bring (nI t) (tm_pj [9, 10, 11, 12, 13] σ) (fun u5 => ∀ s4 : tm_St, s4 = tm_pk [9, 10, 11, 12, 13] σ u5 → K s4)) ∧ (∀ K : tm_St → Prop, K r' → wp_X9_hear (nI e) r K) ∧ tm_Q e c7 c6 u S X T G S' X' T' G' σ' r' ∧ tm_F e r r' ∧ tm_FC σ σ' ∧ tm_H e S' G' (σ' 11) r' ∧ σ' 0 = σ 0 ∧ σ' 4 = σ 4 ∧ r' 1 = r 1 := by
  have hj : t % 16 < 16 := Nat.mod_lt _ (by decide)
  have hWi := h.1.2.2.2.1
  obtain ⟨w1, w2, w3, w4, w5, w6, w7, w8⟩ := hWi
  have hu := h.1.2.2.2.2.2.2.2.2
  have hsl := h.2.2.2.2.2.1 (t % 16) hj
  have hfl := w5 (t % 16) hj
  have hsm := tm_sm_u (r 10) (16 * (1 - e) + t % 16) 0 32 (by omega)
  by_cases c1 : r 10 (8 * (16 * (1 - e) + t % 16)) = 1
  · rw [c1] at hfl
    rw [c1, Int32.add_zero] at hsm
    have ku : ∀ f : Nat → Int32, f 7 = σ 9 7 - 1 → f 7 + σ 14 7 = tm_sm (upd (r 10) (8 * (16 * (1 - e) + t % 16)) 0) 32 := by
      intro f hf
      rw [hf, i_m1, hu]
      exact i_nx hsm
    have kf : ∀ j', j' < 16 → upd (σ 13) (t % 16) 0 j' = upd (r 10) (8 * (16 * (1 - e) + t % 16)) 0 (8 * (16 * (1 - e) + j')) := by
      intro j' hj'
      rw [tm_upd_at, tm_upd_at]
      by_cases q : j' = t % 16
      · rw [if_pos q, if_pos (by omega)]
      · rw [if_neg q, if_neg (by omega)]; exact w5 j' hj'
    by_cases c2 : ¬ r 9 (1 - e) ≤ 0 ∧ (r 12 (1 - e) + 1) - (r 12 (1 - e) + 1) / (r 9 (1 - e)) * (r 9 (1 - e)) = 0
    · refine ⟨tm_s (tm_s (tm_s σ 13 (upd (σ 13) (t % 16) 0)) 9 (tm_u (tm_u (tm_u (σ 9) 7 (σ 9 7 - 1)) 5 (σ 9 5 + 1)) 6 (σ 9 6 + 1))) 11 (tm_cp (fun _ => 0) (σ 11) 0 0 8), tm_hr e (8 * (16 * (1 - e) + t % 16)) (fun _ => 0) 0 (tm_s (tm_s r 12 (upd (r 12) (1 - e) (r 12 (1 - e) + 1))) 13 (upd (r 13) (1 - e) (r 13 (1 - e) + 1))), ?_, ?_, ?_⟩
      · intro K hK
        refine p_bring_f ht _ _ hfl (by show ¬ σ 9 4 ≤ 0; rw [w1]; exact c2.1) (by show (σ 9 5 + 1) - (σ 9 5 + 1) / (σ 9 4) * (σ 9 4) = 0; rw [w1, w2]; exact c2.2) ?_
        intro s4 e4
        rw [e4, tm_pk_A_2, tm_pk_A_0, tm_pk_A_4, tm_pk_pj]
        exact hK
      · intro K hK
        exact p_hear_f he ht r K h0 c1 c2.1 c2.2 hK
      · obtain ⟨q1, q2, q3⟩ := s_hear_mid he h hj (tm_u (tm_u (tm_u (σ 9) 7 (σ 9 7 - 1)) 5 (σ 9 5 + 1)) 6 (σ 9 6 + 1)) (tm_cp (fun _ => 0) (σ 11) 0 0 8) (upd (σ 13) (t % 16) 0) (fun _ => 0) (upd (r 12) (1 - e) (r 12 (1 - e) + 1)) (upd (r 13) (1 - e) (r 13 (1 - e) + 1)) 0 w1 (by show σ 9 5 + 1 = upd _ _ _ _; rw [tm_upd_at, if_pos rfl, w2]) (by show σ 9 6 + 1 = upd _ _ _ _; rw [tm_upd_at, if_pos rfl, w3]) (by rw [tm_upd_at, if_neg (by omega)]) (by rw [tm_upd_at, if_neg (by omega)]) kf (fun k hk => by rw [tm_cp_at, if_pos (by omega)]) (by rw [tm_cp_at, if_pos (by omega)]) (ku _ rfl)
        refine ⟨q1, q2, q3, ?_, rfl, rfl, rfl⟩
        have hz : tm_hr e (8 * (16 * (1 - e) + t % 16)) (fun _ => 0) 0 (tm_s (tm_s r 12 (upd (r 12) (1 - e) (r 12 (1 - e) + 1))) 13 (upd (r 13) (1 - e) (r 13 (1 - e) + 1))) 7 (5 * e) = 0 := by
          show upd (tm_cp (fun _ => 0) (r 7) (5 * e) 0 (5 * e + 4)) (5 * e + 4) 0 (5 * e) = 0
          rw [tm_upd_at, if_neg (by omega), tm_cp_at, if_pos (by omega)]
        unfold tm_H
        rw [hz]
        exact ⟨fun q => absurd q (by decide), fun q => absurd q (by decide), fun q => absurd q (by decide)⟩
    · refine ⟨tm_s (tm_s (tm_s σ 13 (upd (σ 13) (t % 16) 0)) 9 (tm_u (tm_u (σ 9) 7 (σ 9 7 - 1)) 5 (σ 9 5 + 1))) 11 (tm_cp (fun k => σ 12 (t % 16 * 8 + k)) (σ 11) 0 0 8), tm_hr e (8 * (16 * (1 - e) + t % 16)) (fun k => r 10 (8 * (16 * (1 - e) + t % 16) + 1 + k)) (r 11 (16 * (1 - e) + t % 16)) (tm_s (tm_s r 12 (upd (r 12) (1 - e) (r 12 (1 - e) + 1))) 13 (r 13)), ?_, ?_, ?_⟩
      · intro K hK
        refine p_bring_g ht _ _ hfl (by show ¬ (¬ σ 9 4 ≤ 0 ∧ (σ 9 5 + 1) - (σ 9 5 + 1) / (σ 9 4) * (σ 9 4) = 0); rw [w1, w2]; exact c2) ?_
        intro s4 e4
        rw [e4, tm_pk_A_2, tm_pk_A_0, tm_pk_A_4, tm_pk_pj]
        exact hK
      · intro K hK
        refine p_hear_g he ht r K h0 c1 c2 ?_
        rw [show tm_s (tm_s r 12 (upd (r 12) (1 - e) (r 12 (1 - e) + 1))) 13 (r 13) = tm_s r 12 (upd (r 12) (1 - e) (r 12 (1 - e) + 1)) from tm_s_id (tm_s r 12 (upd (r 12) (1 - e) (r 12 (1 - e) + 1))) 13] at hK
        exact hK
      · obtain ⟨q1, q2, q3⟩ := s_hear_mid he h hj (tm_u (tm_u (σ 9) 7 (σ 9 7 - 1)) 5 (σ 9 5 + 1)) (tm_cp (fun k => σ 12 (t % 16 * 8 + k)) (σ 11) 0 0 8) (upd (σ 13) (t % 16) 0) (fun k => r 10 (8 * (16 * (1 - e) + t % 16) + 1 + k)) (upd (r 12) (1 - e) (r 12 (1 - e) + 1)) (r 13) (r 11 (16 * (1 - e) + t % 16)) w1 (by show σ 9 5 + 1 = upd _ _ _ _; rw [tm_upd_at, if_pos rfl, w2]) w3 (by rw [tm_upd_at, if_neg (by omega)]) rfl kf (fun k hk => by rw [tm_cp_at, if_pos (by omega), Nat.sub_zero, Nat.mul_comm]; exact w6 _ _ hj hk) (by rw [tm_cp_at, if_pos (by omega), Nat.sub_zero, Nat.mul_comm]; exact w7 _ hj) (ku _ rfl)
        refine ⟨q1, q2, q3, ?_, rfl, rfl, rfl⟩
        have hz : ∀ k, k < 4 → tm_hr e (8 * (16 * (1 - e) + t % 16)) (fun k => r 10 (8 * (16 * (1 - e) + t % 16) + 1 + k)) (r 11 (16 * (1 - e) + t % 16)) (tm_s (tm_s r 12 (upd (r 12) (1 - e) (r 12 (1 - e) + 1))) 13 (r 13)) 7 (5 * e + k) = r 10 (8 * (16 * (1 - e) + t % 16) + 1 + k) := by
          intro k hk
          show upd (tm_cp (fun k => r 10 (8 * (16 * (1 - e) + t % 16) + 1 + k)) (r 7) (5 * e) 0 (5 * e + 4)) (5 * e + 4) _ (5 * e + k) = _
          rw [tm_upd_at, if_neg (by omega), tm_cp_in _ _ _ _ _ (by omega)]
        have hz4 : tm_hr e (8 * (16 * (1 - e) + t % 16)) (fun k => r 10 (8 * (16 * (1 - e) + t % 16) + 1 + k)) (r 11 (16 * (1 - e) + t % 16)) (tm_s (tm_s r 12 (upd (r 12) (1 - e) (r 12 (1 - e) + 1))) 13 (r 13)) 7 (5 * e + 4) = r 11 (16 * (1 - e) + t % 16) := by
          show upd _ (5 * e + 4) _ (5 * e + 4) = _
          rw [tm_upd_at, if_pos rfl]
        have z0 := hz 0 (by decide)
        have z1 := hz 1 (by decide)
        have z2 := hz 2 (by decide)
        have z3 := hz 3 (by decide)
        obtain ⟨-, sl1, sl2, sl3⟩ := hsl
        unfold tm_H
        rw [show (5 * e : Nat) = 5 * e + 0 from rfl, z0, hz4]
        rw [show (5 * e + 0 + 1 : Nat) = 5 * e + 1 from rfl, show (5 * e + 0 + 2 : Nat) = 5 * e + 2 from rfl, show (5 * e + 0 + 3 : Nat) = 5 * e + 3 from rfl, z1, z2, z3]
        refine ⟨sl1, sl2, fun q => ?_⟩
        obtain ⟨P, N, A, g1, g2, g3, g4, g5, g6⟩ := sl3 q
        refine ⟨P, N, A, g1, g2, g3, g4, g5, g6, fun k hk => ?_⟩
        show tm_cp (fun k => σ 12 (t % 16 * 8 + k)) (σ 11) 0 0 8 (5 + k) = tm_cp (fun k => r 10 (8 * (16 * (1 - e) + t % 16) + 5 + k)) (r 17) (3 * e) 0 (3 * e + 3) (3 * e + k)
        rw [tm_cp_in _ _ _ _ _ (by omega), tm_cp_at, if_pos (by omega), Nat.sub_zero, ← w8 _ k hj hk, Nat.mul_comm, ← Nat.add_assoc]
  · have c0 : r 10 (8 * (16 * (1 - e) + t % 16)) = 0 := hsl.1.resolve_right c1
    rw [c0] at hfl
    rw [c0, Int32.add_zero, Int32.add_zero] at hsm
    refine ⟨tm_s (tm_s (tm_s σ 13 (σ 13)) 9 (σ 9)) 11 (tm_cp (fun _ => 0) (σ 11) 0 0 8), tm_hr e (8 * (16 * (1 - e) + t % 16)) (fun _ => 0) 0 (tm_s (tm_s r 12 (r 12)) 13 (r 13)), ?_, ?_, ?_⟩
    · intro K hK
      refine p_bring_e ht _ _ hfl ?_
      intro s4 e4
      rw [e4, tm_pk_A_2, tm_pk_pj]
      rw [tm_s_id, tm_s_id] at hK
      exact hK
    · intro K hK
      refine p_hear_e he ht r K h0 c1 ?_
      rw [tm_s_id, tm_s_id] at hK
      exact hK
    · obtain ⟨q1, q2, q3⟩ := s_hear_mid he h hj (σ 9) (tm_cp (fun _ => 0) (σ 11) 0 0 8) (σ 13) (fun _ => 0) (r 12) (r 13) 0 w1 w2 w3 rfl rfl (by
        intro j' hj'
        rw [tm_upd_at]
        by_cases q : j' = t % 16
        · rw [if_pos (by omega), q]; exact hfl
        · rw [if_neg (by omega)]; exact w5 j' hj') (fun k hk => by rw [tm_cp_at, if_pos (by omega)]) (by rw [tm_cp_at, if_pos (by omega)]) (by rw [hu]; exact hsm.symm)
      refine ⟨q1, q2, q3, ?_, rfl, rfl, rfl⟩
      have hz : tm_hr e (8 * (16 * (1 - e) + t % 16)) (fun _ => 0) 0 (tm_s (tm_s r 12 (r 12)) 13 (r 13)) 7 (5 * e) = 0 := by
        show upd (tm_cp (fun _ => 0) (r 7) (5 * e) 0 (5 * e + 4)) (5 * e + 4) 0 (5 * e) = 0
        rw [tm_upd_at, if_neg (by omega), tm_cp_at, if_pos (by omega)]
      unfold tm_H
      rw [hz]
      exact ⟨fun q => absurd q (by decide), fun q => absurd q (by decide), fun q => absurd q (by decide)⟩
