/-- the numbers of END e: in the class (a Modem's fields, its Mail's fields), in the reference (its row of ends) -/
def tm_M (e : Nat) (f0 f4 f : Nat → Int32) : Prop := f0 6 = f (24 * e) ∧ f0 8 = f (24 * e + 1) ∧ f0 10 = f (24 * e + 2) ∧ f0 11 = f (24 * e + 3) ∧ f0 12 = f (24 * e + 4) ∧ f0 13 = f (24 * e + 5) ∧ f4 2 = f (24 * e + 6) ∧ f4 5 = f (24 * e + 7) ∧ f4 4 = f (24 * e + 8) ∧ f4 3 = f (24 * e + 9) ∧ f0 14 = f (24 * e + 10) ∧ f0 15 = f (24 * e + 11) ∧ f0 17 = f (24 * e + 12) ∧ f0 18 = f (24 * e + 13) ∧ f0 19 = f (24 * e + 14) ∧ f0 16 = f (24 * e + 15) ∧ f4 7 = f (24 * e + 17)
/-- WAY w -/
def tm_W (w : Nat) (f q rows full : Nat → Int32) (r : tm_St) : Prop :=
  f 4 = r 9 w ∧ f 5 = r 12 w ∧ f 6 = r 13 w ∧ (∀ b, b < 8 → q b = r 8 (8 * w + b)) ∧ (∀ j, j < 16 → full j = r 10 (8 * (16 * w + j))) ∧ (∀ j k, j < 16 → k < 4 → rows (8 * j + k) = r 10 (8 * (16 * w + j) + 1 + k)) ∧ (∀ j, j < 16 → rows (8 * j + 4) = r 11 (16 * w + j)) ∧ (∀ j k, j < 16 → k < 3 → rows (8 * j + 5 + k) = r 10 (8 * (16 * w + j) + 5 + k))
/-- an END's rows -/
def tm_R (e : Nat) (ta le no se ge : Nat → Int32) (r : tm_St) : Prop :=
  (∀ j, j < 4 → ta j = r 4 (4 * e + j)) ∧ (∀ j, j < 4 → le j = r 3 (4 * e + j)) ∧ (∀ j, j < 8 → no j = r 2 (8 * e + j)) ∧ (∀ j, j < 200 → se j = r 5 (200 * e + j)) ∧ (∀ j, j < 200 → ge j = r 6 (200 * e + j))
def tm_sm (f : Nat → Int32) : Nat → Int32
  | 0 => 0
  | n + 1 => tm_sm f n + f (8 * n)
/-- a Modem's world and the reference, for END e; c7, c6: what the other END adds to the two sums -/
def tm_L (e : Nat) (c7 c6 : Int32) (σ r : tm_St) : Prop :=
  tm_M e (σ 0) (σ 4) (r 1) ∧ tm_R e (σ 2) (σ 3) (σ 7) (σ 5) (σ 6) r ∧ σ 8 2 = r 0 8 ∧ tm_W (1 - e) (σ 9) (σ 10) (σ 12) (σ 13) r ∧ tm_W e (σ 14) (σ 15) (σ 17) (σ 18) r ∧ (∀ k, k < 5 → σ 11 k = r 7 (5 * e + k)) ∧ σ 0 7 + c7 = r 0 15 ∧ σ 4 6 + c6 = r 0 17 ∧ σ 9 7 + σ 14 7 = tm_sm (r 10) 32
/-- the numbers of an END, as numbers: S: one more than the highest number that it sent ever; X: NEXT, T: TOLD, G: GOT -/
def tm_E (k : Nat) (u S X T G : Nat) (f : Nat → Int32) : Prop :=
  (∃ p, p ≤ 7 ∧ f k = nI p) ∧ (∃ L, L ≤ u ∧ f (k + 1) = nI L) ∧ (∃ o, o ≤ 24 ∧ f (k + 3) = nI o) ∧ (∃ o, o ≤ 24 ∧ f (k + 4) = nI o) ∧ (∃ o, o ≤ 24 ∧ f (k + 5) = nI o) ∧ (∃ b, b < 256 ∧ f (k + 15) = nI b) ∧ ((∃ Sd, S ≤ Sd ∧ Sd ≤ 200 ∧ f (k + 6) = nI Sd) ∧ f (k + 17) = nI S) ∧ f (k + 7) = nI X ∧ f (k + 8) = nI T ∧ f (k + 9) = nI G ∧ X ≤ S ∧ S ≤ 200 ∧ X ≤ T + 64
/-- a signal on its way, at place k: S, G of the END that sent it -/
def tm_Sl (S G : Nat) (f g : Nat → Int32) (k : Nat) : Prop :=
  (f (8 * k) = 0 ∨ f (8 * k) = 1) ∧ (f (8 * k + 1) = 3 → ∃ b, b < 8 ∧ f (8 * k + 2) = nI b) ∧ (f (8 * k + 1) = 5 ∨ f (8 * k + 1) = 6 → ∃ q, q ≤ 24 ∧ f (8 * k + 3) = nI q) ∧ (f (8 * k + 1) = 7 → ∃ P N A, P + N ≤ S ∧ N ≤ 3 ∧ A ≤ G ∧ f (8 * k + 3) = nI P ∧ f (8 * k + 4) = nI N ∧ g k = nI A)
def tm_N (e u S X T G S' X' T' G' : Nat) (r : tm_St) : Prop :=
  tm_E (24 * e) u S X T G (r 1) ∧ tm_E (24 * (1 - e)) u S' X' T' G' (r 1) ∧ (T ≤ G' ∧ G' ≤ S ∧ T' ≤ G ∧ G ≤ S') ∧ (∀ j, j < 16 → tm_Sl S G (r 10) (r 11) (16 * e + j)) ∧ (∀ j, j < 16 → tm_Sl S' G' (r 10) (r 11) (16 * (1 - e) + j)) ∧ (∃ t, t ≤ u ∧ r 0 12 = nI t) ∧ (∃ d, 1 ≤ d ∧ d ≤ 8 ∧ r 0 8 = nI d)
theorem tm_s_id (s : tm_St) (j : Nat) : tm_s s j (s j) = s := by
  funext i; rw [tm_s_at]; split
  · next h => rw [h]
  · rfl
/-- a row that is filled from b + i up to n -/
def tm_fl (f : Nat → Int32) (lo hi : Nat) : Nat → Int32 := fun j => if lo ≤ j ∧ j < hi then 0 else f j
theorem tm_fl_s (f : Nat → Int32) (lo hi : Nat) (h : lo < hi) : tm_fl (upd f lo 0) (lo + 1) hi = tm_fl f lo hi := by
  funext j
  unfold tm_fl upd
  by_cases h1 : lo + 1 ≤ j ∧ j < hi
  · rw [if_pos h1, if_pos ⟨by omega, h1.2⟩]
  · rw [if_neg h1]
    by_cases h2 : j = lo
    · rw [if_pos h2, if_pos ⟨by omega, by omega⟩]
    · rw [if_neg h2, if_neg (by omega)]
theorem tm_fl_e (f : Nat → Int32) (n : Nat) : tm_fl f n n = f := by
  funext j
  unfold tm_fl
  rw [if_neg (by omega)]
theorem tm_fl_at (f : Nat → Int32) (lo hi j : Nat) : tm_fl f lo hi j = if lo ≤ j ∧ j < hi then 0 else f j := rfl
def tm_come (p : Int32) (σ : tm_St) : tm_St := tm_s σ 0 (tm_u (tm_u (tm_u (σ 0) 6 p) 8 0) 7 (σ 0 7 + 1))
def tm_into (e : Nat) (p : Int32) (r : tm_St) : tm_St := tm_s (tm_s r 1 (upd (upd (r 1) (24 * e) p) (24 * e + 1) 0)) 0 (tm_u (tm_u (r 0) 26 1) 15 (r 0 15 + 1))
theorem p_come_o (p : Int32) (h3 : ¬ p = 3) (h4 : ¬ p = 4) (h7 : ¬ p = 7) (σ : tm_St) (K : tm_St → Prop) : wp_X3_come p σ K ↔ K (tm_come p σ) := by
  unfold wp_X3_come tm_come
  simp [h3, h4, h7, tm_s_ss, tm_s_at, tm_u_at]
theorem p_come_27 (K : tm_St → Prop) : ∀ (m i : Nat) (s : tm_St), i + m = 8 → K (tm_s s 7 (tm_fl (s 7) i 8)) → wp_X3_come_27 K (m + 1) (nI i) s := by
  intro m
  induction m with
  | zero =>
    intro i s hi h
    have hi : i = 8 := by omega
    subst hi
    unfold wp_X3_come_27
    refine ⟨fun _ => ?_, fun q => absurd (by decide) q⟩
    rw [tm_fl_e, tm_s_id] at h
    exact h
  | succ m ih =>
    intro i s hi h
    unfold wp_X3_come_27
    refine ⟨fun q => absurd q (nI_ge (b := 8) (by omega) (by decide)), fun _ => ⟨vp_in_nI (by omega) (by decide), fun s1 e1 x1 ex => ?_⟩⟩
    subst e1; subst ex
    rw [nI_1, nI_clamp (by omega)]
    refine ih (i + 1) _ (by omega) ?_
    rw [tm_s_ss]
    simp only [tm_s_at, if_true]
    rw [tm_fl_s _ _ _ (by omega)]
    exact h
theorem p_come_3 (σ : tm_St) (K : tm_St → Prop) (h : K (tm_s (tm_come 3 σ) 7 (tm_fl (σ 7) 0 8))) : wp_X3_come 3 σ K := by
  have h9 := p_come_27 K 8 0 (tm_come 3 σ) rfl (by simpa [tm_come, tm_s_at] using h)
  unfold wp_X3_come
  unfold tm_come at h9
  simp [tm_s_ss, tm_s_at, tm_u_at]
  exact ⟨9, h9⟩
theorem p_forget_2 (K : tm_St → Prop) : ∀ (m i : Nat) (s : tm_St), i + m = 4 → K (tm_s s 2 (tm_fl (s 2) i 4)) → wp_X0_forget_2 K (m + 1) (nI i) s := by
  intro m
  induction m with
  | zero =>
    intro i s hi h
    have hi : i = 4 := by omega
    subst hi
    unfold wp_X0_forget_2
    refine ⟨fun _ => ?_, fun q => absurd (by decide) q⟩
    rw [tm_fl_e, tm_s_id] at h
    exact h
  | succ m ih =>
    intro i s hi h
    unfold wp_X0_forget_2
    refine ⟨fun q => absurd q (nI_ge (b := 4) (by omega) (by decide)), fun _ => ⟨vp_in_nI (by omega) (by decide), fun s1 e1 x1 ex => ?_⟩⟩
    subst e1; subst ex
    rw [nI_1, nI_clamp (by omega)]
    refine ih (i + 1) _ (by omega) ?_
    rw [tm_s_ss]
    simp only [tm_s_at, if_true]
    rw [tm_fl_s _ _ _ (by omega)]
    exact h
theorem p_come_4 (σ : tm_St) (K : tm_St → Prop) (h : K (tm_s (tm_come 4 σ) 3 (tm_fl (σ 3) 0 4))) : wp_X3_come 4 σ K := by
  unfold wp_X3_come
  simp [tm_s_ss, tm_s_at, tm_u_at]
  refine ⟨5, p_forget_2 _ 4 0 _ rfl ?_⟩
  have e : ∀ s : tm_St, tm_pk [1, 2, 3] s (tm_s (tm_pj [1, 2, 3] s) 2 (tm_fl (tm_pj [1, 2, 3] s 2) 0 4)) = tm_s s 3 (tm_fl (s 3) 0 4) := by
    intro s
    funext i
    rw [tm_pk_at, tm_pkl_c, tm_pkl_c, tm_pkl_c, tm_pkl_n, tm_s_at]
    by_cases h1 : i = 1
    · subst h1; rfl
    · by_cases h2 : i = 2
      · subst h2; rfl
      · by_cases h3 : i = 3
        · subst h3; rfl
        · simp [h1, h2, h3, tm_s_at]
  rw [e]
  simpa [tm_come, tm_s_at] using h
def tm_come7 (σ : tm_St) : tm_St := tm_s (tm_s σ 0 (tm_u (tm_u (tm_u (tm_u ((tm_come 7 σ) 0) 13 0) 14 0) 16 0) 19 (σ 0 19 + 1))) 4 (tm_u (σ 4) 5 (σ 4 4))
theorem tm_s_sw (σ : tm_St) (f g h : Nat → Int32) : tm_s (tm_s (tm_s σ 0 f) 4 g) 0 h = tm_s (tm_s σ 0 h) 4 g := by
  funext i; simp only [tm_s_at]; by_cases h0 : i = 0
  · subst h0; simp
  · simp [h0]
theorem p_come_7 (σ : tm_St) (K : tm_St → Prop) : wp_X3_come 7 σ K ↔ K (tm_come7 σ) := by
  unfold wp_X3_come tm_come7 tm_come
  simp [tm_s_ss, tm_s_at, tm_u_at, tm_s_sw]
-- the reference
theorem p_into_o {e : Nat} (he : e < 2) (p : Int32) (h3 : ¬ p = 3) (h4 : ¬ p = 4) (h7 : ¬ p = 7) (r : tm_St) (K : tm_St → Prop) : wp_X9_into (nI e) p r K ↔ K (tm_into e p r) := by
  unfold wp_X9_into wp_X9_goesTo wp_X9_into_81 tm_into
  simp [h3, h4, h7, tm_s_ss, tm_s_at, tm_u_at, p_put_0 he, p_put_1 he]
theorem p_8 {e k : Nat} : (8 * nI e + nI k : Int32) = nI (8 * e + k) := by rw [show (8 : Int32) = nI 8 from rfl, pk_mul, nI_add]
theorem p_4 {e k : Nat} : (4 * nI e + nI k : Int32) = nI (4 * e + k) := by rw [show (4 : Int32) = nI 4 from rfl, pk_mul, nI_add]
theorem p_into_28 {e : Nat} (he : e < 2) (K : tm_St → Prop) : ∀ (m i : Nat) (s : tm_St), i + m = 8 → K (tm_s s 2 (tm_fl (s 2) (8 * e + i) (8 * e + 8))) → wp_X9_into_28 K (m + 1) (nI e) 3 (nI i) s := by
  intro m
  induction m with
  | zero =>
    intro i s hi h
    have hi : i = 8 := by omega
    subst hi
    unfold wp_X9_into_28 wp_X9_into_81
    refine ⟨fun _ => ?_, fun q => absurd (by decide) q⟩
    rw [tm_fl_e, tm_s_id] at h
    simpa using h
  | succ m ih =>
    intro i s hi h
    unfold wp_X9_into_28
    refine ⟨fun q => absurd q (nI_ge (b := 8) (by omega) (by decide)), fun _ => ?_⟩
    rw [p_8, nI_clamp (by omega)]
    refine ⟨vp_in_nI (by omega) (by decide), fun s1 e1 x1 ex => ?_⟩
    subst e1; subst ex
    rw [nI_1]
    refine ih (i + 1) _ (by omega) ?_
    rw [tm_s_ss]
    simp only [tm_s_at, if_true]
    rw [show 8 * e + (i + 1) = 8 * e + i + 1 from rfl, tm_fl_s _ _ _ (by omega)]
    exact h
theorem p_into_59 {e : Nat} (he : e < 2) (K : tm_St → Prop) : ∀ (m i : Nat) (s : tm_St), i + m = 4 → K (tm_s s 3 (tm_fl (s 3) (4 * e + i) (4 * e + 4))) → wp_X9_into_59 K (m + 1) (nI e) 4 (nI i) s := by
  intro m
  induction m with
  | zero =>
    intro i s hi h
    have hi : i = 4 := by omega
    subst hi
    unfold wp_X9_into_59 wp_X9_into_81
    refine ⟨fun _ => ?_, fun q => absurd (by decide) q⟩
    rw [tm_fl_e, tm_s_id] at h
    simpa using h
  | succ m ih =>
    intro i s hi h
    unfold wp_X9_into_59
    refine ⟨fun q => absurd q (nI_ge (b := 4) (by omega) (by decide)), fun _ => ?_⟩
    rw [p_4, nI_clamp (by omega)]
    refine ⟨vp_in_nI (by omega) (by decide), fun s1 e1 x1 ex => ?_⟩
    subst e1; subst ex
    rw [nI_1]
    refine ih (i + 1) _ (by omega) ?_
    rw [tm_s_ss]
    simp only [tm_s_at, if_true]
    rw [show 4 * e + (i + 1) = 4 * e + i + 1 from rfl, tm_fl_s _ _ _ (by omega)]
    exact h
theorem p_into_3 {e : Nat} (he : e < 2) (r : tm_St) (K : tm_St → Prop) (h : K (tm_s (tm_into e 3 r) 2 (tm_fl (r 2) (8 * e) (8 * e + 8)))) : wp_X9_into (nI e) 3 r K := by
  have h9 := p_into_28 he K 8 0 (tm_into e 3 r) rfl (by simpa [tm_into, tm_s_at] using h)
  unfold wp_X9_into wp_X9_goesTo
  unfold tm_into at h9
  simp [tm_s_ss, tm_s_at, tm_u_at, p_put_0 he, p_put_1 he]
  exact ⟨9, h9⟩
theorem p_into_4 {e : Nat} (he : e < 2) (r : tm_St) (K : tm_St → Prop) (h : K (tm_s (tm_into e 4 r) 3 (tm_fl (r 3) (4 * e) (4 * e + 4)))) : wp_X9_into (nI e) 4 r K := by
  have h9 := p_into_59 he K 4 0 (tm_into e 4 r) rfl (by simpa [tm_into, tm_s_at] using h)
  unfold wp_X9_into wp_X9_goesTo
  unfold tm_into at h9
  simp [tm_s_ss, tm_s_at, tm_u_at, p_put_0 he, p_put_1 he]
  exact ⟨5, h9⟩
def tm_into7 (e : Nat) (r : tm_St) : tm_St := tm_s (tm_into e 7 r) 1 (upd (upd (upd (upd (upd (upd ((tm_into e 7 r) 1) (24 * e + 5) 0) (24 * e + 10) 0) (24 * e + 15) 0) (24 * e + 16) 0) (24 * e + 7) (r 1 (24 * e + 8))) (24 * e + 14) (r 1 (24 * e + 14) + 1))
theorem p_into_7 {e : Nat} (he : e < 2) (r : tm_St) (K : tm_St → Prop) : wp_X9_into (nI e) 7 r K ↔ K (tm_into7 e r) := by
  unfold wp_X9_into wp_X9_goesTo wp_X9_into_81 tm_into7 tm_into
  simp [tm_s_ss, tm_s_at, tm_u_at, tm_upd_at, p_put_0 he, p_put_1 he, p_put_5 he, p_put_10 he, p_put_15 he, p_put_16 he, p_put_7 he, p_of_8 he, p_add_14 he]
