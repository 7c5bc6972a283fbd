def tm_dg (f : Nat → Int32) : Nat → Nat → Int64 → Int64
  | _, 0, v => v
  | i, m + 1, v => tm_dg f (i + 1) m (31 * v + (f i).toInt64)
theorem p_fact {e : Nat} {f : Nat → Int32} {σ : tm_St} (hM : tm_M e (σ 0) (σ 4) f) {n : Nat} (hn : n < 16) (K : Int32 → tm_St → Prop) (h : K (f (24 * e + n)) σ) : wp_X3_fact (nI n) σ K := by
  obtain ⟨m0, m1, m2, m3, m4, m5, m6, m7, m8, m9, m10, m11, m12, m13, m14, m15, -⟩ := hM
  rcases (show n = 0 ∨ n = 1 ∨ n = 2 ∨ n = 3 ∨ n = 4 ∨ n = 5 ∨ n = 6 ∨ n = 7 ∨ n = 8 ∨ n = 9 ∨ n = 10 ∨ n = 11 ∨ n = 12 ∨ n = 13 ∨ n = 14 ∨ n = 15 by omega) with q | q | q | q | q | q | q | q | q | q | q | q | q | q | q | q
  · subst q
    rw [Nat.add_zero, ← m0] at h
    unfold wp_X3_fact
    exact ⟨fun _ => h, fun q => absurd rfl q⟩
  · subst q
    rw [← m1] at h
    unfold wp_X3_fact
    exact ⟨fun q => absurd q (by decide), fun _ => ⟨fun _ => h, fun q => absurd rfl q⟩⟩
  · subst q
    rw [← m2] at h
    unfold wp_X3_fact
    exact ⟨fun q => absurd q (by decide), fun _ => ⟨fun q => absurd q (by decide), fun _ => ⟨fun _ => h, fun q => absurd rfl q⟩⟩⟩
  · subst q
    rw [← m3] at h
    unfold wp_X3_fact
    exact ⟨fun q => absurd q (by decide), fun _ => ⟨fun q => absurd q (by decide), fun _ => ⟨fun q => absurd q (by decide), fun _ => ⟨fun _ => h, fun q => absurd rfl q⟩⟩⟩⟩
  · subst q
    rw [← m4] at h
    unfold wp_X3_fact
    exact ⟨fun q => absurd q (by decide), fun _ => ⟨fun q => absurd q (by decide), fun _ => ⟨fun q => absurd q (by decide), fun _ => ⟨fun q => absurd q (by decide), fun _ => ⟨fun _ => h, fun q => absurd rfl q⟩⟩⟩⟩⟩
  · subst q
    rw [← m5] at h
    unfold wp_X3_fact
    exact ⟨fun q => absurd q (by decide), fun _ => ⟨fun q => absurd q (by decide), fun _ => ⟨fun q => absurd q (by decide), fun _ => ⟨fun q => absurd q (by decide), fun _ => ⟨fun q => absurd q (by decide), fun _ => ⟨fun _ => h, fun q => absurd rfl q⟩⟩⟩⟩⟩⟩
  · subst q
    rw [← m6] at h
    unfold wp_X3_fact
    exact ⟨fun q => absurd q (by decide), fun _ => ⟨fun q => absurd q (by decide), fun _ => ⟨fun q => absurd q (by decide), fun _ => ⟨fun q => absurd q (by decide), fun _ => ⟨fun q => absurd q (by decide), fun _ => ⟨fun q => absurd q (by decide), fun _ => ⟨fun _ => h, fun q => absurd rfl q⟩⟩⟩⟩⟩⟩⟩
  · subst q
    rw [← m7] at h
    unfold wp_X3_fact
    exact ⟨fun q => absurd q (by decide), fun _ => ⟨fun q => absurd q (by decide), fun _ => ⟨fun q => absurd q (by decide), fun _ => ⟨fun q => absurd q (by decide), fun _ => ⟨fun q => absurd q (by decide), fun _ => ⟨fun q => absurd q (by decide), fun _ => ⟨fun q => absurd q (by decide), fun _ => ⟨fun _ => h, fun q => absurd rfl q⟩⟩⟩⟩⟩⟩⟩⟩
  · subst q
    rw [← m8] at h
    unfold wp_X3_fact
    exact ⟨fun q => absurd q (by decide), fun _ => ⟨fun q => absurd q (by decide), fun _ => ⟨fun q => absurd q (by decide), fun _ => ⟨fun q => absurd q (by decide), fun _ => ⟨fun q => absurd q (by decide), fun _ => ⟨fun q => absurd q (by decide), fun _ => ⟨fun q => absurd q (by decide), fun _ => ⟨fun q => absurd q (by decide), fun _ => ⟨fun _ => h, fun q => absurd rfl q⟩⟩⟩⟩⟩⟩⟩⟩⟩
  · subst q
    rw [← m9] at h
    unfold wp_X3_fact
    exact ⟨fun q => absurd q (by decide), fun _ => ⟨fun q => absurd q (by decide), fun _ => ⟨fun q => absurd q (by decide), fun _ => ⟨fun q => absurd q (by decide), fun _ => ⟨fun q => absurd q (by decide), fun _ => ⟨fun q => absurd q (by decide), fun _ => ⟨fun q => absurd q (by decide), fun _ => ⟨fun q => absurd q (by decide), fun _ => ⟨fun q => absurd q (by decide), fun _ => ⟨fun _ => h, fun q => absurd rfl q⟩⟩⟩⟩⟩⟩⟩⟩⟩⟩
  · subst q
    rw [← m10] at h
    unfold wp_X3_fact
    exact ⟨fun q => absurd q (by decide), fun _ => ⟨fun q => absurd q (by decide), fun _ => ⟨fun q => absurd q (by decide), fun _ => ⟨fun q => absurd q (by decide), fun _ => ⟨fun q => absurd q (by decide), fun _ => ⟨fun q => absurd q (by decide), fun _ => ⟨fun q => absurd q (by decide), fun _ => ⟨fun q => absurd q (by decide), fun _ => ⟨fun q => absurd q (by decide), fun _ => ⟨fun q => absurd q (by decide), fun _ => ⟨fun _ => h, fun q => absurd rfl q⟩⟩⟩⟩⟩⟩⟩⟩⟩⟩⟩
  · subst q
    rw [← m11] at h
    unfold wp_X3_fact
    exact ⟨fun q => absurd q (by decide), fun _ => ⟨fun q => absurd q (by decide), fun _ => ⟨fun q => absurd q (by decide), fun _ => ⟨fun q => absurd q (by decide), fun _ => ⟨fun q => absurd q (by decide), fun _ => ⟨fun q => absurd q (by decide), fun _ => ⟨fun q => absurd q (by decide), fun _ => ⟨fun q => absurd q (by decide), fun _ => ⟨fun q => absurd q (by decide), fun _ => ⟨fun q => absurd q (by decide), fun _ => ⟨fun q => absurd q (by decide), fun _ => ⟨fun _ => h, fun q => absurd rfl q⟩⟩⟩⟩⟩⟩⟩⟩⟩⟩⟩⟩
  · subst q
    rw [← m12] at h
    unfold wp_X3_fact
    exact ⟨fun q => absurd q (by decide), fun _ => ⟨fun q => absurd q (by decide), fun _ => ⟨fun q => absurd q (by decide), fun _ => ⟨fun q => absurd q (by decide), fun _ => ⟨fun q => absurd q (by decide), fun _ => ⟨fun q => absurd q (by decide), fun _ => ⟨fun q => absurd q (by decide), fun _ => ⟨fun q => absurd q (by decide), fun _ => ⟨fun q => absurd q (by decide), fun _ => ⟨fun q => absurd q (by decide), fun _ => ⟨fun q => absurd q (by decide), fun _ => ⟨fun q => absurd q (by decide), fun _ => ⟨fun _ => h, fun q => absurd rfl q⟩⟩⟩⟩⟩⟩⟩⟩⟩⟩⟩⟩⟩
  · subst q
    rw [← m13] at h
    unfold wp_X3_fact
    exact ⟨fun q => absurd q (by decide), fun _ => ⟨fun q => absurd q (by decide), fun _ => ⟨fun q => absurd q (by decide), fun _ => ⟨fun q => absurd q (by decide), fun _ => ⟨fun q => absurd q (by decide), fun _ => ⟨fun q => absurd q (by decide), fun _ => ⟨fun q => absurd q (by decide), fun _ => ⟨fun q => absurd q (by decide), fun _ => ⟨fun q => absurd q (by decide), fun _ => ⟨fun q => absurd q (by decide), fun _ => ⟨fun q => absurd q (by decide), fun _ => ⟨fun q => absurd q (by decide), fun _ => ⟨fun q => absurd q (by decide), fun _ => ⟨fun _ => h, fun q => absurd rfl q⟩⟩⟩⟩⟩⟩⟩⟩⟩⟩⟩⟩⟩⟩
  · subst q
    rw [← m14] at h
    unfold wp_X3_fact
    exact ⟨fun q => absurd q (by decide), fun _ => ⟨fun q => absurd q (by decide), fun _ => ⟨fun q => absurd q (by decide), fun _ => ⟨fun q => absurd q (by decide), fun _ => ⟨fun q => absurd q (by decide), fun _ => ⟨fun q => absurd q (by decide), fun _ => ⟨fun q => absurd q (by decide), fun _ => ⟨fun q => absurd q (by decide), fun _ => ⟨fun q => absurd q (by decide), fun _ => ⟨fun q => absurd q (by decide), fun _ => ⟨fun q => absurd q (by decide), fun _ => ⟨fun q => absurd q (by decide), fun _ => ⟨fun q => absurd q (by decide), fun _ => ⟨fun q => absurd q (by decide), fun _ => ⟨fun _ => h, fun q => absurd rfl q⟩⟩⟩⟩⟩⟩⟩⟩⟩⟩⟩⟩⟩⟩⟩
  · subst q
    rw [← m15] at h
    unfold wp_X3_fact
    exact ⟨fun q => absurd q (by decide), fun _ => ⟨fun q => absurd q (by decide), fun _ => ⟨fun q => absurd q (by decide), fun _ => ⟨fun q => absurd q (by decide), fun _ => ⟨fun q => absurd q (by decide), fun _ => ⟨fun q => absurd q (by decide), fun _ => ⟨fun q => absurd q (by decide), fun _ => ⟨fun q => absurd q (by decide), fun _ => ⟨fun q => absurd q (by decide), fun _ => ⟨fun q => absurd q (by decide), fun _ => ⟨fun q => absurd q (by decide), fun _ => ⟨fun q => absurd q (by decide), fun _ => ⟨fun q => absurd q (by decide), fun _ => ⟨fun q => absurd q (by decide), fun _ => ⟨fun q => absurd q (by decide), fun _ => ⟨fun _ => h, fun q => absurd rfl q⟩⟩⟩⟩⟩⟩⟩⟩⟩⟩⟩⟩⟩⟩⟩⟩
theorem d8_195 (K : Int64 → tm_St → Prop) {N : Nat} (hN : N ≤ 200) {f : Nat → Int32} (c : tm_St) (hg : c 18 3 = nI N) (hf : ∀ k, k < N → c 20 k = f k) : ∀ (m i : Nat) (v : Int64), i + m = N → K (tm_dg f i m v) c → wp_X8_digestOfEnd_195 K (m + 1) v (nI i) c := by
  intro m
  induction m with
  | zero =>
    intro i v hi h
    unfold wp_X8_digestOfEnd_195
    rw [hg]
    exact ⟨fun _ => h, fun q => absurd (nI_le (by omega) (by omega)) q⟩
  | succ m ih =>
    intro i v hi h
    unfold wp_X8_digestOfEnd_195
    rw [hg]
    refine ⟨fun q => absurd q (nI_ge (by omega) (by omega)), fun _ => ?_⟩
    unfold wp_X2_takenAt
    refine ⟨fun q => absurd q (nI_pos (by omega)), fun _ => ⟨fun q => absurd (show nI N ≤ nI i by rw [← hg]; exact q) (nI_ge (by omega) (by omega)), fun _ => ⟨fun q => absurd q (nI_ge (b := 200) (by omega) (by decide)), fun _ => ⟨vp_in_nI (by omega) (by decide), ?_⟩⟩⟩⟩
    intro s11 e11 x13 e13 x14 e14
    rw [tm_pk_pj] at e11
    rw [nI_clamp (by omega), show tm_pj [18, 19, 20] c 2 i = f i from hf i (by omega)] at e13
    rw [e11, e13, e14, nI_1]
    exact ih (i + 1) _ (by omega) h
theorem d8_159 (K : Int64 → tm_St → Prop) {f : Nat → Int32} (c : tm_St) (hf : ∀ k, k < 5 → c 11 k = f k) : ∀ (m i : Nat) (v : Int64), i + m = 5 → (∃ nf : Nat, wp_X8_digestOfEnd_195 K nf (tm_dg f i m v) 0 c) → wp_X8_digestOfEnd_159 K (m + 1) v (nI i) c := by
  intro m
  induction m with
  | zero =>
    intro i v hi h
    have hi : i = 5 := by omega
    subst hi
    unfold wp_X8_digestOfEnd_159
    exact ⟨fun _ => h, fun q => absurd (by decide) q⟩
  | succ m ih =>
    intro i v hi h
    unfold wp_X8_digestOfEnd_159
    refine ⟨fun q => absurd q (nI_ge (b := 5) (by omega) (by decide)), fun _ => ⟨vp_in_nI (by omega) (by decide), fun x16 e16 x17 e17 => ?_⟩⟩
    rw [nI_clamp (by omega), hf i (by omega)] at e16
    rw [e16, e17, nI_1]
    exact ih (i + 1) _ (by omega) h
theorem d8_123 (K : Int64 → tm_St → Prop) {f : Nat → Int32} (c : tm_St) (hf : ∀ k, k < 4 → c 16 k = f k) : ∀ (m i : Nat) (v : Int64), i + m = 4 → (∃ nf : Nat, wp_X8_digestOfEnd_159 K nf (tm_dg f i m v) 0 c) → wp_X8_digestOfEnd_123 K (m + 1) v (nI i) c := by
  intro m
  induction m with
  | zero =>
    intro i v hi h
    have hi : i = 4 := by omega
    subst hi
    unfold wp_X8_digestOfEnd_123
    exact ⟨fun _ => h, fun q => absurd (by decide) q⟩
  | succ m ih =>
    intro i v hi h
    unfold wp_X8_digestOfEnd_123
    refine ⟨fun q => absurd q (nI_ge (b := 4) (by omega) (by decide)), fun _ => ⟨vp_in_nI (by omega) (by decide), fun x16 e16 x17 e17 => ?_⟩⟩
    rw [nI_clamp (by omega), hf i (by omega)] at e16
    rw [e16, e17, nI_1]
    exact ih (i + 1) _ (by omega) h
theorem d8_87 (K : Int64 → tm_St → Prop) {f : Nat → Int32} (c : tm_St) (hf : ∀ k, k < 4 → c 17 k = f k) : ∀ (m i : Nat) (v : Int64), i + m = 4 → (∃ nf : Nat, wp_X8_digestOfEnd_123 K nf (tm_dg f i m v) 0 c) → wp_X8_digestOfEnd_87 K (m + 1) v (nI i) c := by
  intro m
  induction m with
  | zero =>
    intro i v hi h
    have hi : i = 4 := by omega
    subst hi
    unfold wp_X8_digestOfEnd_87
    exact ⟨fun _ => h, fun q => absurd (by decide) q⟩
  | succ m ih =>
    intro i v hi h
    unfold wp_X8_digestOfEnd_87
    refine ⟨fun q => absurd q (nI_ge (b := 4) (by omega) (by decide)), fun _ => ⟨vp_in_nI (by omega) (by decide), fun x16 e16 x17 e17 => ?_⟩⟩
    rw [nI_clamp (by omega), hf i (by omega)] at e16
    rw [e16, e17, nI_1]
    exact ih (i + 1) _ (by omega) h
theorem d8_53 (K : Int64 → tm_St → Prop) {f : Nat → Int32} (c : tm_St) (hf : ∀ k, k < 8 → c 21 k = f k) : ∀ (m i : Nat) (v : Int64), i + m = 8 → (∃ nf : Nat, wp_X8_digestOfEnd_87 K nf (tm_dg f i m v) 0 c) → wp_X8_digestOfEnd_53 K (m + 1) v (nI i) c := by
  intro m
  induction m with
  | zero =>
    intro i v hi h
    have hi : i = 8 := by omega
    subst hi
    unfold wp_X8_digestOfEnd_53
    exact ⟨fun _ => h, fun q => absurd (by decide) q⟩
  | succ m ih =>
    intro i v hi h
    unfold wp_X8_digestOfEnd_53
    refine ⟨fun q => absurd q (nI_ge (b := 8) (by omega) (by decide)), fun _ => ⟨vp_in_nI (by omega) (by decide), fun x16 e16 x17 e17 => ?_⟩⟩
    rw [nI_clamp (by omega), hf i (by omega)] at e16
    rw [e16, e17, nI_1]
    exact ih (i + 1) _ (by omega) h
theorem d8_20 (K : Int64 → tm_St → Prop) {r : tm_St} (c : tm_St) (hM : tm_M 0 (tm_pj [14, 15, 16, 17, 18, 19, 20, 21, 3, 9, 10, 11, 12, 13, 4, 5, 6, 7, 8, 4, 9] c 0) (tm_pj [14, 15, 16, 17, 18, 19, 20, 21, 3, 9, 10, 11, 12, 13, 4, 5, 6, 7, 8, 4, 9] c 4) (r 1)) : ∀ (m i : Nat) (v : Int64), i + m = 16 → (∃ nf : Nat, wp_X8_digestOfEnd_53 K nf (tm_dg (fun k => r 1 (24 * 0 + k)) i m v) 0 c) → wp_X8_digestOfEnd_20 K (m + 1) v (nI i) c := by
  intro m
  induction m with
  | zero =>
    intro i v hi h
    have hi : i = 16 := by omega
    subst hi
    unfold wp_X8_digestOfEnd_20
    exact ⟨fun _ => h, fun q => absurd (by decide) q⟩
  | succ m ih =>
    intro i v hi h
    unfold wp_X8_digestOfEnd_20
    refine ⟨fun q => absurd q (nI_ge (b := 16) (by omega) (by decide)), fun _ => p_fact hM (by omega) _ ?_⟩
    intro s28 e28 x30 e30 x31 e31
    rw [show tm_pk [14, 15, 16, 17, 18, 19, 20, 21, 3, 9, 10, 11, 12, 13, 4, 5, 6, 7, 8] c (tm_pj [14, 15, 16, 17, 18, 19, 20, 21, 3, 9, 10, 11, 12, 13, 4, 5, 6, 7, 8, 4, 9] c) = c from tm_pk_pj [14, 15, 16, 17, 18, 19, 20, 21, 3, 9, 10, 11, 12, 13, 4, 5, 6, 7, 8] c] at e28
    rw [e28, e30, e31, nI_1]
    exact ih (i + 1) _ (by omega) h
theorem d8_end0 {u : Nat} {c r : tm_St} (h : tm_RR u c r) {N : Nat} (hN : N ≤ 200) (hg : r 1 (24 * 0 + 9) = nI N) (v : Int64) (K : Int64 → tm_St → Prop) (hK : K (tm_dg (fun k => r 6 (200 * 0 + k)) 0 N (tm_dg (fun k => r 7 (5 * 0 + k)) 0 5 (tm_dg (fun k => r 4 (4 * 0 + k)) 0 4 (tm_dg (fun k => r 3 (4 * 0 + k)) 0 4 (tm_dg (fun k => r 2 (8 * 0 + k)) 0 8 (tm_dg (fun k => r 1 (24 * 0 + k)) 0 16 v)))))) c) : wp_X8_digestOfEnd 0 v c K := by
  obtain ⟨hM, ⟨r1, r2, r3, r4, r5⟩, -, -, -, hla, -, -, -⟩ := tm_RR_0 h
  have hg2 : c 18 3 = nI N := (show c 18 3 = r 1 (24 * 0 + 9) from hM.2.2.2.2.2.2.2.2.2.1).trans hg
  have run : ∃ nf : Nat, wp_X8_digestOfEnd_20 K nf v 0 c :=
    ⟨17, d8_20 K c hM 16 0 v rfl ⟨9, d8_53 K c r3 8 0 _ rfl ⟨5, d8_87 K c r2 4 0 _ rfl ⟨5, d8_123 K c r1 4 0 _ rfl ⟨6, d8_159 K c hla 5 0 _ rfl ⟨N + 1, d8_195 K hN c hg2 (fun k hk => r5 k (by omega)) N 0 _ (by omega) hK⟩⟩⟩⟩⟩⟩
  unfold wp_X8_digestOfEnd
  rw [p_modemAt]
  exact ⟨fun _ => run, fun q => absurd q (by decide), fun q => absurd q (by decide)⟩
theorem d8_195a (K : Int64 → tm_St → Prop) {N : Nat} (hN : N ≤ 200) {f : Nat → Int32} (c : tm_St) (hg : c 26 3 = nI N) (hf : ∀ k, k < N → c 28 k = f k) : ∀ (m i : Nat) (v : Int64), i + m = N → K (tm_dg f i m v) c → wp_X8_digestOfEnd_195a K (m + 1) v (nI i) c := by
  intro m
  induction m with
  | zero =>
    intro i v hi h
    unfold wp_X8_digestOfEnd_195a
    rw [hg]
    exact ⟨fun _ => h, fun q => absurd (nI_le (by omega) (by omega)) q⟩
  | succ m ih =>
    intro i v hi h
    unfold wp_X8_digestOfEnd_195a
    rw [hg]
    refine ⟨fun q => absurd q (nI_ge (by omega) (by omega)), fun _ => ?_⟩
    unfold wp_X2_takenAt
    refine ⟨fun q => absurd q (nI_pos (by omega)), fun _ => ⟨fun q => absurd (show nI N ≤ nI i by rw [← hg]; exact q) (nI_ge (by omega) (by omega)), fun _ => ⟨fun q => absurd q (nI_ge (b := 200) (by omega) (by decide)), fun _ => ⟨vp_in_nI (by omega) (by decide), ?_⟩⟩⟩⟩
    intro s11 e11 x13 e13 x14 e14
    rw [tm_pk_pj] at e11
    rw [nI_clamp (by omega), show tm_pj [26, 27, 28] c 2 i = f i from hf i (by omega)] at e13
    rw [e11, e13, e14, nI_1]
    exact ih (i + 1) _ (by omega) h
theorem d8_159a (K : Int64 → tm_St → Prop) {f : Nat → Int32} (c : tm_St) (hf : ∀ k, k < 5 → c 6 k = f k) : ∀ (m i : Nat) (v : Int64), i + m = 5 → (∃ nf : Nat, wp_X8_digestOfEnd_195a K nf (tm_dg f i m v) 0 c) → wp_X8_digestOfEnd_159a K (m + 1) v (nI i) c := by
  intro m
  induction m with
  | zero =>
    intro i v hi h
    have hi : i = 5 := by omega
    subst hi
    unfold wp_X8_digestOfEnd_159a
    exact ⟨fun _ => h, fun q => absurd (by decide) q⟩
  | succ m ih =>
    intro i v hi h
    unfold wp_X8_digestOfEnd_159a
    refine ⟨fun q => absurd q (nI_ge (b := 5) (by omega) (by decide)), fun _ => ⟨vp_in_nI (by omega) (by decide), fun x16 e16 x17 e17 => ?_⟩⟩
    rw [nI_clamp (by omega), hf i (by omega)] at e16
    rw [e16, e17, nI_1]
    exact ih (i + 1) _ (by omega) h
theorem d8_123a (K : Int64 → tm_St → Prop) {f : Nat → Int32} (c : tm_St) (hf : ∀ k, k < 4 → c 24 k = f k) : ∀ (m i : Nat) (v : Int64), i + m = 4 → (∃ nf : Nat, wp_X8_digestOfEnd_159a K nf (tm_dg f i m v) 0 c) → wp_X8_digestOfEnd_123a K (m + 1) v (nI i) c := by
  intro m
  induction m with
  | zero =>
    intro i v hi h
    have hi : i = 4 := by omega
    subst hi
    unfold wp_X8_digestOfEnd_123a
    exact ⟨fun _ => h, fun q => absurd (by decide) q⟩
  | succ m ih =>
    intro i v hi h
    unfold wp_X8_digestOfEnd_123a
    refine ⟨fun q => absurd q (nI_ge (b := 4) (by omega) (by decide)), fun _ => ⟨vp_in_nI (by omega) (by decide), fun x16 e16 x17 e17 => ?_⟩⟩
    rw [nI_clamp (by omega), hf i (by omega)] at e16
    rw [e16, e17, nI_1]
    exact ih (i + 1) _ (by omega) h
theorem d8_87a (K : Int64 → tm_St → Prop) {f : Nat → Int32} (c : tm_St) (hf : ∀ k, k < 4 → c 25 k = f k) : ∀ (m i : Nat) (v : Int64), i + m = 4 → (∃ nf : Nat, wp_X8_digestOfEnd_123a K nf (tm_dg f i m v) 0 c) → wp_X8_digestOfEnd_87a K (m + 1) v (nI i) c := by
  intro m
  induction m with
  | zero =>
    intro i v hi h
    have hi : i = 4 := by omega
    subst hi
    unfold wp_X8_digestOfEnd_87a
    exact ⟨fun _ => h, fun q => absurd (by decide) q⟩
  | succ m ih =>
    intro i v hi h
    unfold wp_X8_digestOfEnd_87a
    refine ⟨fun q => absurd q (nI_ge (b := 4) (by omega) (by decide)), fun _ => ⟨vp_in_nI (by omega) (by decide), fun x16 e16 x17 e17 => ?_⟩⟩
    rw [nI_clamp (by omega), hf i (by omega)] at e16
    rw [e16, e17, nI_1]
    exact ih (i + 1) _ (by omega) h
theorem d8_53a (K : Int64 → tm_St → Prop) {f : Nat → Int32} (c : tm_St) (hf : ∀ k, k < 8 → c 29 k = f k) : ∀ (m i : Nat) (v : Int64), i + m = 8 → (∃ nf : Nat, wp_X8_digestOfEnd_87a K nf (tm_dg f i m v) 0 c) → wp_X8_digestOfEnd_53a K (m + 1) v (nI i) c := by
  intro m
  induction m with
  | zero =>
    intro i v hi h
    have hi : i = 8 := by omega
    subst hi
    unfold wp_X8_digestOfEnd_53a
    exact ⟨fun _ => h, fun q => absurd (by decide) q⟩
  | succ m ih =>
    intro i v hi h
    unfold wp_X8_digestOfEnd_53a
    refine ⟨fun q => absurd q (nI_ge (b := 8) (by omega) (by decide)), fun _ => ⟨vp_in_nI (by omega) (by decide), fun x16 e16 x17 e17 => ?_⟩⟩
    rw [nI_clamp (by omega), hf i (by omega)] at e16
    rw [e16, e17, nI_1]
    exact ih (i + 1) _ (by omega) h
theorem d8_20a (K : Int64 → tm_St → Prop) {r : tm_St} (c : tm_St) (hM : tm_M 1 (tm_pj [22, 23, 24, 25, 26, 27, 28, 29, 3, 4, 5, 6, 7, 8, 9, 10, 11, 12, 13, 4, 9] c 0) (tm_pj [22, 23, 24, 25, 26, 27, 28, 29, 3, 4, 5, 6, 7, 8, 9, 10, 11, 12, 13, 4, 9] c 4) (r 1)) : ∀ (m i : Nat) (v : Int64), i + m = 16 → (∃ nf : Nat, wp_X8_digestOfEnd_53a K nf (tm_dg (fun k => r 1 (24 * 1 + k)) i m v) 0 c) → wp_X8_digestOfEnd_20a K (m + 1) v (nI i) c := by
  intro m
  induction m with
  | zero =>
    intro i v hi h
    have hi : i = 16 := by omega
    subst hi
    unfold wp_X8_digestOfEnd_20a
    exact ⟨fun _ => h, fun q => absurd (by decide) q⟩
  | succ m ih =>
    intro i v hi h
    unfold wp_X8_digestOfEnd_20a
    refine ⟨fun q => absurd q (nI_ge (b := 16) (by omega) (by decide)), fun _ => p_fact hM (by omega) _ ?_⟩
    intro s28 e28 x30 e30 x31 e31
    rw [show tm_pk [22, 23, 24, 25, 26, 27, 28, 29, 3, 4, 5, 6, 7, 8, 9, 10, 11, 12, 13] c (tm_pj [22, 23, 24, 25, 26, 27, 28, 29, 3, 4, 5, 6, 7, 8, 9, 10, 11, 12, 13, 4, 9] c) = c from tm_pk_pj [22, 23, 24, 25, 26, 27, 28, 29, 3, 4, 5, 6, 7, 8, 9, 10, 11, 12, 13] c] at e28
    rw [e28, e30, e31, nI_1]
    exact ih (i + 1) _ (by omega) h
theorem d8_end1 {u : Nat} {c r : tm_St} (h : tm_RR u c r) {N : Nat} (hN : N ≤ 200) (hg : r 1 (24 * 1 + 9) = nI N) (v : Int64) (K : Int64 → tm_St → Prop) (hK : K (tm_dg (fun k => r 6 (200 * 1 + k)) 0 N (tm_dg (fun k => r 7 (5 * 1 + k)) 0 5 (tm_dg (fun k => r 4 (4 * 1 + k)) 0 4 (tm_dg (fun k => r 3 (4 * 1 + k)) 0 4 (tm_dg (fun k => r 2 (8 * 1 + k)) 0 8 (tm_dg (fun k => r 1 (24 * 1 + k)) 0 16 v)))))) c) : wp_X8_digestOfEnd 1 v c K := by
  obtain ⟨hM, ⟨r1, r2, r3, r4, r5⟩, -, -, -, hla, -, -, -⟩ := tm_RR_1 h
  have hg2 : c 26 3 = nI N := (show c 26 3 = r 1 (24 * 1 + 9) from hM.2.2.2.2.2.2.2.2.2.1).trans hg
  have run : ∃ nf : Nat, wp_X8_digestOfEnd_20a K nf v 0 c :=
    ⟨17, d8_20a K c hM 16 0 v rfl ⟨9, d8_53a K c r3 8 0 _ rfl ⟨5, d8_87a K c r2 4 0 _ rfl ⟨5, d8_123a K c r1 4 0 _ rfl ⟨6, d8_159a K c hla 5 0 _ rfl ⟨N + 1, d8_195a K hN c hg2 (fun k hk => r5 k (by omega)) N 0 _ (by omega) hK⟩⟩⟩⟩⟩⟩
  unfold wp_X8_digestOfEnd
  rw [p_modemAt]
  exact ⟨fun q => absurd q (by decide), fun _ => run, fun q => absurd q (by decide)⟩
theorem d9_141 {e N : Nat} (he : e < 2) (hN : N ≤ 200) (K : tm_St → Int64 → Prop) (r : tm_St) (hg : r 1 (24 * e + 9) = nI N) : ∀ (m i : Nat) (v : Int64), i + m = N → K r (tm_dg (fun k => r 6 (200 * e + k)) i m v) → wp_X9_mixEnd_141 K (m + 1) (nI e) (nI i) r v := by
  intro m
  induction m with
  | zero =>
    intro i v hi h
    unfold wp_X9_mixEnd_141
    rw [p_of_9 he, hg]
    exact ⟨fun _ => h, fun q => absurd (nI_le (by omega) (by omega)) q⟩
  | succ m ih =>
    intro i v hi h
    unfold wp_X9_mixEnd_141
    rw [p_of_9 he, hg, p_200x, nI_clamp (by omega)]
    refine ⟨fun q => absurd q (nI_ge (by omega) (by omega)), fun _ => ⟨vp_in_nI (by omega) (by decide), ?_⟩⟩
    intro hh e1 x e2
    rw [e1, e2, nI_1]
    exact ih (i + 1) _ (by omega) h
theorem d9_113 {e : Nat} (he : e < 2) (K : tm_St → Int64 → Prop) (r : tm_St) : ∀ (m i : Nat) (v : Int64), i + m = 5 → (∃ nf : Nat, wp_X9_mixEnd_141 K nf (nI e) 0 r (tm_dg (fun k => r 7 (5 * e + k)) i m v)) → wp_X9_mixEnd_113 K (m + 1) (nI e) (nI i) r v := by
  intro m
  induction m with
  | zero =>
    intro i v hi h
    have hi : i = 5 := by omega
    subst hi
    unfold wp_X9_mixEnd_113
    exact ⟨fun _ => h, fun q => absurd (by decide) q⟩
  | succ m ih =>
    intro i v hi h
    unfold wp_X9_mixEnd_113
    rw [p_5, nI_clamp (by omega)]
    refine ⟨fun q => absurd q (nI_ge (b := 5) (by omega) (by decide)), fun _ => ⟨vp_in_nI (by omega) (by decide), ?_⟩⟩
    intro hh e1 x e2
    rw [e1, e2, nI_1]
    exact ih (i + 1) _ (by omega) h
theorem d9_85 {e : Nat} (he : e < 2) (K : tm_St → Int64 → Prop) (r : tm_St) : ∀ (m i : Nat) (v : Int64), i + m = 4 → (∃ nf : Nat, wp_X9_mixEnd_113 K nf (nI e) 0 r (tm_dg (fun k => r 4 (4 * e + k)) i m v)) → wp_X9_mixEnd_85 K (m + 1) (nI e) (nI i) r v := by
  intro m
  induction m with
  | zero =>
    intro i v hi h
    have hi : i = 4 := by omega
    subst hi
    unfold wp_X9_mixEnd_85
    exact ⟨fun _ => h, fun q => absurd (by decide) q⟩
  | succ m ih =>
    intro i v hi h
    unfold wp_X9_mixEnd_85
    rw [p_4, nI_clamp (by omega)]
    refine ⟨fun q => absurd q (nI_ge (b := 4) (by omega) (by decide)), fun _ => ⟨vp_in_nI (by omega) (by decide), ?_⟩⟩
    intro hh e1 x e2
    rw [e1, e2, nI_1]
    exact ih (i + 1) _ (by omega) h
theorem d9_57 {e : Nat} (he : e < 2) (K : tm_St → Int64 → Prop) (r : tm_St) : ∀ (m i : Nat) (v : Int64), i + m = 4 → (∃ nf : Nat, wp_X9_mixEnd_85 K nf (nI e) 0 r (tm_dg (fun k => r 3 (4 * e + k)) i m v)) → wp_X9_mixEnd_57 K (m + 1) (nI e) (nI i) r v := by
  intro m
  induction m with
  | zero =>
    intro i v hi h
    have hi : i = 4 := by omega
    subst hi
    unfold wp_X9_mixEnd_57
    exact ⟨fun _ => h, fun q => absurd (by decide) q⟩
  | succ m ih =>
    intro i v hi h
    unfold wp_X9_mixEnd_57
    rw [p_4, nI_clamp (by omega)]
    refine ⟨fun q => absurd q (nI_ge (b := 4) (by omega) (by decide)), fun _ => ⟨vp_in_nI (by omega) (by decide), ?_⟩⟩
    intro hh e1 x e2
    rw [e1, e2, nI_1]
    exact ih (i + 1) _ (by omega) h
theorem d9_27 {e : Nat} (he : e < 2) (K : tm_St → Int64 → Prop) (r : tm_St) : ∀ (m i : Nat) (v : Int64), i + m = 8 → (∃ nf : Nat, wp_X9_mixEnd_57 K nf (nI e) 0 r (tm_dg (fun k => r 2 (8 * e + k)) i m v)) → wp_X9_mixEnd_27 K (m + 1) (nI e) (nI i) r v := by
  intro m
  induction m with
  | zero =>
    intro i v hi h
    have hi : i = 8 := by omega
    subst hi
    unfold wp_X9_mixEnd_27
    exact ⟨fun _ => h, fun q => absurd (by decide) q⟩
  | succ m ih =>
    intro i v hi h
    unfold wp_X9_mixEnd_27
    rw [p_8, nI_clamp (by omega)]
    refine ⟨fun q => absurd q (nI_ge (b := 8) (by omega) (by decide)), fun _ => ⟨vp_in_nI (by omega) (by decide), ?_⟩⟩
    intro hh e1 x e2
    rw [e1, e2, nI_1]
    exact ih (i + 1) _ (by omega) h
theorem d9_2 {e : Nat} (he : e < 2) (K : tm_St → Int64 → Prop) (r : tm_St) : ∀ (m i : Nat) (v : Int64), i + m = 16 → (∃ nf : Nat, wp_X9_mixEnd_27 K nf (nI e) 0 r (tm_dg (fun k => r 1 (24 * e + k)) i m v)) → wp_X9_mixEnd_2 K (m + 1) (nI e) (nI i) r v := by
  intro m
  induction m with
  | zero =>
    intro i v hi h
    have hi : i = 16 := by omega
    subst hi
    unfold wp_X9_mixEnd_2
    exact ⟨fun _ => h, fun q => absurd (by decide) q⟩
  | succ m ih =>
    intro i v hi h
    unfold wp_X9_mixEnd_2
    refine ⟨fun q => absurd q (nI_ge (b := 16) (by omega) (by decide)), fun _ => (p_ofk i (nI i) rfl (by omega) he r _).mpr ?_⟩
    intro hh e1 x e2
    rw [e1, e2, nI_1]
    exact ih (i + 1) _ (by omega) h
theorem d9_end {e N : Nat} (he : e < 2) (hN : N ≤ 200) (r : tm_St) (hg : r 1 (24 * e + 9) = nI N) (v : Int64) (K : tm_St → Int64 → Prop) (hK : K r (tm_dg (fun k => r 6 (200 * e + k)) 0 N (tm_dg (fun k => r 7 (5 * e + k)) 0 5 (tm_dg (fun k => r 4 (4 * e + k)) 0 4 (tm_dg (fun k => r 3 (4 * e + k)) 0 4 (tm_dg (fun k => r 2 (8 * e + k)) 0 8 (tm_dg (fun k => r 1 (24 * e + k)) 0 16 v))))))) : wp_X9_mixEnd (nI e) r v K :=
  ⟨17, d9_2 he K r 16 0 v rfl ⟨9, d9_27 he K r 8 0 _ rfl ⟨5, d9_57 he K r 4 0 _ rfl ⟨5, d9_85 he K r 4 0 _ rfl ⟨6, d9_113 he K r 5 0 _ rfl ⟨N + 1, d9_141 he hN K r hg N 0 _ (by omega) hK⟩⟩⟩⟩⟩⟩
