def tm_cp (g f : Nat → Int32) (lo i hi : Nat) : Nat → Int32 := fun j => if lo + i ≤ j ∧ j < hi then g (j - lo) else f j
theorem tm_cp_s (g f : Nat → Int32) (lo i hi : Nat) (h : lo + i < hi) : tm_cp g (upd f (lo + i) (g i)) lo (i + 1) hi = tm_cp g f lo i hi := by
  funext j
  unfold tm_cp upd
  by_cases h1 : lo + (i + 1) ≤ j ∧ j < hi
  · rw [if_pos h1, if_pos ⟨by omega, h1.2⟩]
  · rw [if_neg h1]
    by_cases h2 : j = lo + i
    · rw [if_pos h2, if_pos ⟨by omega, by omega⟩, h2, Nat.add_sub_cancel_left]
    · rw [if_neg h2, if_neg (by omega)]
theorem tm_cp_e (g f : Nat → Int32) (lo i hi : Nat) (h : hi ≤ lo + i) : tm_cp g f lo i hi = f := by
  funext j
  unfold tm_cp
  rw [if_neg (by omega)]
theorem tm_cp_at (g f : Nat → Int32) (lo i hi j : Nat) : tm_cp g f lo i hi j = if lo + i ≤ j ∧ j < hi then g (j - lo) else f j := rfl
theorem tm_cp_in (g f : Nat → Int32) (lo hi k : Nat) (h : lo + k < hi) : tm_cp g f lo 0 hi (lo + k) = g k := by
  rw [tm_cp_at, if_pos ⟨by omega, h⟩, Nat.add_sub_cancel_left]
theorem tm_cp_out (g f : Nat → Int32) (lo hi j : Nat) (h : j < lo ∨ hi ≤ j) : tm_cp g f lo 0 hi j = f j := by
  rw [tm_cp_at, if_neg (by omega)]
theorem p_m8 {e k : Nat} : (nI e * 8 + nI k : Int32) = nI (e * 8 + k) := by rw [show (8 : Int32) = nI 8 from rfl, pk_mul, nI_add]
theorem p_3 {e k : Nat} : (3 * nI e + nI k : Int32) = nI (3 * e + k) := by rw [show (3 : Int32) = nI 3 from rfl, pk_mul, nI_add]
theorem p_bring_0 {j : Nat} (hj : j < 16) (K : tm_St → Prop) : ∀ (m i : Nat) (s : tm_St), i + m = 8 → K (tm_s s 2 (tm_cp (fun k => s 3 (j * 8 + k)) (s 2) 0 i 8)) → wp_X7_bring_85 K (m + 1) (nI j) 0 (nI i) s := by
  intro m
  induction m with
  | zero =>
    intro i s hi h
    have hi : i = 8 := by omega
    subst hi
    unfold wp_X7_bring_85
    refine ⟨fun _ => ?_, fun q => absurd (by decide) q⟩
    rw [tm_cp_e _ _ _ _ _ (by omega), tm_s_id] at h
    exact h
  | succ m ih =>
    intro i s hi h
    unfold wp_X7_bring_85
    refine ⟨fun q => absurd q (nI_ge (b := 8) (by omega) (by decide)), fun _ => ⟨fun _ => ?_, fun q => absurd rfl q⟩⟩
    rw [p_m8, nI_clamp (by omega), nI_clamp (by omega)]
    refine ⟨vp_in_nI (by omega) (by decide), vp_in_nI (by omega) (by decide), fun s1 e1 x1 ex => ?_⟩
    subst e1; subst ex
    rw [nI_1]
    refine ih (i + 1) _ (by omega) ?_
    rw [tm_s_ss]
    simp only [tm_s_at, if_true]
    rw [← tm_cp_s _ _ _ _ _ (by omega)] at h
    simpa using h
theorem p_bring_1 {j : Nat} (hj : j < 16) (K : tm_St → Prop) : ∀ (m i : Nat) (s : tm_St), i + m = 8 → K (tm_s s 2 (tm_cp (fun _ => 0) (s 2) 0 i 8)) → wp_X7_bring_85 K (m + 1) (nI j) 1 (nI i) s := by
  intro m
  induction m with
  | zero =>
    intro i s hi h
    have hi : i = 8 := by omega
    subst hi
    unfold wp_X7_bring_85
    refine ⟨fun _ => ?_, fun q => absurd (by decide) q⟩
    rw [tm_cp_e _ _ _ _ _ (by omega), tm_s_id] at h
    exact h
  | succ m ih =>
    intro i s hi h
    unfold wp_X7_bring_85
    refine ⟨fun q => absurd q (nI_ge (b := 8) (by omega) (by decide)), fun _ => ⟨fun q => absurd q (by decide), fun _ => ?_⟩⟩
    rw [nI_clamp (by omega)]
    refine ⟨vp_in_nI (by omega) (by decide), fun s1 e1 x1 ex => ?_⟩
    subst e1; subst ex
    rw [nI_1]
    refine ih (i + 1) _ (by omega) ?_
    rw [tm_s_ss]
    simp only [tm_s_at, if_true]
    rw [← tm_cp_s _ _ _ _ _ (by omega)] at h
    simpa using h
theorem p_nar0 : vp_nar .boolean 0 = 0 := rfl
theorem p_nar1 : vp_nar .boolean 1 = 1 := rfl
theorem p_row {t : Nat} (ht : t < 2 ^ 31) : nI t &&& 15 = nI (t % 16) := pk_andN (m := 15) (by omega) 4 (by decide)
theorem p_bring_e {t : Nat} (ht : t < 2 ^ 31) (s : tm_St) (K : tm_St → Prop) (hf : s 4 (t % 16) = 0) (h : K (tm_s s 2 (tm_cp (fun _ => 0) (s 2) 0 0 8))) : wp_X7_bring (nI t) s K := by
  unfold wp_X7_bring
  intro x1 ex
  rw [p_row ht] at ex
  subst ex
  rw [nI_clamp (by omega)]
  refine ⟨vp_in_nI (by omega) (by decide), fun _ => ⟨9, p_bring_1 (by omega) K 8 0 s rfl h⟩, fun q => absurd hf q⟩
theorem p_bring_f {t : Nat} (ht : t < 2 ^ 31) (s : tm_St) (K : tm_St → Prop) (hf : s 4 (t % 16) = 1) (hh : ¬ s 0 4 ≤ 0) (hc : (s 0 5 + 1) - (s 0 5 + 1) / (s 0 4) * (s 0 4) = 0) (h : K (tm_s (tm_s (tm_s s 4 (upd (s 4) (t % 16) 0)) 0 (tm_u (tm_u (tm_u (s 0) 7 (s 0 7 - 1)) 5 (s 0 5 + 1)) 6 (s 0 6 + 1))) 2 (tm_cp (fun _ => 0) (s 2) 0 0 8))) : wp_X7_bring (nI t) s K := by
  unfold wp_X7_bring
  intro x1 ex
  rw [p_row ht] at ex
  subst ex
  rw [nI_clamp (by omega)]
  refine ⟨vp_in_nI (by omega) (by decide), fun q => absurd (hf.symm.trans q) (by decide), fun _ => ⟨vp_in_nI (by omega) (by decide), ?_⟩⟩
  have h0 : ¬ s 0 4 = 0 := fun q => hh (by rw [q]; decide)
  intro s14 e14 s15 e15 s16 e16
  subst e14; subst e15; subst e16
  simp [tm_s_ss, tm_s_at, tm_u_at, p_nar0, hh, h0, hc]
  refine ⟨9, p_bring_1 (by omega) K 8 0 _ rfl ?_⟩
  simpa [tm_s_at, tm_u_at] using h
theorem p_bring_g {t : Nat} (ht : t < 2 ^ 31) (s : tm_St) (K : tm_St → Prop) (hf : s 4 (t % 16) = 1) (hh : ¬ (¬ s 0 4 ≤ 0 ∧ (s 0 5 + 1) - (s 0 5 + 1) / (s 0 4) * (s 0 4) = 0)) (h : K (tm_s (tm_s (tm_s s 4 (upd (s 4) (t % 16) 0)) 0 (tm_u (tm_u (s 0) 7 (s 0 7 - 1)) 5 (s 0 5 + 1))) 2 (tm_cp (fun k => s 3 (t % 16 * 8 + k)) (s 2) 0 0 8))) : wp_X7_bring (nI t) s K := by
  unfold wp_X7_bring
  intro x1 ex
  rw [p_row ht] at ex
  subst ex
  rw [nI_clamp (by omega)]
  refine ⟨vp_in_nI (by omega) (by decide), fun q => absurd (hf.symm.trans q) (by decide), fun _ => ⟨vp_in_nI (by omega) (by decide), ?_⟩⟩
  intro s14 e14 s15 e15 s16 e16
  subst e14; subst e15; subst e16
  have hl : ∃ nf : Nat, wp_X7_bring_85 K nf (nI (t % 16)) 0 0 (tm_s (tm_s s 4 (upd (s 4) (t % 16) 0)) 0 (tm_u (tm_u (s 0) 7 (s 0 7 - 1)) 5 (s 0 5 + 1))) := by
    refine ⟨9, p_bring_0 (by omega) K 8 0 _ rfl ?_⟩
    simpa [tm_s_at, tm_u_at] using h
  by_cases h1 : s 0 4 ≤ 0
  · simp [tm_s_ss, tm_s_at, tm_u_at, p_nar0, h1]
    exact hl
  · have h0 : ¬ s 0 4 = 0 := fun q => h1 (by rw [q]; decide)
    have h2 : ¬ (s 0 5 + 1) - (s 0 5 + 1) / (s 0 4) * (s 0 4) = 0 := fun q => hh ⟨h1, q⟩
    simp [tm_s_ss, tm_s_at, tm_u_at, p_nar0, h1, h0, h2]
    exact hl
/-- what END e's hear leaves -/
def tm_hr (e B : Nat) (g : Nat → Int32) (a : Int32) (s : tm_St) : tm_St := tm_s (tm_s (tm_s s 7 (upd (tm_cp g (s 7) (5 * e) 0 (5 * e + 4)) (5 * e + 4) a)) 17 (tm_cp (fun k => s 10 (B + 5 + k)) (s 17) (3 * e) 0 (3 * e + 3))) 10 (upd (s 10) B 0)
theorem p_hear_193 {e B : Nat} (he : e < 2) (hB : B + 8 ≤ 256) (K : tm_St → Prop) : ∀ (m i : Nat) (s : tm_St), i + m = 3 → K (tm_s (tm_s s 17 (tm_cp (fun k => s 10 (B + 5 + k)) (s 17) (3 * e) i (3 * e + 3))) 10 (upd (s 10) B 0)) → wp_X9_hear_193 K (m + 1) (nI e) (nI B) (nI i) s := by
  intro m
  induction m with
  | zero =>
    intro i s hi h
    have hi : i = 3 := by omega
    subst hi
    unfold wp_X9_hear_193
    rw [nI_clamp (n := B) (by omega)]
    refine ⟨fun _ => ⟨vp_in_nI (by omega) (by decide), fun s1 e1 => ?_⟩, fun q => absurd (by decide) q⟩
    rw [tm_cp_e _ _ _ _ _ (by omega), tm_s_id] at h
    rw [e1]
    exact h
  | succ m ih =>
    intro i s hi h
    unfold wp_X9_hear_193
    refine ⟨fun q => absurd q (nI_ge (b := 3) (by omega) (by decide)), fun _ => ?_⟩
    rw [p_3, show (nI B + 5 + nI i : Int32) = nI (B + 5 + i) by rw [show (5 : Int32) = nI 5 from rfl, nI_add, nI_add], nI_clamp (by omega), nI_clamp (by omega)]
    refine ⟨vp_in_nI (by omega) (by decide), vp_in_nI (by omega) (by decide), fun s1 e1 x1 ex => ?_⟩
    subst e1; subst ex
    rw [nI_1]
    refine ih (i + 1) _ (by omega) ?_
    rw [tm_s_ss]
    simp only [tm_s_at, if_true]
    rw [← tm_cp_s _ _ _ _ _ (by omega)] at h
    simpa using h
theorem p_hear_109a {e B : Nat} (he : e < 2) (hB : B + 8 ≤ 256) {v4 v5 : Int32} (hv : v4 = 0 ∨ ¬ v5 = 0) (K : tm_St → Prop) : ∀ (m i : Nat) (s : tm_St), i + m = 4 → K (tm_s (tm_s (tm_s s 7 (upd (tm_cp (fun _ => 0) (s 7) (5 * e) i (5 * e + 4)) (5 * e + 4) 0)) 17 (tm_cp (fun k => s 10 (B + 5 + k)) (s 17) (3 * e) 0 (3 * e + 3))) 10 (upd (s 10) B 0)) → wp_X9_hear_109 K (m + 1) (nI e) (nI B) v4 v5 (nI i) s := by
  intro m
  induction m with
  | zero =>
    intro i s hi h
    have hi : i = 4 := by omega
    subst hi
    rw [tm_cp_e _ _ (5 * e) _ _ (by omega)] at h
    have hl : ∀ s26 : tm_St, s26 = tm_s s 7 (upd (s 7) (((5 * nI e) + 4) : Int32).toNatClampNeg 0) → ∃ nf : Nat, wp_X9_hear_193 K nf (nI e) (nI B) 0 s26 := by
      intro s26 e26
      rw [show (4 : Int32) = nI 4 from rfl, p_5, nI_clamp (by omega)] at e26
      subst e26
      exact ⟨4, p_hear_193 he hB K 3 0 _ rfl (by simpa [tm_s_at] using h)⟩
    have hin : vp_in ((5 * nI e) + 4) 10 := by rw [show (4 : Int32) = nI 4 from rfl, p_5]; exact vp_in_nI (by omega) (by decide)
    unfold wp_X9_hear_109
    refine ⟨fun _ => ⟨fun _ => ⟨hin, hl⟩, fun h4 => ⟨fun _ => ⟨hin, hl⟩, fun h5 => absurd h5 (hv.resolve_left h4)⟩⟩, fun q => absurd (by decide) q⟩
  | succ m ih =>
    intro i s hi h
    have hl : ∀ s32 : tm_St, s32 = tm_s s 7 (upd (s 7) (((5 * nI e) + nI i) : Int32).toNatClampNeg 0) → ∀ x33 : Int32, x33 = nI i + 1 → wp_X9_hear_109 K (m + 1) (nI e) (nI B) v4 v5 x33 s32 := by
      intro s1 e1 x1 ex
      rw [p_5, nI_clamp (by omega)] at e1
      subst e1; subst ex
      rw [nI_1]
      refine ih (i + 1) _ (by omega) ?_
      rw [tm_s_ss]
      simp only [tm_s_at, if_true]
      rw [← tm_cp_s _ _ (5 * e) _ _ (by omega)] at h
      simpa using h
    have hin : vp_in ((5 * nI e) + nI i) 10 := by rw [p_5]; exact vp_in_nI (by omega) (by decide)
    unfold wp_X9_hear_109
    refine ⟨fun q => absurd q (nI_ge (b := 4) (by omega) (by decide)), fun _ => ⟨fun _ => ⟨hin, hl⟩, fun h4 => ⟨fun _ => ⟨hin, hl⟩, fun h5 => absurd h5 (hv.resolve_left h4)⟩⟩⟩
theorem p_hear_109b {e B : Nat} (he : e < 2) (hB : B + 8 ≤ 256) (K : tm_St → Prop) : ∀ (m i : Nat) (s : tm_St), i + m = 4 → K (tm_s (tm_s (tm_s s 7 (upd (tm_cp (fun k => s 10 (B + 1 + k)) (s 7) (5 * e) i (5 * e + 4)) (5 * e + 4) (s 11 (B / 8)))) 17 (tm_cp (fun k => s 10 (B + 5 + k)) (s 17) (3 * e) 0 (3 * e + 3))) 10 (upd (s 10) B 0)) → wp_X9_hear_109 K (m + 1) (nI e) (nI B) 1 0 (nI i) s := by
  intro m
  induction m with
  | zero =>
    intro i s hi h
    have hi : i = 4 := by omega
    subst hi
    rw [tm_cp_e _ _ (5 * e) _ _ (by omega)] at h
    unfold wp_X9_hear_109
    refine ⟨fun _ => ⟨fun q => absurd q (by decide), fun _ => ⟨fun q => absurd rfl q, fun _ => ?_⟩⟩, fun q => absurd (by decide) q⟩
    rw [show (4 : Int32) = nI 4 from rfl, p_5, show (nI B / 8 : Int32) = nI (B / 8) from pk_div (d := 8) (by omega) (by decide) (by decide), nI_clamp (by omega), nI_clamp (by omega)]
    refine ⟨vp_in_nI (by omega) (by decide), vp_in_nI (by omega) (by decide), fun s1 e1 => ?_⟩
    subst e1
    exact ⟨4, p_hear_193 he hB K 3 0 _ rfl (by simpa [tm_s_at] using h)⟩
  | succ m ih =>
    intro i s hi h
    unfold wp_X9_hear_109
    refine ⟨fun q => absurd q (nI_ge (b := 4) (by omega) (by decide)), fun _ => ⟨fun q => absurd q (by decide), fun _ => ⟨fun q => absurd rfl q, fun _ => ?_⟩⟩⟩
    rw [p_5, show (nI B + 1 + nI i : Int32) = nI (B + 1 + i) by rw [nI_1, nI_add], nI_clamp (by omega), nI_clamp (by omega)]
    refine ⟨vp_in_nI (by omega) (by decide), vp_in_nI (by omega) (by decide), fun s1 e1 x1 ex => ?_⟩
    subst e1; subst ex
    rw [nI_1]
    refine ih (i + 1) _ (by omega) ?_
    rw [tm_s_ss]
    simp only [tm_s_at, if_true]
    rw [← tm_cp_s _ _ (5 * e) _ _ (by omega)] at h
    simpa using h
theorem p_add0 (f : Nat → Int32) (k : Nat) : upd f k (f k + 0) = f := by
  funext j
  rw [tm_upd_at, Int32.add_zero]
  split
  · next h => rw [h]
  · rfl
theorem p_slot {w t : Nat} (hw : w < 2) (ht : t < 2 ^ 31) (s : tm_St) (K : Int32 → tm_St → Prop) : wp_X9_slot (nI w) (nI t) s K ↔ K (nI (8 * (16 * w + t % 16))) s := by
  unfold wp_X9_slot
  rw [show (nI t - nI t / 16 * 16 : Int32) = nI (t % 16) from pk_rem (d := 16) ht (by decide) (by decide), show (16 : Int32) = nI 16 from rfl, pk_mul, nI_add, show (8 : Int32) = nI 8 from rfl, pk_mul]
theorem p_hear_84 {e B w : Nat} (hw : w < 2) (K : tm_St → Prop) (v4 : Int32) (s : tm_St) (h : wp_X9_hear_109 K 5 (nI e) (nI B) v4 0 0 s) : wp_X9_hear_84 K (nI e) (nI w) (nI B) v4 s := by
  unfold wp_X9_hear_84
  rw [nI_clamp (by omega)]
  refine ⟨vp_in_nI (by omega) (by decide), vp_in_nI (by omega) (by decide), fun s1 e1 => ?_⟩
  rw [p_add0, tm_s_id] at e1
  subst e1
  exact ⟨5, h⟩
theorem p_hear_e {e t : Nat} (he : e < 2) (ht : t < 2 ^ 31) (r : tm_St) (K : tm_St → Prop) (h0 : r 0 12 = nI t) (hf : ¬ r 10 (8 * (16 * (1 - e) + t % 16)) = 1) (h : K (tm_hr e (8 * (16 * (1 - e) + t % 16)) (fun _ => 0) 0 r)) : wp_X9_hear (nI e) r K := by
  unfold wp_X9_hear
  intro x1 ex
  rw [p_1m he] at ex
  subst ex
  rw [h0, p_slot (by omega) ht, nI_clamp (by omega), nI_clamp (by omega)]
  refine ⟨vp_in_nI (by omega) (by decide), fun _ => ⟨vp_in_nI (by omega) (by decide), ?_⟩, fun q => absurd q hf⟩
  unfold wp_X9_hear_48
  rw [nI_clamp (by omega)]
  refine ⟨vp_in_nI (by omega) (by decide), fun s8 e8 => ⟨fun _ => ?_, fun q => absurd rfl q⟩⟩
  rw [p_add0, tm_s_id] at e8
  subst e8
  exact p_hear_84 (by omega) K 0 _ (p_hear_109a he (by omega) (Or.inl rfl) K 4 0 _ rfl h)
theorem p_hear_f {e t : Nat} (he : e < 2) (ht : t < 2 ^ 31) (r : tm_St) (K : tm_St → Prop) (h0 : r 0 12 = nI t) (hf : r 10 (8 * (16 * (1 - e) + t % 16)) = 1) (hh : ¬ r 9 (1 - e) ≤ 0) (hc : (r 12 (1 - e) + 1) - (r 12 (1 - e) + 1) / (r 9 (1 - e)) * (r 9 (1 - e)) = 0) (h : K (tm_hr e (8 * (16 * (1 - e) + t % 16)) (fun _ => 0) 0 (tm_s (tm_s r 12 (upd (r 12) (1 - e) (r 12 (1 - e) + 1))) 13 (upd (r 13) (1 - e) (r 13 (1 - e) + 1))))) : wp_X9_hear (nI e) r K := by
  unfold wp_X9_hear
  intro x1 ex
  rw [p_1m he] at ex
  subst ex
  rw [h0, p_slot (by omega) ht, nI_clamp (by omega), nI_clamp (by omega)]
  refine ⟨vp_in_nI (by omega) (by decide), fun q => absurd hf q, fun _ => ⟨vp_in_nI (by omega) (by decide), ?_⟩⟩
  unfold wp_X9_hear_48
  rw [nI_clamp (by omega)]
  have hin : vp_in (nI (1 - e)) 2 := vp_in_nI (by omega) (by decide)
  have hz : ¬ r 9 (1 - e) = 0 := fun q => hh (by rw [q]; decide)
  refine ⟨hin, fun s8 e8 => ⟨fun q => absurd q (by decide), fun _ => ?_⟩⟩
  subst e8
  simp [tm_s_at, tm_upd_at, hin, hh, hz, hc]
  exact ⟨5, p_hear_109a he (by omega) (Or.inr (by decide)) K 4 0 _ rfl (by simpa [tm_hr, tm_s_at] using h)⟩
theorem p_hear_g {e t : Nat} (he : e < 2) (ht : t < 2 ^ 31) (r : tm_St) (K : tm_St → Prop) (h0 : r 0 12 = nI t) (hf : r 10 (8 * (16 * (1 - e) + t % 16)) = 1) (hh : ¬ (¬ r 9 (1 - e) ≤ 0 ∧ (r 12 (1 - e) + 1) - (r 12 (1 - e) + 1) / (r 9 (1 - e)) * (r 9 (1 - e)) = 0)) (h : K (tm_hr e (8 * (16 * (1 - e) + t % 16)) (fun k => r 10 (8 * (16 * (1 - e) + t % 16) + 1 + k)) (r 11 (16 * (1 - e) + t % 16)) (tm_s r 12 (upd (r 12) (1 - e) (r 12 (1 - e) + 1))))) : wp_X9_hear (nI e) r K := by
  unfold wp_X9_hear
  intro x1 ex
  rw [p_1m he] at ex
  subst ex
  rw [h0, p_slot (by omega) ht, nI_clamp (by omega), nI_clamp (by omega)]
  refine ⟨vp_in_nI (by omega) (by decide), fun q => absurd hf q, fun _ => ⟨vp_in_nI (by omega) (by decide), ?_⟩⟩
  unfold wp_X9_hear_48
  rw [nI_clamp (by omega)]
  have hin : vp_in (nI (1 - e)) 2 := vp_in_nI (by omega) (by decide)
  have hl : wp_X9_hear_84 K (nI e) (nI (1 - e)) (nI (8 * (16 * (1 - e) + t % 16))) 1 (tm_s r 12 (upd (r 12) (1 - e) (r 12 (1 - e) + 1))) := by
    refine p_hear_84 (by omega) K 1 _ (p_hear_109b he (by omega) K 4 0 _ rfl ?_)
    rw [show 8 * (16 * (1 - e) + t % 16) / 8 = 16 * (1 - e) + t % 16 by omega]
    simpa [tm_hr, tm_s_at] using h
  refine ⟨hin, fun s8 e8 => ⟨fun q => absurd q (by decide), fun _ => ?_⟩⟩
  subst e8
  by_cases h1 : r 9 (1 - e) ≤ 0
  · simp [tm_s_at, tm_upd_at, h1, hin]
    exact hl
  · have hz : ¬ r 9 (1 - e) = 0 := fun q => h1 (by rw [q]; decide)
    have h2 : ¬ (r 12 (1 - e) + 1) - (r 12 (1 - e) + 1) / (r 9 (1 - e)) * (r 9 (1 - e)) = 0 := fun q => hh ⟨h1, q⟩
    simp [tm_s_at, tm_upd_at, h1, hz, h2, hin]
    exact hl
