theorem s_hurtOf {n : Nat} {g : Nat → Int32} {s : tm_St} (h : tm_pg n g s) {ρ : tm_St} (hv : tm_iv g n ρ) (h19 : 19 ≤ n) (hl : tm_ln g n ρ) : (∀ K : Int32 → tm_St → Prop, K (ρ 16 0) s → wp_X4_hurtOf 0 s K) ∧ (∀ K : Int32 → tm_St → Prop, K (ρ 16 1) s → wp_X4_hurtOf 1 s K) := by
  have h30 := h.1
  rcases hl with e | ⟨j, q, d1, d2, d3, d4, d5, d6, d7, d8⟩
  · obtain ⟨y0, y1, -⟩ := hv.2.2.2.1 (by omega)
    rw [y0, y1]
    refine ⟨fun K hK => ?_, fun K hK => ?_⟩
    · unfold wp_X4_hurtOf
      rw [h.2.1]
      refine p_comma_n h (Nat.le_refl _) (fun i x1 x2 => absurd x2 (by omega)) _ ?_
      exact ⟨fun q => absurd q (by decide), fun _ => hK⟩
    · unfold wp_X4_hurtOf
      rw [h.2.1]
      refine p_comma_n h (Nat.le_refl _) (fun i x1 x2 => absurd x2 (by omega)) _ ?_
      exact ⟨fun q => absurd q (by decide), fun _ => hK⟩
  · have j0 : (0 : Int32) ≤ nI j := nI_le (a := 0) (by omega) (by omega)
    refine ⟨fun K hK => ?_, fun K hK => ?_⟩
    · unfold wp_X4_hurtOf
      rw [h.2.1]
      refine p_comma_s h (Nat.le_refl _) (by omega) (by omega) d3 d4 _ ?_
      refine ⟨fun _ => ⟨fun q => absurd rfl q, fun _ => ?_⟩, fun q => absurd j0 q⟩
      refine p_number (a := 20) h (by omega) (by omega) _ ?_
      rw [← d5]; exact hK
    · unfold wp_X4_hurtOf
      rw [h.2.1]
      refine p_comma_s h (Nat.le_refl _) (by omega) (by omega) d3 d4 _ ?_
      refine ⟨fun _ => ⟨fun _ => ?_, fun q => absurd q (by decide)⟩, fun q => absurd j0 q⟩
      rw [h.2.1, nI_1]
      refine p_number (a := j + 1) h (Nat.le_refl _) (by omega) _ ?_
      rw [d7, ← d8]; exact hK
/-- the reference when a LINE has been read into ρ -/
def tm_l9 (ρ : tm_St) : tm_St := tm_s (tm_s (tm_s (tm_s (tm_s ρ 0 (tm_u (ρ 0) 8 (ρ 0 21))) 9 (upd (ρ 9) 0 (ρ 16 0))) 9 (upd (upd (ρ 9) 0 (ρ 16 0)) 1 (ρ 16 1))) 0 (tm_u (tm_u (ρ 0) 8 (ρ 0 21)) 16 (ρ 0 16 + 1))) 0 (tm_u (tm_u (tm_u (ρ 0) 8 (ρ 0 21)) 16 (ρ 0 16 + 1)) 18 0)
theorem s_line9 (K : Int32 → tm_St → Prop) : ∀ (m i : Nat) (ρ : tm_St), i + m = 16 → K (ρ 0 21) (tm_l9 (tm_s ρ 8 (tm_cp (ρ 15) (ρ 8) 0 i 16))) → wp_X9_line_61 K (m + 1) (nI i) ρ := by
  intro m
  induction m with
  | zero =>
    intro i ρ hi h
    have hi : i = 16 := by omega
    subst hi
    rw [tm_cp_e _ _ _ _ _ (by omega), tm_s_id] at h
    unfold wp_X9_line_61
    refine ⟨fun _ s6 e6 => ⟨by unfold vp_in; decide, by unfold vp_in; decide, fun s9 e9 => ⟨by unfold vp_in; decide, by unfold vp_in; decide, fun s12 e12 s13 e13 s14 e14 => ?_⟩⟩, fun q => absurd (by decide) q⟩
    rw [e14, e13, e12, e9, e6]
    exact h
  | succ m ih =>
    intro i ρ hi h
    unfold wp_X9_line_61
    refine ⟨fun q => absurd q (nI_ge (b := 16) (by omega) (by decide)), fun _ => ⟨vp_in_nI (by omega) (by decide), vp_in_nI (by omega) (by decide), fun s17 e17 x18 e18 => ?_⟩⟩
    rw [nI_clamp (by omega)] at e17
    rw [e18, nI_1]
    refine ih (i + 1) s17 (by omega) ?_
    have z : tm_s s17 8 (tm_cp (s17 15) (s17 8) 0 (i + 1) 16) = tm_s ρ 8 (tm_cp (ρ 15) (ρ 8) 0 i 16) := by
      have z15 : s17 15 = ρ 15 := by rw [e17]; rfl
      have z8 : s17 8 = upd (ρ 8) (0 + i) (ρ 15 i) := by rw [e17, Nat.zero_add]; rfl
      rw [z15, z8, tm_cp_s _ _ _ _ _ (by omega), e17, tm_s_ss]
    rw [z, show s17 0 21 = ρ 0 21 by rw [e17]; rfl]
    exact h
