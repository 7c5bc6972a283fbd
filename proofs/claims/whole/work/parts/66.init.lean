theorem i_7 (K : tm_St → Prop) : ∀ (m i : Nat) (s : tm_St), i + m = 8 → K (tm_s s 1 (tm_cp (fun _ => 8) (s 1) 0 i 8)) → wp_X7_init_59 K (m + 1) (nI i) s := by
  intro m
  induction m with
  | zero =>
    intro i s hi h
    have hi : i = 8 := by omega
    subst hi
    rw [tm_cp_e _ _ _ _ _ (by omega), tm_s_id] at h
    unfold wp_X7_init_59
    exact ⟨fun _ => h, fun q => absurd (by decide) q⟩
  | succ m ih =>
    intro i s hi h
    unfold wp_X7_init_59
    refine ⟨fun q => absurd q (nI_ge (b := 8) (by omega) (by decide)), fun _ => ⟨vp_in_nI (by omega) (by decide), fun s3 e3 x4 e4 => ?_⟩⟩
    rw [nI_clamp (by omega)] at e3
    rw [e4, nI_1]
    refine ih (i + 1) s3 (by omega) ?_
    have z1 : s3 1 = upd (s 1) (0 + i) 8 := by rw [e3, Nat.zero_add]; rfl
    have z : tm_s s3 1 (tm_cp (fun _ => 8) (s3 1) 0 (i + 1) 8) = tm_s s 1 (tm_cp (fun _ => 8) (s 1) 0 i 8) := by
      rw [z1, tm_cp_s (fun _ => 8) _ _ _ _ (by omega), e3, tm_s_ss]
    rw [z]; exact h
theorem i_9 (K : tm_St → Prop) : ∀ (m i : Nat) (s : tm_St), i + m = 16 → K (tm_s s 8 (tm_cp (fun _ => 8) (s 8) 0 i 16)) → wp_X9_init_146 K (m + 1) (nI i) s := by
  intro m
  induction m with
  | zero =>
    intro i s hi h
    have hi : i = 16 := by omega
    subst hi
    rw [tm_cp_e _ _ _ _ _ (by omega), tm_s_id] at h
    unfold wp_X9_init_146
    exact ⟨fun _ => h, fun q => absurd (by decide) q⟩
  | succ m ih =>
    intro i s hi h
    unfold wp_X9_init_146
    refine ⟨fun q => absurd q (nI_ge (b := 16) (by omega) (by decide)), fun _ => ⟨vp_in_nI (by omega) (by decide), fun s3 e3 x4 e4 => ?_⟩⟩
    rw [nI_clamp (by omega)] at e3
    rw [e4, nI_1]
    refine ih (i + 1) s3 (by omega) ?_
    have z1 : s3 8 = upd (s 8) (0 + i) 8 := by rw [e3, Nat.zero_add]; rfl
    have z : tm_s s3 8 (tm_cp (fun _ => 8) (s3 8) 0 (i + 1) 16) = tm_s s 8 (tm_cp (fun _ => 8) (s 8) 0 i 16) := by
      rw [z1, tm_cp_s (fun _ => 8) _ _ _ _ (by omega), e3, tm_s_ss]
    rw [z]; exact h
