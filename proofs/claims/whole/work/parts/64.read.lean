theorem s_read8 {n : Nat} {g : Nat → Int32} {ρ : tm_St} (hv : tm_iv g n ρ) (h19 : 19 ≤ n) (hl : tm_ln g n ρ) (K : tm_St → Prop) : ∀ (m i : Nat) (s : tm_St), i + m = 8 → tm_pg n g (tm_pj [11, 12] s) → (∀ t : tm_St, (∀ x, ¬ x = 0 → ¬ x = 1 → ¬ x = 2 → ¬ x = 6 → ¬ x = 7 → t x = s x) → t 2 = tm_cp (fun j => tm_fg (g j)) (s 2) 0 i 8 → t 7 = tm_cp (fun j => tm_fg (g (9 + j))) (s 7) 0 i 8 → t 0 = tm_u (tm_u (s 0) 2 (g 18 - 48)) 3 (s 0 3 + 1) → t 1 = tm_u (s 1) 4 (ρ 16 0) → t 6 = tm_u (s 6) 4 (ρ 16 1) → K t) → wp_X1_read_2 K (m + 1) (nI i) s := by
  intro m
  induction m with
  | zero =>
    intro i s hi hp h
    have hi : i = 8 := by omega
    subst hi
    unfold wp_X1_read_2
    refine ⟨fun _ => ?_, fun q => absurd (by decide) q⟩
    unfold wp_X4_delay
    refine p_codeAt (i := 18) hp (by omega) _ ?_
    intro s3 e3 s5 e5
    rw [tm_pk_pj] at e3
    subst e3
    have p5 : tm_pg n g (tm_pj [11, 12] s5) := by rw [e5]; exact hp
    refine (s_hurtOf p5 hv h19 hl).1 _ ?_
    intro s7 e7 s9 e9
    rw [tm_pk_pj] at e7
    subst e7
    have p9 : tm_pg n g (tm_pj [11, 12] s9) := by rw [e9]; exact p5
    refine (s_hurtOf p9 hv h19 hl).2 _ ?_
    intro s11 e11 s13 e13 s14 e14
    rw [tm_pk_pj] at e11
    subst e11
    refine h s14 (fun x x0 x1 x2 x6 x7 => ?_) ?_ ?_ ?_ ?_ ?_
    · rw [e14, tm_s_at, if_neg x0, e13, tm_s_at, if_neg x6, e9, tm_s_at, if_neg x1, e5, tm_s_at, if_neg x0]
    · rw [tm_cp_e _ _ _ _ _ (by omega), e14, e13, e9, e5]; rfl
    · rw [tm_cp_e _ _ _ _ _ (by omega), e14, e13, e9, e5]; rfl
    · rw [e14, e13, e9, e5]; rfl
    · rw [e14, e13, e9, e5]; rfl
    · rw [e14, e13, e9, e5]; rfl
  | succ m ih =>
    intro i s hi hp h
    unfold wp_X1_read_2
    refine ⟨fun q => absurd q (nI_ge (b := 8) (by omega) (by decide)), fun _ => ?_⟩
    have a0 : (9 * 0 + nI i : Int32) = nI i := by rw [show (9 * 0 : Int32) = 0 from rfl, Int32.zero_add]
    have a1 : (9 * 1 + nI i : Int32) = nI (9 + i) := by rw [show (9 * 1 : Int32) = nI 9 from rfl, nI_add]
    unfold wp_X4_qualityAt
    rw [a0, a1]
    refine p_codeAt hp (by omega) _ (p_fg8 _ _ _ ?_)
    intro s16 e16
    rw [tm_pk_pj] at e16
    subst e16
    rw [nI_clamp (by omega)]
    refine ⟨vp_in_nI (by omega) (by decide), fun s19 e19 => ?_⟩
    have p19 : tm_pg n g (tm_pj [11, 12] s19) := by rw [e19]; exact hp
    refine p_codeAt p19 (by omega) _ (p_fg8 _ _ _ ?_)
    intro s21 e21
    rw [tm_pk_pj] at e21
    subst e21
    refine ⟨vp_in_nI (by omega) (by decide), fun s24 e24 x25 e25 => ?_⟩
    rw [e25, nI_1]
    have p24 : tm_pg n g (tm_pj [11, 12] s24) := by rw [e24]; exact p19
    have z2 : s24 2 = upd (s16 2) (0 + i) (tm_fg (g i)) := by rw [e24, e19, Nat.zero_add]; rfl
    have z7 : s24 7 = upd (s16 7) (0 + i) (tm_fg (g (9 + i))) := by rw [e24, e19, Nat.zero_add]; rfl
    have zx : ∀ x, ¬ x = 2 → ¬ x = 7 → s24 x = s16 x := by
      intro x x2 x7
      rw [e24, tm_s_at, if_neg x7, e19, tm_s_at, if_neg x2]
    refine ih (i + 1) s24 (by omega) p24 ?_
    intro t t0 t2 t7 t00 t1 t6
    refine h t (fun x x0 x1 x2 x6 x7 => (t0 x x0 x1 x2 x6 x7).trans (zx x x2 x7)) ?_ ?_ ?_ ?_ ?_
    · rw [t2, z2]; exact tm_cp_s (fun j => tm_fg (g j)) _ _ _ _ (by omega)
    · rw [t7, z7]; exact tm_cp_s (fun j => tm_fg (g (9 + j))) _ _ _ _ (by omega)
    · rw [t00, zx 0 (by decide) (by decide)]
    · rw [t1, zx 1 (by decide) (by decide)]
    · rw [t6, zx 6 (by decide) (by decide)]
