theorem p_say8_0 {n Sd : Nat} (hn : n ≤ 30) (hS : Sd + n ≤ 200) (K : Int32 → tm_St → Prop) : ∀ (m i : Nat) (s : tm_St), i + m = n → s 1 1 = nI n → s 18 2 = nI (Sd + i) → (∀ t : tm_St, (∀ x, ¬ x = 1 → ¬ x = 18 → ¬ x = 19 → t x = s x) → t 1 = tm_u (s 1) 1 0 → t 18 = tm_u (s 18) 2 (nI (Sd + n)) → t 19 = tm_cp (s 2) (s 19) Sd i (Sd + n) → K (nI (Sd + n)) t) → wp_X8_say_41 K (m + 1) (nI i) s := by
  intro m
  induction m with
  | zero =>
    intro i s hi h1 h2 h
    have hi : i = n := by omega
    subst hi
    unfold wp_X8_say_41
    rw [h1]
    refine ⟨fun _ => ?_, fun q => absurd (nI_le (Nat.le_refl _) (by omega)) q⟩
    intro s6 e6
    rw [show s6 18 2 = nI (Sd + i) by rw [e6]; exact h2]
    refine h s6 (fun x x1 x2 x3 => ?_) ?_ ?_ ?_
    · rw [e6, tm_s_at, if_neg x1]
    · rw [e6]; rfl
    · rw [tm_u_idv _ _ _ h2, e6]; rfl
    · rw [tm_cp_e _ _ _ _ _ (Nat.le_refl _), e6]; rfl
  | succ m ih =>
    intro i s hi h1 h2 h
    unfold wp_X8_say_41
    rw [h1]
    refine ⟨fun q => absurd q (nI_ge (by omega) (by omega)), fun _ => ?_⟩
    unfold wp_X4_codeAt
    refine ⟨fun q => absurd q (nI_pos (by omega)), fun _ => ⟨fun q => absurd (show nI n ≤ nI i by rw [← h1]; exact q) (nI_ge (by omega) (by omega)), fun _ => ⟨fun q => absurd q (nI_ge (b := 30) (by omega) (by decide)), fun _ => ⟨vp_in_nI (by omega) (by decide), ?_⟩⟩⟩⟩
    intro s8 e8
    rw [tm_pk_pj] at e8
    subst e8
    rw [show tm_pj [1, 2] s8 1 = s8 2 from rfl, nI_clamp (show i < 2 ^ 31 by omega)]
    unfold wp_X2_add
    have z2 : tm_pj [18, 19, 20] s8 0 2 = nI (Sd + i) := h2
    rw [z2]
    refine ⟨fun q => absurd q (nI_pos (by omega)), fun _ => ⟨fun q => absurd q (nI_ge (b := 200) (by omega) (by decide)), fun _ => ⟨vp_in_nI (by omega) (by decide), ?_⟩⟩⟩
    intro s4 e4 s5 e5 s10 e10 x12 e12
    rw [nI_clamp (show Sd + i < 2 ^ 31 by omega)] at e4
    rw [e12, nI_1]
    have w4 : s5 1 = upd (s8 19) (Sd + i) (s8 2 i) := by rw [e5, e4]; rfl
    have w0 : s5 0 = tm_u (s8 18) 2 (nI (Sd + (i + 1))) := by
      rw [e5, e4]
      show tm_u (s8 18) 2 (s8 18 2 + 1) = _
      rw [h2, nI_1]; rfl
    have w2 : s5 2 = s8 20 := by rw [e5, e4]; rfl
    have y0 : s10 18 = s5 0 := by rw [e10]; rfl
    have y1 : s10 19 = s5 1 := by rw [e10]; rfl
    have yx : ∀ x, ¬ x = 18 → ¬ x = 19 → s10 x = s8 x := by
      intro x x1 x2
      rw [e10, tm_pk_at, tm_pkl_c, if_neg x1, tm_pkl_c, if_neg x2, tm_pkl_c]
      split
      · next q => rw [q]; exact w2
      · rfl
    refine ih (i + 1) s10 (by omega) ?_ ?_ ?_
    · rw [yx 1 (by decide) (by decide)]; exact h1
    · rw [y0, w0]; rfl
    · intro t t1 t2 t3 t4
      refine h t (fun x x1 x2 x3 => ?_) ?_ ?_ ?_
      · rw [t1 x x1 x2 x3, yx x x2 x3]
      · rw [t2, yx 1 (by decide) (by decide)]
      · rw [t3, y0, w0]
        funext q
        simp only [tm_u_at]
        split <;> rfl
      · rw [t4, y1, w4, yx 2 (by decide) (by decide)]
        exact tm_cp_s _ _ _ _ _ (by omega)
theorem p_say8_1 {n Sd : Nat} (hn : n ≤ 30) (hS : Sd + n ≤ 200) (K : Int32 → tm_St → Prop) : ∀ (m i : Nat) (s : tm_St), i + m = n → s 1 1 = nI n → s 26 2 = nI (Sd + i) → (∀ t : tm_St, (∀ x, ¬ x = 1 → ¬ x = 26 → ¬ x = 27 → t x = s x) → t 1 = tm_u (s 1) 1 0 → t 26 = tm_u (s 26) 2 (nI (Sd + n)) → t 27 = tm_cp (s 2) (s 27) Sd i (Sd + n) → K (nI (Sd + n)) t) → wp_X8_say_41a K (m + 1) (nI i) s := by
  intro m
  induction m with
  | zero =>
    intro i s hi h1 h2 h
    have hi : i = n := by omega
    subst hi
    unfold wp_X8_say_41a
    rw [h1]
    refine ⟨fun _ => ?_, fun q => absurd (nI_le (Nat.le_refl _) (by omega)) q⟩
    intro s6 e6
    rw [show s6 26 2 = nI (Sd + i) by rw [e6]; exact h2]
    refine h s6 (fun x x1 x2 x3 => ?_) ?_ ?_ ?_
    · rw [e6, tm_s_at, if_neg x1]
    · rw [e6]; rfl
    · rw [tm_u_idv _ _ _ h2, e6]; rfl
    · rw [tm_cp_e _ _ _ _ _ (Nat.le_refl _), e6]; rfl
  | succ m ih =>
    intro i s hi h1 h2 h
    unfold wp_X8_say_41a
    rw [h1]
    refine ⟨fun q => absurd q (nI_ge (by omega) (by omega)), fun _ => ?_⟩
    unfold wp_X4_codeAt
    refine ⟨fun q => absurd q (nI_pos (by omega)), fun _ => ⟨fun q => absurd (show nI n ≤ nI i by rw [← h1]; exact q) (nI_ge (by omega) (by omega)), fun _ => ⟨fun q => absurd q (nI_ge (b := 30) (by omega) (by decide)), fun _ => ⟨vp_in_nI (by omega) (by decide), ?_⟩⟩⟩⟩
    intro s8 e8
    rw [tm_pk_pj] at e8
    subst e8
    rw [show tm_pj [1, 2] s8 1 = s8 2 from rfl, nI_clamp (show i < 2 ^ 31 by omega)]
    unfold wp_X2_add
    have z2 : tm_pj [26, 27, 28] s8 0 2 = nI (Sd + i) := h2
    rw [z2]
    refine ⟨fun q => absurd q (nI_pos (by omega)), fun _ => ⟨fun q => absurd q (nI_ge (b := 200) (by omega) (by decide)), fun _ => ⟨vp_in_nI (by omega) (by decide), ?_⟩⟩⟩
    intro s4 e4 s5 e5 s10 e10 x12 e12
    rw [nI_clamp (show Sd + i < 2 ^ 31 by omega)] at e4
    rw [e12, nI_1]
    have w4 : s5 1 = upd (s8 27) (Sd + i) (s8 2 i) := by rw [e5, e4]; rfl
    have w0 : s5 0 = tm_u (s8 26) 2 (nI (Sd + (i + 1))) := by
      rw [e5, e4]
      show tm_u (s8 26) 2 (s8 26 2 + 1) = _
      rw [h2, nI_1]; rfl
    have w2 : s5 2 = s8 28 := by rw [e5, e4]; rfl
    have y0 : s10 26 = s5 0 := by rw [e10]; rfl
    have y1 : s10 27 = s5 1 := by rw [e10]; rfl
    have yx : ∀ x, ¬ x = 26 → ¬ x = 27 → s10 x = s8 x := by
      intro x x1 x2
      rw [e10, tm_pk_at, tm_pkl_c, if_neg x1, tm_pkl_c, if_neg x2, tm_pkl_c]
      split
      · next q => rw [q]; exact w2
      · rfl
    refine ih (i + 1) s10 (by omega) ?_ ?_ ?_
    · rw [yx 1 (by decide) (by decide)]; exact h1
    · rw [y0, w0]; rfl
    · intro t t1 t2 t3 t4
      refine h t (fun x x1 x2 x3 => ?_) ?_ ?_ ?_
      · rw [t1 x x1 x2 x3, yx x x2 x3]
      · rw [t2, yx 1 (by decide) (by decide)]
      · rw [t3, y0, w0]
        funext q
        simp only [tm_u_at]
        split <;> rfl
      · rw [t4, y1, w4, yx 2 (by decide) (by decide)]
        exact tm_cp_s _ _ _ _ _ (by omega)
theorem p_say9 {e n Sd : Nat} (he : e < 2) (hn : n ≤ 30) (hS : Sd + n ≤ 200) (K : Int32 → tm_St → Prop) : ∀ (m i : Nat) (s : tm_St), i + m = n → s 0 18 = nI n → s 1 (24 * e + 6) = nI Sd → (∀ t : tm_St, (∀ x, ¬ x = 0 → ¬ x = 1 → ¬ x = 5 → t x = s x) → t 0 = tm_u (s 0) 18 0 → t 1 = upd (s 1) (24 * e + 6) (nI (Sd + n)) → t 5 = tm_cp (s 14) (s 5) (200 * e + Sd) i (200 * e + Sd + n) → K (nI (Sd + n)) t) → wp_X9_say_37 K (m + 1) (nI e) (nI Sd) (nI i) s := by
  intro m
  induction m with
  | zero =>
    intro i s hi h1 h2 h
    have hi : i = n := by omega
    subst hi
    unfold wp_X9_say_37
    rw [h1]
    refine ⟨fun _ => ?_, fun q => absurd (nI_le (Nat.le_refl _) (by omega)) q⟩
    rw [p_add_6 he, h2, nI_add]
    intro s9 e9
    rw [p_of_6 he]
    rw [show s9 1 (24 * e + 6) = nI (Sd + i) by rw [e9]; show upd (s 1) (24 * e + 6) (nI (Sd + i)) (24 * e + 6) = _; rw [tm_upd_at, if_pos rfl]]
    refine h s9 (fun x x1 x2 x3 => ?_) ?_ ?_ ?_
    · rw [e9, tm_s_at, if_neg x1, tm_s_at, if_neg x2]
    · rw [e9]; rfl
    · rw [e9]; rfl
    · rw [tm_cp_e _ _ _ _ _ (by omega), e9]; rfl
  | succ m ih =>
    intro i s hi h1 h2 h
    unfold wp_X9_say_37
    rw [h1]
    refine ⟨fun q => absurd q (nI_ge (by omega) (by omega)), fun _ => ?_⟩
    rw [p_200, nI_clamp (show i < 2 ^ 31 by omega), nI_clamp (show 200 * e + Sd + i < 2 ^ 31 by omega)]
    refine ⟨vp_in_nI (by omega) (by decide), vp_in_nI (by omega) (by decide), fun s14 e14 x15 e15 => ?_⟩
    rw [e15, nI_1]
    refine ih (i + 1) s14 (by omega) ?_ ?_ ?_
    · rw [e14]; exact h1
    · rw [e14]; exact h2
    · intro t t1 t2 t3 t4
      refine h t (fun x x1 x2 x3 => ?_) ?_ ?_ ?_
      · rw [t1 x x1 x2 x3, e14, tm_s_at, if_neg x3]
      · rw [t2, e14]; rfl
      · rw [t3, e14]; rfl
      · rw [t4, e14]
        exact tm_cp_s _ _ _ _ _ (by omega)
theorem c_say {u : Nat} {c r : tm_St} (h : tm_RR u c r) (p0 : Int32) : tm_CC (u + 200) (wp_X8_say p0 c) (wp_X9_say p0 r) := by
  rcases i_end p0 with e | e | ⟨n0, n1, ni⟩
  · subst e
    obtain ⟨n, n1, n2, n3, n4⟩ := h.2.2.2.1
    have hf : c 18 2 = r 1 (24 * 0 + 6) := (tm_RR_0 h).1.2.2.2.2.2.2.1
    obtain ⟨Sd, hSd, g1⟩ : ∃ Sd : Nat, Sd ≤ 200 ∧ r 1 (24 * 0 + 6) = nI Sd := by
      obtain ⟨⟨S, X, T, G, S', X', T', G', q0, q1⟩, -⟩ := h
      obtain ⟨⟨Sd, a, b, d⟩, -⟩ := q0.2.1.2.2.2.2.2.2.1
      exact ⟨Sd, b, d⟩
    have g0 : c 18 2 = nI Sd := hf.trans g1
    have l8 : (c 18 2 + c 1 1 ≤ 200) ↔ Sd + n ≤ 200 := by rw [g0, n2, nI_add]; exact nI_leI (b := 200) (by omega) (by decide)
    have l9 : (r 1 (24 * 0 + 6) + r 0 18 ≤ 200) ↔ Sd + n ≤ 200 := by rw [g1, n3, nI_add]; exact nI_leI (b := 200) (by omega) (by decide)
    by_cases a1 : Sd + n ≤ 200
    · refine ⟨nI (Sd + n), tm_s (tm_s (tm_s c 19 (tm_cp (c 2) (c 19) Sd 0 (Sd + n))) 18 (tm_u (c 18) 2 (nI (Sd + n)))) 1 (tm_u (c 1) 1 0), tm_s (tm_s (tm_s r 5 (tm_cp (r 14) (r 5) (200 * 0 + Sd) 0 (200 * 0 + Sd + n))) 1 (upd (r 1) (24 * 0 + 6) (nI (Sd + n)))) 0 (tm_u (r 0) 18 0), ?_, fun K hK => ?_, fun K hK => ?_⟩
      · obtain ⟨⟨S, X, T, G, S', X', T', G', ⟨q0, t0⟩, ⟨q1, t1⟩⟩, z0, z1, hp, ht, hl⟩ := tm_RR_u h (show u ≤ u + 200 by omega)
        obtain ⟨hM, ⟨r1, r2, r3, r4, r5⟩, h8, hWi, hWo, hla, h7, h6, hu⟩ := q0
        obtain ⟨hM', ⟨r1', r2', r3', r4', r5'⟩, h8', hWi', hWo', hla', h7', h6', hu'⟩ := q1
        have n0 : ∀ j, j < 200 → tm_cp (c 2) (c 19) Sd 0 (Sd + n) j = tm_cp (r 14) (r 5) (200 * 0 + Sd) 0 (200 * 0 + Sd + n) (200 * 0 + j) := by
          intro j hj
          rw [tm_cp_at, tm_cp_at]
          by_cases z : Sd + 0 ≤ j ∧ j < Sd + n
          · rw [if_pos z, if_pos (by omega), n4 _ (by omega), show 200 * 0 + j - (200 * 0 + Sd) = j - Sd by omega]
          · rw [if_neg z, if_neg (by omega)]
            exact r4 j hj
        have n1 : ∀ j, j < 200 → c 27 j = tm_cp (r 14) (r 5) (200 * 0 + Sd) 0 (200 * 0 + Sd + n) (200 * 1 + j) := by
          intro j hj
          rw [tm_cp_at, if_neg (by omega)]
          exact r4' j hj
        have M0 : tm_M 0 (c 14) (tm_u (c 18) 2 (nI (Sd + n))) (upd (r 1) (24 * 0 + 6) (nI (Sd + n))) := (by
          obtain ⟨m0, m1, m2, m3, m4, m5, m6, m7, m8, m9, m10, m11, m12, m13, m14, m15, m17⟩ := hM
          exact ⟨m0, m1, m2, m3, m4, m5, rfl, m7, m8, m9, m10, m11, m12, m13, m14, m15, m17⟩)
        have M1 : tm_M 1 (c 22) (c 26) (upd (r 1) (24 * 0 + 6) (nI (Sd + n))) := (by
          obtain ⟨m0, m1, m2, m3, m4, m5, m6, m7, m8, m9, m10, m11, m12, m13, m14, m15, m17⟩ := hM'
          exact ⟨m0, m1, m2, m3, m4, m5, m6, m7, m8, m9, m10, m11, m12, m13, m14, m15, m17⟩)
        have tE : ∀ {u S X T G : Nat} {f : Nat → Int32}, tm_E (24 * 0) u S X T G f → f (24 * 0 + 6) = nI Sd → tm_E (24 * 0) u S X T G (upd f (24 * 0 + 6) (nI (Sd + n))) := by
          intro u S X T G f hE hf6
          obtain ⟨x1, x2, x3, x4, x5, x6, ⟨⟨Sd2, y1, y2, y3⟩, y4⟩, xx⟩ := hE
          have : Sd2 = Sd := (nI_eq (by omega) (by omega)).mp (y3.symm.trans hf6)
          exact ⟨x1, x2, x3, x4, x5, x6, ⟨⟨Sd + n, by omega, by omega, rfl⟩, y4⟩, xx⟩
        have tO : ∀ {u S X T G : Nat} {f : Nat → Int32} (v : Int32), tm_E (24 * 1) u S X T G f → tm_E (24 * 1) u S X T G (upd f (24 * 0 + 6) v) := by
          intro u S X T G f v hE
          exact tm_E_x (e := 0) (by decide) hE (tm_ux (e := 0) (by decide) 6 (by decide) _ (fun _ _ => rfl))
        obtain ⟨b1, b2, b3, b4, b5, b6, b7⟩ := t0
        obtain ⟨b1', b2', b3', b4', b5', b6', b7'⟩ := t1
        have f0 := (⟨tE b1 g1, tO _ b2, b3, b4, b5, b6, b7⟩ : tm_N 0 _ _ _ _ _ _ _ _ _ (tm_s (tm_s (tm_s r 5 (tm_cp (r 14) (r 5) (200 * 0 + Sd) 0 (200 * 0 + Sd + n))) 1 (upd (r 1) (24 * 0 + 6) (nI (Sd + n)))) 0 (tm_u (r 0) 18 0)))
        have f1 := (⟨tO _ b1', tE b2' g1, b3', b4', b5', b6', b7'⟩ : tm_N 1 _ _ _ _ _ _ _ _ _ (tm_s (tm_s (tm_s r 5 (tm_cp (r 14) (r 5) (200 * 0 + Sd) 0 (200 * 0 + Sd + n))) 1 (upd (r 1) (24 * 0 + 6) (nI (Sd + n)))) 0 (tm_u (r 0) 18 0)))
        exact ⟨⟨S, X, T, G, S', X', T', G', ⟨⟨M0, ⟨r1, r2, r3, n0, r5⟩, h8, hWi, hWo, hla, h7, h6, hu⟩, f0⟩, ⟨⟨M1, ⟨r1', r2', r3', n1, r5'⟩, h8', hWi', hWo', hla', h7', h6', hu'⟩, f1⟩⟩, z0, z1, ⟨0, by omega, rfl, rfl, fun j hj => absurd hj (by omega)⟩, ht, hl⟩
      · unfold wp_X8_say; rw [p_modemAt]
        have run : ∃ nf : Nat, wp_X8_say_41 K nf 0 c := by
          refine ⟨n + 1, p_say8_0 n1 a1 K n 0 c (by omega) n2 g0 ?_⟩
          intro t t1 t2 t3 t4
          have : t = tm_s (tm_s (tm_s c 19 (tm_cp (c 2) (c 19) Sd 0 (Sd + n))) 18 (tm_u (c 18) 2 (nI (Sd + n)))) 1 (tm_u (c 1) 1 0) := by
            funext x
            rw [tm_s_at, tm_s_at, tm_s_at]
            by_cases x1 : x = 1
            · rw [if_pos x1, x1, t2]
            · rw [if_neg x1]
              by_cases x2 : x = 18
              · rw [if_pos x2, x2, t3]
              · rw [if_neg x2]
                by_cases x3 : x = 19
                · rw [if_pos x3, x3, t4]
                · rw [if_neg x3, t1 x x1 x2 x3]
          rw [this]; exact hK
        exact ⟨fun _ => ⟨fun _ => run, fun q => absurd (l8.mpr a1) q⟩, fun q => absurd q (by decide), fun q => absurd q (by decide)⟩
      · unfold wp_X9_say; rw [p_isEnd]
        refine ⟨fun _ => ?_, fun q => absurd q (by decide)⟩
        refine (p_of_6 (e := 0) (by decide) r _).mpr ?_
        refine ⟨fun _ => ⟨n + 1, ?_⟩, fun q => absurd (l9.mpr a1) q⟩
        rw [g1]
        refine p_say9 (e := 0) (by decide) n1 a1 K n 0 r (by omega) n3 g1 ?_
        intro t t1 t2 t3 t4
        have : t = tm_s (tm_s (tm_s r 5 (tm_cp (r 14) (r 5) (200 * 0 + Sd) 0 (200 * 0 + Sd + n))) 1 (upd (r 1) (24 * 0 + 6) (nI (Sd + n)))) 0 (tm_u (r 0) 18 0) := by
          funext x
          rw [tm_s_at, tm_s_at, tm_s_at]
          by_cases x1 : x = 0
          · rw [if_pos x1, x1, t2]
          · rw [if_neg x1]
            by_cases x2 : x = 1
            · rw [if_pos x2, x2, t3]
            · rw [if_neg x2]
              by_cases x3 : x = 5
              · rw [if_pos x3, x3, t4]
              · rw [if_neg x3, t1 x x1 x2 x3]
        rw [this]; exact hK
    · refine tm_CC_same h (-1004) (fun K hK => ?_) (fun K hK => ?_)
      · unfold wp_X8_say; rw [p_modemAt]
        exact ⟨fun _ => ⟨fun q => absurd (l8.mp q) a1, fun _ => hK⟩, fun q => absurd q (by decide), fun q => absurd q (by decide)⟩
      · unfold wp_X9_say; rw [p_isEnd]
        refine ⟨fun _ => ?_, fun q => absurd q (by decide)⟩
        refine (p_of_6 (e := 0) (by decide) r _).mpr ?_
        exact ⟨fun q => absurd (l9.mp q) a1, fun _ => hK⟩
  · subst e
    obtain ⟨n, n1, n2, n3, n4⟩ := h.2.2.2.1
    have hf : c 26 2 = r 1 (24 * 1 + 6) := (tm_RR_1 h).1.2.2.2.2.2.2.1
    obtain ⟨Sd, hSd, g1⟩ : ∃ Sd : Nat, Sd ≤ 200 ∧ r 1 (24 * 1 + 6) = nI Sd := by
      obtain ⟨⟨S, X, T, G, S', X', T', G', q0, q1⟩, -⟩ := h
      obtain ⟨⟨Sd, a, b, d⟩, -⟩ := q1.2.1.2.2.2.2.2.2.1
      exact ⟨Sd, b, d⟩
    have g0 : c 26 2 = nI Sd := hf.trans g1
    have l8 : (c 26 2 + c 1 1 ≤ 200) ↔ Sd + n ≤ 200 := by rw [g0, n2, nI_add]; exact nI_leI (b := 200) (by omega) (by decide)
    have l9 : (r 1 (24 * 1 + 6) + r 0 18 ≤ 200) ↔ Sd + n ≤ 200 := by rw [g1, n3, nI_add]; exact nI_leI (b := 200) (by omega) (by decide)
    by_cases a1 : Sd + n ≤ 200
    · refine ⟨nI (Sd + n), tm_s (tm_s (tm_s c 27 (tm_cp (c 2) (c 27) Sd 0 (Sd + n))) 26 (tm_u (c 26) 2 (nI (Sd + n)))) 1 (tm_u (c 1) 1 0), tm_s (tm_s (tm_s r 5 (tm_cp (r 14) (r 5) (200 * 1 + Sd) 0 (200 * 1 + Sd + n))) 1 (upd (r 1) (24 * 1 + 6) (nI (Sd + n)))) 0 (tm_u (r 0) 18 0), ?_, fun K hK => ?_, fun K hK => ?_⟩
      · obtain ⟨⟨S, X, T, G, S', X', T', G', ⟨q0, t0⟩, ⟨q1, t1⟩⟩, z0, z1, hp, ht, hl⟩ := tm_RR_u h (show u ≤ u + 200 by omega)
        obtain ⟨hM, ⟨r1, r2, r3, r4, r5⟩, h8, hWi, hWo, hla, h7, h6, hu⟩ := q1
        obtain ⟨hM', ⟨r1', r2', r3', r4', r5'⟩, h8', hWi', hWo', hla', h7', h6', hu'⟩ := q0
        have n1 : ∀ j, j < 200 → tm_cp (c 2) (c 27) Sd 0 (Sd + n) j = tm_cp (r 14) (r 5) (200 * 1 + Sd) 0 (200 * 1 + Sd + n) (200 * 1 + j) := by
          intro j hj
          rw [tm_cp_at, tm_cp_at]
          by_cases z : Sd + 0 ≤ j ∧ j < Sd + n
          · rw [if_pos z, if_pos (by omega), n4 _ (by omega), show 200 * 1 + j - (200 * 1 + Sd) = j - Sd by omega]
          · rw [if_neg z, if_neg (by omega)]
            exact r4 j hj
        have n0 : ∀ j, j < 200 → c 19 j = tm_cp (r 14) (r 5) (200 * 1 + Sd) 0 (200 * 1 + Sd + n) (200 * 0 + j) := by
          intro j hj
          rw [tm_cp_at, if_neg (by omega)]
          exact r4' j hj
        have M1 : tm_M 1 (c 22) (tm_u (c 26) 2 (nI (Sd + n))) (upd (r 1) (24 * 1 + 6) (nI (Sd + n))) := (by
          obtain ⟨m0, m1, m2, m3, m4, m5, m6, m7, m8, m9, m10, m11, m12, m13, m14, m15, m17⟩ := hM
          exact ⟨m0, m1, m2, m3, m4, m5, rfl, m7, m8, m9, m10, m11, m12, m13, m14, m15, m17⟩)
        have M0 : tm_M 0 (c 14) (c 18) (upd (r 1) (24 * 1 + 6) (nI (Sd + n))) := (by
          obtain ⟨m0, m1, m2, m3, m4, m5, m6, m7, m8, m9, m10, m11, m12, m13, m14, m15, m17⟩ := hM'
          exact ⟨m0, m1, m2, m3, m4, m5, m6, m7, m8, m9, m10, m11, m12, m13, m14, m15, m17⟩)
        have tE : ∀ {u S X T G : Nat} {f : Nat → Int32}, tm_E (24 * 1) u S X T G f → f (24 * 1 + 6) = nI Sd → tm_E (24 * 1) u S X T G (upd f (24 * 1 + 6) (nI (Sd + n))) := by
          intro u S X T G f hE hf6
          obtain ⟨x1, x2, x3, x4, x5, x6, ⟨⟨Sd2, y1, y2, y3⟩, y4⟩, xx⟩ := hE
          have : Sd2 = Sd := (nI_eq (by omega) (by omega)).mp (y3.symm.trans hf6)
          exact ⟨x1, x2, x3, x4, x5, x6, ⟨⟨Sd + n, by omega, by omega, rfl⟩, y4⟩, xx⟩
        have tO : ∀ {u S X T G : Nat} {f : Nat → Int32} (v : Int32), tm_E (24 * 0) u S X T G f → tm_E (24 * 0) u S X T G (upd f (24 * 1 + 6) v) := by
          intro u S X T G f v hE
          exact tm_E_x (e := 1) (by decide) hE (tm_ux (e := 1) (by decide) 6 (by decide) _ (fun _ _ => rfl))
        obtain ⟨b1, b2, b3, b4, b5, b6, b7⟩ := t1
        obtain ⟨b1', b2', b3', b4', b5', b6', b7'⟩ := t0
        have f1 := (⟨tE b1 g1, tO _ b2, b3, b4, b5, b6, b7⟩ : tm_N 1 _ _ _ _ _ _ _ _ _ (tm_s (tm_s (tm_s r 5 (tm_cp (r 14) (r 5) (200 * 1 + Sd) 0 (200 * 1 + Sd + n))) 1 (upd (r 1) (24 * 1 + 6) (nI (Sd + n)))) 0 (tm_u (r 0) 18 0)))
        have f0 := (⟨tO _ b1', tE b2' g1, b3', b4', b5', b6', b7'⟩ : tm_N 0 _ _ _ _ _ _ _ _ _ (tm_s (tm_s (tm_s r 5 (tm_cp (r 14) (r 5) (200 * 1 + Sd) 0 (200 * 1 + Sd + n))) 1 (upd (r 1) (24 * 1 + 6) (nI (Sd + n)))) 0 (tm_u (r 0) 18 0)))
        exact ⟨⟨S, X, T, G, S', X', T', G', ⟨⟨M0, ⟨r1', r2', r3', n0, r5'⟩, h8', hWi', hWo', hla', h7', h6', hu'⟩, f0⟩, ⟨⟨M1, ⟨r1, r2, r3, n1, r5⟩, h8, hWi, hWo, hla, h7, h6, hu⟩, f1⟩⟩, z0, z1, ⟨0, by omega, rfl, rfl, fun j hj => absurd hj (by omega)⟩, ht, hl⟩
      · unfold wp_X8_say; rw [p_modemAt]
        have run : ∃ nf : Nat, wp_X8_say_41a K nf 0 c := by
          refine ⟨n + 1, p_say8_1 n1 a1 K n 0 c (by omega) n2 g0 ?_⟩
          intro t t1 t2 t3 t4
          have : t = tm_s (tm_s (tm_s c 27 (tm_cp (c 2) (c 27) Sd 0 (Sd + n))) 26 (tm_u (c 26) 2 (nI (Sd + n)))) 1 (tm_u (c 1) 1 0) := by
            funext x
            rw [tm_s_at, tm_s_at, tm_s_at]
            by_cases x1 : x = 1
            · rw [if_pos x1, x1, t2]
            · rw [if_neg x1]
              by_cases x2 : x = 26
              · rw [if_pos x2, x2, t3]
              · rw [if_neg x2]
                by_cases x3 : x = 27
                · rw [if_pos x3, x3, t4]
                · rw [if_neg x3, t1 x x1 x2 x3]
          rw [this]; exact hK
        exact ⟨fun q => absurd q (by decide), fun _ => ⟨fun _ => run, fun q => absurd (l8.mpr a1) q⟩, fun q => absurd q (by decide)⟩
      · unfold wp_X9_say; rw [p_isEnd]
        refine ⟨fun _ => ?_, fun q => absurd q (by decide)⟩
        refine (p_of_6 (e := 1) (by decide) r _).mpr ?_
        refine ⟨fun _ => ⟨n + 1, ?_⟩, fun q => absurd (l9.mpr a1) q⟩
        rw [g1]
        refine p_say9 (e := 1) (by decide) n1 a1 K n 0 r (by omega) n3 g1 ?_
        intro t t1 t2 t3 t4
        have : t = tm_s (tm_s (tm_s r 5 (tm_cp (r 14) (r 5) (200 * 1 + Sd) 0 (200 * 1 + Sd + n))) 1 (upd (r 1) (24 * 1 + 6) (nI (Sd + n)))) 0 (tm_u (r 0) 18 0) := by
          funext x
          rw [tm_s_at, tm_s_at, tm_s_at]
          by_cases x1 : x = 0
          · rw [if_pos x1, x1, t2]
          · rw [if_neg x1]
            by_cases x2 : x = 1
            · rw [if_pos x2, x2, t3]
            · rw [if_neg x2]
              by_cases x3 : x = 5
              · rw [if_pos x3, x3, t4]
              · rw [if_neg x3, t1 x x1 x2 x3]
        rw [this]; exact hK
    · refine tm_CC_same h (-1004) (fun K hK => ?_) (fun K hK => ?_)
      · unfold wp_X8_say; rw [p_modemAt]
        exact ⟨fun q => absurd q (by decide), fun _ => ⟨fun q => absurd (l8.mp q) a1, fun _ => hK⟩, fun q => absurd q (by decide)⟩
      · unfold wp_X9_say; rw [p_isEnd]
        refine ⟨fun _ => ?_, fun q => absurd q (by decide)⟩
        refine (p_of_6 (e := 1) (by decide) r _).mpr ?_
        exact ⟨fun q => absurd (l9.mp q) a1, fun _ => hK⟩
  · refine tm_CC_same h (-1001) (fun K hK => ?_) (fun K hK => ?_)
    · unfold wp_X8_say; rw [p_modemAt, if_neg n0, if_neg n1]
      exact ⟨fun q => absurd q (by decide), fun q => absurd q (by decide), fun _ => hK⟩
    · unfold wp_X9_say; rw [p_isEnd, ni]
      exact ⟨fun q => absurd rfl q, fun _ => hK⟩
