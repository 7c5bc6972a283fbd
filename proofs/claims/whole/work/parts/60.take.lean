theorem p_takes {k : Nat} (hk : k < 30) (p : Int32) (ρ : tm_St) (K : Int32 → tm_St → Prop) (h8 : k = 8 → (¬ p = 47 → K 0 ρ) ∧ (p = 47 → K 1 ρ)) (h17 : k = 17 → (¬ p = 59 → K 0 ρ) ∧ (p = 59 → K 1 ρ)) (h18 : k = 18 → ∀ s10 : tm_St, s10 = tm_s ρ 0 (tm_u (ρ 0) 21 (p - 48)) → wp_X9_within (s10 0 21) 1 8 (fun r11 => K r11 s10)) (h19 : k = 19 → ∀ s8 : tm_St, s8 = tm_s ρ 0 (tm_u (ρ 0) 23 0) → ((¬ p = 104 → K 0 s8) ∧ (p = 104 → K 1 s8))) (hq : k < 17 → ¬ k = 8 → wp_X9_takesQuality (nI k) p ρ K) (hh : 20 ≤ k → wp_X9_takesHurt p ρ K) : wp_X9_takes (nI k) p ρ K := by
  have E : ∀ m : Nat, m < 2 ^ 31 → (nI k = nI m ↔ k = m) := fun m hm => nI_eq (by omega) hm
  have e8 : nI k = 8 ↔ k = 8 := E 8 (by decide)
  have e17 : nI k = 17 ↔ k = 17 := E 17 (by decide)
  have e18 : nI k = 18 ↔ k = 18 := E 18 (by decide)
  have e19 : nI k = 19 ↔ k = 19 := E 19 (by decide)
  have l17 : (17 : Int32) ≤ nI k ↔ 17 ≤ k := nI_leI (a := 17) (by decide) (by omega)
  unfold wp_X9_takes
  refine ⟨fun c8 => ⟨fun c => ⟨fun c17 => ⟨fun c18 => ⟨fun c19 => ?_, fun c19 => ?_⟩, fun c18 => ?_⟩, fun c17 => ?_⟩, fun c => ?_⟩, fun c8 => ?_⟩
  · have t0 := l17.mp c
    have t1 : ¬ k = 17 := fun q => c17 (e17.mpr q)
    have t2 : ¬ k = 18 := fun q => c18 (e18.mpr q)
    have t3 : ¬ k = 19 := fun q => c19 (e19.mpr q)
    exact hh (by omega)
  · exact h19 (e19.mp c19)
  · exact h18 (e18.mp c18)
  · exact h17 (e17.mp c17)
  · have t1 : ¬ 17 ≤ k := fun q => c (l17.mpr q)
    exact hq (by omega) (fun q => c8 (e8.mpr q))
  · exact h8 (e8.mp c8)
theorem i_wr (g : Int32) (h : g < 0) : (if g - 48 < 1 then (0 : Int32) else if 8 < g - 48 then 0 else 1) = 0 := by
  by_cases c : g - 48 < 1
  · rw [if_pos c]
  · rw [if_neg c]
    have : (8 : Int32) < g - 48 := by
      rw [Int32.lt_iff_toInt_lt] at h c ⊢
      rw [Int32.toInt_sub] at c ⊢
      have b1 := Int32.le_toInt g
      have z48 : (48 : Int32).toInt = 48 := by decide
      have z1 : (1 : Int32).toInt = 1 := by decide
      have z8 : (8 : Int32).toInt = 8 := by decide
      have z0 : (0 : Int32).toInt = 0 := by decide
      rw [z48, z1] at c
      rw [z48, z8]
      rw [z0] at h
      simp only [Int.bmod_def] at c ⊢
      omega
    rw [if_pos this]
theorem i_del (g : Int32) : (if g < 49 then (0 : Int32) else if 56 < g then 0 else 1) = (if g - 48 < 1 then (0 : Int32) else if 8 < g - 48 then 0 else 1) := by
  by_cases c : g < 0
  · rw [i_wr g c, if_pos (Int32.lt_trans c (by decide))]
  · obtain ⟨N, hN, e⟩ := i_nat c
    subst e
    have l49 : nI N < 49 ↔ N < 49 := nI_ltI (b := 49) hN (by decide)
    have m56 : (56 : Int32) < nI N ↔ 56 < N := nI_ltI (a := 56) (by decide) hN
    have l1 : nI (N - 48) < 1 ↔ N - 48 < 1 := nI_ltI (b := 1) (by omega) (by decide)
    have m8 : (8 : Int32) < nI (N - 48) ↔ 8 < N - 48 := nI_ltI (a := 8) (by decide) (by omega)
    by_cases c1 : N < 49
    · rw [if_pos (l49.mpr c1)]
      by_cases c2 : N < 48
      · have : nI N - 48 < 0 := pk_sneg (b := 48) (by decide) c2
        rw [if_pos (Int32.lt_trans this (by decide))]
      · rw [show N = 48 by omega]; decide
    · rw [if_neg (fun q => c1 (l49.mp q)), show nI N - 48 = nI (N - 48) from pk_sub (b := 48) (by omega), if_neg (fun q => absurd (l1.mp q) (by omega))]
      by_cases c2 : 56 < N
      · rw [if_pos (m56.mpr c2), if_pos (m8.mpr (by omega))]
      · rw [if_neg (fun q => c2 (m56.mp q)), if_neg (fun q => absurd (m8.mp q) (by omega))]
theorem p_qual {k i : Nat} (hk : k < 17) (hi : i = if 8 ≤ k then k - 1 else k) (p : Int32) (ρ : tm_St) (K : Int32 → tm_St → Prop) (hK : K (if tm_fg p < 0 then 0 else 1) (tm_s ρ 15 (upd (ρ 15) i (tm_fg p)))) : wp_X9_takesQuality (nI k) p ρ K := by
  have fin : ∀ s6 : tm_St, s6 = tm_s ρ 15 (upd (ρ 15) i (tm_fg p)) → ((s6 15 i = -1 → K 0 s6) ∧ (¬ s6 15 i = -1 → K 1 s6)) := by
    intro s6 e6
    have z : s6 15 i = tm_fg p := by rw [e6]; show upd (ρ 15) i (tm_fg p) i = _; rw [tm_upd_at, if_pos rfl]
    rw [z]
    refine ⟨fun c => ?_, fun c => ?_⟩
    · rw [if_pos ((tm_fg_neg p).mpr c)] at hK; rw [e6]; exact hK
    · rw [if_neg (fun q => c ((tm_fg_neg p).mp q))] at hK; rw [e6]; exact hK
  unfold wp_X9_takesQuality
  by_cases c : 8 ≤ k
  · rw [if_pos c] at hi
    refine ⟨fun _ x2 e2 => p_fg9 _ _ ?_, fun q => absurd (nI_le (a := 8) c (by omega)) q⟩
    have e : x2 = nI i := by rw [e2, hi]; exact pk_sub (b := 1) (by omega)
    rw [e, nI_clamp (by omega)]
    exact ⟨vp_in_nI (by omega) (by decide), fun s6 e6 => ⟨vp_in_nI (by omega) (by decide), fin s6 e6⟩⟩
  · rw [if_neg c] at hi
    subst hi
    refine ⟨fun q => absurd q (nI_ge (b := 8) (by omega) (by decide)), fun _ => p_fg9 _ _ ?_⟩
    rw [nI_clamp (by omega)]
    exact ⟨vp_in_nI (by omega) (by decide), fun s6 e6 => ⟨vp_in_nI (by omega) (by decide), fin s6 e6⟩⟩
theorem s_take {n : Nat} {g : Nat → Int32} {s : tm_St} (h : tm_pg n g s) {k : Nat} (hk : k < n) {r0 ρ : tm_St} (hr : tm_rf r0 ρ) (hi : tm_iv g k ρ) : tm_tk n g r0 k s ρ := by
  have h30 := h.1
  by_cases h20 : 20 ≤ k
  · obtain ⟨ok, ρ', m1, m2, m3, m4⟩ := s_hurt h hk h20 hr hi
    refine ⟨ok, ρ', fun K hK => ?_, fun K hK => ?_, m3, m4⟩
    · exact p_fits h hk ok K hK (fun q => absurd q (by omega)) (fun q => absurd q (by omega)) (fun q => absurd q (by omega)) (fun q => absurd q (by omega)) (fun q => absurd q (by omega)) (fun _ => m1 K hK)
    · exact p_takes (by omega) _ _ _ (fun q => absurd q (by omega)) (fun q => absurd q (by omega)) (fun q => absurd q (by omega)) (fun q => absurd q (by omega)) (fun q => absurd q (by omega)) (fun _ => m2 K hK)
  · obtain ⟨i1, i2, i3, i4, i5⟩ := hi
    obtain ⟨y0, y1, y2⟩ := i4 (by omega)
    by_cases h8 : k = 8
    · refine ⟨if g k = 47 then 1 else 0, ρ, fun K hK => ?_, fun K hK => ?_, hr, fun _ => ⟨fun j j1 j2 => i1 j j1 (by omega), fun j j1 j2 j3 => absurd j3 (by omega), fun q => absurd q (by omega), fun _ => ⟨y0, y1, y2⟩, fun q => absurd q (by omega)⟩⟩
      · exact p_fits h hk _ K hK (fun _ => rfl) (fun q => absurd q (by omega)) (fun q => absurd q (by omega)) (fun q => absurd q (by omega)) (fun _ q => absurd h8 q) (fun q => absurd q (by omega))
      · refine p_takes (by omega) _ _ _ (fun _ => ⟨fun c => ?_, fun c => ?_⟩) (fun q => absurd q (by omega)) (fun q => absurd q (by omega)) (fun q => absurd q (by omega)) (fun _ q => absurd h8 q) (fun q => absurd q (by omega))
        · rw [if_neg c] at hK; exact hK
        · rw [if_pos c] at hK; exact hK
    · by_cases h17 : k = 17
      · refine ⟨if g k = 59 then 1 else 0, ρ, fun K hK => ?_, fun K hK => ?_, hr, fun _ => ⟨fun j j1 j2 => i1 j j1 (by omega), fun j j1 j2 j3 => i2 j j1 j2 (by omega), fun q => absurd q (by omega), fun _ => ⟨y0, y1, y2⟩, fun q => absurd q (by omega)⟩⟩
        · exact p_fits h hk _ K hK (fun q => absurd q (by omega)) (fun _ => rfl) (fun q => absurd q (by omega)) (fun q => absurd q (by omega)) (fun q => absurd q (by omega)) (fun q => absurd q (by omega))
        · refine p_takes (by omega) _ _ _ (fun q => absurd q (by omega)) (fun _ => ⟨fun c => ?_, fun c => ?_⟩) (fun q => absurd q (by omega)) (fun q => absurd q (by omega)) (fun q => absurd q (by omega)) (fun q => absurd q (by omega))
          · rw [if_neg c] at hK; exact hK
          · rw [if_pos c] at hK; exact hK
      · by_cases h18 : k = 18
        · refine ⟨if g k < 49 then 0 else if 56 < g k then 0 else 1, tm_s ρ 0 (tm_u (ρ 0) 21 (g k - 48)), fun K hK => ?_, fun K hK => ?_, ⟨fun i i0 i15 i16 => ?_, fun q q1 q2 q3 => ?_⟩, fun z => ⟨fun j j1 j2 => i1 j j1 (by omega), fun j j1 j2 j3 => i2 j j1 j2 (by omega), fun _ => ⟨by rw [h18]; rfl, ?_⟩, fun _ => ⟨y0, y1, y2⟩, fun q => absurd q (by omega)⟩⟩
          · exact p_fits h hk _ K hK (fun q => absurd q (by omega)) (fun q => absurd q (by omega)) (fun _ => rfl) (fun q => absurd q (by omega)) (fun q => absurd q (by omega)) (fun q => absurd q (by omega))
          · refine p_takes (by omega) _ _ _ (fun q => absurd q (by omega)) (fun q => absurd q (by omega)) (fun _ s10 e10 => ?_) (fun q => absurd q (by omega)) (fun q => absurd q (by omega)) (fun q => absurd q (by omega))
            rw [p_within, show s10 0 21 = g k - 48 by rw [e10]; rfl, ← i_del, e10]
            exact hK
          · rw [tm_s_at, if_neg i0]; exact hr.1 i i0 i15 i16
          · show tm_u (ρ 0) 21 _ q = _
            rw [tm_u_at, if_neg q1]; exact hr.2 q q1 q2 q3
          · have z1 : ¬ g k < 49 := fun q => z (by rw [if_pos q])
            rw [if_neg z1] at z
            have z2 : ¬ 56 < g k := fun q => z (by rw [if_pos q])
            obtain ⟨N, hN, e⟩ := i_nat (p := g k) (fun q => z1 (Int32.lt_trans q (by decide)))
            rw [e] at z1 z2
            have t1 : 49 ≤ N := by
              rcases Nat.lt_or_ge N 49 with q | q
              · exact absurd (nI_lt (b := 49) q (by decide)) z1
              · exact q
            have t2 : N ≤ 56 := by
              rcases Nat.lt_or_ge 56 N with q | q
              · exact absurd (nI_lt (a := 56) q hN) z2
              · exact q
            refine ⟨N - 48, by omega, by omega, ?_⟩
            show g k - 48 = _
            rw [e]; exact pk_sub (b := 48) (by omega)
        · by_cases h19 : k = 19
          · refine ⟨if g k = 104 then 1 else 0, tm_s ρ 0 (tm_u (ρ 0) 23 0), fun K hK => ?_, fun K hK => ?_, ⟨fun i i0 i15 i16 => ?_, fun q q1 q2 q3 => ?_⟩, fun z => ⟨fun j j1 j2 => i1 j j1 (by omega), fun j j1 j2 j3 => i2 j j1 j2 (by omega), fun _ => i3 (by omega), fun q => absurd q (by omega), fun _ => Or.inl ⟨fun i x1 x2 => absurd x2 (by omega), rfl, y1, Or.inl ⟨by omega, y2, y0⟩⟩⟩⟩
            · exact p_fits h hk _ K hK (fun q => absurd q (by omega)) (fun q => absurd q (by omega)) (fun q => absurd q (by omega)) (fun _ => rfl) (fun q => absurd q (by omega)) (fun q => absurd q (by omega))
            · refine p_takes (by omega) _ _ _ (fun q => absurd q (by omega)) (fun q => absurd q (by omega)) (fun q => absurd q (by omega)) (fun _ s8 e8 => ⟨fun c => ?_, fun c => ?_⟩) (fun q => absurd q (by omega)) (fun q => absurd q (by omega))
              · rw [if_neg c] at hK; rw [e8]; exact hK
              · rw [if_pos c] at hK; rw [e8]; exact hK
            · rw [tm_s_at, if_neg i0]; exact hr.1 i i0 i15 i16
            · show tm_u (ρ 0) 23 _ q = _
              rw [tm_u_at, if_neg q2]; exact hr.2 q q1 q2 q3
          · have hk17 : k < 17 := by omega
            refine ⟨if tm_fg (g k) < 0 then 0 else 1, tm_s ρ 15 (upd (ρ 15) (if 8 ≤ k then k - 1 else k) (tm_fg (g k))), fun K hK => ?_, fun K hK => ?_, ⟨fun i i0 i15 i16 => ?_, fun q q1 q2 q3 => ?_⟩, fun z => ⟨fun j j1 j2 => ?_, fun j j1 j2 j3 => ?_, fun q => absurd q (by omega), fun _ => ⟨y0, y1, y2⟩, fun q => absurd q (by omega)⟩⟩
            · exact p_fits h hk _ K hK (fun q => absurd q (by omega)) (fun q => absurd q (by omega)) (fun q => absurd q (by omega)) (fun q => absurd q (by omega)) (fun _ _ => rfl) (fun q => absurd q (by omega))
            · exact p_takes (by omega) _ _ _ (fun q => absurd q (by omega)) (fun q => absurd q (by omega)) (fun q => absurd q (by omega)) (fun q => absurd q (by omega)) (fun _ _ => p_qual hk17 rfl _ _ _ hK) (fun q => absurd q (by omega))
            · rw [tm_s_at, if_neg i15]; exact hr.1 i i0 i15 i16
            · exact hr.2 q q1 q2 q3
            · show upd (ρ 15) (if 8 ≤ k then k - 1 else k) (tm_fg (g k)) j = _
              rw [tm_upd_at]
              by_cases c : 8 ≤ k
              · rw [if_pos c, if_neg (by omega)]; exact i1 j j1 (by omega)
              · rw [if_neg c]
                by_cases c2 : j = k
                · rw [if_pos c2, c2]
                · rw [if_neg c2]; exact i1 j j1 (by omega)
            · show upd (ρ 15) (if 8 ≤ k then k - 1 else k) (tm_fg (g k)) (j - 1) = _
              rw [if_pos (show 8 ≤ k by omega), tm_upd_at]
              by_cases c2 : j = k
              · rw [if_pos (by omega), c2]
              · rw [if_neg (by omega)]; exact i2 j j1 j2 (by omega)
