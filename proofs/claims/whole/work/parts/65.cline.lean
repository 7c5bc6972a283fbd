def tm_t8 (g : Nat → Int32) (ρ s : tm_St) : tm_St := tm_s (tm_s (tm_s (tm_s (tm_s s 2 (tm_cp (fun j => tm_fg (g j)) (s 2) 0 0 8)) 7 (tm_cp (fun j => tm_fg (g (9 + j))) (s 7) 0 0 8)) 0 (tm_u (tm_u (s 0) 2 (g 18 - 48)) 3 (s 0 3 + 1))) 1 (tm_u (s 1) 4 (ρ 16 0))) 6 (tm_u (s 6) 4 (ρ 16 1))
theorem c_line {u : Nat} {c r : tm_St} (h : tm_RR u c r) : tm_CC (u + 200) (wp_X8_line c) (wp_X9_line r) := by
  obtain ⟨n, p1, p2, p3⟩ := tm_RR_pg h
  obtain ⟨ρ, b, ⟨k1, k2⟩ | ⟨k1, k2, hv, h19, hl⟩⟩ := s_isLine p1 p2 p3
  · refine ⟨-1003, c, ρ, tm_RR_u (tm_RR_rf h b) (by omega), fun K hK => ?_, fun K hK => k2 K hK⟩
    unfold wp_X8_line
    refine k1 _ ?_
    intro s2 e2
    rw [tm_pk_pj] at e2
    rw [e2]
    exact ⟨fun q => absurd rfl q, fun _ => hK⟩
  · have h' := tm_RR_u (tm_RR_rf h b) (show u ≤ u + 200 by omega)
    have hv0 := hv
    obtain ⟨v1, v2, v3, -, -⟩ := hv0
    obtain ⟨w1, d, d1, d2, w2⟩ := v3 (by omega)
    refine ⟨c 2 18 - 48, tm_s (tm_pk [3, 4, 5, 6, 7, 8, 9, 10, 11, 12, 13, 1, 2] c (tm_t8 (c 2) ρ (tm_pj [3, 4, 5, 6, 7, 8, 9, 10, 11, 12, 13, 1, 2] c))) 1 (tm_u (c 1) 1 0), tm_l9 (tm_s ρ 8 (tm_cp (ρ 15) (ρ 8) 0 0 16)), ?_, fun K hK => ?_, fun K hK => ?_⟩
    · obtain ⟨⟨S, X, T, G, S', X', T', G', ⟨⟨hM, hR, h8, ⟨i4, i5, i6, iq, ir⟩, ⟨o4, o5, o6, oq, oR⟩, hla, h7, h6, hu⟩, ⟨b1, b2, b3, b4, b5, b6, b7⟩⟩, ⟨⟨hM', hR', h8', hWi', hWo', hla', h7', h6', hu'⟩, ⟨b1', b2', b3', b4', b5', b6', b7'⟩⟩⟩, z0, z1, hp, ht, hll⟩ := h'
      have Q0 : ∀ j, j < 8 → tm_cp (fun j => tm_fg (c 2 j)) (c 5) 0 0 8 j = tm_cp (ρ 15) (ρ 8) 0 0 16 (8 * 0 + j) := by
        intro j hj
        rw [tm_cp_at, tm_cp_at, if_pos (by omega), if_pos (by omega), show 8 * 0 + j - 0 = j by omega, Nat.sub_zero]
        exact (v1 j hj (by omega)).symm
      have Q1 : ∀ j, j < 8 → tm_cp (fun j => tm_fg (c 2 (9 + j))) (c 10) 0 0 8 j = tm_cp (ρ 15) (ρ 8) 0 0 16 (8 * 1 + j) := by
        intro j hj
        rw [tm_cp_at, tm_cp_at, if_pos (by omega), if_pos (by omega), Nat.sub_zero]
        have := v2 (9 + j) (by omega) (by omega) (by omega)
        rw [show 9 + j - 1 = 8 * 1 + j - 0 by omega] at this
        exact this.symm
      obtain ⟨-, o5', o6', -, oR'⟩ := hWo'
      obtain ⟨-, i5', i6', -, ir'⟩ := hWi'
      refine ⟨⟨S, X, T, G, S', X', T', G', ⟨⟨hM, hR, w1.symm, ⟨rfl, i5, i6, Q1, ir⟩, ⟨rfl, o5, o6, Q0, oR⟩, hla, h7, h6, hu⟩, ⟨b1, b2, b3, b4, b5, b6, ⟨d, d1, d2, w2⟩⟩⟩, ⟨⟨hM', hR', w1.symm, ⟨rfl, i5', i6', Q0, ir'⟩, ⟨rfl, o5', o6', Q1, oR'⟩, hla', h7', h6', hu'⟩, ⟨b1', b2', b3', b4', b5', b6', ⟨d, d1, d2, w2⟩⟩⟩⟩, z0, z1, ⟨0, by omega, rfl, rfl, fun j hj => absurd hj (by omega)⟩, ht, ?_⟩
      show c 3 3 + 1 = ρ 0 16 + 1
      rw [hll]
    · unfold wp_X8_line
      refine k1 _ ?_
      intro s2 e2
      rw [tm_pk_pj] at e2
      subst e2
      refine ⟨fun _ => ⟨9, ?_⟩, fun q => absurd q (by decide)⟩
      refine s_read8 hv h19 hl _ 8 0 _ rfl p1 ?_
      intro t t0 t2 t7 t00 t1 t6 s5 e5 s7 e7
      have : t = tm_t8 (s2 2) ρ (tm_pj [3, 4, 5, 6, 7, 8, 9, 10, 11, 12, 13, 1, 2] s2) := by
        funext x
        unfold tm_t8
        rw [tm_s_at, tm_s_at, tm_s_at, tm_s_at, tm_s_at]
        by_cases x6 : x = 6
        · rw [if_pos x6, x6, t6]
        · rw [if_neg x6]
          by_cases x1 : x = 1
          · rw [if_pos x1, x1, t1]
          · rw [if_neg x1]
            by_cases x0 : x = 0
            · rw [if_pos x0, x0, t00]
            · rw [if_neg x0]
              by_cases x7 : x = 7
              · rw [if_pos x7, x7, t7]
              · rw [if_neg x7]
                by_cases x2 : x = 2
                · rw [if_pos x2, x2, t2]
                · rw [if_neg x2, t0 x x0 x1 x2 x6 x7]
      rw [e7, e5, this]
      exact hK
    · refine k2 K ⟨17, s_line9 K 16 0 ρ rfl ?_⟩
      rw [w1]
      exact hK
