theorem q_mail {e : Nat} (he : e < 2) {c7 c6 : Int32} {u S X T G S' X' T' G' : Nat} {σ r : tm_St} (h : tm_Q e c7 c6 u S X T G S' X' T' G' σ r) {S2 X2 Sd : Nat} (hSd : r 1 (24 * e + 6) = nI Sd) (hSd2 : Sd ≤ 200) (hS : S ≤ S2) (hS2 : S2 ≤ Sd) (hX : X2 ≤ S2) (hX2 : X2 ≤ T + 64) (w : Int32) : tm_Q e c7 c6 u S2 X2 T G S' X' T' G' (tm_s σ 4 (tm_u (tm_u (tm_u (σ 4) 5 (nI X2)) 6 (σ 4 6 + w)) 7 (nI S2))) (tm_s (tm_s r 0 (tm_u (r 0) 17 (r 0 17 + w))) 1 (upd (upd (r 1) (24 * e + 7) (nI X2)) (24 * e + 17) (nI S2))) ∧ tm_F e r (tm_s (tm_s r 0 (tm_u (r 0) 17 (r 0 17 + w))) 1 (upd (upd (r 1) (24 * e + 7) (nI X2)) (24 * e + 17) (nI S2))) ∧ tm_FC σ (tm_s σ 4 (tm_u (tm_u (tm_u (σ 4) 5 (nI X2)) 6 (σ 4 6 + w)) 7 (nI S2))) := by
  obtain ⟨⟨hM, hR, h8, hWi, hWo, hla, h7, h6, hu⟩, hE, hE', hx, hs, hs', ht, hd⟩ := h
  have hF : ∀ k, k < 24 → upd (upd (r 1) (24 * e + 7) (nI X2)) (24 * e + 17) (nI S2) (24 * (1 - e) + k) = r 1 (24 * (1 - e) + k) := tm_ux he 17 (by decide) _ (tm_ux he 7 (by decide) _ (fun _ _ => rfl))
  refine ⟨⟨⟨?_, hR, h8, hWi, hWo, hla, h7, ?_, hu⟩, ?_, tm_E_x he hE' hF, ⟨hx.1, Nat.le_trans hx.2.1 hS, hx.2.2.1, hx.2.2.2⟩, fun j hj => tm_Sl_monoS hS (hs j hj), hs', ht, hd⟩, ⟨hF, fun _ _ => rfl, fun _ _ => rfl, rfl, rfl, fun _ _ => rfl, fun _ _ => rfl, rfl, rfl, rfl, rfl, rfl, rfl, rfl⟩, ⟨rfl, rfl, rfl, rfl, rfl, rfl⟩⟩
  · exact (by
    obtain ⟨m0, m1, m2, m3, m4, m5, m6, m7, m8, m9, m10, m11, m12, m13, m14, m15, m17⟩ := hM
    refine ⟨?_, ?_, ?_, ?_, ?_, ?_, ?_, ?_, ?_, ?_, ?_, ?_, ?_, ?_, ?_, ?_, ?_⟩ <;> simp [tm_s_at, tm_u_at, tm_upd_at, m0, m1, m2, m3, m4, m5, m6, m7, m8, m9, m10, m11, m12, m13, m14, m15, m17])
  · show σ 4 6 + w + c6 = r 0 17 + w
    rw [i_sm, h6]
  · obtain ⟨a0, a1, a2, a3, a4, a5, a6, a7, a8, a9, a10, a11, a12⟩ := hE
    refine ⟨?_, ?_, ?_, ?_, ?_, ?_, ⟨⟨Sd, hS2, hSd2, ?_⟩, ?_⟩, ?_, ?_, ?_, hX, by omega, hX2⟩
    · simpa [tm_s_at, tm_upd_at] using a0
    · simpa [tm_s_at, tm_upd_at] using a1
    · simpa [tm_s_at, tm_upd_at] using a2
    · simpa [tm_s_at, tm_upd_at] using a3
    · simpa [tm_s_at, tm_upd_at] using a4
    · simpa [tm_s_at, tm_upd_at] using a5
    · simpa [tm_s_at, tm_upd_at] using hSd
    · simp [tm_s_at, tm_upd_at]
    · simp [tm_s_at, tm_upd_at]
    · simpa [tm_s_at, tm_upd_at] using a8
    · simpa [tm_s_at, tm_upd_at] using a9
theorem q_letters {e : Nat} (he : e < 2) {c7 c6 : Int32} {u S X T G S' X' T' G' : Nat} {σ r : tm_St} (h : tm_Q e c7 c6 u S X T G S' X' T' G' σ r) {j N : Nat} (hj : j < 16) (hN : N ≤ 3) {g g' : Nat → Int32} (hg : ∀ k, k < N → g k = g' k) : tm_Q e c7 c6 u S X T G S' X' T' G' (tm_s σ 17 (tm_cp g (σ 17) (8 * j + 5) 0 (8 * j + 5 + N))) (tm_s r 10 (tm_cp g' (r 10) (8 * (16 * e + j) + 5) 0 (8 * (16 * e + j) + 5 + N))) ∧ tm_F e r (tm_s r 10 (tm_cp g' (r 10) (8 * (16 * e + j) + 5) 0 (8 * (16 * e + j) + 5 + N))) ∧ tm_FC σ (tm_s σ 17 (tm_cp g (σ 17) (8 * j + 5) 0 (8 * j + 5 + N))) := by
  obtain ⟨⟨hM, hR, h8, hWi, hWo, hla, h7, h6, hu⟩, hE, hE', hx, hs, hs', ht, hd⟩ := h
  obtain ⟨w1, w2, w3, w4, w5, w6, w7, w8⟩ := hWi
  obtain ⟨o1, o2, o3, o4, o5, o6, o7, o8⟩ := hWo
  have off : ∀ i, (i < 8 * (16 * e + j) + 5 ∨ 8 * (16 * e + j) + 8 ≤ i) → tm_cp g' (r 10) (8 * (16 * e + j) + 5) 0 (8 * (16 * e + j) + 5 + N) i = r 10 i := fun i hi => tm_cp_out _ _ _ _ _ (by omega)
  have offC : ∀ i, (i < 8 * j + 5 ∨ 8 * j + 8 ≤ i) → tm_cp g (σ 17) (8 * j + 5) 0 (8 * j + 5 + N) i = σ 17 i := fun i hi => tm_cp_out _ _ _ _ _ (by omega)
  refine ⟨⟨⟨hM, hR, h8, ⟨w1, w2, w3, w4, ?_, ?_, w7, ?_⟩, ⟨o1, o2, o3, o4, ?_, ?_, ?_, ?_⟩, hla, h7, h6, ?_⟩, hE, hE', hx, ?_, ?_, ht, hd⟩, ⟨fun _ _ => rfl, fun _ _ => rfl, fun _ _ => rfl, rfl, rfl, fun _ _ => rfl, fun _ _ => rfl, rfl, rfl, rfl, rfl, rfl, rfl, rfl⟩, ⟨rfl, rfl, rfl, rfl, rfl, rfl⟩⟩
  · intro j' hj'
    rw [tm_s_at, if_neg (by decide), tm_s_at, if_pos rfl, off _ (by omega)]; exact w5 j' hj'
  · intro j' k hj' hk
    rw [tm_s_at, if_neg (by decide), tm_s_at, if_pos rfl, off _ (by omega)]; exact w6 j' k hj' hk
  · intro j' k hj' hk
    rw [tm_s_at, if_neg (by decide), tm_s_at, if_pos rfl, off _ (by omega)]; exact w8 j' k hj' hk
  · intro j' hj'
    rw [tm_s_at, if_neg (by decide), tm_s_at, if_pos rfl, off _ (by omega)]; exact o5 j' hj'
  · intro j' k hj' hk
    rw [tm_s_at, if_pos rfl, tm_s_at, if_pos rfl, off _ (by omega), offC _ (by omega)]; exact o6 j' k hj' hk
  · intro j' hj'
    rw [tm_s_at, if_pos rfl, tm_s_at, if_neg (by decide), offC _ (by omega)]; exact o7 j' hj'
  · intro j' k hj' hk
    rw [tm_s_at, if_pos rfl, tm_s_at, if_pos rfl]
    by_cases q : j' = j
    · subst q
      by_cases c : k < N
      · rw [tm_cp_in _ _ _ _ _ (by omega), tm_cp_in _ _ _ _ _ (by omega)]; exact hg k c
      · rw [tm_cp_out _ _ _ _ _ (by omega), tm_cp_out _ _ _ _ _ (by omega)]; exact o8 j' k hj' hk
    · rw [off _ (by omega), offC _ (by omega)]; exact o8 j' k hj' hk
  · rw [tm_s_at, if_neg (by decide), tm_s_at, if_neg (by decide), tm_s_at, if_pos rfl, hu]
    exact (tm_sm_c 32 (fun k _ => off _ (by omega))).symm
  · intro j' hj'
    have := hs j' hj'
    show tm_Sl S G (tm_cp g' (r 10) (8 * (16 * e + j) + 5) 0 (8 * (16 * e + j) + 5 + N)) (r 11) (16 * e + j')
    unfold tm_Sl at this ⊢
    rw [off _ (by omega), off _ (by omega), off _ (by omega), off _ (by omega), off _ (by omega)]
    exact this
  · intro j' hj'
    have := hs' j' hj'
    show tm_Sl S' G' (tm_cp g' (r 10) (8 * (16 * e + j) + 5) 0 (8 * (16 * e + j) + 5 + N)) (r 11) (16 * (1 - e) + j')
    unfold tm_Sl at this ⊢
    rw [off _ (by omega), off _ (by omega), off _ (by omega), off _ (by omega), off _ (by omega)]
    exact this
theorem i_cr {a b : Nat} (h : 8 * b ≤ a) : nI a + (-8) * nI b = nI (a - 8 * b) := by
  rw [show ((-8) : Int32) = -(nI 8) from rfl, Int32.neg_mul, ← Int32.sub_eq_add_neg, pk_mul, pk_sub h]
theorem s_frame {e : Nat} (he : e < 2) {c7 c6 : Int32} {u S X T G S' X' T' G' : Nat} {σ r : tm_St} (h : tm_Q e c7 c6 u S X T G S' X' T' G' σ r) {t d : Nat} (hD : t + d < 2 ^ 31) (h12 : r 0 12 = nI t) (h08 : r 0 8 = nI d) : ∃ σ' r' : tm_St, ∃ S2 X2 : Nat, (∀ K : tm_St → Prop, K σ' → wp_X3_speakFrame (nI (t + d)) σ K) ∧ (∀ K : tm_St → Prop, K r' → wp_X9_sendsFrame (nI e) r K) ∧ tm_Q e c7 c6 u S2 X2 T G S' X' T' G' σ' r' ∧ tm_F e r r' ∧ tm_FC σ σ' ∧ (∀ k, ¬ k = 13 → σ' 0 k = σ 0 k) ∧ σ' 11 = σ 11 ∧ r' 1 (24 * e + 16) = r 1 (24 * e + 16) := by
  have m2 : σ 0 10 = r 1 (24 * e + 2) := h.1.1.2.2.1
  have m4 : σ 0 12 = r 1 (24 * e + 4) := h.1.1.2.2.2.2.1
  have m5 : σ 0 13 = r 1 (24 * e + 5) := h.1.1.2.2.2.2.2.1
  have m6 : σ 4 2 = r 1 (24 * e + 6) := h.1.1.2.2.2.2.2.2.1
  have m7 : σ 4 5 = r 1 (24 * e + 7) := h.1.1.2.2.2.2.2.2.2.1
  have m8 : σ 4 4 = r 1 (24 * e + 8) := h.1.1.2.2.2.2.2.2.2.2.1
  have m9 : σ 4 3 = r 1 (24 * e + 9) := h.1.1.2.2.2.2.2.2.2.2.2.1
  have m17 : σ 4 7 = r 1 (24 * e + 17) := h.1.1.2.2.2.2.2.2.2.2.2.2.2.2.2.2.2.2
  have t5 : ∀ j, j < 200 → σ 5 j = r 5 (200 * e + j) := h.1.2.1.2.2.2.1
  have hfl := h.1.2.2.2.2.1.2.2.2.2.1
  have hslf := h.2.2.2.2.1
  obtain ⟨p0, p1, p3, ⟨rt, hrt, ert⟩, ⟨cr0, hcr0, ecr0⟩, p15, ⟨⟨Sd, hSSd, hSd, eSd⟩, eS⟩, eX, eT, eG, hXS, hS200, hXT⟩ := h.2.1
  have hTS : T ≤ S := Nat.le_trans h.2.2.2.1.1 h.2.2.2.1.2.1
  generalize hcr : min (cr0 + rt) 24 = cr
  generalize hN : min (cr / 8) (min (Sd - X) (T + 64 - X)) = N
  have hN3 : N ≤ 3 := by omega
  have hN8 : 8 * N ≤ cr := by omega
  have hXN : X + N ≤ Sd := by omega
  generalize hj : (t + d) % 16 = j
  have hj16 : j < 16 := by omega
  have ecl : (if nI cr0 + nI rt < 24 then nI cr0 + nI rt else 24) = nI cr := by
    rw [nI_add, ← hcr]; exact i_mN (b := 24) (by omega) (by decide)
  have ecl2 : (if nI cr0 + nI rt ≤ 24 then nI cr0 + nI rt else 24) = nI cr := by
    rw [nI_add, ← hcr]; exact i_mN2 (b := 24) (by omega) (by decide)
  have e64 : (nI T + 64 - nI X : Int32) = nI (T + 64 - X) := by
    rw [show (nI T + 64 : Int32) = nI (T + 64) from nI_add _ 64, pk_sub hXT]
  have eSX : (nI Sd - nI X : Int32) = nI (Sd - X) := pk_sub (by omega)
  have ec8 : (nI cr / 8 : Int32) = nI (cr / 8) := pk_div (d := 8) (by omega) (by decide) (by decide)
  have en1 : (if nI (T + 64 - X) < nI (Sd - X) then nI (T + 64 - X) else nI (Sd - X)) = nI (min (Sd - X) (T + 64 - X)) := by
    rw [i_mN (by omega) (by omega), Nat.min_comm]
  have en2 : (if nI (min (Sd - X) (T + 64 - X)) < nI (cr / 8) then nI (min (Sd - X) (T + 64 - X)) else nI (cr / 8)) = nI N := by
    rw [i_mN (by omega) (by omega), Nat.min_comm, hN]
  have er1 : (if nI (T + 64 - X) ≤ nI (Sd - X) then nI (T + 64 - X) else nI (Sd - X)) = nI (min (Sd - X) (T + 64 - X)) := by
    rw [i_mN2 (by omega) (by omega), Nat.min_comm]
  have er2 : (if nI (min (Sd - X) (T + 64 - X)) ≤ nI (cr / 8) then nI (min (Sd - X) (T + 64 - X)) else nI (cr / 8)) = nI N := by
    rw [i_mN2 (by omega) (by omega), Nat.min_comm, hN]
  -- the relation, in an order of its own
  obtain ⟨a1, a2, a3⟩ := q_mail he h (S2 := max S (X + N)) (X2 := X + N) eSd hSd (by omega) (by omega) (by omega) (by omega) (nI (min N (S - X)))
  obtain ⟨b1, b2, b3⟩ := q_set_5 he a1 (q := cr - 8 * N) (by omega)
  obtain ⟨d1, d2, d3⟩ := q_send he b1 hj16 (so := 7) (on := r 1 (24 * e + 2)) (tw := nI X) (nn := nI N) (aa := nI G) (fun q => absurd q (by decide)) (fun q => absurd q (by decide)) (fun _ => ⟨X, N, G, by omega, hN3, Nat.le_refl _, rfl, rfl, rfl⟩) (nI (8 * (16 * e + j)))
  obtain ⟨f1, f2, f3⟩ := q_letters he d1 hj16 hN3 (g := fun k => σ 5 (X + k)) (g' := fun k => r 5 (200 * e + X + k)) (fun k hk => by rw [t5 _ (by omega), Nat.add_assoc])
  refine ⟨_, _, max S (X + N), X + N, fun K hK => ?_, fun K hK => ?_, f1, tm_F_tr a2 (tm_F_tr b2 (tm_F_tr d2 f2)), tm_FC_tr a3 (tm_FC_tr b3 (tm_FC_tr d3 f3)), fun k hk => ?_, rfl, ?_⟩
  · unfold wp_X3_speakFrame
    intro x1 e1 s2 e2
    rw [m5, m4, ecr0, ert, ecl] at e1
    rw [e1] at e2
    unfold wp_X2_ready
    intro y1 g1 y2 g2
    have z0 : s2 0 13 = nI cr := by rw [e2]; rfl
    have z4 : tm_pj [4, 5, 6] s2 0 4 = nI T := by rw [e2]; exact m8.trans eT
    have z5 : tm_pj [4, 5, 6] s2 0 5 = nI X := by rw [e2]; exact m7.trans eX
    have z2 : tm_pj [4, 5, 6] s2 0 2 = nI Sd := by rw [e2]; exact m6.trans eSd
    rw [z4, z5, z2, e64, eSX, en1] at g1
    rw [g1, z0, ec8, en2] at g2
    rw [g2]
    intro s4 e4
    rw [tm_pk_pj] at e4
    have y10 : s4 0 10 = r 1 (24 * e + 2) := by rw [e4, e2]; exact m2
    have y5 : s4 4 5 = nI X := by rw [e4, e2]; exact m7.trans eX
    have y3 : s4 4 3 = nI G := by rw [e4, e2]; exact m9.trans eG
    rw [y10, y5, y3]
    have hf2 : (tm_pj [14, 15, 16, 17, 18] s4) 4 ((t + d) % 16) = 0 ∨ (tm_pj [14, 15, 16, 17, 18] s4) 4 ((t + d) % 16) = 1 := by
      have : (tm_pj [14, 15, 16, 17, 18] s4) 4 ((t + d) % 16) = σ 18 j := by rw [hj, e4, e2]; rfl
      rw [this, hfl j hj16]
      exact (hslf j hj16).1
    refine p_sendC hD _ _ _ _ _ _ hf2 _ ?_
    intro s6 e6
    rw [tm_pk_B_3, tm_pk_B_0, tm_pk_B_4, tm_pk_pj, hj] at e6
    refine ⟨N + 1, p_sf64 (X := X) (M := S) hN3 (by omega) hS200 hD (σ 5) (σ 4 6) K N 0 s6 (by omega) ?_ ?_ ?_ ?_ ?_⟩
    · rw [e6, e4, e2]; rfl
    · rw [e6]; exact y5
    · rw [e6, e4, e2, show max S (X + 0) = S by omega]; exact m17.trans eS
    · rw [e6, e4, e2, show min 0 (S - X) = 0 by omega]; exact (Int32.add_zero _).symm
    · have w4 : s6 4 = σ 4 := by rw [e6, e4, e2]; rfl
      have w0 : s6 0 = tm_u (σ 0) 13 (nI cr) := by rw [e6, e4, e2]; rfl
      have w17 : s6 17 = tm_up5 (σ 17) (8 * j) 7 (r 1 (24 * e + 2)) (nI X) (nI N) (nI G) := by rw [e6, e4, e2]; rfl
      have e13 : ∀ v w : Int32, tm_u (tm_u (σ 0) 13 v) 13 w = tm_u (σ 0) 13 w := by
        intro v w; funext q; simp only [tm_u_at]; split <;> rfl
      rw [w4, w0, w17, hj, show tm_u (σ 0) 13 (nI cr) 13 = nI cr from rfl, pk_sub hN8, e13]
      refine cast (congrArg K ?_) hK
      rw [e6, e4, e2]
      funext q
      simp only [tm_s_at]
      by_cases q0 : q = 0
      · simp [q0, tm_s_at]
      · by_cases q17 : q = 17
        · simp [q17, tm_s_at]
        · by_cases q4 : q = 4
          · simp [q4, tm_s_at]
          · by_cases q14 : q = 14
            · simp [q14, tm_s_at, tm_pj_at]
            · by_cases q18 : q = 18
              · simp [q18, tm_s_at, tm_pj_at]
              · simp [q0, q17, q4, q14, q18, tm_s_at]
  · unfold wp_X9_sendsFrame
    rw [p_of_5 he, p_of_4 he, ecr0, ert, p_lesser, ecl2, p_put_5 he, p_of_7 he, p_of_5 he, p_of_6 he, p_of_8 he]
    have x7 : (tm_s r 1 (upd (r 1) (24 * e + 5) (nI cr))) 1 (24 * e + 7) = nI X := by simp [tm_s_at, tm_upd_at, eX]
    have x5 : (tm_s r 1 (upd (r 1) (24 * e + 5) (nI cr))) 1 (24 * e + 5) = nI cr := by simp [tm_s_at, tm_upd_at]
    have x6 : (tm_s r 1 (upd (r 1) (24 * e + 5) (nI cr))) 1 (24 * e + 6) = nI Sd := by simp [tm_s_at, tm_upd_at, eSd]
    have x8 : (tm_s r 1 (upd (r 1) (24 * e + 5) (nI cr))) 1 (24 * e + 8) = nI T := by simp [tm_s_at, tm_upd_at, eT]
    rw [x7, x5, x6, x8, p_lesser, e64, eSX, er1, p_lesser, ec8, er2, p_of_2 he, p_of_9 he]
    have x2 : (tm_s r 1 (upd (r 1) (24 * e + 5) (nI cr))) 1 (24 * e + 2) = r 1 (24 * e + 2) := by simp [tm_s_at, tm_upd_at]
    have x9 : (tm_s r 1 (upd (r 1) (24 * e + 5) (nI cr))) 1 (24 * e + 9) = nI G := by simp [tm_s_at, tm_upd_at, eG]
    rw [x2, x9]
    refine p_sendR (t := t) (d := d) he hD (tm_s r 1 (upd (r 1) (24 * e + 5) (nI cr))) _ _ _ _ _ h12 h08 _ ?_
    rw [hj]
    have x17 : (tm_s r 1 (upd (r 1) (24 * e + 5) (nI cr))) 1 (24 * e + 17) = nI S := by simp [tm_s_at, tm_upd_at, eS]
    refine ⟨N + 1, p_sf94 (X := X) (M := S) (B := 8 * (16 * e + j)) he hN3 (by omega) hS200 (by omega) (r 0 17) (r 5) K N 0 _ (by omega) rfl x17 rfl ?_ ?_⟩
    · rw [show min 0 (S - X) = 0 by omega]; exact (Int32.add_zero _).symm
    · refine cast (congrArg K ?_) hK
      have ecrN : nI cr + (-8) * nI N = nI (cr - 8 * N) := i_cr hN8
      funext q
      by_cases q1 : q = 1
      · subst q1
        simp only [tm_s_at]
        simp only [if_true, if_false, reduceIte, Nat.one_ne_zero]
        funext k
        by_cases k5 : k = 24 * e + 5
        · subst k5; simp [tm_s_at, tm_upd_at, ecrN]
        · by_cases k7 : k = 24 * e + 7
          · subst k7; simp [tm_s_at, tm_upd_at]
          · by_cases k17 : k = 24 * e + 17
            · subst k17; simp [tm_s_at, tm_upd_at]
            · simp [tm_s_at, tm_upd_at, k5, k7, k17]
      · by_cases q0 : q = 0
        · subst q0
          simp only [tm_s_at]
          simp
          funext k
          simp only [tm_u_at]
          by_cases k17 : k = 17
          · simp [k17]
          · by_cases k28 : k = 28
            · simp [k28]
            · simp [k17, k28]
        · by_cases q10 : q = 10
          · simp [q10, tm_s_at]
          · by_cases q11 : q = 11
            · simp [q11, tm_s_at]
            · simp [q1, q0, q10, q11, tm_s_at]
  · show tm_u (σ 0) 13 (nI (cr - 8 * N)) k = _
    rw [tm_u_at, if_neg hk]
  · simp [tm_s_at, tm_upd_at]
