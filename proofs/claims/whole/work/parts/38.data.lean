theorem i_min {a b : Nat} (ha : a ≤ 24) (hb : b ≤ 24) : (if nI a < nI b then nI a else nI b) = nI (min a b) := by
  by_cases c : a < b
  · rw [if_pos ((nI_ltI (by omega) (by omega)).mpr c), Nat.min_eq_left (by omega)]
  · rw [if_neg (fun q => c ((nI_ltI (by omega) (by omega)).mp q)), Nat.min_eq_right (by omega)]
theorem i_min2 {a b : Nat} (ha : a ≤ 24) (hb : b ≤ 24) : (if nI a ≤ nI b then nI a else nI b) = nI (min a b) := by
  by_cases c : a ≤ b
  · rw [if_pos ((nI_leI (by omega) (by omega)).mpr c), Nat.min_eq_left (by omega)]
  · rw [if_neg (fun q => c ((nI_leI (by omega) (by omega)).mp q)), Nat.min_eq_right (by omega)]
theorem s_bargain {e : Nat} (he : e < 2) {c7 c6 : Int32} {u S X T G S' X' T' G' : Nat} {σ r : tm_St} (h : tm_Q e c7 c6 u S X T G S' X' T' G' σ r) (h26 : r 0 26 = 0) (h7 : ¬ σ 0 6 = 7) (hH : tm_H e S' G' (σ 11) r) : ∃ σ' r' : tm_St, (∀ K : tm_St → Prop, K σ' → wp_X3_hearInBargain σ K) ∧ (∀ K : tm_St → Prop, K r' → wp_X9_bargains (nI e) r K) ∧ tm_P e c7 c6 u S S' X' T' G' σ r σ' r' := by
  have l0 : σ 11 0 = r 7 (5 * e) := h.1.2.2.2.2.2.1 0 (by decide)
  have l1 : σ 11 1 = r 7 (5 * e + 1) := h.1.2.2.2.2.2.1 1 (by decide)
  have l2 : σ 11 2 = r 7 (5 * e + 2) := h.1.2.2.2.2.2.1 2 (by decide)
  have l3 : σ 11 3 = r 7 (5 * e + 3) := h.1.2.2.2.2.2.1 3 (by decide)
  have l4 : σ 11 4 = r 7 (5 * e + 4) := h.1.2.2.2.2.2.1 4 (by decide)
  have m0 : σ 0 6 = r 1 (24 * e) := h.1.1.1
  have m2 : σ 0 10 = r 1 (24 * e + 2) := h.1.1.2.2.1
  have m3 : σ 0 11 = r 1 (24 * e + 3) := h.1.1.2.2.2.1
  obtain ⟨og, hog, eog⟩ := h.2.1.2.2.1
  by_cases c : r 7 (5 * e + 1) = r 1 (24 * e + 2)
  · by_cases c5 : r 7 (5 * e) = 5
    · obtain ⟨q, hq, eq⟩ := hH.2.1 (Or.inl c5)
      obtain ⟨σ', r', k1, k2, k3⟩ := s_settle he h (q := min og q) (by omega)
      refine ⟨σ', r', fun K hK => ?_, fun K hK => ?_, k3⟩
      · have := k1 K hK
        unfold wp_X3_hearInBargain
        simpa [-Int32.not_le, -Int32.not_lt, p_isOf, p_second, tm_pk_pj, tm_pj_at, l0, l1, l2, m2, m3, c, c5, eq, eog, i_min hog hq] using this
      · have := k2 K hK
        rw [← i_min2 hog hq] at this
        unfold wp_X9_bargains wp_X9_bargains_20
        by_cases d : nI og ≤ nI q
        · rw [if_pos d] at this
          simpa [-Int32.not_le, -Int32.not_lt, p_ear_0 he, p_ear_1 he, p_ear_2 he, p_of_2 he, p_of_3 he, c, c5, eq, eog, d] using this
        · rw [if_neg d] at this
          simpa [-Int32.not_le, -Int32.not_lt, p_ear_0 he, p_ear_1 he, p_ear_2 he, p_of_2 he, p_of_3 he, c, c5, eq, eog, d] using this
    · by_cases c6' : r 7 (5 * e) = 6
      · obtain ⟨q, hq, eq⟩ := hH.2.1 (Or.inr c6')
        obtain ⟨σ', r', k1, k2, k3⟩ := s_settle he h hq
        refine ⟨σ', r', fun K hK => ?_, fun K hK => ?_, k3⟩
        · have := k1 K hK
          unfold wp_X3_hearInBargain
          simpa [-Int32.not_le, -Int32.not_lt, p_isOf, p_second, tm_pk_pj, tm_pj_at, l0, l1, l2, m2, m3, c, c6', eq] using this
        · have := k2 K hK
          unfold wp_X9_bargains wp_X9_bargains_20
          simpa [-Int32.not_le, -Int32.not_lt, p_ear_0 he, p_ear_1 he, p_ear_2 he, p_of_2 he, p_of_3 he, c, c6', eq] using this
      · obtain ⟨σ', r', k1, k2, k3⟩ := s_great he h h26 h7
        refine ⟨σ', r', fun K hK => ?_, fun K hK => ?_, k3⟩
        · have := k1 K hK
          unfold wp_X3_hearInBargain
          simpa [-Int32.not_le, -Int32.not_lt, p_isOf, p_second, tm_pk_pj, tm_pj_at, l0, l1, l2, m2, m3, c, c5, c6'] using this
        · have := k2 K hK
          unfold wp_X9_bargains wp_X9_bargains_20
          simpa [-Int32.not_le, -Int32.not_lt, p_ear_0 he, p_ear_1 he, p_ear_2 he, p_of_2 he, p_of_3 he, c, c5, c6'] using this
  · obtain ⟨σ', r', k1, k2, k3⟩ := s_great he h h26 h7
    refine ⟨σ', r', fun K hK => ?_, fun K hK => ?_, k3⟩
    · have := k1 K hK
      unfold wp_X3_hearInBargain
      simpa [-Int32.not_le, -Int32.not_lt, p_isOf, p_second, tm_pk_pj, tm_pj_at, l0, l1, l2, m2, m3, c] using this
    · have := k2 K hK
      unfold wp_X9_bargains wp_X9_bargains_20
      by_cases c5 : r 7 (5 * e) = 5
      · simpa [-Int32.not_le, -Int32.not_lt, p_ear_0 he, p_ear_1 he, p_of_2 he, c, c5] using this
      · by_cases c6' : r 7 (5 * e) = 6
        · simpa [-Int32.not_le, -Int32.not_lt, p_ear_0 he, p_ear_1 he, p_of_2 he, c, c6'] using this
        · simpa [-Int32.not_le, -Int32.not_lt, p_ear_0 he, p_ear_1 he, p_of_2 he, c, c5, c6'] using this
theorem s_agree {e : Nat} (he : e < 2) {c7 c6 : Int32} {u S X T G S' X' T' G' : Nat} {σ r : tm_St} (h : tm_Q e c7 c6 u S X T G S' X' T' G' σ r) (h26 : r 0 26 = 0) (h7 : ¬ σ 0 6 = 7) : ∃ σ' r' : tm_St, (∀ K : tm_St → Prop, K σ' → wp_X3_isOfRound 6 σ (fun r27 s28 => ((¬ r27 = 0 → (wp_X3_come 7 s28 (fun s30 => K s30))) ∧ (r27 = 0 → (wp_X3_isOfRound 7 s28 (fun r31 s32 => ((r31 = 0 → (wp_X3_hearGreaterRound  s32 (fun s34 => K s34))) ∧ (¬ r31 = 0 → (wp_X3_come 7 s32 (fun s35 => K s35)))))))))) ∧ (∀ K : tm_St → Prop, K r' → wp_X9_hearsInAgree (nI e) r K) ∧ tm_P e c7 c6 u S S' X' T' G' σ r σ' r' := by
  have l0 : σ 11 0 = r 7 (5 * e) := h.1.2.2.2.2.2.1 0 (by decide)
  have l1 : σ 11 1 = r 7 (5 * e + 1) := h.1.2.2.2.2.2.1 1 (by decide)
  have l2 : σ 11 2 = r 7 (5 * e + 2) := h.1.2.2.2.2.2.1 2 (by decide)
  have l3 : σ 11 3 = r 7 (5 * e + 3) := h.1.2.2.2.2.2.1 3 (by decide)
  have l4 : σ 11 4 = r 7 (5 * e + 4) := h.1.2.2.2.2.2.1 4 (by decide)
  have m0 : σ 0 6 = r 1 (24 * e) := h.1.1.1
  have m2 : σ 0 10 = r 1 (24 * e + 2) := h.1.1.2.2.1
  have m3 : σ 0 11 = r 1 (24 * e + 3) := h.1.1.2.2.2.1
  by_cases c : (r 7 (5 * e) = 6 ∨ r 7 (5 * e) = 7) ∧ r 7 (5 * e + 1) = r 1 (24 * e + 2)
  · refine ⟨tm_come7 σ, tm_into7 e r, fun K hK => ?_, fun K hK => ?_, P_come7 he h h7⟩
    · rcases c with ⟨c6' | c7', c⟩
      · simpa [-Int32.not_le, -Int32.not_lt, p_isOf, l0, l1, m2, c, c6', p_come_7] using hK
      · simpa [-Int32.not_le, -Int32.not_lt, p_isOf, l0, l1, m2, c, c7', p_come_7] using hK
    · unfold wp_X9_hearsInAgree
      rcases c with ⟨c6' | c7', c⟩
      · simpa [-Int32.not_le, -Int32.not_lt, p_ear_0 he, p_ear_1 he, p_of_2 he, c, c6', p_into_7 he] using hK
      · simpa [-Int32.not_le, -Int32.not_lt, p_ear_0 he, p_ear_1 he, p_of_2 he, c, c7', p_into_7 he] using hK
  · obtain ⟨σ', r', k1, k2, k3⟩ := s_great he h h26 h7
    refine ⟨σ', r', fun K hK => ?_, fun K hK => ?_, k3⟩
    · have := k1 K hK
      by_cases d : r 7 (5 * e + 1) = r 1 (24 * e + 2)
      · have d6 : ¬ r 7 (5 * e) = 6 := fun q => c ⟨Or.inl q, d⟩
        have d7 : ¬ r 7 (5 * e) = 7 := fun q => c ⟨Or.inr q, d⟩
        simpa [-Int32.not_le, -Int32.not_lt, p_isOf, l0, l1, m2, d, d6, d7] using this
      · simpa [-Int32.not_le, -Int32.not_lt, p_isOf, l0, l1, m2, d] using this
    · have := k2 K hK
      unfold wp_X9_hearsInAgree
      by_cases d : r 7 (5 * e + 1) = r 1 (24 * e + 2)
      · have d6 : ¬ r 7 (5 * e) = 6 := fun q => c ⟨Or.inl q, d⟩
        have d7 : ¬ r 7 (5 * e) = 7 := fun q => c ⟨Or.inr q, d⟩
        simpa [-Int32.not_le, -Int32.not_lt, p_ear_0 he, p_ear_1 he, p_of_2 he, d, d6, d7] using this
      · by_cases d6 : r 7 (5 * e) = 6
        · simpa [-Int32.not_le, -Int32.not_lt, p_ear_0 he, p_ear_1 he, p_of_2 he, d, d6] using this
        · by_cases d7 : r 7 (5 * e) = 7
          · simpa [-Int32.not_le, -Int32.not_lt, p_ear_0 he, p_ear_1 he, p_of_2 he, d, d7] using this
          · simpa [-Int32.not_le, -Int32.not_lt, p_ear_0 he, p_ear_1 he, p_of_2 he, d, d6, d7] using this
/-- what DATA first does with what it heard: LOSSES in both, SILENT and grew in the reference -/
def tm_d0 (v : Int32) (σ : tm_St) : tm_St := tm_s σ 0 (tm_u (σ 0) 16 v)
def tm_d1 (e : Nat) (v w : Int32) (r : tm_St) : tm_St := tm_s (tm_s (tm_s r 1 (upd (r 1) (24 * e + 15) v)) 1 (upd ((tm_s r 1 (upd (r 1) (24 * e + 15) v)) 1) (24 * e + 16) w)) 0 (tm_u (r 0) 27 0)
theorem i_255 (x : Int32) : ∃ b : Nat, b < 256 ∧ x &&& 255 = nI b := pk_andE x (m := 255) 8 (by decide)
theorem q_d {e : Nat} (he : e < 2) {c7 c6 : Int32} {u S X T G S' X' T' G' : Nat} {σ r : tm_St} (h : tm_Q e c7 c6 u S X T G S' X' T' G' σ r) {b : Nat} (hb : b < 256) (w : Int32) : tm_Q e c7 c6 u S X T G S' X' T' G' (tm_d0 (nI b) σ) (tm_d1 e (nI b) w r) ∧ tm_F e r (tm_d1 e (nI b) w r) ∧ tm_FC σ (tm_d0 (nI b) σ) := by
  obtain ⟨a1, a2, a3⟩ := q_set_15 he h hb
  obtain ⟨b1, b2⟩ := q_sil he a1 w
  obtain ⟨d1, d2⟩ := q_flag_27 he b1 0
  exact ⟨d1, tm_F_tr a2 (tm_F_tr b2 d2), a3⟩
theorem s_data {e : Nat} (he : e < 2) {c7 c6 : Int32} {u S X T G S' X' T' G' : Nat} {σ r : tm_St} (h : tm_Q e c7 c6 u S X T G S' X' T' G' σ r) (h26 : r 0 26 = 0) (hq : σ 0 9 = r 1 (24 * e + 16)) (hp : σ 0 6 = 7) (hH : tm_H e S' G' (σ 11) r) : ∃ σ' r' : tm_St, (∀ K : tm_St → Prop, K σ' → wp_X3_hearInData σ K) ∧ (∀ K : tm_St → Prop, K r' → wp_X9_hearsInData (nI e) r K) ∧ tm_P e c7 c6 u S S' X' T' G' σ r σ' r' := by
  have l0 : σ 11 0 = r 7 (5 * e) := h.1.2.2.2.2.2.1 0 (by decide)
  have l1 : σ 11 1 = r 7 (5 * e + 1) := h.1.2.2.2.2.2.1 1 (by decide)
  have l2 : σ 11 2 = r 7 (5 * e + 2) := h.1.2.2.2.2.2.1 2 (by decide)
  have l3 : σ 11 3 = r 7 (5 * e + 3) := h.1.2.2.2.2.2.1 3 (by decide)
  have l4 : σ 11 4 = r 7 (5 * e + 4) := h.1.2.2.2.2.2.1 4 (by decide)
  have m0 : σ 0 6 = r 1 (24 * e) := h.1.1.1
  have m2 : σ 0 10 = r 1 (24 * e + 2) := h.1.1.2.2.1
  have m3 : σ 0 11 = r 1 (24 * e + 3) := h.1.1.2.2.2.1
  have m15 : σ 0 16 = r 1 (24 * e + 15) := h.1.1.2.2.2.2.2.2.2.2.2.2.2.2.2.2.2.1
  obtain ⟨b, hb, eb⟩ := i_255 (2 * r 1 (24 * e + 15) + (if r 7 (5 * e) = 0 then 1 else 0))
  have hd := q_d he h hb (if r 7 (5 * e) = 0 then r 1 (24 * e + 16) + 1 else 0)
  -- the rest of the step, from behind the first stores on
  have main : ∃ σ' r' : tm_St, (∀ K : tm_St → Prop, K σ' → wp_X3_isOfRound 7 (tm_d0 (nI b) σ) (fun r6 s7 => ((r6 = 0 → (wp_X3_hearGreaterRound  s7 (fun s9 => K s9))) ∧ (¬ r6 = 0 → (wp_X2_take  (tm_pj [4, 5, 6, 9, 10, 11, 12, 13] s7) (fun u11 => ∀ s10 : tm_St, s10 = tm_pk [4, 5, 6, 9, 10, 11, 12, 13] s7 u11 → K s10)))))) ∧ (∀ K : tm_St → Prop, K r' → wp_X9_hearsOffer (nI e) (tm_d1 e (nI b) (if r 7 (5 * e) = 0 then r 1 (24 * e + 16) + 1 else 0) r) (fun s12 => ((¬ (s12 0 26) = 0 → K s12) ∧ ((s12 0 26) = 0 → (wp_X9_ear (nI e) 0 s12 (fun r14 s15 => ((¬ r14 = 7 → K s15) ∧ (r14 = 7 → (wp_X9_ear (nI e) 1 s15 (fun r17 s18 => (wp_X9_of (nI e) 2 s18 (fun r19 s20 => ((¬ r17 = r19 → K s20) ∧ (r17 = r19 → (wp_X9_takesFrame (nI e) s20 (fun s22 => K s22)))))))))))))))) ∧ tm_P e c7 c6 u S S' X' T' G' σ r σ' r' := by
    generalize hσ1 : tm_d0 (nI b) σ = σ1 at hd ⊢
    generalize hr1 : tm_d1 e (nI b) (if r 7 (5 * e) = 0 then r 1 (24 * e + 16) + 1 else 0) r = r1 at hd ⊢
    obtain ⟨d1, d2, d3⟩ := hd
    have f11 : σ1 11 = σ 11 := by rw [← hσ1]; rfl
    have f4 : σ1 4 = σ 4 := by rw [← hσ1]; rfl
    have f09 : σ1 0 9 = σ 0 9 := by rw [← hσ1]; rfl
    have f07 : σ1 0 7 = σ 0 7 := by rw [← hσ1]; rfl
    have f010 : σ1 0 10 = σ 0 10 := by rw [← hσ1]; rfl
    have g7 : r1 7 = r 7 := by rw [← hr1]; rfl
    have g17 : r1 17 = r 17 := by rw [← hr1]; rfl
    have g26 : r1 0 26 = 0 := by rw [← hr1]; exact h26
    have g27 : r1 0 27 = 0 := by rw [← hr1]; rfl
    have g2 : r1 1 (24 * e + 2) = r 1 (24 * e + 2) := by rw [← hr1]; simp [tm_d1, tm_s_at, tm_upd_at]
    have g16 : r1 1 (24 * e + 16) = (if σ 0 6 = 7 ∧ σ 11 0 = 0 then σ 0 9 + 1 else 0) := by
      rw [← hr1, l0, hq]; simp [tm_d1, tm_s_at, tm_upd_at, hp]
    have g8 : r1 1 (24 * e + 8) = nI T := d1.2.1.2.2.2.2.2.2.2.2.1
    have g9 : r1 1 (24 * e + 9) = nI G := d1.2.1.2.2.2.2.2.2.2.2.2.1
    have k8 : σ1 4 4 = nI T := d1.1.1.2.2.2.2.2.2.2.2.1.trans g8
    have k9 : σ1 4 3 = nI G := d1.1.1.2.2.2.2.2.2.2.2.2.1.trans g9
    by_cases c7' : r 7 (5 * e) = 7
    · by_cases c : r 7 (5 * e + 1) = r 1 (24 * e + 2)
      · obtain ⟨Pn, N, A, hPN, hN, hA, eP, eN, eA, hlet⟩ := hH.2.2 c7'
        have hS' : S' ≤ 200 := h.2.2.1.2.2.2.2.2.2.2.2.2.2.2.1
        have hS : S ≤ 200 := h.2.1.2.2.2.2.2.2.2.2.2.2.2.1
        have hGS' : G ≤ S' := h.2.2.2.1.2.2.2
        have hTG' : T ≤ G' := h.2.2.2.1.1
        have hG'S : G' ≤ S := h.2.2.2.1.2.1
        have n1 : (if r1 7 (5 * e) = 5 ∧ ¬ r1 7 (5 * e + 1) ≤ r1 1 (24 * e + 2) then False else True) := by rw [g7, c7']; simp
        -- the letters
        have st1 : ∃ σ2 r2 : tm_St, ∃ G2 : Nat, tm_Q e c7 c6 u S X T G2 S' X' T' G' σ2 r2 ∧ tm_F e r1 r2 ∧ tm_FC σ1 σ2 ∧ σ2 0 = σ1 0 ∧ σ2 11 = σ1 11 ∧ σ2 4 4 = σ1 4 4 ∧ r2 0 = r1 0 ∧ (∀ k, ¬ k = 24 * e + 9 → r2 1 k = r1 1 k) ∧ r2 7 = r1 7 ∧
            (∀ K : tm_St → Prop, K (tm_s σ2 4 (tm_u (σ2 4) 4 (if nI T < nI A then nI A else nI T))) → wp_X2_take (tm_pj [4, 5, 6, 9, 10, 11, 12, 13] σ1) (fun u11 => ∀ s10 : tm_St, s10 = tm_pk [4, 5, 6, 9, 10, 11, 12, 13] σ1 u11 → K s10)) ∧
            (∀ K : tm_St → Prop, K (if nI A ≤ nI T then r2 else tm_s (tm_s r2 1 (upd (r2 1) (24 * e + 8) (nI A))) 0 (tm_u (r2 0) 27 1)) → wp_X9_takesFrame (nI e) r1 K) := by
          have q3 : σ1 11 3 = nI N := by rw [f11, l3, eN]
          have q2 : σ1 11 2 = nI Pn := by rw [f11, l2, eP]
          have q4 : σ1 11 4 = nI A := by rw [f11, l4, eA]
          by_cases cP : Pn = G
          · obtain ⟨t1, t2, t3⟩ := q_take he d1 hN (by omega) (fun k hk => by rw [f11, g17]; exact hlet k hk)
            refine ⟨_, _, G + N, t1, t2, t3, rfl, rfl, rfl, rfl, fun k hk => ?_, rfl, fun K hK => ?_, fun K hK => ?_⟩
            · show upd (r1 1) (24 * e + 9) (nI (G + N)) k = _
              rw [tm_upd_at, if_neg hk]
            · refine p_take (N := N) (G := G) (P := Pn) hN (fun _ => by omega) (by omega) _ q3 k9 q2 (by omega) _ ?_
              rw [if_pos cP]
              intro s10 e10
              rw [e10, tm_pk_T_0, tm_pk_T_2, tm_pk_pj]
              have e1 : (tm_pj [4, 5, 6, 9, 10, 11, 12, 13] σ1 0 4) = nI T := k8
              have e2 : (tm_pj [4, 5, 6, 9, 10, 11, 12, 13] σ1 5 4) = nI A := q4
              rw [e1, e2]
              rw [tm_s_ss] at hK
              exact hK
            · refine p_frame (N := N) (G := G) (P := Pn) he hN (fun _ => by omega) (by omega) (by omega) r1 g9 (by rw [g7, eP]) (by rw [g7, eN]) K ?_
              rw [if_pos cP, g7, eA, g8]
              by_cases cA : nI A ≤ nI T
              · rw [if_pos cA] at hK ⊢; exact hK
              · rw [if_neg cA] at hK ⊢
                rw [tm_s_ss] at hK
                exact hK
          · refine ⟨σ1, r1, G, d1, tm_F_rf e r1, tm_FC_rf σ1, rfl, rfl, rfl, rfl, fun _ _ => rfl, rfl, fun K hK => ?_, fun K hK => ?_⟩
            · refine p_take (N := N) (G := G) (P := Pn) hN (fun _ => by omega) (by omega) _ q3 k9 q2 (by omega) _ ?_
              rw [if_neg cP]
              intro s10 e10
              rw [e10, tm_pk_T_0, tm_pk_pj]
              have e1 : (tm_pj [4, 5, 6, 9, 10, 11, 12, 13] σ1 0 4) = nI T := k8
              have e2 : (tm_pj [4, 5, 6, 9, 10, 11, 12, 13] σ1 5 4) = nI A := q4
              rw [e1, e2]
              exact hK
            · refine p_frame (N := N) (G := G) (P := Pn) he hN (fun _ => by omega) (by omega) (by omega) r1 g9 (by rw [g7, eP]) (by rw [g7, eN]) K ?_
              rw [if_neg cP, g7, eA, g8]
              exact hK
        obtain ⟨σ2, r2, G2, t1, t2, t3, t4, t5, t6, t7, t8, t9, t10, t11⟩ := st1
        have gate : ∀ K : tm_St → Prop, wp_X9_takesFrame (nI e) r1 K → wp_X9_hearsOffer (nI e) r1 (fun s12 => ((¬ (s12 0 26) = 0 → K s12) ∧ ((s12 0 26) = 0 → (wp_X9_ear (nI e) 0 s12 (fun r14 s15 => ((¬ r14 = 7 → K s15) ∧ (r14 = 7 → (wp_X9_ear (nI e) 1 s15 (fun r17 s18 => (wp_X9_of (nI e) 2 s18 (fun r19 s20 => ((¬ r17 = r19 → K s20) ∧ (r17 = r19 → (wp_X9_takesFrame (nI e) s20 (fun s22 => K s22))))))))))))))) := by
          intro K hK
          rw [p_offer he, g7, c7', if_neg (fun q => absurd q.1 (by decide))]
          refine ⟨fun q => absurd g26 q, fun _ => ?_⟩
          rw [p_ear_0 he, g7]
          refine ⟨fun q => absurd c7' q, fun _ => ?_⟩
          rw [p_ear_1 he, p_of_2 he, g7, g2]
          exact ⟨fun q => absurd c q, fun _ => hK⟩
        have gateC : ∀ K : tm_St → Prop, (wp_X2_take  (tm_pj [4, 5, 6, 9, 10, 11, 12, 13] σ1) (fun u11 => ∀ s10 : tm_St, s10 = tm_pk [4, 5, 6, 9, 10, 11, 12, 13] σ1 u11 → K s10)) → wp_X3_isOfRound 7 σ1 (fun r6 s7 => ((r6 = 0 → (wp_X3_hearGreaterRound  s7 (fun s9 => K s9))) ∧ (¬ r6 = 0 → (wp_X2_take  (tm_pj [4, 5, 6, 9, 10, 11, 12, 13] s7) (fun u11 => ∀ s10 : tm_St, s10 = tm_pk [4, 5, 6, 9, 10, 11, 12, 13] s7 u11 → K s10))))) := by
          intro K hK
          rw [p_isOf, f11, f010, l0, l1, m2, if_pos ⟨c7', c⟩]
          exact ⟨fun q => absurd q (by decide), fun _ => hK⟩
        by_cases cA : A ≤ T
        · have cA1 : nI A ≤ nI T := nI_le cA (by omega)
          have cA2 : ¬ nI T < nI A := nI_nlt cA (by omega)
          refine ⟨σ2, r2, fun K hK => gateC K (t10 K ?_), fun K hK => gate K (t11 K ?_), ⟨X, T, G2, t1⟩, tm_F_tr d2 t2, tm_FC_tr d3 t3, ?_, ?_, Or.inl ⟨?_, ?_⟩, fun _ => ?_, fun _ _ => ?_⟩
          · rw [if_neg cA2, tm_u_idv _ _ _ (by rw [t6, k8]), tm_s_id]; exact hK
          · rw [if_pos cA1]; exact hK
          · rw [t4, f09]
          · rw [t5, f11]
          · rw [t7, g26]
          · rw [t4, f07]
          · rw [t8 _ (by omega), g16]
          · rw [t7, g27, t6, f4]
            exact ⟨fun _ => Int32.le_refl _, fun _ => rfl⟩
        · have cA1 : ¬ nI A ≤ nI T := nI_ge (by omega) (by omega)
          have cA2 : nI T < nI A := nI_lt (by omega) (by omega)
          obtain ⟨v1, v2, v3⟩ := q_set_8 he t1 (q := A) (by omega) hA
          obtain ⟨w1, w2⟩ := q_flag_27 he v1 1
          refine ⟨_, _, fun K hK => gateC K (t10 K ?_), fun K hK => gate K (t11 K ?_), ⟨X, A, G2, w1⟩, tm_F_tr d2 (tm_F_tr t2 (tm_F_tr v2 w2)), tm_FC_tr d3 (tm_FC_tr t3 v3), ?_, ?_, Or.inl ⟨?_, ?_⟩, fun _ => ?_, fun _ _ => ?_⟩
          · rw [if_pos cA2]; exact hK
          · rw [if_neg cA1]; exact hK
          · show σ2 0 9 = _
            rw [t4, f09]
          · show σ2 11 = _
            rw [t5, f11]
          · show r2 0 26 = 0
            rw [t7, g26]
          · show σ2 0 7 = _
            rw [t4, f07]
          · show upd (r2 1) (24 * e + 8) (nI A) (24 * e + 16) = _
            rw [tm_upd_at, if_neg (by omega), t8 _ (by omega), g16]
          · have ek : σ 4 4 = nI T := by rw [← f4]; exact k8
            show (1 : Int32) = 0 ↔ nI A ≤ σ 4 4
            rw [ek]
            exact ⟨fun q => absurd q (by decide), fun q => absurd q cA1⟩
      · -- a frame of another round
        refine ⟨σ1, r1, fun K hK => ?_, fun K hK => ?_, ⟨X, T, G, d1⟩, d2, d3, f09, f11, Or.inl ⟨g26, f07⟩, fun _ => g16, fun _ _ => ?_⟩
        · rw [p_isOf, f11, f010, l0, l1, m2, if_neg (fun q => c q.2)]
          refine ⟨fun _ => ?_, fun q => absurd rfl q⟩
          rw [p_great, f11, l0, c7', if_neg (fun q => absurd q.1 (by decide))]
          exact hK
        · rw [p_offer he, g7, c7', if_neg (fun q => absurd q.1 (by decide))]
          refine ⟨fun q => absurd g26 q, fun _ => ?_⟩
          rw [p_ear_0 he, g7]
          refine ⟨fun q => absurd c7' q, fun _ => ?_⟩
          rw [p_ear_1 he, p_of_2 he, g7, g2]
          exact ⟨fun _ => hK, fun q => absurd q c⟩
        · rw [g27, f4]; exact ⟨fun _ => Int32.le_refl _, fun _ => rfl⟩
    · by_cases c5 : r 7 (5 * e) = 5 ∧ ¬ r 7 (5 * e + 1) ≤ r 1 (24 * e + 2)
      · have hs := q_set_2 he d1 (r 7 (5 * e + 1))
        refine ⟨tm_come 5 (tm_s σ1 0 (tm_u (σ1 0) 10 (r 7 (5 * e + 1)))), tm_into e 5 (tm_s r1 1 (upd (r1 1) (24 * e + 2) (r 7 (5 * e + 1)))), fun K hK => ?_, fun K hK => ?_, P_come (p := 5) he ⟨hs.1, tm_F_tr d2 hs.2.1, tm_FC_tr d3 hs.2.2⟩ f09 f11 f07 (by decide) (by decide)⟩
        · rw [p_isOf, f11, l0, if_neg (fun q => c7' q.1)]
          refine ⟨fun _ => ?_, fun q => absurd rfl q⟩
          rw [p_great, f11, f010, l0, l1, m2, if_pos c5]
          exact hK
        · rw [p_offer he, g7, g2, if_pos c5]
          exact ⟨fun _ => hK, fun q => absurd (show (1 : Int32) = 0 from q) (by decide)⟩
      · refine ⟨σ1, r1, fun K hK => ?_, fun K hK => ?_, ⟨X, T, G, d1⟩, d2, d3, f09, f11, Or.inl ⟨g26, f07⟩, fun _ => g16, fun _ _ => ?_⟩
        · rw [p_isOf, f11, l0, if_neg (fun q => c7' q.1)]
          refine ⟨fun _ => ?_, fun q => absurd rfl q⟩
          rw [p_great, f11, f010, l0, l1, m2, if_neg c5]
          exact hK
        · rw [p_offer he, g7, g2, if_neg c5]
          refine ⟨fun q => absurd g26 q, fun _ => ?_⟩
          rw [p_ear_0 he, g7]
          exact ⟨fun _ => hK, fun q => absurd q c7'⟩
        · rw [g27, f4]; exact ⟨fun _ => Int32.le_refl _, fun _ => rfl⟩
  obtain ⟨σ', r', k1, k2, k3⟩ := main
  refine ⟨σ', r', fun K hK => ?_, fun K hK => ?_, k3⟩
  · have := k1 K hK
    unfold wp_X3_hearInData
    rw [p_sortA, l0]
    by_cases c0 : r 7 (5 * e) = 0
    · refine ⟨fun q => absurd c0 q, fun _ s12 e12 => ?_⟩
      rw [if_pos c0] at eb
      rw [m15, eb] at e12
      rw [e12]
      exact this
    · refine ⟨fun _ s12 e12 => ?_, fun q => absurd q c0⟩
      rw [if_neg c0] at eb
      rw [m15, eb] at e12
      rw [e12]
      exact this
  · have := k2 K hK
    unfold wp_X9_hearsInData wp_X9_hearsInData_61
    rw [p_of_15 he, p_ear_0 he]
    by_cases c0 : r 7 (5 * e) = 0
    · rw [if_pos c0] at eb this
      refine ⟨fun q => absurd c0 q, fun _ => ?_⟩
      rw [p_put_15 he, eb, p_ear_0 he]
      refine ⟨fun q => absurd c0 q, fun _ => ?_⟩
      rw [p_of_16 he, p_put_16 he]
      intro s11 e11
      rw [e11]
      simpa [tm_d1, tm_s_at, tm_upd_at] using this
    · rw [if_neg c0] at eb this
      refine ⟨fun _ => ?_, fun q => absurd q c0⟩
      rw [p_put_15 he, eb, p_ear_0 he]
      refine ⟨fun _ => ?_, fun q => absurd q c0⟩
      rw [p_put_16 he]
      intro s11 e11
      rw [e11]
      simpa [tm_d1, tm_s_at, tm_upd_at] using this
