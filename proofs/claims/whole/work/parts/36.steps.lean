theorem p_sortA (σ : tm_St) (X : Int32 → tm_St → Prop) : wp_X7_sort (tm_pj [9, 10, 11, 12, 13] σ) (fun r1 u3 => ∀ s2 : tm_St, s2 = tm_pk [9, 10, 11, 12, 13] σ u3 → X r1 s2) ↔ X (σ 11 0) σ := by
  rw [p_sort, tm_pk_pj]
  exact ⟨fun h => h _ rfl, fun h s e => e ▸ h⟩
theorem p_firstA (σ : tm_St) (X : Int32 → tm_St → Prop) : wp_X7_first (tm_pj [9, 10, 11, 12, 13] σ) (fun r1 u3 => ∀ s2 : tm_St, s2 = tm_pk [9, 10, 11, 12, 13] σ u3 → X r1 s2) ↔ X (σ 11 1) σ := by
  rw [p_first, tm_pk_pj]
  exact ⟨fun h => h _ rfl, fun h s e => e ▸ h⟩
theorem p_secondA (σ : tm_St) (X : Int32 → tm_St → Prop) : wp_X7_second (tm_pj [9, 10, 11, 12, 13] σ) (fun r1 u3 => ∀ s2 : tm_St, s2 = tm_pk [9, 10, 11, 12, 13] σ u3 → X r1 s2) ↔ X (σ 11 2) σ := by
  rw [p_second, tm_pk_pj]
  exact ⟨fun h => h _ rfl, fun h s e => e ▸ h⟩
theorem p_lettersA (σ : tm_St) (X : Int32 → tm_St → Prop) : wp_X7_letters (tm_pj [9, 10, 11, 12, 13] σ) (fun r1 u3 => ∀ s2 : tm_St, s2 = tm_pk [9, 10, 11, 12, 13] σ u3 → X r1 s2) ↔ X (σ 11 3) σ := by
  rw [p_letters, tm_pk_pj]
  exact ⟨fun h => h _ rfl, fun h s e => e ▸ h⟩
theorem p_toldA (σ : tm_St) (X : Int32 → tm_St → Prop) : wp_X7_told (tm_pj [9, 10, 11, 12, 13] σ) (fun r1 u3 => ∀ s2 : tm_St, s2 = tm_pk [9, 10, 11, 12, 13] σ u3 → X r1 s2) ↔ X (σ 11 4) σ := by
  rw [p_told, tm_pk_pj]
  exact ⟨fun h => h _ rfl, fun h s e => e ▸ h⟩
theorem p_isOf (p : Int32) (σ : tm_St) (K : Int32 → tm_St → Prop) : wp_X3_isOfRound p σ K ↔ K (if σ 11 0 = p ∧ σ 11 1 = σ 0 10 then 1 else 0) σ := by
  unfold wp_X3_isOfRound
  rw [p_sortA]
  by_cases h1 : σ 11 0 = p
  · by_cases h2 : σ 11 1 = σ 0 10
    · simp [-Int32.not_le, -Int32.not_lt, h1, h2, p_first, tm_pk_pj, tm_pj_at]
    · simp [-Int32.not_le, -Int32.not_lt, h1, h2, p_first, tm_pk_pj, tm_pj_at]
  · simp [h1]
theorem p_great (σ : tm_St) (K : tm_St → Prop) : wp_X3_hearGreaterRound σ K ↔ (if σ 11 0 = 5 ∧ ¬ σ 11 1 ≤ σ 0 10 then K (tm_come 5 (tm_s σ 0 (tm_u (σ 0) 10 (σ 11 1)))) else K σ) := by
  unfold wp_X3_hearGreaterRound
  rw [p_sortA]
  by_cases h1 : σ 11 0 = 5
  · by_cases h2 : σ 11 1 ≤ σ 0 10
    · simp [-Int32.not_le, -Int32.not_lt, h1, h2, p_first, tm_pk_pj, tm_pj_at]
    · simp [-Int32.not_le, -Int32.not_lt, h1, h2, p_first, tm_pk_pj, tm_pj_at, p_come_o 5 (by decide) (by decide) (by decide)]
  · simp [h1]
theorem p_offer {e : Nat} (he : e < 2) (r : tm_St) (K : tm_St → Prop) : wp_X9_hearsOffer (nI e) r K ↔ (if r 7 (5 * e) = 5 ∧ ¬ r 7 (5 * e + 1) ≤ r 1 (24 * e + 2) then K (tm_into e 5 (tm_s r 1 (upd (r 1) (24 * e + 2) (r 7 (5 * e + 1))))) else K r) := by
  unfold wp_X9_hearsOffer
  rw [p_ear_0 he]
  by_cases h1 : r 7 (5 * e) = 5
  · by_cases h2 : r 7 (5 * e + 1) ≤ r 1 (24 * e + 2)
    · simp [-Int32.not_le, -Int32.not_lt, h1, h2, p_ear_1 he, p_of_2 he]
    · simp [-Int32.not_le, -Int32.not_lt, h1, h2, p_ear_1 he, p_of_2 he, p_put_2 he, p_into_o he 5 (by decide) (by decide) (by decide)]
  · simp [h1]
/-- what a step of END e gives: the relation again, and what is left alone -/
def tm_P (e : Nat) (c7 c6 : Int32) (u S S' X' T' G' : Nat) (σ r σ' r' : tm_St) : Prop :=
  (∃ X T G, tm_Q e c7 c6 u S X T G S' X' T' G' σ' r') ∧ tm_F e r r' ∧ tm_FC σ σ' ∧ σ' 0 9 = σ 0 9 ∧ σ' 11 = σ 11 ∧ ((r' 0 26 = 0 ∧ σ' 0 7 = σ 0 7) ∨ (r' 0 26 = 1 ∧ σ' 0 7 = σ 0 7 + 1)) ∧ (σ' 0 6 = 7 → r' 1 (24 * e + 16) = (if σ 0 6 = 7 ∧ σ 11 0 = 0 then σ 0 9 + 1 else 0)) ∧ (σ' 0 6 = 7 → r' 0 26 = 0 → (r' 0 27 = 0 ↔ σ' 4 4 ≤ σ 4 4))
theorem P_none {e : Nat} {c7 c6 : Int32} {u S X T G S' X' T' G' : Nat} {σ r : tm_St} (h : tm_Q e c7 c6 u S X T G S' X' T' G' σ r) (h26 : r 0 26 = 0) (h7 : ¬ σ 0 6 = 7) : tm_P e c7 c6 u S S' X' T' G' σ r σ r :=
  ⟨⟨X, T, G, h⟩, tm_F_rf e r, tm_FC_rf σ, rfl, rfl, Or.inl ⟨h26, rfl⟩, fun q => absurd q h7, fun q => absurd q h7⟩
/-- to come into a phase that isn't DATA, after a store or two of one field -/
theorem P_come {e : Nat} (he : e < 2) {c7 c6 : Int32} {u S X T G S' X' T' G' : Nat} {σ r σ1 r1 : tm_St} (h1 : tm_Q e c7 c6 u S X T G S' X' T' G' σ1 r1 ∧ tm_F e r r1 ∧ tm_FC σ σ1) (a9 : σ1 0 9 = σ 0 9) (a11 : σ1 11 = σ 11) (a7 : σ1 0 7 = σ 0 7) {p : Nat} (hp : p ≤ 7) (h7 : ¬ nI p = 7) : tm_P e c7 c6 u S S' X' T' G' σ r (tm_come (nI p) σ1) (tm_into e (nI p) r1) := by
  obtain ⟨q1, q2, q3⟩ := q_come_o he h1.1 hp
  refine ⟨⟨X, T, G, q1⟩, tm_F_tr h1.2.1 q2, tm_FC_tr h1.2.2 q3, a9, a11, Or.inr ⟨rfl, ?_⟩, fun q => absurd q h7, fun q => absurd q h7⟩
  show σ1 0 7 + 1 = _
  rw [a7]
theorem P_come3 {e : Nat} (he : e < 2) {c7 c6 : Int32} {u S X T G S' X' T' G' : Nat} {σ r : tm_St} (h : tm_Q e c7 c6 u S X T G S' X' T' G' σ r) : tm_P e c7 c6 u S S' X' T' G' σ r (tm_s (tm_come 3 σ) 7 (tm_fl (σ 7) 0 8)) (tm_s (tm_into e 3 r) 2 (tm_fl (r 2) (8 * e) (8 * e + 8))) := by
  obtain ⟨q1, q2, q3⟩ := q_come_3 he h
  exact ⟨⟨X, T, G, q1⟩, q2, q3, rfl, rfl, Or.inr ⟨rfl, rfl⟩, fun q => absurd (show (3 : Int32) = 7 from q) (by decide), fun q => absurd (show (3 : Int32) = 7 from q) (by decide)⟩
theorem P_come7 {e : Nat} (he : e < 2) {c7 c6 : Int32} {u S X T G S' X' T' G' : Nat} {σ r : tm_St} (h : tm_Q e c7 c6 u S X T G S' X' T' G' σ r) (h7 : ¬ σ 0 6 = 7) : tm_P e c7 c6 u S S' X' T' G' σ r (tm_come7 σ) (tm_into7 e r) := by
  obtain ⟨q1, q2, q3⟩ := q_come_7 he h
  refine ⟨⟨T, T, G, q1⟩, q2, q3, rfl, rfl, Or.inr ⟨rfl, rfl⟩, fun _ => ?_, fun _ q => absurd (show (1 : Int32) = 0 from q) (by decide)⟩
  rw [if_neg (fun q => h7 q.1)]
  simp [tm_into7, tm_s_at, tm_upd_at]
/-- after a step, another store that touches nothing of the rest -/
theorem P_note {e : Nat} (he : e < 2) {c7 c6 : Int32} {u S S' X' T' G' : Nat} {σ r σ1 r1 : tm_St} (h : tm_P e c7 c6 u S S' X' T' G' σ r σ1 r1) {b : Nat} (hb : b < 8) : tm_P e c7 c6 u S S' X' T' G' σ r (tm_s σ1 7 (upd (σ1 7) b (σ1 10 b))) (tm_s r1 2 (upd (r1 2) (8 * e + b) (r1 8 (8 * (1 - e) + b)))) := by
  obtain ⟨⟨X, T, G, h1⟩, h2, h3, h4, h5, h6, h7, h8⟩ := h
  obtain ⟨q1, q2, q3⟩ := q_note he h1 hb
  exact ⟨⟨X, T, G, q1⟩, tm_F_tr h2 q2, tm_FC_tr h3 q3, h4, h5, h6, h7, h8⟩
theorem p_noteC {b : Nat} (hb : b < 8) (σ : tm_St) (K : tm_St → Prop) : wp_X3_note (nI b) σ K ↔ K (tm_s σ 7 (upd (σ 7) b (σ 10 b))) := by
  unfold wp_X3_note
  have h1 : ¬ nI b < 0 := nI_pos (by omega)
  have h2 : ¬ (8 : Int32) ≤ nI b := nI_ge (b := 8) (by omega) (by decide)
  have h3 : vp_in (nI b) 8 := vp_in_nI (by omega) (by decide)
  simp [h1, h2, h3, nI_clamp (show b < 2 ^ 31 by omega)]
theorem p_noteR {e : Nat} (he : e < 2) {b : Nat} (hb : b < 8) (r : tm_St) (hr : r 7 (5 * e + 1) = nI b) (K : tm_St → Prop) : wp_X9_note (nI e) r K ↔ K (tm_s r 2 (upd (r 2) (8 * e + b) (r 8 (8 * (1 - e) + b)))) := by
  unfold wp_X9_note
  rw [p_ear_1 he, p_ear_1 he, hr, p_1m he, p_8, p_8, nI_clamp (by omega), nI_clamp (by omega)]
  exact ⟨fun h => h.2.2 _ rfl, fun h => ⟨vp_in_nI (by omega) (by decide), vp_in_nI (by omega) (by decide), fun s q => q ▸ h⟩⟩
theorem s_great {e : Nat} (he : e < 2) {c7 c6 : Int32} {u S X T G S' X' T' G' : Nat} {σ r : tm_St} (h : tm_Q e c7 c6 u S X T G S' X' T' G' σ r) (h26 : r 0 26 = 0) (h7 : ¬ σ 0 6 = 7) : ∃ σ' r' : tm_St, (∀ K : tm_St → Prop, K σ' → wp_X3_hearGreaterRound σ K) ∧ (∀ K : tm_St → Prop, K r' → wp_X9_hearsOffer (nI e) r K) ∧ tm_P e c7 c6 u S S' X' T' G' σ r σ' r' := by
  have l0 : σ 11 0 = r 7 (5 * e) := h.1.2.2.2.2.2.1 0 (by decide)
  have l1 : σ 11 1 = r 7 (5 * e + 1) := h.1.2.2.2.2.2.1 1 (by decide)
  have m2 : σ 0 10 = r 1 (24 * e + 2) := h.1.1.2.2.1
  by_cases c : r 7 (5 * e) = 5 ∧ ¬ r 7 (5 * e + 1) ≤ r 1 (24 * e + 2)
  · refine ⟨tm_come 5 (tm_s σ 0 (tm_u (σ 0) 10 (r 7 (5 * e + 1)))), tm_into e 5 (tm_s r 1 (upd (r 1) (24 * e + 2) (r 7 (5 * e + 1)))), fun K hK => ?_, fun K hK => ?_, P_come (p := 5) he (q_set_2 he h _) rfl rfl rfl (by decide) (by decide)⟩
    · rw [p_great, l0, l1, m2, if_pos c]; exact hK
    · rw [p_offer he, if_pos c]; exact hK
  · refine ⟨σ, r, fun K hK => ?_, fun K hK => ?_, P_none h h26 h7⟩
    · rw [p_great, l0, l1, m2, if_neg c]; exact hK
    · rw [p_offer he, if_neg c]; exact hK
theorem s_settle {e : Nat} (he : e < 2) {c7 c6 : Int32} {u S X T G S' X' T' G' : Nat} {σ r : tm_St} (h : tm_Q e c7 c6 u S X T G S' X' T' G' σ r) {q : Nat} (hq : q ≤ 24) : ∃ σ' r' : tm_St, (∀ K : tm_St → Prop, K σ' → wp_X3_settle (nI q) σ K) ∧ (∀ K : tm_St → Prop, K r' → wp_X9_agrees (nI e) (nI q) r K) ∧ tm_P e c7 c6 u S S' X' T' G' σ r σ' r' := by
  have hs := q_set_4 he h hq
  by_cases c : nI q = 0
  · refine ⟨tm_come 0 (tm_s σ 0 (tm_u (σ 0) 12 (nI q))), tm_into e 0 (tm_s r 1 (upd (r 1) (24 * e + 4) (nI q))), fun K hK => ?_, fun K hK => ?_, P_come (p := 0) he hs rfl rfl rfl (by decide) (by decide)⟩
    · unfold wp_X3_settle
      simpa [tm_s_at, tm_u_at, c, p_come_o 0 (by decide) (by decide) (by decide)] using hK
    · unfold wp_X9_agrees
      simpa [p_put_4 he, c, p_into_o he 0 (by decide) (by decide) (by decide)] using hK
  · refine ⟨tm_come 6 (tm_s σ 0 (tm_u (σ 0) 12 (nI q))), tm_into e 6 (tm_s r 1 (upd (r 1) (24 * e + 4) (nI q))), fun K hK => ?_, fun K hK => ?_, P_come (p := 6) he hs rfl rfl rfl (by decide) (by decide)⟩
    · unfold wp_X3_settle
      simpa [tm_s_at, tm_u_at, c, p_come_o 6 (by decide) (by decide) (by decide)] using hK
    · unfold wp_X9_agrees
      simpa [p_put_4 he, c, p_into_o he 6 (by decide) (by decide) (by decide)] using hK
theorem s_surr {e : Nat} (he : e < 2) {c7 c6 : Int32} {u S X T G S' X' T' G' : Nat} {σ r : tm_St} (h : tm_Q e c7 c6 u S X T G S' X' T' G' σ r) (h26 : r 0 26 = 0) (hq : σ 0 6 = 7 → σ 0 9 = r 1 (24 * e + 16)) : (∃ σ' r' : tm_St, (∀ K : tm_St → Prop, K σ' → wp_X3_surrender σ K) ∧ (∀ K : tm_St → Prop, K r' → wp_X9_mayGiveUp (nI e) r K) ∧ tm_P e c7 c6 u S S' X' T' G' σ r σ' r' ∧ r' 0 26 = 1) ∨ ((∀ K : tm_St → Prop, K σ → wp_X3_surrender σ K) ∧ (∀ K : tm_St → Prop, K r → wp_X9_mayGiveUp (nI e) r K)) := by
  have m0 : σ 0 6 = r 1 (24 * e) := h.1.1.1
  have m1 : σ 0 8 = r 1 (24 * e + 1) := h.1.1.2.1
  have m12 : σ 0 17 = r 1 (24 * e + 12) := h.1.1.2.2.2.2.2.2.2.2.2.2.2.2.1
  have hs := q_set_12 he h (r 1 (24 * e + 12) + 1)
  have yes : (∃ σ' r' : tm_St, (∀ K : tm_St → Prop, K σ' → K (tm_come 0 (tm_s σ 0 (tm_u (σ 0) 17 (σ 0 17 + 1))))) ∧ (∀ K : tm_St → Prop, K r' → K (tm_into e 0 (tm_s r 1 (upd (r 1) (24 * e + 12) (r 1 (24 * e + 12) + 1))))) ∧ tm_P e c7 c6 u S S' X' T' G' σ r σ' r' ∧ r' 0 26 = 1) := by
    refine ⟨_, _, fun K hK => hK, fun K hK => hK, ?_, rfl⟩
    rw [m12]
    exact P_come (p := 0) he hs rfl rfl rfl (by decide) (by decide)
  by_cases c7' : r 1 (24 * e) = 7
  · have c9 : σ 0 9 = r 1 (24 * e + 16) := hq (m0.trans c7')
    by_cases c16 : r 1 (24 * e + 16) < 16
    · right
      refine ⟨fun K hK => ?_, fun K hK => ?_⟩
      · unfold wp_X3_surrender wp_X3_surrender_40
        simpa [-Int32.not_le, -Int32.not_lt, m0, c7', c9, c16] using hK
      · unfold wp_X9_mayGiveUp wp_X9_mayGiveUp_53
        simpa [-Int32.not_le, -Int32.not_lt, p_of_0 he, p_of_16 he, c7', c16] using hK
    · left
      obtain ⟨σ', r', k1, k2, k3, k4⟩ := yes
      refine ⟨σ', r', fun K hK => ?_, fun K hK => ?_, k3, k4⟩
      · have := k1 K hK
        unfold wp_X3_surrender wp_X3_surrender_40
        simpa [-Int32.not_le, -Int32.not_lt, m0, c7', c9, c16, p_come_o 0 (by decide) (by decide) (by decide)] using this
      · have := k2 K hK
        unfold wp_X9_mayGiveUp wp_X9_mayGiveUp_53
        simpa [-Int32.not_le, -Int32.not_lt, p_of_0 he, p_of_16 he, c7', c16, p_add_12 he, p_into_o he 0 (by decide) (by decide) (by decide)] using this
  · by_cases c0 : r 1 (24 * e) = 0
    · right
      refine ⟨fun K hK => ?_, fun K hK => ?_⟩
      · unfold wp_X3_surrender wp_X3_surrender_40
        simpa [-Int32.not_le, -Int32.not_lt, m0, c0] using hK
      · unfold wp_X9_mayGiveUp wp_X9_mayGiveUp_53
        simpa [-Int32.not_le, -Int32.not_lt, p_of_0 he, c0] using hK
    · by_cases c60 : r 1 (24 * e + 1) < 60
      · right
        refine ⟨fun K hK => ?_, fun K hK => ?_⟩
        · unfold wp_X3_surrender wp_X3_surrender_40
          simpa [-Int32.not_le, -Int32.not_lt, m0, m1, c7', c0, c60] using hK
        · unfold wp_X9_mayGiveUp wp_X9_mayGiveUp_53
          simpa [-Int32.not_le, -Int32.not_lt, p_of_0 he, p_of_1 he, c7', c0, c60] using hK
      · left
        obtain ⟨σ', r', k1, k2, k3, k4⟩ := yes
        refine ⟨σ', r', fun K hK => ?_, fun K hK => ?_, k3, k4⟩
        · have := k1 K hK
          unfold wp_X3_surrender wp_X3_surrender_40
          simpa [-Int32.not_le, -Int32.not_lt, m0, m1, c7', c0, c60, p_come_o 0 (by decide) (by decide) (by decide)] using this
        · have := k2 K hK
          unfold wp_X9_mayGiveUp wp_X9_mayGiveUp_53
          simpa [-Int32.not_le, -Int32.not_lt, p_of_0 he, p_of_1 he, c7', c0, c60, p_add_12 he, p_into_o he 0 (by decide) (by decide) (by decide)] using this
