def tm_P2 (e : Nat) (c7 c6 : Int32) (u S S' X' T' G' : Nat) (σ r σ' r' : tm_St) : Prop :=
  (∃ X T G, tm_Q e c7 c6 u S X T G S' X' T' G' σ' r') ∧ tm_F e r r' ∧ tm_FC σ σ' ∧ σ' 0 9 = σ 0 9 ∧ σ' 11 = σ 11 ∧ (σ' 0 6 = 7 → σ 0 6 = 7 ∧ r' 1 (24 * e + 16) = r 1 (24 * e + 16))
theorem P2_come {e : Nat} (he : e < 2) {c7 c6 : Int32} {u S X T G S' X' T' G' : Nat} {σ r σ1 r1 : tm_St} (h1 : tm_Q e c7 c6 u S X T G S' X' T' G' σ1 r1 ∧ tm_F e r r1 ∧ tm_FC σ σ1) (a9 : σ1 0 9 = σ 0 9) (a11 : σ1 11 = σ 11) {p : Nat} (hp : p ≤ 7) (h7 : ¬ nI p = 7) : tm_P2 e c7 c6 u S S' X' T' G' σ r (tm_come (nI p) σ1) (tm_into e (nI p) r1) := by
  obtain ⟨q1, q2, q3⟩ := q_come_o he h1.1 hp
  exact ⟨⟨X, T, G, q1⟩, tm_F_tr h1.2.1 q2, tm_FC_tr h1.2.2 q3, a9, a11, fun q => absurd q h7⟩
theorem P2_none {e : Nat} {c7 c6 : Int32} {u S X T G S' X' T' G' : Nat} {σ r : tm_St} (h : tm_Q e c7 c6 u S X T G S' X' T' G' σ r) : tm_P2 e c7 c6 u S S' X' T' G' σ r σ r :=
  ⟨⟨X, T, G, h⟩, tm_F_rf e r, tm_FC_rf σ, rfl, rfl, fun q => ⟨q, rfl⟩⟩
def tm_bc (p0 : Int32) : Int32 :=
  let x1 := (p0 - (((p0 : Int32).toUInt32 >>> ((1 : Int32).toUInt32 &&& Int32.toUInt32 31)).toInt32 &&& 1431655765))
  let x2 := ((x1 &&& 858993459) + (((x1 : Int32).toUInt32 >>> ((2 : Int32).toUInt32 &&& Int32.toUInt32 31)).toInt32 &&& 858993459))
  let x3 := ((x2 + ((x2 : Int32).toUInt32 >>> ((4 : Int32).toUInt32 &&& Int32.toUInt32 31)).toInt32) &&& 252645135)
  let x4 := (x3 + ((x3 : Int32).toUInt32 >>> ((8 : Int32).toUInt32 &&& Int32.toUInt32 31)).toInt32)
  let x5 := (x4 + ((x4 : Int32).toUInt32 >>> ((16 : Int32).toUInt32 &&& Int32.toUInt32 31)).toInt32)
  x5 &&& 63
theorem p_bc (p : Int32) (K : Int32 → Prop) : wp_J6_bitCount_0f7a4 p K ↔ K (tm_bc p) := by
  unfold wp_J6_bitCount_0f7a4
  constructor
  · intro h
    exact h _ rfl _ rfl _ rfl _ rfl _ rfl
  · intro h x1 e1 x2 e2 x3 e3 x4 e4 x5 e5
    subst e1; subst e2; subst e3; subst e4; subst e5
    exact h
def tm_on (p : Int32) : Nat → Int32
  | 0 => 0
  | n + 1 => tm_on p n + ((p >>> (nI n &&& 31)) &&& 1)
theorem p_ones_4 (K : Int32 → Prop) (p : Int32) (h : K (tm_on p 8)) : ∀ (m i : Nat), i + m = 8 → wp_X9_ones_4 K (m + 1) p (tm_on p i) (nI i) := by
  intro m
  induction m with
  | zero =>
    intro i hi
    have hi : i = 8 := by omega
    subst hi
    unfold wp_X9_ones_4
    exact ⟨fun _ => h, fun q => absurd (by decide) q⟩
  | succ m ih =>
    intro i hi
    unfold wp_X9_ones_4
    refine ⟨fun q => absurd q (nI_ge (b := 8) (by omega) (by decide)), fun _ x e1 y e2 => ?_⟩
    rw [e1, e2, nI_1]
    exact ih (i + 1) (by omega)
theorem p_ones (p : Int32) (K : Int32 → Prop) (h : K (tm_on p 8)) : wp_X9_ones p K := ⟨9, p_ones_4 K p h 8 0 rfl⟩
theorem bc_on : ∀ b, b < 256 → tm_bc (nI b) = tm_on (nI b) 8 := by decide +kernel
theorem s_wait {e : Nat} (he : e < 2) {c7 c6 : Int32} {u S X T G S' X' T' G' : Nat} {σ r : tm_St} (h : tm_Q e c7 c6 u S X T G S' X' T' G' σ r) {p0 : Int32} (hp0 : p0 = 0 ↔ r 0 27 = 0) : ∃ σ' r' : tm_St, ∃ X2 : Nat, (∀ K : tm_St → Prop, K σ' → wp_X3_lookAtWaiting p0 σ K) ∧ (∀ K : tm_St → Prop, wp_X9_looksInData_84 K (nI e) r' → wp_X9_looksInData (nI e) r K) ∧ tm_Q e c7 c6 u S X2 T G S' X' T' G' σ' r' ∧ tm_F e r r' ∧ tm_FC σ σ' ∧ σ' 0 9 = σ 0 9 ∧ σ' 11 = σ 11 ∧ σ' 0 6 = σ 0 6 ∧ r' 1 (24 * e + 16) = r 1 (24 * e + 16) := by
  have k7 : σ 4 5 = r 1 (24 * e + 7) := h.1.1.2.2.2.2.2.2.2.1
  have k8 : σ 4 4 = r 1 (24 * e + 8) := h.1.1.2.2.2.2.2.2.2.2.1
  have k10 : σ 0 14 = r 1 (24 * e + 10) := h.1.1.2.2.2.2.2.2.2.2.2.2.1
  have kd : σ 8 2 = r 0 8 := h.1.2.2.1
  have g8 : r 1 (24 * e + 8) = nI T := h.2.1.2.2.2.2.2.2.2.2.1
  have hTS : T ≤ S := Nat.le_trans h.2.2.2.1.1 h.2.2.2.1.2.1
  generalize hv : (if r 1 (24 * e + 7) ≤ r 1 (24 * e + 8) then 0 else if p0 = 0 then r 1 (24 * e + 10) + 1 else 0) = v
  obtain ⟨a1, a2, a3⟩ := q_set_10 he h v
  have core : ∃ σ' r' : tm_St, ∃ X2 : Nat, (∀ K : tm_St → Prop, K σ' → (((tm_s σ 0 (tm_u (σ 0) 14 v)) 0 14 < ((2 * ((tm_s σ 0 (tm_u (σ 0) 14 v)) 8 2)) + 4) → K (tm_s σ 0 (tm_u (σ 0) 14 v))) ∧ (¬ (tm_s σ 0 (tm_u (σ 0) 14 v)) 0 14 < ((2 * ((tm_s σ 0 (tm_u (σ 0) 14 v)) 8 2)) + 4) → (∀ s4 : tm_St, s4 = tm_s (tm_s σ 0 (tm_u (σ 0) 14 v)) 0 (tm_u ((tm_s σ 0 (tm_u (σ 0) 14 v)) 0) 14 0) → (∀ s5 : tm_St, s5 = tm_s s4 4 (tm_u (s4 4) 5 (s4 4 4)) → K s5))))) ∧
      (∀ K : tm_St → Prop, wp_X9_looksInData_84 K (nI e) r' → ((v < ((2 * (r 0 8)) + 4) → wp_X9_looksInData_84 K (nI e) (tm_s r 1 (upd (r 1) (24 * e + 10) v))) ∧ (¬ v < ((2 * (r 0 8)) + 4) → wp_X9_looksInData_84 K (nI e) (tm_s (tm_s (tm_s r 1 (upd (r 1) (24 * e + 10) v)) 1 (upd ((tm_s r 1 (upd (r 1) (24 * e + 10) v)) 1) (24 * e + 10) 0)) 1 (upd ((tm_s (tm_s r 1 (upd (r 1) (24 * e + 10) v)) 1 (upd ((tm_s r 1 (upd (r 1) (24 * e + 10) v)) 1) (24 * e + 10) 0)) 1) (24 * e + 7) (nI T)))))) ∧
      tm_Q e c7 c6 u S X2 T G S' X' T' G' σ' r' ∧ tm_F e r r' ∧ tm_FC σ σ' ∧ σ' 0 9 = σ 0 9 ∧ σ' 11 = σ 11 ∧ σ' 0 6 = σ 0 6 ∧ r' 1 (24 * e + 16) = r 1 (24 * e + 16) := by
    by_cases c : v < ((2 * (r 0 8)) + 4)
    · refine ⟨_, _, X, fun K hK => ⟨fun _ => hK, fun q => absurd (show v < 2 * (σ 8 2) + 4 by rw [kd]; exact c) q⟩, fun K hK => ⟨fun _ => hK, fun q => absurd c q⟩, a1, a2, a3, rfl, rfl, rfl, ?_⟩
      show upd (r 1) (24 * e + 10) v (24 * e + 16) = _
      rw [tm_upd_at, if_neg (by omega)]
    · obtain ⟨b1, b2, b3⟩ := q_set_10 he a1 0
      obtain ⟨d1, d2, d3⟩ := q_set_7 he b1 (q := T) hTS (by omega)
      refine ⟨_, _, T, fun K hK => ⟨fun q => absurd (show v < 2 * (r 0 8) + 4 by rw [← kd]; exact q) c, fun _ s4 e4 s5 e5 => ?_⟩, fun K hK => ⟨fun q => absurd q c, fun _ => hK⟩, d1, tm_F_tr a2 (tm_F_tr b2 d2), tm_FC_tr a3 (tm_FC_tr b3 d3), rfl, rfl, rfl, ?_⟩
      · have e44 : s4 4 4 = nI T := by rw [e4]; exact k8.trans g8
        rw [e5, e44, e4]
        exact hK
      · show upd (upd (upd (r 1) (24 * e + 10) v) (24 * e + 10) 0) (24 * e + 7) (nI T) (24 * e + 16) = _
        rw [tm_upd_at, if_neg (by omega), tm_upd_at, if_neg (by omega), tm_upd_at, if_neg (by omega)]
  obtain ⟨σ', r', X2, k1, k2, k3⟩ := core
  refine ⟨σ', r', X2, fun K hK => ?_, fun K hK => ?_, k3⟩
  · have := k1 K hK
    unfold wp_X3_lookAtWaiting
    rw [k7, k8, k10]
    by_cases c1 : r 1 (24 * e + 7) ≤ r 1 (24 * e + 8)
    · rw [if_pos c1] at hv
      subst hv
      exact ⟨fun _ s2 e2 => by rw [e2]; exact this, fun q => absurd c1 q⟩
    · rw [if_neg c1] at hv
      refine ⟨fun q => absurd q c1, fun _ => ?_⟩
      by_cases c2 : p0 = 0
      · rw [if_pos c2] at hv
        subst hv
        exact ⟨fun q => absurd c2 q, fun _ s2 e2 => by rw [e2]; exact this⟩
      · rw [if_neg c2] at hv
        subst hv
        exact ⟨fun _ s2 e2 => by rw [e2]; exact this, fun q => absurd q c2⟩
  · have := k2 K hK
    unfold wp_X9_looksInData wp_X9_looksInData_40
    rw [p_of_8 he, p_of_7 he]
    have z40 : v = 0 → wp_X9_put (nI e) 10 0 r (fun s6 => (wp_X9_of (nI e) 10 s6 (fun r7 s8 => ((r7 < ((2 * (s8 0 8)) + 4) → wp_X9_looksInData_84 K (nI e) s8) ∧ (¬ r7 < ((2 * (s8 0 8)) + 4) → (wp_X9_put (nI e) 10 0 s8 (fun s25 => (wp_X9_of (nI e) 8 s25 (fun r26 s27 => (wp_X9_put (nI e) 7 r26 s27 (fun s28 => wp_X9_looksInData_84 K (nI e) s28))))))))))) := by
      intro h0
      rw [h0] at this
      rw [p_put_10 he, p_of_10 he, p_put_10 he, p_of_8 he, p_put_7 he]
      simp only [tm_s_at, tm_upd_at, if_true]
      simpa [-Int32.not_le, -Int32.not_lt, tm_s_at, tm_upd_at, g8] using this
    by_cases c1 : r 1 (24 * e + 7) ≤ r 1 (24 * e + 8)
    · rw [if_pos c1] at hv
      exact ⟨fun _ => z40 hv.symm, fun q => absurd c1 q⟩
    · rw [if_neg c1] at hv
      refine ⟨fun q => absurd q c1, fun _ => ?_⟩
      by_cases c2 : p0 = 0
      · rw [if_pos c2] at hv
        refine ⟨fun q => absurd (hp0.mp c2) q, fun _ => ?_⟩
        rw [p_of_10 he, hv, p_put_10 he, p_of_10 he, p_put_10 he, p_of_8 he, p_put_7 he]
        simpa [-Int32.not_le, -Int32.not_lt, tm_s_at, tm_upd_at, g8] using this
      · rw [if_neg c2] at hv
        exact ⟨fun _ => z40 hv.symm, fun q => absurd (hp0.mpr q) c2⟩
theorem s_loss {e : Nat} (he : e < 2) {c7 c6 : Int32} {u S X T G S' X' T' G' : Nat} {σ r : tm_St} (h : tm_Q e c7 c6 u S X T G S' X' T' G' σ r) : ∃ σ' r' : tm_St, (∀ K : tm_St → Prop, K σ' → wp_X3_lookAtLosses σ K) ∧ (∀ K : tm_St → Prop, K r' → wp_X9_looksInData_84 K (nI e) r) ∧ tm_P2 e c7 c6 u S S' X' T' G' σ r σ' r' := by
  have m1 : σ 0 8 = r 1 (24 * e + 1) := h.1.1.2.1
  have m2 : σ 0 10 = r 1 (24 * e + 2) := h.1.1.2.2.1
  have m3 : σ 0 11 = r 1 (24 * e + 3) := h.1.1.2.2.2.1
  have m13 : σ 0 18 = r 1 (24 * e + 13) := h.1.1.2.2.2.2.2.2.2.2.2.2.2.2.2.1
  have m15 : σ 0 16 = r 1 (24 * e + 15) := h.1.1.2.2.2.2.2.2.2.2.2.2.2.2.2.2.2.1
  obtain ⟨b, hb, eb⟩ := h.2.1.2.2.2.2.2.1
  obtain ⟨og, hog, eog⟩ := h.2.1.2.2.1
  by_cases c : (¬ tm_on (nI b) 8 < 3) ∧ (¬ r 1 (24 * e + 3) ≤ 1) ∧ (¬ r 1 (24 * e + 1) < 8)
  · obtain ⟨c1, c2, c3⟩ := c
    have ho : 1 < og := by
      rcases Nat.lt_or_ge 1 og with q | q
      · exact q
      · exact absurd (by rw [eog]; exact nI_le (b := 1) q (by decide)) c2
    have e1 : r 1 (24 * e + 3) + (-1) = nI (og - 1) := by
      rw [eog, show og = og - 1 + 1 by omega, pk_m1, show og - 1 + 1 - 1 = og - 1 by omega]
    have e2 : r 1 (24 * e + 3) - 1 = nI (og - 1) := by rw [Int32.sub_eq_add_neg]; exact e1
    obtain ⟨a1, a2, a3⟩ := q_set_13 he h (r 1 (24 * e + 13) + 1)
    obtain ⟨b1, b2, b3⟩ := q_set_2 he a1 (r 1 (24 * e + 2) + 1)
    obtain ⟨d1, d2, d3⟩ := q_set_3 he b1 (q := og - 1) (by omega)
    refine ⟨_, _, fun K hK => ?_, fun K hK => ?_, P2_come (p := 5) he ⟨d1, tm_F_tr a2 (tm_F_tr b2 d2), tm_FC_tr a3 (tm_FC_tr b3 d3)⟩ rfl rfl (by decide) (by decide)⟩
    · unfold wp_X3_lookAtLosses
      rw [p_bc, m15, eb, bc_on b hb]
      refine ⟨fun q => absurd q c1, fun _ => ?_⟩
      rw [m3, m1]
      refine ⟨fun q => absurd q c2, fun _ => ⟨fun q => absurd q c3, fun _ => ?_⟩⟩
      intro s6 e6 s7 e7 s8 e8
      refine (p_come_o 5 (by decide) (by decide) (by decide) _ _).mpr ?_
      have x7 : s6 0 10 = r 1 (24 * e + 2) := by rw [e6]; exact m2
      have x8 : s7 0 11 = r 1 (24 * e + 3) := by rw [e7, e6]; exact m3
      rw [e8, x8, e2, e7, x7, e6, m13]
      exact hK
    · unfold wp_X9_looksInData_84
      rw [p_of_15 he, eb]
      refine p_ones _ _ ⟨fun q => absurd q c1, fun _ => ?_⟩
      rw [p_of_3 he]
      refine ⟨fun q => absurd q c2, fun _ => ?_⟩
      rw [p_of_1 he]
      refine ⟨fun q => absurd q c3, fun _ => ?_⟩
      rw [p_add_13 he, p_add_2 he, p_add_3 he, p_into_o he 5 (by decide) (by decide) (by decide)]
      have x2 : (tm_s r 1 (upd (r 1) (24 * e + 13) (r 1 (24 * e + 13) + 1))) 1 (24 * e + 2) = r 1 (24 * e + 2) := by simp [tm_s_at, tm_upd_at]
      have x3 : (tm_s (tm_s r 1 (upd (r 1) (24 * e + 13) (r 1 (24 * e + 13) + 1))) 1 (upd ((tm_s r 1 (upd (r 1) (24 * e + 13) (r 1 (24 * e + 13) + 1))) 1) (24 * e + 2) (r 1 (24 * e + 2) + 1))) 1 (24 * e + 3) = r 1 (24 * e + 3) := by simp [tm_s_at, tm_upd_at]
      rw [x2, x3, e1]
      exact hK
  · refine ⟨σ, r, fun K hK => ?_, fun K hK => ?_, P2_none h⟩
    · unfold wp_X3_lookAtLosses
      rw [p_bc, m15, eb, bc_on b hb, m3, m1]
      refine ⟨fun _ => hK, fun c1 => ⟨fun _ => hK, fun c2 => ⟨fun _ => hK, fun c3 => absurd ⟨c1, c2, c3⟩ c⟩⟩⟩
    · unfold wp_X9_looksInData_84
      rw [p_of_15 he, eb]
      refine p_ones _ _ ⟨fun _ => hK, fun c1 => ?_⟩
      rw [p_of_3 he]
      refine ⟨fun _ => hK, fun c2 => ?_⟩
      rw [p_of_1 he]
      exact ⟨fun _ => hK, fun c3 => absurd ⟨c1, c2, c3⟩ c⟩
theorem s_look {e : Nat} (he : e < 2) {c7 c6 : Int32} {u S X T G S' X' T' G' : Nat} {σ r : tm_St} (h : tm_Q e c7 c6 u S X T G S' X' T' G' σ r) {p0 : Int32} (hp0 : σ 0 6 = 7 → (p0 = 0 ↔ r 0 27 = 0)) : ∃ σ' r' : tm_St, (∀ K : tm_St → Prop, K σ' → wp_X3_look p0 σ K) ∧ (∀ K : tm_St → Prop, K r' → wp_X9_looksIn (nI e) r K) ∧ tm_P2 e c7 c6 u S S' X' T' G' σ r σ' r' := by
  have m0 : σ 0 6 = r 1 (24 * e) := h.1.1.1
  have m1 : σ 0 8 = r 1 (24 * e + 1) := h.1.1.2.1
  have kd : σ 8 2 = r 0 8 := h.1.2.2.1
  by_cases c7' : r 1 (24 * e) = 7
  · obtain ⟨σ1, r1, X2, k1, k2, q1, q2, q3, q4, q5, q6, q7⟩ := s_wait he h (hp0 (m0.trans c7'))
    obtain ⟨σ2, r2, j1, j2, z1, z2, z3, z4, z5, z6⟩ := s_loss he q1
    refine ⟨σ2, r2, fun K hK => ?_, fun K hK => ?_, z1, tm_F_tr q2 z2, tm_FC_tr q3 z3, by rw [z4, q4], by rw [z5, q5], fun q => ⟨m0.trans c7', by rw [(z6 q).2, q7]⟩⟩
    · have := k1 (fun s4 => wp_X3_lookAtLosses s4 (fun s5 => K s5)) (j1 K hK)
      unfold wp_X3_look wp_X3_look_35
      rw [m0, c7']
      exact ⟨fun _ => ⟨fun _ => ⟨fun q => absurd rfl q, fun _ => this⟩, fun q => absurd q (by decide)⟩, fun q => absurd q (by decide)⟩
    · have := k2 K (j2 K hK)
      unfold wp_X9_looksIn wp_X9_looksIn_39
      rw [p_of_0 he, c7']
      exact ⟨fun _ => ⟨fun _ => ⟨fun q => absurd rfl q, fun _ => this⟩, fun q => absurd q (by decide)⟩, fun q => absurd q (by decide)⟩
  · by_cases c3 : r 1 (24 * e) = 3
    · by_cases cl : r 1 (24 * e + 1) < 10 + 2 * r 0 8
      · refine ⟨σ, r, fun K hK => ?_, fun K hK => ?_, P2_none h⟩
        · unfold wp_X3_look wp_X3_look_35
          rw [m0, c3, m1, kd]
          exact ⟨fun q => absurd rfl q, fun _ => ⟨fun _ => ⟨fun _ => ⟨fun _ => hK, fun q => absurd q (by decide)⟩, fun q => absurd q (by decide)⟩, fun q => absurd cl q⟩⟩
        · unfold wp_X9_looksIn wp_X9_looksIn_39
          rw [p_of_0 he, c3]
          refine ⟨fun q => absurd rfl q, fun _ => ?_⟩
          rw [p_of_1 he]
          exact ⟨fun _ => ⟨fun _ => ⟨fun _ => hK, fun q => absurd q (by decide)⟩, fun q => absurd q (by decide)⟩, fun q => absurd cl q⟩
      · obtain ⟨a1, a2, a3⟩ := q_come_4 he h
        refine ⟨_, _, fun K hK => ?_, fun K hK => ?_, ⟨X, T, G, a1⟩, a2, a3, rfl, rfl, fun q => absurd (show (4 : Int32) = 7 from q) (by decide)⟩
        · unfold wp_X3_look
          rw [m0, c3, m1, kd]
          exact ⟨fun q => absurd rfl q, fun _ => ⟨fun q => absurd q cl, fun _ => p_come_4 _ _ hK⟩⟩
        · unfold wp_X9_looksIn
          rw [p_of_0 he, c3]
          refine ⟨fun q => absurd rfl q, fun _ => ?_⟩
          rw [p_of_1 he]
          exact ⟨fun q => absurd q cl, fun _ => p_into_4 he _ _ hK⟩
    · by_cases c4 : r 1 (24 * e) = 4
      · by_cases cl : r 1 (24 * e + 1) < 32
        · refine ⟨σ, r, fun K hK => ?_, fun K hK => ?_, P2_none h⟩
          · unfold wp_X3_look wp_X3_look_35
            rw [m0, c4, m1]
            exact ⟨fun _ => ⟨fun q => absurd rfl q, fun _ => ⟨fun _ => ⟨fun _ => hK, fun q => absurd q (by decide)⟩, fun q => absurd cl q⟩⟩, fun q => absurd q (by decide)⟩
          · unfold wp_X9_looksIn wp_X9_looksIn_39
            rw [p_of_0 he, c4, p_of_1 he]
            exact ⟨fun _ => ⟨fun q => absurd rfl q, fun _ => ⟨fun _ => ⟨fun _ => hK, fun q => absurd q (by decide)⟩, fun q => absurd cl q⟩⟩, fun q => absurd q (by decide)⟩
        · obtain ⟨σ', r', k1, k2, ⟨k3, k4, k5, k6, k7, k8, k9, k10⟩, k11⟩ := s_offer he h
          have n7 : ¬ σ 0 6 = 7 := fun q => c7' (m0.symm.trans q)
          refine ⟨σ', r', fun K hK => ?_, fun K hK => ?_, k3, k4, k5, k6, k7, fun q => ?_⟩
          · have := k1 K hK
            unfold wp_X3_look wp_X3_look_35
            rw [m0, c4, m1]
            exact ⟨fun _ => ⟨fun q => absurd rfl q, fun _ => ⟨fun q => absurd q cl, fun _ => this⟩⟩, fun q => absurd q (by decide)⟩
          · have := k2 K hK
            unfold wp_X9_looksIn wp_X9_looksIn_39
            rw [p_of_0 he, c4, p_of_1 he]
            exact ⟨fun _ => ⟨fun q => absurd rfl q, fun _ => ⟨fun q => absurd q cl, fun _ => this⟩⟩, fun q => absurd q (by decide)⟩
          · exact absurd (k11.symm.trans q) (by decide)
      · refine ⟨σ, r, fun K hK => ?_, fun K hK => ?_, P2_none h⟩
        · unfold wp_X3_look wp_X3_look_35
          rw [m0]
          exact ⟨fun _ => ⟨fun _ => ⟨fun _ => hK, fun q => absurd q c7'⟩, fun q => absurd q c4⟩, fun q => absurd q c3⟩
        · unfold wp_X9_looksIn wp_X9_looksIn_39
          rw [p_of_0 he]
          exact ⟨fun _ => ⟨fun _ => ⟨fun _ => hK, fun q => absurd q c7'⟩, fun q => absurd q c4⟩, fun q => absurd q c3⟩
