theorem p_live82 (K : tm_St → Prop) (v1 v2 sv : Int32) (s : tm_St) (hsv : sv = if v2 = 0 then 0 else if s 11 0 = 0 then s 0 9 + 1 else 0) (h : ∀ s10 : tm_St, s10 = tm_s s 0 (tm_u (s 0) 9 sv) → wp_X3_speak (v1 + (s10 8 2)) s10 (fun s11 => (∀ s12 : tm_St, s12 = tm_s s11 0 (tm_u (s11 0) 8 ((s11 0 8) + 1)) → K s12))) : wp_X3_live_82 K v1 v2 s := by
  unfold wp_X3_live_82
  by_cases c : v2 = 0
  · rw [if_pos c] at hsv
    rw [hsv] at h
    exact ⟨fun _ => h, fun q => absurd c q⟩
  · rw [if_neg c] at hsv
    refine ⟨fun q => absurd q c, fun _ => ?_⟩
    rw [p_sortA]
    by_cases c2 : s 11 0 = 0
    · rw [if_pos c2] at hsv
      rw [hsv] at h
      exact ⟨fun q => absurd c2 q, fun _ => h⟩
    · rw [if_neg c2] at hsv
      rw [hsv] at h
      exact ⟨fun _ => h, fun q => absurd q c2⟩
theorem s_tail {e : Nat} (he : e < 2) {c7 c6 : Int32} {u S X T G S' X' T' G' : Nat} {σ r : tm_St} (h : tm_Q e c7 c6 u S X T G S' X' T' G' σ r) {t : Nat} (h12 : r 0 12 = nI t) (htt : t + 8 < 2 ^ 31) (huu : u < 2 ^ 31) (sv : Int32) (hsv : σ 0 6 = 7 → r 1 (24 * e + 16) = sv) : ∃ σ' r' : tm_St, (∀ K : tm_St → Prop, K σ' → ∀ s10 : tm_St, s10 = tm_s σ 0 (tm_u (σ 0) 9 sv) → wp_X3_speak (nI t + (s10 8 2)) s10 (fun s11 => (∀ s12 : tm_St, s12 = tm_s s11 0 (tm_u (s11 0) 8 ((s11 0 8) + 1)) → K s12))) ∧ (∀ K : tm_St → Prop, K r' → wp_X9_sendsIn (nI e) r (fun s6 => (wp_X9_add (nI e) 1 1 s6 (fun s7 => K s7)))) ∧ (∃ S X T G, tm_Q e c7 c6 (u + 1) S X T G S' X' T' G' σ' r') ∧ tm_F e r r' ∧ tm_FC σ σ' ∧ (σ' 0 6 = 7 → σ' 0 9 = r' 1 (24 * e + 16)) := by
  obtain ⟨d, hd1, hd8, h08⟩ := h.2.2.2.2.2.2.2
  obtain ⟨a1, a2⟩ := q_silC he h sv
  obtain ⟨σ2, r2, k1, k2, ⟨S2, X2, T2, G2, k3⟩, k4, k5, k6, k7⟩ := s_speak he a1 (t := t) (d := d) (by omega) h12 h08 huu
  obtain ⟨b1, b2, b3⟩ := q_last he k3
  refine ⟨_, _, fun K hK => ?_, fun K hK => ?_, ⟨S2, X2, T2, G2, b1⟩, tm_F_tr k4 b2, tm_FC_tr a2 (tm_FC_tr k5 b3), fun q => ?_⟩
  · intro s10 e10
    have z8 : s10 8 2 = nI d := by rw [e10]; exact h.1.2.2.1.trans h08
    rw [z8, nI_add, e10]
    exact k1 (fun s11 => ∀ s12 : tm_St, s12 = tm_s s11 0 (tm_u (s11 0) 8 ((s11 0 8) + 1)) → K s12) (fun s12 e12 => by rw [e12]; exact hK)
  · refine k2 (fun s6 => wp_X9_add (nI e) 1 1 s6 (fun s7 => K s7)) ?_
    rw [p_add_1 he]
    exact hK
  · have q6 : σ 0 6 = 7 := by
      have : σ2 0 6 = 7 := q
      rw [k6 6 (by decide)] at this
      exact this
    show σ2 0 9 = upd (r2 1) (24 * e + 1) (r2 1 (24 * e + 1) + 1) (24 * e + 16)
    rw [tm_upd_at, if_neg (by omega), k7, hsv q6, k6 9 (by decide)]
    rfl
theorem i_p1 (a : Int32) : ¬ a + 1 = a := by
  intro h
  have h2 : (1 : Int32) + a - a = a - a := by rw [Int32.add_comm, h]
  rw [Int32.add_sub_cancel, Int32.sub_self] at h2
  exact absurd h2 (by decide)
theorem s_live {e : Nat} (he : e < 2) {c7 c6 : Int32} {u S X T G S' X' T' G' : Nat} {σ r : tm_St} (h : tm_Q e c7 c6 u S X T G S' X' T' G' σ r) {t : Nat} (h12 : r 0 12 = nI t) (htt : t + 8 < 2 ^ 31) (huu : u < 2 ^ 31) (hq : σ 0 6 = 7 → σ 0 9 = r 1 (24 * e + 16)) : ∃ σ' r' : tm_St, (∀ K : tm_St → Prop, K σ' → wp_X3_live (nI t) σ K) ∧ (∀ K : tm_St → Prop, K r' → wp_X9_does (nI e) r K) ∧ (∃ S X T G, tm_Q e c7 c6 (u + 1) S X T G S' X' T' G' σ' r') ∧ tm_F e r r' ∧ tm_FC σ σ' ∧ (σ' 0 6 = 7 → σ' 0 9 = r' 1 (24 * e + 16)) := by
  obtain ⟨σ1, r1, a1, a2, a3, a4, a5, a6, a7, a8, a9⟩ := s_hear he h (t := t) (by omega) h12
  obtain ⟨b1, b2⟩ := q_flag_26 he a3 0
  generalize hr2 : tm_s r1 0 (tm_u (r1 0) 26 0) = r2 at b1 b2
  have z26 : r2 0 26 = 0 := by rw [← hr2]; rfl
  have z1 : r2 1 = r 1 := by rw [← hr2]; exact a9
  have zH : tm_H e S' G' (σ1 11) r2 := by rw [← hr2]; exact a6
  have z12 : r2 0 12 = nI t := by rw [← hr2]; exact a4.2.2.2.2.2.2.2.2.2.2.2.1.trans h12
  have F2 : tm_F e r r2 := tm_F_tr a4 b2
  -- what the class asks of live, from what comes behind bring
  have outC : ∀ K : tm_St → Prop, (wp_X3_surrender σ1 (fun s6 => ((¬ (s6 0 7) = σ 0 7 → ((¬ (s6 0 7) = σ 0 7 → wp_X3_live_82 K (nI t) (if σ 0 6 = 7 then 1 else 0) s6) ∧ ((s6 0 7) = σ 0 7 → (((s6 4 4) ≤ σ 4 4 → (wp_X3_look 0 s6 (fun s24 => wp_X3_live_82 K (nI t) (if σ 0 6 = 7 then 1 else 0) s24))) ∧ (¬ (s6 4 4) ≤ σ 4 4 → (wp_X3_look 1 s6 (fun s25 => wp_X3_live_82 K (nI t) (if σ 0 6 = 7 then 1 else 0) s25))))))) ∧ ((s6 0 7) = σ 0 7 → (wp_X3_hear  s6 (fun s26 => ((¬ (s26 0 7) = σ 0 7 → wp_X3_live_82 K (nI t) (if σ 0 6 = 7 then 1 else 0) s26) ∧ ((s26 0 7) = σ 0 7 → (((s26 4 4) ≤ σ 4 4 → (wp_X3_look 0 s26 (fun s29 => wp_X3_live_82 K (nI t) (if σ 0 6 = 7 then 1 else 0) s29))) ∧ (¬ (s26 4 4) ≤ σ 4 4 → (wp_X3_look 1 s26 (fun s30 => wp_X3_live_82 K (nI t) (if σ 0 6 = 7 then 1 else 0) s30)))))))))))) → wp_X3_live (nI t) σ K := by
    intro K hK
    have h14 : ∀ v : Int32, v = (if σ 0 6 = 7 then 1 else 0) → wp_X3_live_14 K (nI t) v σ := by
      intro v hv
      unfold wp_X3_live_14
      intro x2 e2 x3 e3
      rw [e2, e3, hv]
      exact a1 _ hK
    unfold wp_X3_live
    exact ⟨fun c => h14 0 (by rw [if_neg c]), fun c => h14 1 (by rw [if_pos c])⟩
  have outR : ∀ K : tm_St → Prop, (wp_X9_mayGiveUp (nI e) r2 (fun s3 => ((¬ (s3 0 26) = 0 → ((¬ (s3 0 26) = 0 → (wp_X9_sendsIn (nI e) s3 (fun s6 => (wp_X9_add (nI e) 1 1 s6 (fun s7 => K s7))))) ∧ ((s3 0 26) = 0 → (wp_X9_looksIn (nI e) s3 (fun s8 => (wp_X9_sendsIn (nI e) s8 (fun s9 => (wp_X9_add (nI e) 1 1 s9 (fun s10 => K s10))))))))) ∧ ((s3 0 26) = 0 → (wp_X9_hearsIn (nI e) s3 (fun s11 => ((¬ (s11 0 26) = 0 → (wp_X9_sendsIn (nI e) s11 (fun s13 => (wp_X9_add (nI e) 1 1 s13 (fun s14 => K s14))))) ∧ ((s11 0 26) = 0 → (wp_X9_looksIn (nI e) s11 (fun s15 => (wp_X9_sendsIn (nI e) s15 (fun s16 => (wp_X9_add (nI e) 1 1 s16 (fun s17 => K s17)))))))))))))) → wp_X9_does (nI e) r K := by
    intro K hK
    unfold wp_X9_does
    refine a2 _ ?_
    intro s2 e2
    rw [e2, hr2]
    exact hK
  have hq1 : σ1 0 6 = 7 → σ1 0 9 = r2 1 (24 * e + 16) := by rw [a7, z1]; exact hq
  have svC : ∀ s : tm_St, s 0 9 = σ 0 9 → s 11 = σ1 11 → (if σ1 0 6 = 7 ∧ σ1 11 0 = 0 then σ1 0 9 + 1 else (0 : Int32)) = if (if σ 0 6 = 7 then (1 : Int32) else 0) = 0 then 0 else if s 11 0 = 0 then s 0 9 + 1 else 0 := by
    intro s hs9 hs11
    rw [a7, hs11, hs9]
    by_cases c : σ 0 6 = 7
    · rw [if_pos c, if_neg (show ¬ (1 : Int32) = 0 by decide)]
      by_cases c2 : σ1 11 0 = 0
      · rw [if_pos ⟨c, c2⟩, if_pos c2]
      · rw [if_neg (fun q => c2 q.2), if_neg c2]
    · rw [if_neg (fun q => c q.1), if_neg c, if_pos rfl]
  rcases s_surr he b1 z26 hq1 with ⟨σ3, r3, k1, k2, ⟨⟨X3, T3, G3, p1⟩, p2, p3, p4, p5, p6, p7, p8⟩, k4⟩ | ⟨k1, k2⟩
  · -- it gave up
    have n7 : ¬ σ3 0 7 = σ 0 7 := by
      rcases p6 with ⟨q, -⟩ | ⟨-, q⟩
      · exact absurd (k4.symm.trans q) (by decide)
      · rw [q, a7]; exact i_p1 _
    have n26 : ¬ r3 0 26 = 0 := by rw [k4]; decide
    obtain ⟨σ4, r4, j1, j2, j3, j4, j5, j6⟩ := s_tail he p1 (p2.2.2.2.2.2.2.2.2.2.2.2.1.trans z12) htt huu _ p7
    refine ⟨σ4, r4, fun K hK => outC K (k1 _ ?_), fun K hK => outR K (k2 _ ?_), j3, tm_F_tr F2 (tm_F_tr p2 j4), tm_FC_tr a5 (tm_FC_tr p3 j5), j6⟩
    · refine ⟨fun _ => ⟨fun _ => ?_, fun q => absurd q n7⟩, fun q => absurd q n7⟩
      exact p_live82 K _ _ _ σ3 (svC σ3 (by rw [p4, a7]) p5) (j1 K hK)
    · exact ⟨fun _ => ⟨fun _ => j2 K hK, fun q => absurd q n26⟩, fun q => absurd q n26⟩
  · obtain ⟨σ3, r3, m1, m2, ⟨X3, T3, G3, p1⟩, p2, p3, p4, p5, p6, p7, p8⟩ := s_hears he b1 z26 hq1 zH
    have g12 : r3 0 12 = nI t := p2.2.2.2.2.2.2.2.2.2.2.2.1.trans z12
    have e7 : σ1 0 7 = σ 0 7 := by rw [a7]
    rcases p6 with ⟨q26, q7⟩ | ⟨q26, q7⟩
    · -- it goes on to look
      have y7 : σ3 0 7 = σ 0 7 := by rw [q7, e7]
      have hp0 : ∀ p0 : Int32, (p0 = 0 ↔ σ3 4 4 ≤ σ 4 4) → σ3 0 6 = 7 → (p0 = 0 ↔ r3 0 27 = 0) := by
        intro p0 hp hc
        rw [hp, p8 hc q26, a8]
      have run : ∀ p0 : Int32, (p0 = 0 ↔ σ3 4 4 ≤ σ 4 4) → ∃ σ' r' : tm_St, (∀ K : tm_St → Prop, K σ' → wp_X3_look p0 σ3 (fun s29 => wp_X3_live_82 K (nI t) (if σ 0 6 = 7 then 1 else 0) s29)) ∧ (∀ K : tm_St → Prop, K r' → wp_X9_looksIn (nI e) r3 (fun s15 => (wp_X9_sendsIn (nI e) s15 (fun s16 => (wp_X9_add (nI e) 1 1 s16 (fun s17 => K s17)))))) ∧ (∃ S X T G, tm_Q e c7 c6 (u + 1) S X T G S' X' T' G' σ' r') ∧ tm_F e r3 r' ∧ tm_FC σ3 σ' ∧ (σ' 0 6 = 7 → σ' 0 9 = r' 1 (24 * e + 16)) := by
        intro p0 hp
        obtain ⟨σ4, r4, n1, n2, ⟨X4, T4, G4, w1⟩, w2, w3, w4, w5, w6⟩ := s_look he p1 (hp0 p0 hp)
        obtain ⟨σ5, r5, j1, j2, j3, j4, j5, j6⟩ := s_tail he w1 (w2.2.2.2.2.2.2.2.2.2.2.2.1.trans g12) htt huu (if σ1 0 6 = 7 ∧ σ1 11 0 = 0 then σ1 0 9 + 1 else 0) (fun q => by rw [(w6 q).2]; exact p7 (w6 q).1)
        refine ⟨σ5, r5, fun K hK => n1 (fun s29 => wp_X3_live_82 K (nI t) (if σ 0 6 = 7 then 1 else 0) s29) ?_, fun K hK => n2 (fun s15 => wp_X9_sendsIn (nI e) s15 (fun s16 => (wp_X9_add (nI e) 1 1 s16 (fun s17 => K s17)))) (j2 K hK), j3, tm_F_tr w2 j4, tm_FC_tr w3 j5, j6⟩
        exact p_live82 K _ _ _ σ4 (svC σ4 (by rw [w4, p4, a7]) (by rw [w5, p5])) (j1 K hK)
      by_cases c : σ3 4 4 ≤ σ 4 4
      · obtain ⟨σ', r', x1, x2, x3, x4, x5, x6⟩ := run 0 ⟨fun _ => c, fun _ => rfl⟩
        refine ⟨σ', r', fun K hK => outC K (k1 _ ?_), fun K hK => outR K (k2 _ ?_), x3, tm_F_tr F2 (tm_F_tr p2 x4), tm_FC_tr a5 (tm_FC_tr p3 x5), x6⟩
        · refine ⟨fun q => absurd e7 q, fun _ => m1 _ ?_⟩
          exact ⟨fun q => absurd y7 q, fun _ => ⟨fun _ => x1 K hK, fun q => absurd c q⟩⟩
        · refine ⟨fun q => absurd z26 q, fun _ => m2 _ ?_⟩
          exact ⟨fun q => absurd q26 q, fun _ => x2 K hK⟩
      · obtain ⟨σ', r', x1, x2, x3, x4, x5, x6⟩ := run 1 ⟨fun q => absurd q (by decide), fun q => absurd q c⟩
        refine ⟨σ', r', fun K hK => outC K (k1 _ ?_), fun K hK => outR K (k2 _ ?_), x3, tm_F_tr F2 (tm_F_tr p2 x4), tm_FC_tr a5 (tm_FC_tr p3 x5), x6⟩
        · refine ⟨fun q => absurd e7 q, fun _ => m1 _ ?_⟩
          exact ⟨fun q => absurd y7 q, fun _ => ⟨fun q => absurd q c, fun _ => x1 K hK⟩⟩
        · refine ⟨fun q => absurd z26 q, fun _ => m2 _ ?_⟩
          exact ⟨fun q => absurd q26 q, fun _ => x2 K hK⟩
    · -- hearing changed its phase
      have y7 : ¬ σ3 0 7 = σ 0 7 := by rw [q7, e7]; exact i_p1 _
      have n26 : ¬ r3 0 26 = 0 := by rw [q26]; decide
      obtain ⟨σ4, r4, j1, j2, j3, j4, j5, j6⟩ := s_tail he p1 g12 htt huu _ p7
      refine ⟨σ4, r4, fun K hK => outC K (k1 _ ?_), fun K hK => outR K (k2 _ ?_), j3, tm_F_tr F2 (tm_F_tr p2 j4), tm_FC_tr a5 (tm_FC_tr p3 j5), j6⟩
      · refine ⟨fun q => absurd e7 q, fun _ => m1 _ ?_⟩
        exact ⟨fun _ => p_live82 K _ _ _ σ3 (svC σ3 (by rw [p4, a7]) p5) (j1 K hK), fun q => absurd q y7⟩
      · refine ⟨fun q => absurd z26 q, fun _ => m2 _ ?_⟩
        exact ⟨fun _ => j2 K hK, fun q => absurd q n26⟩
