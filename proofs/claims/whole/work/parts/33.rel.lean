theorem q_come_3 {e : Nat} (he : e < 2) {c7 c6 : Int32} {u S X T G S' X' T' G' : Nat} {σ r : tm_St} (h : tm_Q e c7 c6 u S X T G S' X' T' G' σ r) : tm_Q e c7 c6 u S X T G S' X' T' G' (tm_s (tm_come 3 σ) 7 (tm_fl (σ 7) 0 8)) (tm_s (tm_into e 3 r) 2 (tm_fl (r 2) (8 * e) (8 * e + 8))) ∧ tm_F e r (tm_s (tm_into e 3 r) 2 (tm_fl (r 2) (8 * e) (8 * e + 8))) ∧ tm_FC σ (tm_s (tm_come 3 σ) 7 (tm_fl (σ 7) 0 8)) := by
  obtain ⟨⟨hM, hR, h8, hWi, hWo, hla, h7, h6, hu⟩, hE, hE', hx, hs, hs', ht, hd⟩ := h
  have hF : ∀ k, k < 24 → (tm_into e (nI 3) r) 1 (24 * (1 - e) + k) = r 1 (24 * (1 - e) + k) := tm_ux he 1 (by decide) _ (tm_ux0 he _ (fun _ _ => rfl))
  obtain ⟨r1, r2, r3, r4, r5⟩ := hR
  refine ⟨⟨⟨?_, ⟨r1, r2, ?_, r4, r5⟩, h8, hWi, hWo, hla, ?_, h6, hu⟩, tm_E_01 (p := 3) hE (by decide), tm_E_x he hE' hF, hx, hs, hs', ht, hd⟩, ⟨hF, ?_, fun _ _ => rfl, rfl, rfl, fun _ _ => rfl, fun _ _ => rfl, rfl, rfl, rfl, rfl, rfl, rfl, rfl⟩, ⟨rfl, rfl, rfl, rfl, rfl, rfl⟩⟩
  · unfold tm_come tm_into
    exact (by
    obtain ⟨m0, m1, m2, m3, m4, m5, m6, m7, m8, m9, m10, m11, m12, m13, m14, m15, m17⟩ := hM
    refine ⟨?_, ?_, ?_, ?_, ?_, ?_, ?_, ?_, ?_, ?_, ?_, ?_, ?_, ?_, ?_, ?_, ?_⟩ <;> simp [tm_s_at, tm_u_at, tm_upd_at, m0, m1, m2, m3, m4, m5, m6, m7, m8, m9, m10, m11, m12, m13, m14, m15, m17])
  · intro j hj
    show tm_fl (σ 7) 0 8 j = tm_fl (r 2) (8 * e) (8 * e + 8) (8 * e + j)
    rw [tm_fl_at, tm_fl_at, if_pos (by omega), if_pos (by omega)]
  · show σ 0 7 + 1 + c7 = r 0 15 + 1
    rw [i_swap, h7]
  · intro j hj
    show tm_fl (r 2) (8 * e) (8 * e + 8) (8 * (1 - e) + j) = _
    rw [tm_fl_at, if_neg (by omega)]
theorem q_come_4 {e : Nat} (he : e < 2) {c7 c6 : Int32} {u S X T G S' X' T' G' : Nat} {σ r : tm_St} (h : tm_Q e c7 c6 u S X T G S' X' T' G' σ r) : tm_Q e c7 c6 u S X T G S' X' T' G' (tm_s (tm_come 4 σ) 3 (tm_fl (σ 3) 0 4)) (tm_s (tm_into e 4 r) 3 (tm_fl (r 3) (4 * e) (4 * e + 4))) ∧ tm_F e r (tm_s (tm_into e 4 r) 3 (tm_fl (r 3) (4 * e) (4 * e + 4))) ∧ tm_FC σ (tm_s (tm_come 4 σ) 3 (tm_fl (σ 3) 0 4)) := by
  obtain ⟨⟨hM, hR, h8, hWi, hWo, hla, h7, h6, hu⟩, hE, hE', hx, hs, hs', ht, hd⟩ := h
  have hF : ∀ k, k < 24 → (tm_into e (nI 4) r) 1 (24 * (1 - e) + k) = r 1 (24 * (1 - e) + k) := tm_ux he 1 (by decide) _ (tm_ux0 he _ (fun _ _ => rfl))
  obtain ⟨r1, r2, r3, r4, r5⟩ := hR
  refine ⟨⟨⟨?_, ⟨r1, ?_, r3, r4, r5⟩, h8, hWi, hWo, hla, ?_, h6, hu⟩, tm_E_01 (p := 4) hE (by decide), tm_E_x he hE' hF, hx, hs, hs', ht, hd⟩, ⟨hF, fun _ _ => rfl, ?_, rfl, rfl, fun _ _ => rfl, fun _ _ => rfl, rfl, rfl, rfl, rfl, rfl, rfl, rfl⟩, ⟨rfl, rfl, rfl, rfl, rfl, rfl⟩⟩
  · unfold tm_come tm_into
    exact (by
    obtain ⟨m0, m1, m2, m3, m4, m5, m6, m7, m8, m9, m10, m11, m12, m13, m14, m15, m17⟩ := hM
    refine ⟨?_, ?_, ?_, ?_, ?_, ?_, ?_, ?_, ?_, ?_, ?_, ?_, ?_, ?_, ?_, ?_, ?_⟩ <;> simp [tm_s_at, tm_u_at, tm_upd_at, m0, m1, m2, m3, m4, m5, m6, m7, m8, m9, m10, m11, m12, m13, m14, m15, m17])
  · intro j hj
    show tm_fl (σ 3) 0 4 j = tm_fl (r 3) (4 * e) (4 * e + 4) (4 * e + j)
    rw [tm_fl_at, tm_fl_at, if_pos (by omega), if_pos (by omega)]
  · show σ 0 7 + 1 + c7 = r 0 15 + 1
    rw [i_swap, h7]
  · intro j hj
    show tm_fl (r 3) (4 * e) (4 * e + 4) (4 * (1 - e) + j) = _
    rw [tm_fl_at, if_neg (by omega)]
theorem q_come_7 {e : Nat} (he : e < 2) {c7 c6 : Int32} {u S X T G S' X' T' G' : Nat} {σ r : tm_St} (h : tm_Q e c7 c6 u S X T G S' X' T' G' σ r) : tm_Q e c7 c6 u S T T G S' X' T' G' (tm_come7 σ) (tm_into7 e r) ∧ tm_F e r (tm_into7 e r) ∧ tm_FC σ (tm_come7 σ) := by
  obtain ⟨⟨hM, hR, h8, hWi, hWo, hla, h7, h6, hu⟩, hE, hE', hx, hs, hs', ht, hd⟩ := h
  have hF : ∀ k, k < 24 → (tm_into7 e r) 1 (24 * (1 - e) + k) = r 1 (24 * (1 - e) + k) := tm_ux he 14 (by decide) _ (tm_ux he 7 (by decide) _ (tm_ux he 16 (by decide) _ (tm_ux he 15 (by decide) _ (tm_ux he 10 (by decide) _ (tm_ux he 5 (by decide) _ (tm_ux he 1 (by decide) _ (tm_ux0 he _ (fun _ _ => rfl))))))))
  refine ⟨⟨⟨?_, hR, h8, hWi, hWo, hla, ?_, h6, hu⟩, ?_, tm_E_x he hE' hF, hx, hs, hs', ht, hd⟩, ⟨hF, fun _ _ => rfl, fun _ _ => rfl, rfl, rfl, fun _ _ => rfl, fun _ _ => rfl, rfl, rfl, rfl, rfl, rfl, rfl, rfl⟩, ⟨rfl, rfl, rfl, rfl, rfl, rfl⟩⟩
  · unfold tm_come7 tm_into7 tm_come tm_into
    exact (by
    obtain ⟨m0, m1, m2, m3, m4, m5, m6, m7, m8, m9, m10, m11, m12, m13, m14, m15, m17⟩ := hM
    refine ⟨?_, ?_, ?_, ?_, ?_, ?_, ?_, ?_, ?_, ?_, ?_, ?_, ?_, ?_, ?_, ?_, ?_⟩ <;> simp [tm_s_at, tm_u_at, tm_upd_at, m0, m1, m2, m3, m4, m5, m6, m7, m8, m9, m10, m11, m12, m13, m14, m15, m17])
  · show σ 0 7 + 1 + c7 = r 0 15 + 1
    rw [i_swap, h7]
  · have e8 : r 1 (24 * e + 8) = nI T := hE.2.2.2.2.2.2.2.2.1
    have hTS : T ≤ S := by have := hx; omega
    have h1 := tm_E_01 (p := 7) hE (by decide)
    have h2 := tm_E_5 h1 (q := 0) (by decide)
    have h3 := (tm_E_10 _ _ _ _ _ _ 0 _).mpr h2
    have h4 := tm_E_15 h3 (q := 0) (by decide)
    have h5 := (tm_E_16 _ _ _ _ _ _ 0 _).mpr h4
    have h6 := tm_E_7 h5 (q := T) hTS (by omega)
    have h7 := (tm_E_14 _ _ _ _ _ _ (r 1 (24 * e + 14) + 1) _).mpr h6
    rw [← e8] at h7
    exact h7
theorem q_set_2 {e : Nat} (he : e < 2) {c7 c6 : Int32} {u S X T G S' X' T' G' : Nat} {σ r : tm_St} (h : tm_Q e c7 c6 u S X T G S' X' T' G' σ r) (v : Int32) : tm_Q e c7 c6 u S X T G S' X' T' G' (tm_s σ 0 (tm_u (σ 0) 10 (v))) (tm_s r 1 (upd (r 1) (24 * e + 2) (v))) ∧ tm_F e r (tm_s r 1 (upd (r 1) (24 * e + 2) (v))) ∧ tm_FC σ (tm_s σ 0 (tm_u (σ 0) 10 (v))) := by
  obtain ⟨⟨hM, hR, h8, hWi, hWo, hla, h7, h6, hu⟩, hE, hE', hx, hs, hs', ht, hd⟩ := h
  have hF : ∀ k, k < 24 → upd (r 1) (24 * e + 2) (v) (24 * (1 - e) + k) = r 1 (24 * (1 - e) + k) := tm_ux he 2 (by decide) _ (fun _ _ => rfl)
  refine ⟨⟨⟨?_, hR, h8, hWi, hWo, hla, h7, h6, hu⟩, (tm_E_2 _ _ _ _ _ _ v _).mpr hE, tm_E_x he hE' hF, hx, hs, hs', ht, hd⟩, ⟨hF, fun _ _ => rfl, fun _ _ => rfl, rfl, rfl, fun _ _ => rfl, fun _ _ => rfl, rfl, rfl, rfl, rfl, rfl, rfl, rfl⟩, ⟨rfl, rfl, rfl, rfl, rfl, rfl⟩⟩
  exact (by
    obtain ⟨m0, m1, m2, m3, m4, m5, m6, m7, m8, m9, m10, m11, m12, m13, m14, m15, m17⟩ := hM
    refine ⟨?_, ?_, ?_, ?_, ?_, ?_, ?_, ?_, ?_, ?_, ?_, ?_, ?_, ?_, ?_, ?_, ?_⟩ <;> simp [tm_s_at, tm_u_at, tm_upd_at, m0, m1, m2, m3, m4, m5, m6, m7, m8, m9, m10, m11, m12, m13, m14, m15, m17])
theorem q_set_3 {e : Nat} (he : e < 2) {c7 c6 : Int32} {u S X T G S' X' T' G' : Nat} {σ r : tm_St} (h : tm_Q e c7 c6 u S X T G S' X' T' G' σ r) {q : Nat} (hq : q ≤ 24) : tm_Q e c7 c6 u S X T G S' X' T' G' (tm_s σ 0 (tm_u (σ 0) 11 (nI q))) (tm_s r 1 (upd (r 1) (24 * e + 3) (nI q))) ∧ tm_F e r (tm_s r 1 (upd (r 1) (24 * e + 3) (nI q))) ∧ tm_FC σ (tm_s σ 0 (tm_u (σ 0) 11 (nI q))) := by
  obtain ⟨⟨hM, hR, h8, hWi, hWo, hla, h7, h6, hu⟩, hE, hE', hx, hs, hs', ht, hd⟩ := h
  have hF : ∀ k, k < 24 → upd (r 1) (24 * e + 3) (nI q) (24 * (1 - e) + k) = r 1 (24 * (1 - e) + k) := tm_ux he 3 (by decide) _ (fun _ _ => rfl)
  refine ⟨⟨⟨?_, hR, h8, hWi, hWo, hla, h7, h6, hu⟩, tm_E_3 hE hq, tm_E_x he hE' hF, hx, hs, hs', ht, hd⟩, ⟨hF, fun _ _ => rfl, fun _ _ => rfl, rfl, rfl, fun _ _ => rfl, fun _ _ => rfl, rfl, rfl, rfl, rfl, rfl, rfl, rfl⟩, ⟨rfl, rfl, rfl, rfl, rfl, rfl⟩⟩
  exact (by
    obtain ⟨m0, m1, m2, m3, m4, m5, m6, m7, m8, m9, m10, m11, m12, m13, m14, m15, m17⟩ := hM
    refine ⟨?_, ?_, ?_, ?_, ?_, ?_, ?_, ?_, ?_, ?_, ?_, ?_, ?_, ?_, ?_, ?_, ?_⟩ <;> simp [tm_s_at, tm_u_at, tm_upd_at, m0, m1, m2, m3, m4, m5, m6, m7, m8, m9, m10, m11, m12, m13, m14, m15, m17])
theorem q_set_4 {e : Nat} (he : e < 2) {c7 c6 : Int32} {u S X T G S' X' T' G' : Nat} {σ r : tm_St} (h : tm_Q e c7 c6 u S X T G S' X' T' G' σ r) {q : Nat} (hq : q ≤ 24) : tm_Q e c7 c6 u S X T G S' X' T' G' (tm_s σ 0 (tm_u (σ 0) 12 (nI q))) (tm_s r 1 (upd (r 1) (24 * e + 4) (nI q))) ∧ tm_F e r (tm_s r 1 (upd (r 1) (24 * e + 4) (nI q))) ∧ tm_FC σ (tm_s σ 0 (tm_u (σ 0) 12 (nI q))) := by
  obtain ⟨⟨hM, hR, h8, hWi, hWo, hla, h7, h6, hu⟩, hE, hE', hx, hs, hs', ht, hd⟩ := h
  have hF : ∀ k, k < 24 → upd (r 1) (24 * e + 4) (nI q) (24 * (1 - e) + k) = r 1 (24 * (1 - e) + k) := tm_ux he 4 (by decide) _ (fun _ _ => rfl)
  refine ⟨⟨⟨?_, hR, h8, hWi, hWo, hla, h7, h6, hu⟩, tm_E_4 hE hq, tm_E_x he hE' hF, hx, hs, hs', ht, hd⟩, ⟨hF, fun _ _ => rfl, fun _ _ => rfl, rfl, rfl, fun _ _ => rfl, fun _ _ => rfl, rfl, rfl, rfl, rfl, rfl, rfl, rfl⟩, ⟨rfl, rfl, rfl, rfl, rfl, rfl⟩⟩
  exact (by
    obtain ⟨m0, m1, m2, m3, m4, m5, m6, m7, m8, m9, m10, m11, m12, m13, m14, m15, m17⟩ := hM
    refine ⟨?_, ?_, ?_, ?_, ?_, ?_, ?_, ?_, ?_, ?_, ?_, ?_, ?_, ?_, ?_, ?_, ?_⟩ <;> simp [tm_s_at, tm_u_at, tm_upd_at, m0, m1, m2, m3, m4, m5, m6, m7, m8, m9, m10, m11, m12, m13, m14, m15, m17])
theorem q_set_5 {e : Nat} (he : e < 2) {c7 c6 : Int32} {u S X T G S' X' T' G' : Nat} {σ r : tm_St} (h : tm_Q e c7 c6 u S X T G S' X' T' G' σ r) {q : Nat} (hq : q ≤ 24) : tm_Q e c7 c6 u S X T G S' X' T' G' (tm_s σ 0 (tm_u (σ 0) 13 (nI q))) (tm_s r 1 (upd (r 1) (24 * e + 5) (nI q))) ∧ tm_F e r (tm_s r 1 (upd (r 1) (24 * e + 5) (nI q))) ∧ tm_FC σ (tm_s σ 0 (tm_u (σ 0) 13 (nI q))) := by
  obtain ⟨⟨hM, hR, h8, hWi, hWo, hla, h7, h6, hu⟩, hE, hE', hx, hs, hs', ht, hd⟩ := h
  have hF : ∀ k, k < 24 → upd (r 1) (24 * e + 5) (nI q) (24 * (1 - e) + k) = r 1 (24 * (1 - e) + k) := tm_ux he 5 (by decide) _ (fun _ _ => rfl)
  refine ⟨⟨⟨?_, hR, h8, hWi, hWo, hla, h7, h6, hu⟩, tm_E_5 hE hq, tm_E_x he hE' hF, hx, hs, hs', ht, hd⟩, ⟨hF, fun _ _ => rfl, fun _ _ => rfl, rfl, rfl, fun _ _ => rfl, fun _ _ => rfl, rfl, rfl, rfl, rfl, rfl, rfl, rfl⟩, ⟨rfl, rfl, rfl, rfl, rfl, rfl⟩⟩
  exact (by
    obtain ⟨m0, m1, m2, m3, m4, m5, m6, m7, m8, m9, m10, m11, m12, m13, m14, m15, m17⟩ := hM
    refine ⟨?_, ?_, ?_, ?_, ?_, ?_, ?_, ?_, ?_, ?_, ?_, ?_, ?_, ?_, ?_, ?_, ?_⟩ <;> simp [tm_s_at, tm_u_at, tm_upd_at, m0, m1, m2, m3, m4, m5, m6, m7, m8, m9, m10, m11, m12, m13, m14, m15, m17])
theorem q_set_10 {e : Nat} (he : e < 2) {c7 c6 : Int32} {u S X T G S' X' T' G' : Nat} {σ r : tm_St} (h : tm_Q e c7 c6 u S X T G S' X' T' G' σ r) (v : Int32) : tm_Q e c7 c6 u S X T G S' X' T' G' (tm_s σ 0 (tm_u (σ 0) 14 (v))) (tm_s r 1 (upd (r 1) (24 * e + 10) (v))) ∧ tm_F e r (tm_s r 1 (upd (r 1) (24 * e + 10) (v))) ∧ tm_FC σ (tm_s σ 0 (tm_u (σ 0) 14 (v))) := by
  obtain ⟨⟨hM, hR, h8, hWi, hWo, hla, h7, h6, hu⟩, hE, hE', hx, hs, hs', ht, hd⟩ := h
  have hF : ∀ k, k < 24 → upd (r 1) (24 * e + 10) (v) (24 * (1 - e) + k) = r 1 (24 * (1 - e) + k) := tm_ux he 10 (by decide) _ (fun _ _ => rfl)
  refine ⟨⟨⟨?_, hR, h8, hWi, hWo, hla, h7, h6, hu⟩, (tm_E_10 _ _ _ _ _ _ v _).mpr hE, tm_E_x he hE' hF, hx, hs, hs', ht, hd⟩, ⟨hF, fun _ _ => rfl, fun _ _ => rfl, rfl, rfl, fun _ _ => rfl, fun _ _ => rfl, rfl, rfl, rfl, rfl, rfl, rfl, rfl⟩, ⟨rfl, rfl, rfl, rfl, rfl, rfl⟩⟩
  exact (by
    obtain ⟨m0, m1, m2, m3, m4, m5, m6, m7, m8, m9, m10, m11, m12, m13, m14, m15, m17⟩ := hM
    refine ⟨?_, ?_, ?_, ?_, ?_, ?_, ?_, ?_, ?_, ?_, ?_, ?_, ?_, ?_, ?_, ?_, ?_⟩ <;> simp [tm_s_at, tm_u_at, tm_upd_at, m0, m1, m2, m3, m4, m5, m6, m7, m8, m9, m10, m11, m12, m13, m14, m15, m17])
theorem q_set_11 {e : Nat} (he : e < 2) {c7 c6 : Int32} {u S X T G S' X' T' G' : Nat} {σ r : tm_St} (h : tm_Q e c7 c6 u S X T G S' X' T' G' σ r) (v : Int32) : tm_Q e c7 c6 u S X T G S' X' T' G' (tm_s σ 0 (tm_u (σ 0) 15 (v))) (tm_s r 1 (upd (r 1) (24 * e + 11) (v))) ∧ tm_F e r (tm_s r 1 (upd (r 1) (24 * e + 11) (v))) ∧ tm_FC σ (tm_s σ 0 (tm_u (σ 0) 15 (v))) := by
  obtain ⟨⟨hM, hR, h8, hWi, hWo, hla, h7, h6, hu⟩, hE, hE', hx, hs, hs', ht, hd⟩ := h
  have hF : ∀ k, k < 24 → upd (r 1) (24 * e + 11) (v) (24 * (1 - e) + k) = r 1 (24 * (1 - e) + k) := tm_ux he 11 (by decide) _ (fun _ _ => rfl)
  refine ⟨⟨⟨?_, hR, h8, hWi, hWo, hla, h7, h6, hu⟩, (tm_E_11 _ _ _ _ _ _ v _).mpr hE, tm_E_x he hE' hF, hx, hs, hs', ht, hd⟩, ⟨hF, fun _ _ => rfl, fun _ _ => rfl, rfl, rfl, fun _ _ => rfl, fun _ _ => rfl, rfl, rfl, rfl, rfl, rfl, rfl, rfl⟩, ⟨rfl, rfl, rfl, rfl, rfl, rfl⟩⟩
  exact (by
    obtain ⟨m0, m1, m2, m3, m4, m5, m6, m7, m8, m9, m10, m11, m12, m13, m14, m15, m17⟩ := hM
    refine ⟨?_, ?_, ?_, ?_, ?_, ?_, ?_, ?_, ?_, ?_, ?_, ?_, ?_, ?_, ?_, ?_, ?_⟩ <;> simp [tm_s_at, tm_u_at, tm_upd_at, m0, m1, m2, m3, m4, m5, m6, m7, m8, m9, m10, m11, m12, m13, m14, m15, m17])
theorem q_set_12 {e : Nat} (he : e < 2) {c7 c6 : Int32} {u S X T G S' X' T' G' : Nat} {σ r : tm_St} (h : tm_Q e c7 c6 u S X T G S' X' T' G' σ r) (v : Int32) : tm_Q e c7 c6 u S X T G S' X' T' G' (tm_s σ 0 (tm_u (σ 0) 17 (v))) (tm_s r 1 (upd (r 1) (24 * e + 12) (v))) ∧ tm_F e r (tm_s r 1 (upd (r 1) (24 * e + 12) (v))) ∧ tm_FC σ (tm_s σ 0 (tm_u (σ 0) 17 (v))) := by
  obtain ⟨⟨hM, hR, h8, hWi, hWo, hla, h7, h6, hu⟩, hE, hE', hx, hs, hs', ht, hd⟩ := h
  have hF : ∀ k, k < 24 → upd (r 1) (24 * e + 12) (v) (24 * (1 - e) + k) = r 1 (24 * (1 - e) + k) := tm_ux he 12 (by decide) _ (fun _ _ => rfl)
  refine ⟨⟨⟨?_, hR, h8, hWi, hWo, hla, h7, h6, hu⟩, (tm_E_12 _ _ _ _ _ _ v _).mpr hE, tm_E_x he hE' hF, hx, hs, hs', ht, hd⟩, ⟨hF, fun _ _ => rfl, fun _ _ => rfl, rfl, rfl, fun _ _ => rfl, fun _ _ => rfl, rfl, rfl, rfl, rfl, rfl, rfl, rfl⟩, ⟨rfl, rfl, rfl, rfl, rfl, rfl⟩⟩
  exact (by
    obtain ⟨m0, m1, m2, m3, m4, m5, m6, m7, m8, m9, m10, m11, m12, m13, m14, m15, m17⟩ := hM
    refine ⟨?_, ?_, ?_, ?_, ?_, ?_, ?_, ?_, ?_, ?_, ?_, ?_, ?_, ?_, ?_, ?_, ?_⟩ <;> simp [tm_s_at, tm_u_at, tm_upd_at, m0, m1, m2, m3, m4, m5, m6, m7, m8, m9, m10, m11, m12, m13, m14, m15, m17])
theorem q_set_13 {e : Nat} (he : e < 2) {c7 c6 : Int32} {u S X T G S' X' T' G' : Nat} {σ r : tm_St} (h : tm_Q e c7 c6 u S X T G S' X' T' G' σ r) (v : Int32) : tm_Q e c7 c6 u S X T G S' X' T' G' (tm_s σ 0 (tm_u (σ 0) 18 (v))) (tm_s r 1 (upd (r 1) (24 * e + 13) (v))) ∧ tm_F e r (tm_s r 1 (upd (r 1) (24 * e + 13) (v))) ∧ tm_FC σ (tm_s σ 0 (tm_u (σ 0) 18 (v))) := by
  obtain ⟨⟨hM, hR, h8, hWi, hWo, hla, h7, h6, hu⟩, hE, hE', hx, hs, hs', ht, hd⟩ := h
  have hF : ∀ k, k < 24 → upd (r 1) (24 * e + 13) (v) (24 * (1 - e) + k) = r 1 (24 * (1 - e) + k) := tm_ux he 13 (by decide) _ (fun _ _ => rfl)
  refine ⟨⟨⟨?_, hR, h8, hWi, hWo, hla, h7, h6, hu⟩, (tm_E_13 _ _ _ _ _ _ v _).mpr hE, tm_E_x he hE' hF, hx, hs, hs', ht, hd⟩, ⟨hF, fun _ _ => rfl, fun _ _ => rfl, rfl, rfl, fun _ _ => rfl, fun _ _ => rfl, rfl, rfl, rfl, rfl, rfl, rfl, rfl⟩, ⟨rfl, rfl, rfl, rfl, rfl, rfl⟩⟩
  exact (by
    obtain ⟨m0, m1, m2, m3, m4, m5, m6, m7, m8, m9, m10, m11, m12, m13, m14, m15, m17⟩ := hM
    refine ⟨?_, ?_, ?_, ?_, ?_, ?_, ?_, ?_, ?_, ?_, ?_, ?_, ?_, ?_, ?_, ?_, ?_⟩ <;> simp [tm_s_at, tm_u_at, tm_upd_at, m0, m1, m2, m3, m4, m5, m6, m7, m8, m9, m10, m11, m12, m13, m14, m15, m17])
theorem q_set_14 {e : Nat} (he : e < 2) {c7 c6 : Int32} {u S X T G S' X' T' G' : Nat} {σ r : tm_St} (h : tm_Q e c7 c6 u S X T G S' X' T' G' σ r) (v : Int32) : tm_Q e c7 c6 u S X T G S' X' T' G' (tm_s σ 0 (tm_u (σ 0) 19 (v))) (tm_s r 1 (upd (r 1) (24 * e + 14) (v))) ∧ tm_F e r (tm_s r 1 (upd (r 1) (24 * e + 14) (v))) ∧ tm_FC σ (tm_s σ 0 (tm_u (σ 0) 19 (v))) := by
  obtain ⟨⟨hM, hR, h8, hWi, hWo, hla, h7, h6, hu⟩, hE, hE', hx, hs, hs', ht, hd⟩ := h
  have hF : ∀ k, k < 24 → upd (r 1) (24 * e + 14) (v) (24 * (1 - e) + k) = r 1 (24 * (1 - e) + k) := tm_ux he 14 (by decide) _ (fun _ _ => rfl)
  refine ⟨⟨⟨?_, hR, h8, hWi, hWo, hla, h7, h6, hu⟩, (tm_E_14 _ _ _ _ _ _ v _).mpr hE, tm_E_x he hE' hF, hx, hs, hs', ht, hd⟩, ⟨hF, fun _ _ => rfl, fun _ _ => rfl, rfl, rfl, fun _ _ => rfl, fun _ _ => rfl, rfl, rfl, rfl, rfl, rfl, rfl, rfl⟩, ⟨rfl, rfl, rfl, rfl, rfl, rfl⟩⟩
  exact (by
    obtain ⟨m0, m1, m2, m3, m4, m5, m6, m7, m8, m9, m10, m11, m12, m13, m14, m15, m17⟩ := hM
    refine ⟨?_, ?_, ?_, ?_, ?_, ?_, ?_, ?_, ?_, ?_, ?_, ?_, ?_, ?_, ?_, ?_, ?_⟩ <;> simp [tm_s_at, tm_u_at, tm_upd_at, m0, m1, m2, m3, m4, m5, m6, m7, m8, m9, m10, m11, m12, m13, m14, m15, m17])
theorem q_set_15 {e : Nat} (he : e < 2) {c7 c6 : Int32} {u S X T G S' X' T' G' : Nat} {σ r : tm_St} (h : tm_Q e c7 c6 u S X T G S' X' T' G' σ r) {q : Nat} (hq : q < 256) : tm_Q e c7 c6 u S X T G S' X' T' G' (tm_s σ 0 (tm_u (σ 0) 16 (nI q))) (tm_s r 1 (upd (r 1) (24 * e + 15) (nI q))) ∧ tm_F e r (tm_s r 1 (upd (r 1) (24 * e + 15) (nI q))) ∧ tm_FC σ (tm_s σ 0 (tm_u (σ 0) 16 (nI q))) := by
  obtain ⟨⟨hM, hR, h8, hWi, hWo, hla, h7, h6, hu⟩, hE, hE', hx, hs, hs', ht, hd⟩ := h
  have hF : ∀ k, k < 24 → upd (r 1) (24 * e + 15) (nI q) (24 * (1 - e) + k) = r 1 (24 * (1 - e) + k) := tm_ux he 15 (by decide) _ (fun _ _ => rfl)
  refine ⟨⟨⟨?_, hR, h8, hWi, hWo, hla, h7, h6, hu⟩, tm_E_15 hE hq, tm_E_x he hE' hF, hx, hs, hs', ht, hd⟩, ⟨hF, fun _ _ => rfl, fun _ _ => rfl, rfl, rfl, fun _ _ => rfl, fun _ _ => rfl, rfl, rfl, rfl, rfl, rfl, rfl, rfl⟩, ⟨rfl, rfl, rfl, rfl, rfl, rfl⟩⟩
  exact (by
    obtain ⟨m0, m1, m2, m3, m4, m5, m6, m7, m8, m9, m10, m11, m12, m13, m14, m15, m17⟩ := hM
    refine ⟨?_, ?_, ?_, ?_, ?_, ?_, ?_, ?_, ?_, ?_, ?_, ?_, ?_, ?_, ?_, ?_, ?_⟩ <;> simp [tm_s_at, tm_u_at, tm_upd_at, m0, m1, m2, m3, m4, m5, m6, m7, m8, m9, m10, m11, m12, m13, m14, m15, m17])
theorem q_set_7 {e : Nat} (he : e < 2) {c7 c6 : Int32} {u S X T G S' X' T' G' : Nat} {σ r : tm_St} (h : tm_Q e c7 c6 u S X T G S' X' T' G' σ r) {q : Nat} (hq : q ≤ S) (hq2 : q ≤ T + 64) : tm_Q e c7 c6 u S q T G S' X' T' G' (tm_s σ 4 (tm_u (σ 4) 5 (nI q))) (tm_s r 1 (upd (r 1) (24 * e + 7) (nI q))) ∧ tm_F e r (tm_s r 1 (upd (r 1) (24 * e + 7) (nI q))) ∧ tm_FC σ (tm_s σ 4 (tm_u (σ 4) 5 (nI q))) := by
  obtain ⟨⟨hM, hR, h8, hWi, hWo, hla, h7, h6, hu⟩, hE, hE', hx, hs, hs', ht, hd⟩ := h
  have hF : ∀ k, k < 24 → upd (r 1) (24 * e + 7) (nI q) (24 * (1 - e) + k) = r 1 (24 * (1 - e) + k) := tm_ux he 7 (by decide) _ (fun _ _ => rfl)
  refine ⟨⟨⟨?_, hR, h8, hWi, hWo, hla, h7, h6, hu⟩, tm_E_7 hE hq hq2, tm_E_x he hE' hF, hx, hs, hs', ht, hd⟩, ⟨hF, fun _ _ => rfl, fun _ _ => rfl, rfl, rfl, fun _ _ => rfl, fun _ _ => rfl, rfl, rfl, rfl, rfl, rfl, rfl, rfl⟩, ⟨rfl, rfl, rfl, rfl, rfl, rfl⟩⟩
  exact (by
    obtain ⟨m0, m1, m2, m3, m4, m5, m6, m7, m8, m9, m10, m11, m12, m13, m14, m15, m17⟩ := hM
    refine ⟨?_, ?_, ?_, ?_, ?_, ?_, ?_, ?_, ?_, ?_, ?_, ?_, ?_, ?_, ?_, ?_, ?_⟩ <;> simp [tm_s_at, tm_u_at, tm_upd_at, m0, m1, m2, m3, m4, m5, m6, m7, m8, m9, m10, m11, m12, m13, m14, m15, m17])
theorem q_set_8 {e : Nat} (he : e < 2) {c7 c6 : Int32} {u S X T G S' X' T' G' : Nat} {σ r : tm_St} (h : tm_Q e c7 c6 u S X T G S' X' T' G' σ r) {q : Nat} (hq : T ≤ q) (hq2 : q ≤ G') : tm_Q e c7 c6 u S X q G S' X' T' G' (tm_s σ 4 (tm_u (σ 4) 4 (nI q))) (tm_s r 1 (upd (r 1) (24 * e + 8) (nI q))) ∧ tm_F e r (tm_s r 1 (upd (r 1) (24 * e + 8) (nI q))) ∧ tm_FC σ (tm_s σ 4 (tm_u (σ 4) 4 (nI q))) := by
  obtain ⟨⟨hM, hR, h8, hWi, hWo, hla, h7, h6, hu⟩, hE, hE', hx, hs, hs', ht, hd⟩ := h
  have hF : ∀ k, k < 24 → upd (r 1) (24 * e + 8) (nI q) (24 * (1 - e) + k) = r 1 (24 * (1 - e) + k) := tm_ux he 8 (by decide) _ (fun _ _ => rfl)
  refine ⟨⟨⟨?_, hR, h8, hWi, hWo, hla, h7, h6, hu⟩, tm_E_8 hE hq, tm_E_x he hE' hF, ⟨hq2, hx.2.1, hx.2.2.1, hx.2.2.2⟩, hs, hs', ht, hd⟩, ⟨hF, fun _ _ => rfl, fun _ _ => rfl, rfl, rfl, fun _ _ => rfl, fun _ _ => rfl, rfl, rfl, rfl, rfl, rfl, rfl, rfl⟩, ⟨rfl, rfl, rfl, rfl, rfl, rfl⟩⟩
  exact (by
    obtain ⟨m0, m1, m2, m3, m4, m5, m6, m7, m8, m9, m10, m11, m12, m13, m14, m15, m17⟩ := hM
    refine ⟨?_, ?_, ?_, ?_, ?_, ?_, ?_, ?_, ?_, ?_, ?_, ?_, ?_, ?_, ?_, ?_, ?_⟩ <;> simp [tm_s_at, tm_u_at, tm_upd_at, m0, m1, m2, m3, m4, m5, m6, m7, m8, m9, m10, m11, m12, m13, m14, m15, m17])
theorem q_sil {e : Nat} (he : e < 2) {c7 c6 : Int32} {u S X T G S' X' T' G' : Nat} {σ r : tm_St} (h : tm_Q e c7 c6 u S X T G S' X' T' G' σ r) (v : Int32) : tm_Q e c7 c6 u S X T G S' X' T' G' σ (tm_s r 1 (upd (r 1) (24 * e + 16) v)) ∧ tm_F e r (tm_s r 1 (upd (r 1) (24 * e + 16) v)) := by
  obtain ⟨⟨hM, hR, h8, hWi, hWo, hla, h7, h6, hu⟩, hE, hE', hx, hs, hs', ht, hd⟩ := h
  have hF : ∀ k, k < 24 → upd (r 1) (24 * e + 16) v (24 * (1 - e) + k) = r 1 (24 * (1 - e) + k) := tm_ux he 16 (by decide) _ (fun _ _ => rfl)
  refine ⟨⟨⟨?_, hR, h8, hWi, hWo, hla, h7, h6, hu⟩, (tm_E_16 _ _ _ _ _ _ v _).mpr hE, tm_E_x he hE' hF, hx, hs, hs', ht, hd⟩, ⟨hF, fun _ _ => rfl, fun _ _ => rfl, rfl, rfl, fun _ _ => rfl, fun _ _ => rfl, rfl, rfl, rfl, rfl, rfl, rfl, rfl⟩⟩
  exact (by
    obtain ⟨m0, m1, m2, m3, m4, m5, m6, m7, m8, m9, m10, m11, m12, m13, m14, m15, m17⟩ := hM
    refine ⟨?_, ?_, ?_, ?_, ?_, ?_, ?_, ?_, ?_, ?_, ?_, ?_, ?_, ?_, ?_, ?_, ?_⟩ <;> simp [tm_s_at, tm_u_at, tm_upd_at, m0, m1, m2, m3, m4, m5, m6, m7, m8, m9, m10, m11, m12, m13, m14, m15, m17])
theorem q_flag_26 {e : Nat} (he : e < 2) {c7 c6 : Int32} {u S X T G S' X' T' G' : Nat} {σ r : tm_St} (h : tm_Q e c7 c6 u S X T G S' X' T' G' σ r) (v : Int32) : tm_Q e c7 c6 u S X T G S' X' T' G' σ (tm_s r 0 (tm_u (r 0) 26 v)) ∧ tm_F e r (tm_s r 0 (tm_u (r 0) 26 v)) := by
  obtain ⟨⟨hM, hR, h8, hWi, hWo, hla, h7, h6, hu⟩, hE, hE', hx, hs, hs', ht, hd⟩ := h
  exact ⟨⟨⟨hM, hR, h8, hWi, hWo, hla, h7, h6, hu⟩, hE, hE', hx, hs, hs', ht, hd⟩, ⟨fun _ _ => rfl, fun _ _ => rfl, fun _ _ => rfl, rfl, rfl, fun _ _ => rfl, fun _ _ => rfl, rfl, rfl, rfl, rfl, rfl, rfl, rfl⟩⟩
theorem q_flag_27 {e : Nat} (he : e < 2) {c7 c6 : Int32} {u S X T G S' X' T' G' : Nat} {σ r : tm_St} (h : tm_Q e c7 c6 u S X T G S' X' T' G' σ r) (v : Int32) : tm_Q e c7 c6 u S X T G S' X' T' G' σ (tm_s r 0 (tm_u (r 0) 27 v)) ∧ tm_F e r (tm_s r 0 (tm_u (r 0) 27 v)) := by
  obtain ⟨⟨hM, hR, h8, hWi, hWo, hla, h7, h6, hu⟩, hE, hE', hx, hs, hs', ht, hd⟩ := h
  exact ⟨⟨⟨hM, hR, h8, hWi, hWo, hla, h7, h6, hu⟩, hE, hE', hx, hs, hs', ht, hd⟩, ⟨fun _ _ => rfl, fun _ _ => rfl, fun _ _ => rfl, rfl, rfl, fun _ _ => rfl, fun _ _ => rfl, rfl, rfl, rfl, rfl, rfl, rfl, rfl⟩⟩
theorem q_flag_28 {e : Nat} (he : e < 2) {c7 c6 : Int32} {u S X T G S' X' T' G' : Nat} {σ r : tm_St} (h : tm_Q e c7 c6 u S X T G S' X' T' G' σ r) (v : Int32) : tm_Q e c7 c6 u S X T G S' X' T' G' σ (tm_s r 0 (tm_u (r 0) 28 v)) ∧ tm_F e r (tm_s r 0 (tm_u (r 0) 28 v)) := by
  obtain ⟨⟨hM, hR, h8, hWi, hWo, hla, h7, h6, hu⟩, hE, hE', hx, hs, hs', ht, hd⟩ := h
  exact ⟨⟨⟨hM, hR, h8, hWi, hWo, hla, h7, h6, hu⟩, hE, hE', hx, hs, hs', ht, hd⟩, ⟨fun _ _ => rfl, fun _ _ => rfl, fun _ _ => rfl, rfl, rfl, fun _ _ => rfl, fun _ _ => rfl, rfl, rfl, rfl, rfl, rfl, rfl, rfl⟩⟩
theorem q_silC {e : Nat} (he : e < 2) {c7 c6 : Int32} {u S X T G S' X' T' G' : Nat} {σ r : tm_St} (h : tm_Q e c7 c6 u S X T G S' X' T' G' σ r) (v : Int32) : tm_Q e c7 c6 u S X T G S' X' T' G' (tm_s σ 0 (tm_u (σ 0) 9 v)) r ∧ tm_FC σ (tm_s σ 0 (tm_u (σ 0) 9 v)) := by
  obtain ⟨⟨hM, hR, h8, hWi, hWo, hla, h7, h6, hu⟩, hE, hE', hx, hs, hs', ht, hd⟩ := h
  exact ⟨⟨⟨hM, hR, h8, hWi, hWo, hla, h7, h6, hu⟩, hE, hE', hx, hs, hs', ht, hd⟩, ⟨rfl, rfl, rfl, rfl, rfl, rfl⟩⟩
theorem q_note {e : Nat} (he : e < 2) {c7 c6 : Int32} {u S X T G S' X' T' G' : Nat} {σ r : tm_St} (h : tm_Q e c7 c6 u S X T G S' X' T' G' σ r) {b : Nat} (hb : b < 8) : tm_Q e c7 c6 u S X T G S' X' T' G' (tm_s σ 7 (upd (σ 7) b (σ 10 b))) (tm_s r 2 (upd (r 2) (8 * e + b) (r 8 (8 * (1 - e) + b)))) ∧ tm_F e r (tm_s r 2 (upd (r 2) (8 * e + b) (r 8 (8 * (1 - e) + b)))) ∧ tm_FC σ (tm_s σ 7 (upd (σ 7) b (σ 10 b))) := by
  obtain ⟨⟨hM, hR, h8, hWi, hWo, hla, h7, h6, hu⟩, hE, hE', hx, hs, hs', ht, hd⟩ := h
  obtain ⟨r1, r2, r3, r4, r5⟩ := hR
  refine ⟨⟨⟨hM, ⟨r1, r2, ?_, r4, r5⟩, h8, hWi, hWo, hla, h7, h6, hu⟩, hE, hE', hx, hs, hs', ht, hd⟩, ⟨fun _ _ => rfl, ?_, fun _ _ => rfl, rfl, rfl, fun _ _ => rfl, fun _ _ => rfl, rfl, rfl, rfl, rfl, rfl, rfl, rfl⟩, ⟨rfl, rfl, rfl, rfl, rfl, rfl⟩⟩
  · intro j hj
    show upd (σ 7) b (σ 10 b) j = upd (r 2) (8 * e + b) (r 8 (8 * (1 - e) + b)) (8 * e + j)
    rw [tm_upd_at, tm_upd_at, hWi.2.2.2.1 b hb]
    by_cases q : j = b
    · rw [if_pos q, if_pos (by omega)]
    · rw [if_neg q, if_neg (by omega)]
      exact r3 j hj
  · intro j hj
    show upd (r 2) (8 * e + b) (r 8 (8 * (1 - e) + b)) (8 * (1 - e) + j) = _
    rw [tm_upd_at, if_neg (by omega)]
theorem q_last {e : Nat} (he : e < 2) {c7 c6 : Int32} {u S X T G S' X' T' G' : Nat} {σ r : tm_St} (h : tm_Q e c7 c6 u S X T G S' X' T' G' σ r) : tm_Q e c7 c6 (u + 1) S X T G S' X' T' G' (tm_s σ 0 (tm_u (σ 0) 8 (σ 0 8 + 1))) (tm_s r 1 (upd (r 1) (24 * e + 1) (r 1 (24 * e + 1) + 1))) ∧ tm_F e r (tm_s r 1 (upd (r 1) (24 * e + 1) (r 1 (24 * e + 1) + 1))) ∧ tm_FC σ (tm_s σ 0 (tm_u (σ 0) 8 (σ 0 8 + 1))) := by
  obtain ⟨⟨hM, hR, h8, hWi, hWo, hla, h7, h6, hu⟩, hE, hE', hx, hs, hs', ht, hd⟩ := h
  have hF : ∀ k, k < 24 → upd (r 1) (24 * e + 1) (r 1 (24 * e + 1) + 1) (24 * (1 - e) + k) = r 1 (24 * (1 - e) + k) := tm_ux he 1 (by decide) _ (fun _ _ => rfl)
  obtain ⟨t, htu, ht⟩ := ht
  refine ⟨⟨⟨?_, hR, h8, hWi, hWo, hla, h7, h6, hu⟩, tm_E_1 hE, tm_E_u (tm_E_x he hE' hF) (Nat.le_succ u), hx, hs, hs', ⟨t, Nat.le_succ_of_le htu, ht⟩, hd⟩, ⟨hF, fun _ _ => rfl, fun _ _ => rfl, rfl, rfl, fun _ _ => rfl, fun _ _ => rfl, rfl, rfl, rfl, rfl, rfl, rfl, rfl⟩, ⟨rfl, rfl, rfl, rfl, rfl, rfl⟩⟩
  exact (by
    obtain ⟨m0, m1, m2, m3, m4, m5, m6, m7, m8, m9, m10, m11, m12, m13, m14, m15, m17⟩ := hM
    refine ⟨?_, ?_, ?_, ?_, ?_, ?_, ?_, ?_, ?_, ?_, ?_, ?_, ?_, ?_, ?_, ?_, ?_⟩ <;> simp [tm_s_at, tm_u_at, tm_upd_at, m0, m1, m2, m3, m4, m5, m6, m7, m8, m9, m10, m11, m12, m13, m14, m15, m17])
