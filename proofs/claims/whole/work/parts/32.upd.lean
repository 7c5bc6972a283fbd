theorem tm_E_2 (b u S X T G : Nat) (v : Int32) (f : Nat → Int32) : tm_E b u S X T G (upd f (b + 2) v) ↔ tm_E b u S X T G f := by simp [tm_E, tm_upd_at]
theorem tm_E_10 (b u S X T G : Nat) (v : Int32) (f : Nat → Int32) : tm_E b u S X T G (upd f (b + 10) v) ↔ tm_E b u S X T G f := by simp [tm_E, tm_upd_at]
theorem tm_E_11 (b u S X T G : Nat) (v : Int32) (f : Nat → Int32) : tm_E b u S X T G (upd f (b + 11) v) ↔ tm_E b u S X T G f := by simp [tm_E, tm_upd_at]
theorem tm_E_12 (b u S X T G : Nat) (v : Int32) (f : Nat → Int32) : tm_E b u S X T G (upd f (b + 12) v) ↔ tm_E b u S X T G f := by simp [tm_E, tm_upd_at]
theorem tm_E_13 (b u S X T G : Nat) (v : Int32) (f : Nat → Int32) : tm_E b u S X T G (upd f (b + 13) v) ↔ tm_E b u S X T G f := by simp [tm_E, tm_upd_at]
theorem tm_E_14 (b u S X T G : Nat) (v : Int32) (f : Nat → Int32) : tm_E b u S X T G (upd f (b + 14) v) ↔ tm_E b u S X T G f := by simp [tm_E, tm_upd_at]
theorem tm_E_16 (b u S X T G : Nat) (v : Int32) (f : Nat → Int32) : tm_E b u S X T G (upd f (b + 16) v) ↔ tm_E b u S X T G f := by simp [tm_E, tm_upd_at]
theorem tm_E_3 {b u S X T G : Nat} {f : Nat → Int32} (h : tm_E b u S X T G f) {q : Nat} (hq : q ≤ 24) : tm_E b u S X T G (upd f (b + 3) (nI q)) := by
  obtain ⟨h0, h1, h2, h3, h4, h5, h6, h7, h8, h9, h10⟩ := h
  refine ⟨by simpa [tm_upd_at] using h0, by simpa [tm_upd_at] using h1, ⟨q, hq, by simp [tm_upd_at]⟩, by simpa [tm_upd_at] using h3, by simpa [tm_upd_at] using h4, by simpa [tm_upd_at] using h5, by simpa [tm_upd_at] using h6, by simpa [tm_upd_at] using h7, by simpa [tm_upd_at] using h8, by simpa [tm_upd_at] using h9, h10⟩
theorem tm_E_4 {b u S X T G : Nat} {f : Nat → Int32} (h : tm_E b u S X T G f) {q : Nat} (hq : q ≤ 24) : tm_E b u S X T G (upd f (b + 4) (nI q)) := by
  obtain ⟨h0, h1, h2, h3, h4, h5, h6, h7, h8, h9, h10⟩ := h
  refine ⟨by simpa [tm_upd_at] using h0, by simpa [tm_upd_at] using h1, by simpa [tm_upd_at] using h2, ⟨q, hq, by simp [tm_upd_at]⟩, by simpa [tm_upd_at] using h4, by simpa [tm_upd_at] using h5, by simpa [tm_upd_at] using h6, by simpa [tm_upd_at] using h7, by simpa [tm_upd_at] using h8, by simpa [tm_upd_at] using h9, h10⟩
theorem tm_E_5 {b u S X T G : Nat} {f : Nat → Int32} (h : tm_E b u S X T G f) {q : Nat} (hq : q ≤ 24) : tm_E b u S X T G (upd f (b + 5) (nI q)) := by
  obtain ⟨h0, h1, h2, h3, h4, h5, h6, h7, h8, h9, h10⟩ := h
  refine ⟨by simpa [tm_upd_at] using h0, by simpa [tm_upd_at] using h1, by simpa [tm_upd_at] using h2, by simpa [tm_upd_at] using h3, ⟨q, hq, by simp [tm_upd_at]⟩, by simpa [tm_upd_at] using h5, by simpa [tm_upd_at] using h6, by simpa [tm_upd_at] using h7, by simpa [tm_upd_at] using h8, by simpa [tm_upd_at] using h9, h10⟩
theorem tm_E_15 {b u S X T G : Nat} {f : Nat → Int32} (h : tm_E b u S X T G f) {q : Nat} (hq : q < 256) : tm_E b u S X T G (upd f (b + 15) (nI q)) := by
  obtain ⟨h0, h1, h2, h3, h4, h5, h6, h7, h8, h9, h10⟩ := h
  exact ⟨by simpa [tm_upd_at] using h0, by simpa [tm_upd_at] using h1, by simpa [tm_upd_at] using h2, by simpa [tm_upd_at] using h3, by simpa [tm_upd_at] using h4, ⟨q, hq, by simp [tm_upd_at]⟩, by simpa [tm_upd_at] using h6, by simpa [tm_upd_at] using h7, by simpa [tm_upd_at] using h8, by simpa [tm_upd_at] using h9, h10⟩
theorem tm_E_7 {b u S X T G : Nat} {f : Nat → Int32} (h : tm_E b u S X T G f) {q : Nat} (hq : q ≤ S) (hq2 : q ≤ T + 64) : tm_E b u S q T G (upd f (b + 7) (nI q)) := by
  obtain ⟨h0, h1, h2, h3, h4, h5, h6, h7, h8, h9, h10, h11, h12⟩ := h
  exact ⟨by simpa [tm_upd_at] using h0, by simpa [tm_upd_at] using h1, by simpa [tm_upd_at] using h2, by simpa [tm_upd_at] using h3, by simpa [tm_upd_at] using h4, by simpa [tm_upd_at] using h5, by simpa [tm_upd_at] using h6, by simp [tm_upd_at], by simpa [tm_upd_at] using h8, by simpa [tm_upd_at] using h9, hq, h11, hq2⟩
theorem tm_E_8 {b u S X T G : Nat} {f : Nat → Int32} (h : tm_E b u S X T G f) {q : Nat} (hq : T ≤ q) : tm_E b u S X q G (upd f (b + 8) (nI q)) := by
  obtain ⟨h0, h1, h2, h3, h4, h5, h6, h7, h8, h9, h10, h11, h12⟩ := h
  exact ⟨by simpa [tm_upd_at] using h0, by simpa [tm_upd_at] using h1, by simpa [tm_upd_at] using h2, by simpa [tm_upd_at] using h3, by simpa [tm_upd_at] using h4, by simpa [tm_upd_at] using h5, by simpa [tm_upd_at] using h6, by simpa [tm_upd_at] using h7, by simp [tm_upd_at], by simpa [tm_upd_at] using h9, h10, h11, by omega⟩
theorem tm_E_9 {b u S X T G : Nat} {f : Nat → Int32} (h : tm_E b u S X T G f) {q : Nat} : tm_E b u S X T q (upd f (b + 9) (nI q)) := by
  obtain ⟨h0, h1, h2, h3, h4, h5, h6, h7, h8, h9, h10, h11, h12⟩ := h
  exact ⟨by simpa [tm_upd_at] using h0, by simpa [tm_upd_at] using h1, by simpa [tm_upd_at] using h2, by simpa [tm_upd_at] using h3, by simpa [tm_upd_at] using h4, by simpa [tm_upd_at] using h5, by simpa [tm_upd_at] using h6, by simpa [tm_upd_at] using h7, by simpa [tm_upd_at] using h8, by simp [tm_upd_at], h10, h11, h12⟩
theorem tm_E_01 {b u S X T G : Nat} {f : Nat → Int32} (h : tm_E b u S X T G f) {p : Nat} (hp : p ≤ 7) : tm_E b u S X T G (upd (upd f b (nI p)) (b + 1) 0) := by
  obtain ⟨h0, h1, h2, h3, h4, h5, h6, h7, h8, h9, h10⟩ := h
  exact ⟨⟨p, hp, by simp [tm_upd_at]⟩, ⟨0, Nat.zero_le _, by simp [tm_upd_at]; rfl⟩, by simpa [tm_upd_at] using h2, by simpa [tm_upd_at] using h3, by simpa [tm_upd_at] using h4, by simpa [tm_upd_at] using h5, by simpa [tm_upd_at] using h6, by simpa [tm_upd_at] using h7, by simpa [tm_upd_at] using h8, by simpa [tm_upd_at] using h9, h10⟩
theorem tm_E_u {b u u' S X T G : Nat} {f : Nat → Int32} (h : tm_E b u S X T G f) (hu : u ≤ u') : tm_E b u' S X T G f := by
  obtain ⟨h0, ⟨L, hL, eL⟩, h2⟩ := h
  exact ⟨h0, ⟨L, by omega, eL⟩, h2⟩
theorem tm_E_1 {b u S X T G : Nat} {f : Nat → Int32} (h : tm_E b u S X T G f) : tm_E b (u + 1) S X T G (upd f (b + 1) (f (b + 1) + 1)) := by
  obtain ⟨h0, ⟨L, hL, eL⟩, h2, h3, h4, h5, h6, h7, h8, h9, h10⟩ := h
  exact ⟨by simpa [tm_upd_at] using h0, ⟨L + 1, by omega, by simp [tm_upd_at, eL, nI_1]⟩, by simpa [tm_upd_at] using h2, by simpa [tm_upd_at] using h3, by simpa [tm_upd_at] using h4, by simpa [tm_upd_at] using h5, by simpa [tm_upd_at] using h6, by simpa [tm_upd_at] using h7, by simpa [tm_upd_at] using h8, by simpa [tm_upd_at] using h9, h10⟩
/-- a store in the other END's row -/
theorem tm_E_x {e u S X T G : Nat} (he : e < 2) {f g : Nat → Int32} (h : tm_E (24 * (1 - e)) u S X T G f) (hg : ∀ k, k < 24 → g (24 * (1 - e) + k) = f (24 * (1 - e) + k)) : tm_E (24 * (1 - e)) u S X T G g := by
  unfold tm_E at h ⊢
  have h0 : g (24 * (1 - e)) = f (24 * (1 - e)) := hg 0 (by decide)
  rw [h0, hg 1 (by decide), hg 3 (by decide), hg 4 (by decide), hg 5 (by decide), hg 15 (by decide), hg 6 (by decide), hg 17 (by decide), hg 7 (by decide), hg 8 (by decide), hg 9 (by decide)]
  exact h
theorem tm_ux {e : Nat} (he : e < 2) {f g : Nat → Int32} (i : Nat) (hi : i < 24) (v : Int32) (h : ∀ k, k < 24 → g (24 * (1 - e) + k) = f (24 * (1 - e) + k)) : ∀ k, k < 24 → upd g (24 * e + i) v (24 * (1 - e) + k) = f (24 * (1 - e) + k) := by
  intro k hk
  rw [tm_upd_at, if_neg (by omega)]
  exact h k hk
theorem tm_ux0 {e : Nat} (he : e < 2) {f g : Nat → Int32} (v : Int32) (h : ∀ k, k < 24 → g (24 * (1 - e) + k) = f (24 * (1 - e) + k)) : ∀ k, k < 24 → upd g (24 * e) v (24 * (1 - e) + k) = f (24 * (1 - e) + k) := tm_ux he 0 (by decide) v h
/-- what END e's doing leaves of the other's -/
def tm_F (e : Nat) (r r' : tm_St) : Prop := (∀ k, k < 24 → r' 1 (24 * (1 - e) + k) = r 1 (24 * (1 - e) + k)) ∧ (∀ j, j < 8 → r' 2 (8 * (1 - e) + j) = r 2 (8 * (1 - e) + j)) ∧ (∀ j, j < 4 → r' 3 (4 * (1 - e) + j) = r 3 (4 * (1 - e) + j)) ∧ r' 4 = r 4 ∧ r' 5 = r 5 ∧ (∀ j, j < 200 → r' 6 (200 * (1 - e) + j) = r 6 (200 * (1 - e) + j)) ∧ (∀ k, k < 5 → r' 7 (5 * (1 - e) + k) = r 7 (5 * (1 - e) + k)) ∧ r' 8 = r 8 ∧ r' 9 = r 9 ∧ r' 14 = r 14 ∧ r' 0 8 = r 0 8 ∧ r' 0 12 = r 0 12 ∧ r' 0 16 = r 0 16 ∧ r' 0 18 = r 0 18
theorem tm_F_rf (e : Nat) (r : tm_St) : tm_F e r r := ⟨fun _ _ => rfl, fun _ _ => rfl, fun _ _ => rfl, rfl, rfl, fun _ _ => rfl, fun _ _ => rfl, rfl, rfl, rfl, rfl, rfl, rfl, rfl⟩
theorem tm_F_tr {e : Nat} {r r' r2 : tm_St} (h : tm_F e r r') (g : tm_F e r' r2) : tm_F e r r2 := by
  obtain ⟨a1, a2, a3, a4, a5, a6, a7, a8, a9, a10, a11, a12, a13, a14⟩ := h
  obtain ⟨b1, b2, b3, b4, b5, b6, b7, b8, b9, b10, b11, b12, b13, b14⟩ := g
  exact ⟨fun k hk => (b1 k hk).trans (a1 k hk), fun k hk => (b2 k hk).trans (a2 k hk), fun k hk => (b3 k hk).trans (a3 k hk), b4.trans a4, b5.trans a5, fun k hk => (b6 k hk).trans (a6 k hk), fun k hk => (b7 k hk).trans (a7 k hk), b8.trans a8, b9.trans a9, b10.trans a10, b11.trans a11, b12.trans a12, b13.trans a13, b14.trans a14⟩
def tm_FC (σ σ' : tm_St) : Prop := σ' 2 = σ 2 ∧ σ' 5 = σ 5 ∧ σ' 8 = σ 8 ∧ σ' 10 = σ 10 ∧ σ' 15 = σ 15 ∧ σ' 16 = σ 16
theorem tm_FC_rf (σ : tm_St) : tm_FC σ σ := ⟨rfl, rfl, rfl, rfl, rfl, rfl⟩
theorem tm_FC_tr {σ σ' σ2 : tm_St} (h : tm_FC σ σ') (g : tm_FC σ' σ2) : tm_FC σ σ2 := ⟨g.1.trans h.1, g.2.1.trans h.2.1, g.2.2.1.trans h.2.2.1, g.2.2.2.1.trans h.2.2.2.1, g.2.2.2.2.1.trans h.2.2.2.2.1, g.2.2.2.2.2.trans h.2.2.2.2.2⟩
/-- the relation with its numbers, and what is left alone since a start -/
def tm_Q (e : Nat) (c7 c6 : Int32) (u S X T G S' X' T' G' : Nat) (σ r : tm_St) : Prop := tm_L e c7 c6 σ r ∧ tm_N e u S X T G S' X' T' G' r
theorem i_swap (a b : Int32) : a + 1 + b = a + b + 1 := by rw [Int32.add_assoc, Int32.add_comm 1 b, ← Int32.add_assoc]
theorem q_come_o {e : Nat} (he : e < 2) {c7 c6 : Int32} {u S X T G S' X' T' G' : Nat} {σ r : tm_St} (h : tm_Q e c7 c6 u S X T G S' X' T' G' σ r) {p : Nat} (hp : p ≤ 7) : tm_Q e c7 c6 u S X T G S' X' T' G' (tm_come (nI p) σ) (tm_into e (nI p) r) ∧ tm_F e r (tm_into e (nI p) r) ∧ tm_FC σ (tm_come (nI p) σ) := by
  obtain ⟨⟨hM, hR, h8, hWi, hWo, hla, h7, h6, hu⟩, hE, hE', hx, hs, hs', ht, hd⟩ := h
  have hF : ∀ k, k < 24 → (tm_into e (nI p) r) 1 (24 * (1 - e) + k) = r 1 (24 * (1 - e) + k) := tm_ux he 1 (by decide) _ (tm_ux0 he _ (fun _ _ => rfl))
  refine ⟨⟨⟨?_, hR, h8, hWi, hWo, hla, ?_, h6, hu⟩, tm_E_01 hE hp, tm_E_x he hE' hF, hx, hs, hs', ht, hd⟩, ⟨hF, fun _ _ => rfl, fun _ _ => rfl, rfl, rfl, fun _ _ => rfl, fun _ _ => rfl, rfl, rfl, rfl, rfl, rfl, rfl, rfl⟩, ⟨rfl, rfl, rfl, rfl, rfl, rfl⟩⟩
  · unfold tm_come tm_into
    exact (by
    obtain ⟨m0, m1, m2, m3, m4, m5, m6, m7, m8, m9, m10, m11, m12, m13, m14, m15, m17⟩ := hM
    refine ⟨?_, ?_, ?_, ?_, ?_, ?_, ?_, ?_, ?_, ?_, ?_, ?_, ?_, ?_, ?_, ?_, ?_⟩ <;> simp [tm_s_at, tm_u_at, tm_upd_at, m0, m1, m2, m3, m4, m5, m6, m7, m8, m9, m10, m11, m12, m13, m14, m15, m17])
  · show σ 0 7 + 1 + c7 = r 0 15 + 1
    rw [i_swap, h7]
