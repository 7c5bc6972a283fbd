theorem tm_s_at (σ : tm_St) (j : Nat) (f : Nat → Int32) (i : Nat) : tm_s σ j f i = if i = j then f else σ i := by
  unfold tm_s
  by_cases h : i = j
  · subst h; simp
  · have hb : Nat.beq i j = false := Bool.eq_false_iff.mpr (fun q => h (Nat.eq_of_beq_eq_true q))
    rw [if_neg h, hb]; rfl
theorem tm_u_at (f : Nat → Int32) (k : Nat) (v : Int32) (q : Nat) : tm_u f k v q = if q = k then v else f q := by
  unfold tm_u
  by_cases h : q = k
  · subst h; simp
  · have hb : Nat.beq q k = false := Bool.eq_false_iff.mpr (fun q => h (Nat.eq_of_beq_eq_true q))
    rw [if_neg h, hb]; rfl
theorem tm_upd_at (f : Nat → Int32) (k : Nat) (x : Int32) (j : Nat) : upd f k x j = if j = k then x else f j := rfl
theorem tm_pj_at {α : Type} (is : List Nat) (f : Nat → α) (j : Nat) : tm_pj is f j = f (is.getD j 0) := rfl
theorem tm_pkl_c (x : Nat) (xs : List Nat) (k i : Nat) (d : Nat → Int32) (τ : tm_St) : tm_pkl (x :: xs) k i d τ = if i = x then τ k else tm_pkl xs (k + 1) i d τ := by
  show cond (Nat.beq i x) (τ k) (tm_pkl xs (k + 1) i d τ) = _
  by_cases h : i = x
  · subst h; simp
  · have hb : Nat.beq i x = false := Bool.eq_false_iff.mpr (fun q => h (Nat.eq_of_beq_eq_true q))
    rw [if_neg h, hb]; rfl
theorem tm_pkl_n (k i : Nat) (d : Nat → Int32) (τ : tm_St) : tm_pkl [] k i d τ = d := rfl
theorem tm_pk_at (is : List Nat) (σ τ : tm_St) (i : Nat) : tm_pk is σ τ i = tm_pkl is 0 i (σ i) τ := rfl
theorem tm_pkl_pj (s : tm_St) (i : Nat) : ∀ (xs pre : List Nat), tm_pkl xs pre.length i (s i) (tm_pj (pre ++ xs) s) = s i := by
  intro xs
  induction xs with
  | nil => intro pre; rfl
  | cons x xs ih =>
    intro pre
    rw [tm_pkl_c]
    by_cases h : i = x
    · rw [if_pos h, h]
      show s ((pre ++ x :: xs).getD pre.length 0) = s x
      simp
    · rw [if_neg h]
      have := ih (pre ++ [x])
      simpa using this
theorem tm_pk_pj (is : List Nat) (s : tm_St) : tm_pk is s (tm_pj is s) = s := by
  funext i
  rw [tm_pk_at]
  exact tm_pkl_pj s i is []
theorem tm_s_ss (σ : tm_St) (j : Nat) (f g : Nat → Int32) : tm_s (tm_s σ j f) j g = tm_s σ j g := by
  funext i; simp only [tm_s_at]; split <;> rfl
theorem p_24 {e k : Nat} : (24 * nI e + nI k : Int32) = nI (24 * e + k) := by rw [show (24 : Int32) = nI 24 from rfl, pk_mul, nI_add]
theorem p_5 {e k : Nat} : (5 * nI e + nI k : Int32) = nI (5 * e + k) := by rw [show (5 : Int32) = nI 5 from rfl, pk_mul, nI_add]
theorem p_1m {e : Nat} (he : e < 2) : (1 - nI e : Int32) = nI (1 - e) := by
  rcases (show e = 0 ∨ e = 1 by omega) with rfl | rfl <;> rfl
theorem p_ofk (k : Nat) (c : Int32) (hc : c = nI k) (hk : k < 24) {e : Nat} (he : e < 2) (s : tm_St) (K : Int32 → tm_St → Prop) : wp_X9_of (nI e) c s K ↔ K (s 1 (24 * e + k)) s := by
  unfold wp_X9_of
  rw [hc, p_24, nI_clamp (by omega)]
  exact ⟨fun h => h.2, fun h => ⟨vp_in_nI (by omega) (by decide), h⟩⟩
theorem p_putk (k : Nat) (c : Int32) (hc : c = nI k) (hk : k < 24) {e : Nat} (he : e < 2) (v : Int32) (s : tm_St) (K : tm_St → Prop) : wp_X9_put (nI e) c v s K ↔ K (tm_s s 1 (upd (s 1) (24 * e + k) v)) := by
  unfold wp_X9_put
  rw [hc, p_24, nI_clamp (by omega)]
  exact ⟨fun h => h.2 _ rfl, fun h => ⟨vp_in_nI (by omega) (by decide), fun _ q => q ▸ h⟩⟩
theorem p_addk (k : Nat) (c : Int32) (hc : c = nI k) (hk : k < 24) {e : Nat} (he : e < 2) (v : Int32) (s : tm_St) (K : tm_St → Prop) : wp_X9_add (nI e) c v s K ↔ K (tm_s s 1 (upd (s 1) (24 * e + k) (s 1 (24 * e + k) + v))) := by
  unfold wp_X9_add
  rw [hc, p_24, nI_clamp (by omega)]
  exact ⟨fun h => h.2.2 _ rfl, fun h => ⟨vp_in_nI (by omega) (by decide), vp_in_nI (by omega) (by decide), fun _ q => q ▸ h⟩⟩
theorem p_eark (k : Nat) (c : Int32) (hc : c = nI k) (hk : k < 5) {e : Nat} (he : e < 2) (s : tm_St) (K : Int32 → tm_St → Prop) : wp_X9_ear (nI e) c s K ↔ K (s 7 (5 * e + k)) s := by
  unfold wp_X9_ear
  rw [hc, p_5, nI_clamp (by omega)]
  exact ⟨fun h => h.2, fun h => ⟨vp_in_nI (by omega) (by decide), h⟩⟩
theorem p_of_0 {e : Nat} (he : e < 2) (s : tm_St) (K : Int32 → tm_St → Prop) : wp_X9_of (nI e) 0 s K ↔ K (s 1 (24 * e)) s := p_ofk 0 0 rfl (by decide) he s K
theorem p_put_0 {e : Nat} (he : e < 2) (v : Int32) (s : tm_St) (K : tm_St → Prop) : wp_X9_put (nI e) 0 v s K ↔ K (tm_s s 1 (upd (s 1) (24 * e) v)) := p_putk 0 0 rfl (by decide) he v s K
theorem p_add_0 {e : Nat} (he : e < 2) (v : Int32) (s : tm_St) (K : tm_St → Prop) : wp_X9_add (nI e) 0 v s K ↔ K (tm_s s 1 (upd (s 1) (24 * e) (s 1 (24 * e) + v))) := p_addk 0 0 rfl (by decide) he v s K
theorem p_of_1 {e : Nat} (he : e < 2) (s : tm_St) (K : Int32 → tm_St → Prop) : wp_X9_of (nI e) 1 s K ↔ K (s 1 (24 * e + 1)) s := p_ofk 1 1 rfl (by decide) he s K
theorem p_put_1 {e : Nat} (he : e < 2) (v : Int32) (s : tm_St) (K : tm_St → Prop) : wp_X9_put (nI e) 1 v s K ↔ K (tm_s s 1 (upd (s 1) (24 * e + 1) v)) := p_putk 1 1 rfl (by decide) he v s K
theorem p_add_1 {e : Nat} (he : e < 2) (v : Int32) (s : tm_St) (K : tm_St → Prop) : wp_X9_add (nI e) 1 v s K ↔ K (tm_s s 1 (upd (s 1) (24 * e + 1) (s 1 (24 * e + 1) + v))) := p_addk 1 1 rfl (by decide) he v s K
theorem p_of_2 {e : Nat} (he : e < 2) (s : tm_St) (K : Int32 → tm_St → Prop) : wp_X9_of (nI e) 2 s K ↔ K (s 1 (24 * e + 2)) s := p_ofk 2 2 rfl (by decide) he s K
theorem p_put_2 {e : Nat} (he : e < 2) (v : Int32) (s : tm_St) (K : tm_St → Prop) : wp_X9_put (nI e) 2 v s K ↔ K (tm_s s 1 (upd (s 1) (24 * e + 2) v)) := p_putk 2 2 rfl (by decide) he v s K
theorem p_add_2 {e : Nat} (he : e < 2) (v : Int32) (s : tm_St) (K : tm_St → Prop) : wp_X9_add (nI e) 2 v s K ↔ K (tm_s s 1 (upd (s 1) (24 * e + 2) (s 1 (24 * e + 2) + v))) := p_addk 2 2 rfl (by decide) he v s K
theorem p_of_3 {e : Nat} (he : e < 2) (s : tm_St) (K : Int32 → tm_St → Prop) : wp_X9_of (nI e) 3 s K ↔ K (s 1 (24 * e + 3)) s := p_ofk 3 3 rfl (by decide) he s K
theorem p_put_3 {e : Nat} (he : e < 2) (v : Int32) (s : tm_St) (K : tm_St → Prop) : wp_X9_put (nI e) 3 v s K ↔ K (tm_s s 1 (upd (s 1) (24 * e + 3) v)) := p_putk 3 3 rfl (by decide) he v s K
theorem p_add_3 {e : Nat} (he : e < 2) (v : Int32) (s : tm_St) (K : tm_St → Prop) : wp_X9_add (nI e) 3 v s K ↔ K (tm_s s 1 (upd (s 1) (24 * e + 3) (s 1 (24 * e + 3) + v))) := p_addk 3 3 rfl (by decide) he v s K
theorem p_of_4 {e : Nat} (he : e < 2) (s : tm_St) (K : Int32 → tm_St → Prop) : wp_X9_of (nI e) 4 s K ↔ K (s 1 (24 * e + 4)) s := p_ofk 4 4 rfl (by decide) he s K
theorem p_put_4 {e : Nat} (he : e < 2) (v : Int32) (s : tm_St) (K : tm_St → Prop) : wp_X9_put (nI e) 4 v s K ↔ K (tm_s s 1 (upd (s 1) (24 * e + 4) v)) := p_putk 4 4 rfl (by decide) he v s K
theorem p_add_4 {e : Nat} (he : e < 2) (v : Int32) (s : tm_St) (K : tm_St → Prop) : wp_X9_add (nI e) 4 v s K ↔ K (tm_s s 1 (upd (s 1) (24 * e + 4) (s 1 (24 * e + 4) + v))) := p_addk 4 4 rfl (by decide) he v s K
theorem p_of_5 {e : Nat} (he : e < 2) (s : tm_St) (K : Int32 → tm_St → Prop) : wp_X9_of (nI e) 5 s K ↔ K (s 1 (24 * e + 5)) s := p_ofk 5 5 rfl (by decide) he s K
theorem p_put_5 {e : Nat} (he : e < 2) (v : Int32) (s : tm_St) (K : tm_St → Prop) : wp_X9_put (nI e) 5 v s K ↔ K (tm_s s 1 (upd (s 1) (24 * e + 5) v)) := p_putk 5 5 rfl (by decide) he v s K
theorem p_add_5 {e : Nat} (he : e < 2) (v : Int32) (s : tm_St) (K : tm_St → Prop) : wp_X9_add (nI e) 5 v s K ↔ K (tm_s s 1 (upd (s 1) (24 * e + 5) (s 1 (24 * e + 5) + v))) := p_addk 5 5 rfl (by decide) he v s K
theorem p_of_6 {e : Nat} (he : e < 2) (s : tm_St) (K : Int32 → tm_St → Prop) : wp_X9_of (nI e) 6 s K ↔ K (s 1 (24 * e + 6)) s := p_ofk 6 6 rfl (by decide) he s K
theorem p_put_6 {e : Nat} (he : e < 2) (v : Int32) (s : tm_St) (K : tm_St → Prop) : wp_X9_put (nI e) 6 v s K ↔ K (tm_s s 1 (upd (s 1) (24 * e + 6) v)) := p_putk 6 6 rfl (by decide) he v s K
theorem p_add_6 {e : Nat} (he : e < 2) (v : Int32) (s : tm_St) (K : tm_St → Prop) : wp_X9_add (nI e) 6 v s K ↔ K (tm_s s 1 (upd (s 1) (24 * e + 6) (s 1 (24 * e + 6) + v))) := p_addk 6 6 rfl (by decide) he v s K
theorem p_of_7 {e : Nat} (he : e < 2) (s : tm_St) (K : Int32 → tm_St → Prop) : wp_X9_of (nI e) 7 s K ↔ K (s 1 (24 * e + 7)) s := p_ofk 7 7 rfl (by decide) he s K
theorem p_put_7 {e : Nat} (he : e < 2) (v : Int32) (s : tm_St) (K : tm_St → Prop) : wp_X9_put (nI e) 7 v s K ↔ K (tm_s s 1 (upd (s 1) (24 * e + 7) v)) := p_putk 7 7 rfl (by decide) he v s K
theorem p_add_7 {e : Nat} (he : e < 2) (v : Int32) (s : tm_St) (K : tm_St → Prop) : wp_X9_add (nI e) 7 v s K ↔ K (tm_s s 1 (upd (s 1) (24 * e + 7) (s 1 (24 * e + 7) + v))) := p_addk 7 7 rfl (by decide) he v s K
theorem p_of_8 {e : Nat} (he : e < 2) (s : tm_St) (K : Int32 → tm_St → Prop) : wp_X9_of (nI e) 8 s K ↔ K (s 1 (24 * e + 8)) s := p_ofk 8 8 rfl (by decide) he s K
theorem p_put_8 {e : Nat} (he : e < 2) (v : Int32) (s : tm_St) (K : tm_St → Prop) : wp_X9_put (nI e) 8 v s K ↔ K (tm_s s 1 (upd (s 1) (24 * e + 8) v)) := p_putk 8 8 rfl (by decide) he v s K
theorem p_add_8 {e : Nat} (he : e < 2) (v : Int32) (s : tm_St) (K : tm_St → Prop) : wp_X9_add (nI e) 8 v s K ↔ K (tm_s s 1 (upd (s 1) (24 * e + 8) (s 1 (24 * e + 8) + v))) := p_addk 8 8 rfl (by decide) he v s K
theorem p_of_9 {e : Nat} (he : e < 2) (s : tm_St) (K : Int32 → tm_St → Prop) : wp_X9_of (nI e) 9 s K ↔ K (s 1 (24 * e + 9)) s := p_ofk 9 9 rfl (by decide) he s K
theorem p_put_9 {e : Nat} (he : e < 2) (v : Int32) (s : tm_St) (K : tm_St → Prop) : wp_X9_put (nI e) 9 v s K ↔ K (tm_s s 1 (upd (s 1) (24 * e + 9) v)) := p_putk 9 9 rfl (by decide) he v s K
theorem p_add_9 {e : Nat} (he : e < 2) (v : Int32) (s : tm_St) (K : tm_St → Prop) : wp_X9_add (nI e) 9 v s K ↔ K (tm_s s 1 (upd (s 1) (24 * e + 9) (s 1 (24 * e + 9) + v))) := p_addk 9 9 rfl (by decide) he v s K
theorem p_of_10 {e : Nat} (he : e < 2) (s : tm_St) (K : Int32 → tm_St → Prop) : wp_X9_of (nI e) 10 s K ↔ K (s 1 (24 * e + 10)) s := p_ofk 10 10 rfl (by decide) he s K
theorem p_put_10 {e : Nat} (he : e < 2) (v : Int32) (s : tm_St) (K : tm_St → Prop) : wp_X9_put (nI e) 10 v s K ↔ K (tm_s s 1 (upd (s 1) (24 * e + 10) v)) := p_putk 10 10 rfl (by decide) he v s K
theorem p_add_10 {e : Nat} (he : e < 2) (v : Int32) (s : tm_St) (K : tm_St → Prop) : wp_X9_add (nI e) 10 v s K ↔ K (tm_s s 1 (upd (s 1) (24 * e + 10) (s 1 (24 * e + 10) + v))) := p_addk 10 10 rfl (by decide) he v s K
theorem p_of_11 {e : Nat} (he : e < 2) (s : tm_St) (K : Int32 → tm_St → Prop) : wp_X9_of (nI e) 11 s K ↔ K (s 1 (24 * e + 11)) s := p_ofk 11 11 rfl (by decide) he s K
theorem p_put_11 {e : Nat} (he : e < 2) (v : Int32) (s : tm_St) (K : tm_St → Prop) : wp_X9_put (nI e) 11 v s K ↔ K (tm_s s 1 (upd (s 1) (24 * e + 11) v)) := p_putk 11 11 rfl (by decide) he v s K
theorem p_add_11 {e : Nat} (he : e < 2) (v : Int32) (s : tm_St) (K : tm_St → Prop) : wp_X9_add (nI e) 11 v s K ↔ K (tm_s s 1 (upd (s 1) (24 * e + 11) (s 1 (24 * e + 11) + v))) := p_addk 11 11 rfl (by decide) he v s K
theorem p_of_12 {e : Nat} (he : e < 2) (s : tm_St) (K : Int32 → tm_St → Prop) : wp_X9_of (nI e) 12 s K ↔ K (s 1 (24 * e + 12)) s := p_ofk 12 12 rfl (by decide) he s K
theorem p_put_12 {e : Nat} (he : e < 2) (v : Int32) (s : tm_St) (K : tm_St → Prop) : wp_X9_put (nI e) 12 v s K ↔ K (tm_s s 1 (upd (s 1) (24 * e + 12) v)) := p_putk 12 12 rfl (by decide) he v s K
theorem p_add_12 {e : Nat} (he : e < 2) (v : Int32) (s : tm_St) (K : tm_St → Prop) : wp_X9_add (nI e) 12 v s K ↔ K (tm_s s 1 (upd (s 1) (24 * e + 12) (s 1 (24 * e + 12) + v))) := p_addk 12 12 rfl (by decide) he v s K
theorem p_of_13 {e : Nat} (he : e < 2) (s : tm_St) (K : Int32 → tm_St → Prop) : wp_X9_of (nI e) 13 s K ↔ K (s 1 (24 * e + 13)) s := p_ofk 13 13 rfl (by decide) he s K
theorem p_put_13 {e : Nat} (he : e < 2) (v : Int32) (s : tm_St) (K : tm_St → Prop) : wp_X9_put (nI e) 13 v s K ↔ K (tm_s s 1 (upd (s 1) (24 * e + 13) v)) := p_putk 13 13 rfl (by decide) he v s K
theorem p_add_13 {e : Nat} (he : e < 2) (v : Int32) (s : tm_St) (K : tm_St → Prop) : wp_X9_add (nI e) 13 v s K ↔ K (tm_s s 1 (upd (s 1) (24 * e + 13) (s 1 (24 * e + 13) + v))) := p_addk 13 13 rfl (by decide) he v s K
theorem p_of_14 {e : Nat} (he : e < 2) (s : tm_St) (K : Int32 → tm_St → Prop) : wp_X9_of (nI e) 14 s K ↔ K (s 1 (24 * e + 14)) s := p_ofk 14 14 rfl (by decide) he s K
theorem p_put_14 {e : Nat} (he : e < 2) (v : Int32) (s : tm_St) (K : tm_St → Prop) : wp_X9_put (nI e) 14 v s K ↔ K (tm_s s 1 (upd (s 1) (24 * e + 14) v)) := p_putk 14 14 rfl (by decide) he v s K
theorem p_add_14 {e : Nat} (he : e < 2) (v : Int32) (s : tm_St) (K : tm_St → Prop) : wp_X9_add (nI e) 14 v s K ↔ K (tm_s s 1 (upd (s 1) (24 * e + 14) (s 1 (24 * e + 14) + v))) := p_addk 14 14 rfl (by decide) he v s K
theorem p_of_15 {e : Nat} (he : e < 2) (s : tm_St) (K : Int32 → tm_St → Prop) : wp_X9_of (nI e) 15 s K ↔ K (s 1 (24 * e + 15)) s := p_ofk 15 15 rfl (by decide) he s K
theorem p_put_15 {e : Nat} (he : e < 2) (v : Int32) (s : tm_St) (K : tm_St → Prop) : wp_X9_put (nI e) 15 v s K ↔ K (tm_s s 1 (upd (s 1) (24 * e + 15) v)) := p_putk 15 15 rfl (by decide) he v s K
theorem p_add_15 {e : Nat} (he : e < 2) (v : Int32) (s : tm_St) (K : tm_St → Prop) : wp_X9_add (nI e) 15 v s K ↔ K (tm_s s 1 (upd (s 1) (24 * e + 15) (s 1 (24 * e + 15) + v))) := p_addk 15 15 rfl (by decide) he v s K
theorem p_of_16 {e : Nat} (he : e < 2) (s : tm_St) (K : Int32 → tm_St → Prop) : wp_X9_of (nI e) 16 s K ↔ K (s 1 (24 * e + 16)) s := p_ofk 16 16 rfl (by decide) he s K
theorem p_put_16 {e : Nat} (he : e < 2) (v : Int32) (s : tm_St) (K : tm_St → Prop) : wp_X9_put (nI e) 16 v s K ↔ K (tm_s s 1 (upd (s 1) (24 * e + 16) v)) := p_putk 16 16 rfl (by decide) he v s K
theorem p_add_16 {e : Nat} (he : e < 2) (v : Int32) (s : tm_St) (K : tm_St → Prop) : wp_X9_add (nI e) 16 v s K ↔ K (tm_s s 1 (upd (s 1) (24 * e + 16) (s 1 (24 * e + 16) + v))) := p_addk 16 16 rfl (by decide) he v s K
theorem p_of_17 {e : Nat} (he : e < 2) (s : tm_St) (K : Int32 → tm_St → Prop) : wp_X9_of (nI e) 17 s K ↔ K (s 1 (24 * e + 17)) s := p_ofk 17 17 rfl (by decide) he s K
theorem p_put_17 {e : Nat} (he : e < 2) (v : Int32) (s : tm_St) (K : tm_St → Prop) : wp_X9_put (nI e) 17 v s K ↔ K (tm_s s 1 (upd (s 1) (24 * e + 17) v)) := p_putk 17 17 rfl (by decide) he v s K
theorem p_add_17 {e : Nat} (he : e < 2) (v : Int32) (s : tm_St) (K : tm_St → Prop) : wp_X9_add (nI e) 17 v s K ↔ K (tm_s s 1 (upd (s 1) (24 * e + 17) (s 1 (24 * e + 17) + v))) := p_addk 17 17 rfl (by decide) he v s K
theorem p_ear_0 {e : Nat} (he : e < 2) (s : tm_St) (K : Int32 → tm_St → Prop) : wp_X9_ear (nI e) 0 s K ↔ K (s 7 (5 * e)) s := p_eark 0 0 rfl (by decide) he s K
theorem p_ear_1 {e : Nat} (he : e < 2) (s : tm_St) (K : Int32 → tm_St → Prop) : wp_X9_ear (nI e) 1 s K ↔ K (s 7 (5 * e + 1)) s := p_eark 1 1 rfl (by decide) he s K
theorem p_ear_2 {e : Nat} (he : e < 2) (s : tm_St) (K : Int32 → tm_St → Prop) : wp_X9_ear (nI e) 2 s K ↔ K (s 7 (5 * e + 2)) s := p_eark 2 2 rfl (by decide) he s K
theorem p_ear_3 {e : Nat} (he : e < 2) (s : tm_St) (K : Int32 → tm_St → Prop) : wp_X9_ear (nI e) 3 s K ↔ K (s 7 (5 * e + 3)) s := p_eark 3 3 rfl (by decide) he s K
theorem p_ear_4 {e : Nat} (he : e < 2) (s : tm_St) (K : Int32 → tm_St → Prop) : wp_X9_ear (nI e) 4 s K ↔ K (s 7 (5 * e + 4)) s := p_eark 4 4 rfl (by decide) he s K
def tm_sg (p : Int32) : Int32 := if 0 ≤ p then (if p - p / 3 * 3 = 0 then 1 else if p - p / 5 * 5 = 0 then 1 else -1) else 0
theorem p_signOf (p : Int32) (K : Int32 → Prop) : wp_X9_signOf p K ↔ K (tm_sg p) := by
  unfold wp_X9_signOf tm_sg
  by_cases h1 : (0 : Int32) ≤ p <;> by_cases h2 : p - p / 3 * 3 = 0 <;> by_cases h3 : p - p / 5 * 5 = 0 <;> simp [h1, h2, h3]
theorem p_sign (p : Int32) (s : tm_St) (K : Int32 → tm_St → Prop) : wp_X0_sign p s K ↔ K (tm_sg p) s := by
  unfold wp_X0_sign tm_sg
  by_cases h1 : (0 : Int32) ≤ p <;> by_cases h2 : p - p / 3 * 3 = 0 <;> by_cases h3 : p - p / 5 * 5 = 0 <;> simp [h1, h2, h3]
theorem p_size (p : Int32) (K : Int32 → Prop) : wp_X9_size p K ↔ K (if 0 ≤ p then p else 0 - p) := by
  unfold wp_X9_size
  by_cases h1 : (0 : Int32) ≤ p <;> simp [h1]
theorem p_lesser (p q : Int32) (K : Int32 → Prop) : wp_X9_lesser p q K ↔ K (if q ≤ p then q else p) := by
  unfold wp_X9_lesser
  by_cases h1 : q ≤ p <;> simp [h1]
theorem p_within (p a b : Int32) (K : Int32 → Prop) : wp_X9_within p a b K ↔ K (if p < a then 0 else if b < p then 0 else 1) := by
  unfold wp_X9_within
  by_cases h1 : p < a <;> by_cases h2 : b < p <;> simp [h1, h2]
theorem p_isEnd (p : Int32) (K : Int32 → Prop) : wp_X9_isEnd p K ↔ K (if p < 0 then 0 else if 1 < p then 0 else 1) := by
  unfold wp_X9_isEnd
  rw [p_within]
theorem p_modemAt (p : Int32) (K : Nat → Prop) : wp_X8_modemAt p K ↔ K (if p = 0 then 0 else if p = 1 then 1 else 2) := by
  unfold wp_X8_modemAt
  by_cases h1 : p = 0 <;> by_cases h2 : p = 1 <;> simp [h1, h2]
theorem p_sort (s : tm_St) (K : Int32 → tm_St → Prop) : wp_X7_sort s K ↔ K (s 2 0) s := by
  unfold wp_X7_sort
  exact ⟨fun h => h.2, fun h => ⟨by unfold vp_in; decide, h⟩⟩
theorem p_first (s : tm_St) (K : Int32 → tm_St → Prop) : wp_X7_first s K ↔ K (s 2 1) s := by
  unfold wp_X7_first
  exact ⟨fun h => h.2, fun h => ⟨by unfold vp_in; decide, h⟩⟩
theorem p_second (s : tm_St) (K : Int32 → tm_St → Prop) : wp_X7_second s K ↔ K (s 2 2) s := by
  unfold wp_X7_second
  exact ⟨fun h => h.2, fun h => ⟨by unfold vp_in; decide, h⟩⟩
theorem p_letters (s : tm_St) (K : Int32 → tm_St → Prop) : wp_X7_letters s K ↔ K (s 2 3) s := by
  unfold wp_X7_letters
  exact ⟨fun h => h.2, fun h => ⟨by unfold vp_in; decide, h⟩⟩
theorem p_told (s : tm_St) (K : Int32 → tm_St → Prop) : wp_X7_told s K ↔ K (s 2 4) s := by
  unfold wp_X7_told
  exact ⟨fun h => h.2, fun h => ⟨by unfold vp_in; decide, h⟩⟩
