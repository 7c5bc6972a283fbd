theorem d8_133 (K : Int64 → tm_St → Prop) {f : Nat → Int32} (c : tm_St) (hf : ∀ k, k < 9 → ∀ K : Int32 → tm_St → Prop, K (f k) c → wp_X8_count (nI k) c K) : ∀ (m i : Nat) (v : Int64), i + m = 9 → K (tm_dg f i m v) c → wp_X8_digest_133 K (m + 1) v (nI i) c := by
  intro m
  induction m with
  | zero =>
    intro i v hi h
    have hi : i = 9 := by omega
    subst hi
    unfold wp_X8_digest_133
    exact ⟨fun _ => h, fun q => absurd (by decide) q⟩
  | succ m ih =>
    intro i v hi h
    unfold wp_X8_digest_133
    refine ⟨fun q => absurd q (nI_ge (b := 9) (by omega) (by decide)), fun _ => hf i (by omega) _ ?_⟩
    intro x e x2 e2
    rw [e, e2, nI_1]
    exact ih (i + 1) _ (by omega) h
theorem d8_98 (K : Int64 → tm_St → Prop) {N : Nat} (hN : N ≤ 30) {f : Nat → Int32} (c : tm_St) (hg : c 1 1 = nI N) (hf : ∀ k, k < N → c 2 k = f k) : ∀ (m i : Nat) (v : Int64), i + m = N → (∃ nf : Nat, wp_X8_digest_133 K nf (tm_dg f i m v) 0 c) → wp_X8_digest_98 K (m + 1) v (nI i) c := by
  intro m
  induction m with
  | zero =>
    intro i v hi h
    unfold wp_X8_digest_98
    rw [hg]
    exact ⟨fun _ => h, fun q => absurd (nI_le (by omega) (by omega)) q⟩
  | succ m ih =>
    intro i v hi h
    unfold wp_X8_digest_98
    rw [hg]
    refine ⟨fun q => absurd q (nI_ge (by omega) (by omega)), fun _ => ?_⟩
    unfold wp_X4_codeAt
    refine ⟨fun q => absurd q (nI_pos (by omega)), fun _ => ⟨fun q => absurd (show nI N ≤ nI i by rw [← hg]; exact q) (nI_ge (by omega) (by omega)), fun _ => ⟨fun q => absurd q (nI_ge (b := 30) (by omega) (by decide)), fun _ => ⟨vp_in_nI (by omega) (by decide), ?_⟩⟩⟩⟩
    intro s11 e11 x13 e13 x14 e14
    rw [tm_pk_pj] at e11
    rw [nI_clamp (by omega), show tm_pj [1, 2] c 1 i = f i from hf i (by omega)] at e13
    rw [e11, e13, e14, nI_1]
    exact ih (i + 1) _ (by omega) h
theorem d8_71 (K : Int64 → tm_St → Prop) {f : Nat → Int32} (c : tm_St) (hf : ∀ k, k < 28 → ∀ K : Int32 → tm_St → Prop, K (f k) c → wp_X8_about (nI k) c K) : ∀ (m i : Nat) (v : Int64), i + m = 28 → (∃ nf : Nat, wp_X8_digest_98 K nf (tm_dg f i m v) 0 c) → wp_X8_digest_71 K (m + 1) v (nI i) c := by
  intro m
  induction m with
  | zero =>
    intro i v hi h
    have hi : i = 28 := by omega
    subst hi
    unfold wp_X8_digest_71
    exact ⟨fun _ => h, fun q => absurd (by decide) q⟩
  | succ m ih =>
    intro i v hi h
    unfold wp_X8_digest_71
    refine ⟨fun q => absurd q (nI_ge (b := 28) (by omega) (by decide)), fun _ => hf i (by omega) _ ?_⟩
    intro x e x2 e2
    rw [e, e2, nI_1]
    exact ih (i + 1) _ (by omega) h
theorem d8_43 (K : Int64 → tm_St → Prop) {f : Nat → Int32} (c : tm_St) (hf : ∀ k, k < 28 → ∀ K : Int32 → tm_St → Prop, K (f k) c → wp_X8_about (nI k) c K) : ∀ (m i : Nat) (v : Int64), i + m = 18 → (∃ nf : Nat, wp_X8_digest_71 K nf (tm_dg f i m v) 20 c) → wp_X8_digest_43 K (m + 1) v (nI i) c := by
  intro m
  induction m with
  | zero =>
    intro i v hi h
    have hi : i = 18 := by omega
    subst hi
    unfold wp_X8_digest_43
    exact ⟨fun _ => h, fun q => absurd (by decide) q⟩
  | succ m ih =>
    intro i v hi h
    unfold wp_X8_digest_43
    refine ⟨fun q => absurd q (nI_ge (b := 18) (by omega) (by decide)), fun _ => hf i (by omega) _ ?_⟩
    intro x e x2 e2
    rw [e, e2, nI_1]
    exact ih (i + 1) _ (by omega) h
theorem d8_16 (K : Int64 → tm_St → Prop) {f : Nat → Int32} (c : tm_St) (hf : ∀ k, k < 28 → ∀ K : Int32 → tm_St → Prop, K (f k) c → wp_X8_about (nI k) c K) : ∀ (m i : Nat) (v : Int64), i + m = 4 → (∃ nf : Nat, wp_X8_digest_43 K nf (tm_dg f i m v) 10 c) → wp_X8_digest_16 K (m + 1) v (nI i) c := by
  intro m
  induction m with
  | zero =>
    intro i v hi h
    have hi : i = 4 := by omega
    subst hi
    unfold wp_X8_digest_16
    exact ⟨fun _ => h, fun q => absurd (by decide) q⟩
  | succ m ih =>
    intro i v hi h
    unfold wp_X8_digest_16
    refine ⟨fun q => absurd q (nI_ge (b := 4) (by omega) (by decide)), fun _ => hf i (by omega) _ ?_⟩
    intro x e x2 e2
    rw [e, e2, nI_1]
    exact ih (i + 1) _ (by omega) h
theorem d9_101 (K : Int64 → tm_St → Int64 → Prop) {f : Nat → Int32} (r : tm_St) (hf : ∀ k, k < 9 → ∀ K : Int32 → tm_St → Prop, K (f k) r → wp_X9_count (nI k) r K) : ∀ (m i : Nat) (v : Int64), i + m = 9 → K (tm_dg f i m v) r (tm_dg f i m v) → wp_X9_digest_101 K (m + 1) (nI i) r v := by
  intro m
  induction m with
  | zero =>
    intro i v hi h
    have hi : i = 9 := by omega
    subst hi
    unfold wp_X9_digest_101
    exact ⟨fun _ => h, fun q => absurd (by decide) q⟩
  | succ m ih =>
    intro i v hi h
    unfold wp_X9_digest_101
    refine ⟨fun q => absurd q (nI_ge (b := 9) (by omega) (by decide)), fun _ => ?_⟩
    refine hf i (by omega) (fun r9 s10 => wp_X9_mix r9.toInt64 s10 v (fun s11 hh12 => ∀ x13 : Int32, x13 = nI i + 1 → wp_X9_digest_101 K (m + 1) x13 s11 hh12)) ?_
    intro hh e x2 e2
    rw [e, e2, nI_1]
    exact ih (i + 1) _ (by omega) h
theorem d9_74 (K : Int64 → tm_St → Int64 → Prop) {N : Nat} (hN : N ≤ 30) (r : tm_St) (hg : r 0 18 = nI N) : ∀ (m i : Nat) (v : Int64), i + m = N → (∃ nf : Nat, wp_X9_digest_101 K nf 0 r (tm_dg (r 14) i m v)) → wp_X9_digest_74 K (m + 1) (nI i) r v := by
  intro m
  induction m with
  | zero =>
    intro i v hi h
    unfold wp_X9_digest_74
    rw [hg]
    exact ⟨fun _ => h, fun q => absurd (nI_le (by omega) (by omega)) q⟩
  | succ m ih =>
    intro i v hi h
    unfold wp_X9_digest_74
    rw [hg, nI_clamp (by omega)]
    refine ⟨fun q => absurd q (nI_ge (by omega) (by omega)), fun _ => ⟨vp_in_nI (by omega) (by decide), ?_⟩⟩
    intro hh e1 x e2
    rw [e1, e2, nI_1]
    exact ih (i + 1) _ (by omega) h
def tm_aq (k : Nat) : Bool := decide (k < 4) || ((decide (10 ≤ k) && decide (k < 18)) || (decide (20 ≤ k) && decide (k < 28)))
def tm_da (f : Nat → Int32) : Nat → Nat → Int64 → Int64
  | _, 0, v => v
  | i, m + 1, v => tm_da f (i + 1) m (cond (tm_aq i) (31 * v + (f i).toInt64) v)
theorem tm_da_dg (f : Nat → Int32) (v : Int64) : tm_da f 0 28 v = tm_dg f 20 8 (tm_dg f 10 8 (tm_dg f 0 4 v)) := rfl
theorem d9_about {N : Nat} (hN : N < 28) (hal : tm_aq N = true) (r : tm_St) (K : Int32 → tm_St → Prop) (h : wp_X9_about (nI N) r K) : wp_X9_aboutNow (nI N) r K := by
  unfold wp_X9_about at h
  rw [p_within, if_neg (nI_pos (by omega)), p_within, p_within] at h
  by_cases c1 : N < 4
  · have m3 : ¬ (3 : Int32) < nI N := fun q => absurd ((nI_ltI (a := 3) (by decide) (by omega)).mp q) (by omega)
    rw [if_neg m3] at h
    exact h.1 (by decide)
  · have m3 : (3 : Int32) < nI N := nI_lt (a := 3) (by omega) (by omega)
    rw [if_pos m3] at h
    have h := h.2 rfl
    by_cases c2 : N < 18
    · have c3 : 10 ≤ N := by
        rcases Nat.lt_or_ge N 10 with q | q
        · exfalso
          rcases (show N = 4 ∨ N = 5 ∨ N = 6 ∨ N = 7 ∨ N = 8 ∨ N = 9 by omega) with z | z | z | z | z | z <;> (subst z; exact absurd hal (by decide))
        · exact q
      have m10 : ¬ nI N < (10 : Int32) := fun q => absurd ((nI_ltI (b := 10) (by omega) (by decide)).mp q) (by omega)
      have m17 : ¬ (17 : Int32) < nI N := fun q => absurd ((nI_ltI (a := 17) (by decide) (by omega)).mp q) (by omega)
      rw [if_neg m10, if_neg m17] at h
      exact h.1 (by decide)
    · have c3 : 20 ≤ N := by
        rcases Nat.lt_or_ge N 20 with q | q
        · exfalso
          rcases (show N = 18 ∨ N = 19 by omega) with z | z <;> (subst z; exact absurd hal (by decide))
        · exact q
      have m10 : ¬ nI N < (10 : Int32) := fun q => absurd ((nI_ltI (b := 10) (by omega) (by decide)).mp q) (by omega)
      have m17 : (17 : Int32) < nI N := nI_lt (a := 17) (by omega) (by omega)
      have m20 : ¬ nI N < (20 : Int32) := fun q => absurd ((nI_ltI (b := 20) (by omega) (by decide)).mp q) (by omega)
      have m27 : ¬ (27 : Int32) < nI N := fun q => absurd ((nI_ltI (a := 27) (by decide) (by omega)).mp q) (by omega)
      rw [if_neg m10, if_pos m17] at h
      have h := h.2 rfl
      rw [if_neg m20, if_neg m27] at h
      exact h.2 (by decide)
theorem d9_19 (K : Int64 → tm_St → Int64 → Prop) {f : Nat → Int32} (r : tm_St) (hf : ∀ k, k < 28 → ∀ K : Int32 → tm_St → Prop, K (f k) r → wp_X9_about (nI k) r K) : ∀ (m i : Nat) (v : Int64), i + m = 28 → (∃ nf : Nat, wp_X9_digest_74 K nf 0 r (tm_da f i m v)) → wp_X9_digest_19 K (m + 1) (nI i) r v := by
  intro m
  induction m with
  | zero =>
    intro i v hi h
    have hi : i = 28 := by omega
    subst hi
    unfold wp_X9_digest_19
    exact ⟨fun _ => h, fun q => absurd (by decide) q⟩
  | succ m ih =>
    intro i v hi h
    unfold wp_X9_digest_19
    refine ⟨fun q => absurd q (nI_ge (b := 28) (by omega) (by decide)), fun _ => ?_⟩
    have L : ∀ n : Nat, n < 2 ^ 31 → (nI i < nI n ↔ i < n) := fun n hn => nI_ltI (by omega) hn
    have M : ∀ n : Nat, n < 2 ^ 31 → (nI n < nI i ↔ n < i) := fun n hn => nI_ltI hn (by omega)
    have l10 : nI i < 10 ↔ i < 10 := L 10 (by decide)
    have l20 : nI i < 20 ↔ i < 20 := L 20 (by decide)
    have m3 : (3 : Int32) < nI i ↔ 3 < i := M 3 (by decide)
    have m17 : (17 : Int32) < nI i ↔ 17 < i := M 17 (by decide)
    have m27 : (27 : Int32) < nI i ↔ 27 < i := M 27 (by decide)
    rw [p_within, p_within, p_within, if_neg (nI_pos (by omega))]
    have hal : tm_aq i = (decide (i < 4) || ((decide (10 ≤ i) && decide (i < 18)) || (decide (20 ≤ i) && decide (i < 28)))) := rfl
    have good : tm_aq i = true → wp_X9_aboutNow (nI i) r (fun r21 s22 => wp_X9_mix r21.toInt64 s22 v (fun s23 hh24 => ∀ x25 : Int32, x25 = nI i + 1 → wp_X9_digest_19 K (m + 1) x25 s23 hh24)) := by
      intro ha
      refine d9_about (by omega) ha r _ (hf i (by omega) _ ?_)
      intro hh e x e2
      rw [e, e2, nI_1]
      refine ih (i + 1) _ (by omega) ?_
      have : tm_da f i (m + 1) v = tm_da f (i + 1) m (31 * v + (f i).toInt64) := by
        show tm_da f (i + 1) m (cond (tm_aq i) _ v) = _
        rw [ha]; rfl
      rw [← this]; exact h
    have skip : tm_aq i = false → ∀ x37 : Int32, x37 = nI i + 1 → wp_X9_digest_19 K (m + 1) x37 r v := by
      intro ha x e2
      rw [e2, nI_1]
      refine ih (i + 1) _ (by omega) ?_
      have : tm_da f i (m + 1) v = tm_da f (i + 1) m v := by
        show tm_da f (i + 1) m (cond (tm_aq i) _ v) = _
        rw [ha]; rfl
      rw [← this]; exact h
    by_cases c1 : 3 < i
    · rw [if_pos (m3.mpr c1)]
      refine ⟨fun q => absurd rfl q, fun _ => ?_⟩
      by_cases c2 : i < 10
      · rw [if_pos (l10.mpr c2), if_pos (l20.mpr (by omega))]
        exact ⟨fun q => absurd rfl q, fun _ => ⟨fun _ => skip (by rw [hal]; simp; omega), fun q => absurd rfl q⟩⟩
      · rw [if_neg (fun q => c2 (l10.mp q))]
        by_cases c3 : 17 < i
        · rw [if_pos (m17.mpr c3)]
          refine ⟨fun q => absurd rfl q, fun _ => ?_⟩
          by_cases c4 : i < 20
          · rw [if_pos (l20.mpr c4)]
            exact ⟨fun _ => skip (by rw [hal]; simp; omega), fun q => absurd rfl q⟩
          · rw [if_neg (fun q => c4 (l20.mp q)), if_neg (fun q => absurd (m27.mp q) (by omega))]
            exact ⟨fun q => absurd q (by decide), fun _ => good (by rw [hal]; simp; omega)⟩
        · rw [if_neg (fun q => c3 (m17.mp q))]
          exact ⟨fun _ => good (by rw [hal]; simp; omega), fun q => absurd q (by decide)⟩
    · rw [if_neg (fun q => c1 (m3.mp q))]
      exact ⟨fun _ => good (by rw [hal]; simp; omega), fun q => absurd q (by decide)⟩
theorem c_digest {u : Nat} {c r : tm_St} (h : tm_RR u c r) (hh : Int64) : ∃ d : Int64, (∀ K : Int64 → tm_St → Prop, K d c → wp_X8_digest c K) ∧ (∀ K : Int64 → tm_St → Int64 → Prop, K d r d → wp_X9_digest r hh K) := by
  have hA : ∀ k : Nat, ∃ a : Int32, (∀ K : Int32 → tm_St → Prop, K a c → wp_X8_about (nI k) c K) ∧ (∀ K : Int32 → tm_St → Prop, K a r → wp_X9_about (nI k) r K) := fun k => c_about0 h (nI k)
  have hB : ∀ k : Nat, ∃ a : Int32, (∀ K : Int32 → tm_St → Prop, K a c → wp_X8_count (nI k) c K) ∧ (∀ K : Int32 → tm_St → Prop, K a r → wp_X9_count (nI k) r K) := fun k => c_count0 h (nI k)
  obtain ⟨A, A1⟩ := Classical.axiomOfChoice hA
  obtain ⟨B, B1⟩ := Classical.axiomOfChoice hB
  obtain ⟨n, n1, n2, n3, n4⟩ := h.2.2.2.1
  obtain ⟨G, G', hG, hG', g, g'⟩ : ∃ G G' : Nat, G ≤ 200 ∧ G' ≤ 200 ∧ r 1 (24 * 0 + 9) = nI G ∧ r 1 (24 * 1 + 9) = nI G' := by
    obtain ⟨⟨S, X, T, G, S', X', T', G', q0, q1⟩, -⟩ := h
    exact ⟨G, G', by have := q0.2; unfold tm_N tm_E at this; omega, by have := q1.2; unfold tm_N tm_E at this; omega, q0.2.1.2.2.2.2.2.2.2.2.2.1, q1.2.1.2.2.2.2.2.2.2.2.2.1⟩
  refine ⟨tm_dg B 0 9 (tm_dg (r 14) 0 n (tm_da A 0 28 (tm_dg (fun k => r 6 (200 * 1 + k)) 0 G' (tm_dg (fun k => r 7 (5 * 1 + k)) 0 5 (tm_dg (fun k => r 4 (4 * 1 + k)) 0 4 (tm_dg (fun k => r 3 (4 * 1 + k)) 0 4 (tm_dg (fun k => r 2 (8 * 1 + k)) 0 8 (tm_dg (fun k => r 1 (24 * 1 + k)) 0 16 (tm_dg (fun k => r 6 (200 * 0 + k)) 0 G (tm_dg (fun k => r 7 (5 * 0 + k)) 0 5 (tm_dg (fun k => r 4 (4 * 0 + k)) 0 4 (tm_dg (fun k => r 3 (4 * 0 + k)) 0 4 (tm_dg (fun k => r 2 (8 * 0 + k)) 0 8 (tm_dg (fun k => r 1 (24 * 0 + k)) 0 16 (1613))))))))))))))), fun K hK => ?_, fun K hK => ?_⟩
  rotate_left
  · unfold wp_X9_digest
    intro hh1 e1
    rw [e1]
    refine d9_end (e := 0) (by decide) hG r g _ _ ?_
    refine d9_end (e := 1) (by decide) hG' r g' _ _ ?_
    refine ⟨29, d9_19 K r (f := A) (fun k hk => (A1 k).2) 28 0 _ rfl ⟨n + 1, d9_74 K n1 r n3 n 0 _ (by omega) ⟨10, d9_101 K r (f := B) (fun k hk => (B1 k).2) 9 0 _ rfl hK⟩⟩⟩
  · unfold wp_X8_digest
    refine d8_end0 h hG g _ _ ?_
    refine d8_end1 h hG' g' _ _ ?_
    refine ⟨5, d8_16 K c (f := A) (fun k hk => (A1 k).1) 4 0 _ rfl ⟨9, d8_43 K c (f := A) (fun k hk => (A1 k).1) 8 10 _ rfl ⟨9, d8_71 K c (f := A) (fun k hk => (A1 k).1) 8 20 _ rfl ⟨n + 1, d8_98 K n1 c n2 n4 n 0 _ (by omega) ⟨10, d8_133 K c (f := B) (fun k hk => (B1 k).1) 9 0 _ rfl ?_⟩⟩⟩⟩⟩
    rw [tm_da_dg] at hK
    exact hK
