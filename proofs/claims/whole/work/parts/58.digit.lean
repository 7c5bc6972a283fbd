theorem tm_fi_0 {n : Nat} {a k : Nat} {g : Nat → Int32} {f24 f16 : Int32} (h : tm_fi g a k f24 f16) : a ≤ k := by
  rcases h with ⟨q, -, -⟩ | ⟨q, -⟩ <;> omega
theorem s_digit {n : Nat} {g : Nat → Int32} {s : tm_St} (h : tm_pg n g s) {k a w d : Nat} (hk : k < n) {v3 : Int32} {ρ : tm_St} (hw : w < 2) (h23 : ρ 0 23 = nI w) (hfi : tm_fi g a k (ρ 0 24) (ρ 16 w)) (hd : d ≤ 9) (hp : g k = nI (48 + d)) : ∃ (ok : Int32) (ρ' : tm_St), (∀ K : Int32 → tm_St → Prop, K ok s → wp_X4_fitsHurt_18 K (nI k) (g k) v3 (nI a) s) ∧ (∀ K : Int32 → tm_St → Prop, K ok ρ' → wp_X9_takesHurt (g k) ρ K) ∧ (∀ i, ¬ i = 0 → ¬ i = 16 → ρ' i = ρ i) ∧ (∀ q, ¬ q = 24 → ρ' 0 q = ρ 0 q) ∧ (∀ j, ¬ j = w → ρ' 16 j = ρ 16 j) ∧ (¬ ok = 0 → tm_fi g a (k + 1) (ρ' 0 24) (ρ' 16 w)) := by
  have h30 := h.1
  have n44 : ¬ g k = 44 := by rw [hp]; exact fun q => absurd ((nI_eq (b := 44) (by omega) (by decide)).mp q) (by omega)
  have l48 : ¬ g k < 48 := by rw [hp]; exact fun q => absurd ((nI_ltI (b := 48) (by omega) (by decide)).mp q) (by omega)
  have l57 : g k ≤ 57 := by rw [hp]; exact nI_le (b := 57) (by omega) (by decide)
  have g57 : ¬ 57 < g k := Int32.not_lt.mpr l57
  have dd : g k - 48 = nI d := by
    rw [hp, show (48 : Int32) = nI 48 from rfl, pk_sub (by omega), Nat.add_sub_cancel_left]
  have fr : ∀ (v : Int32), (∀ i, ¬ i = 0 → ¬ i = 16 → (tm_s (tm_s ρ 0 (tm_u (ρ 0) 24 v)) 16 (upd (ρ 16) w v)) i = ρ i) ∧ (∀ q, ¬ q = 24 → (tm_s (tm_s ρ 0 (tm_u (ρ 0) 24 v)) 16 (upd (ρ 16) w v)) 0 q = ρ 0 q) ∧ (∀ j, ¬ j = w → (tm_s (tm_s ρ 0 (tm_u (ρ 0) 24 v)) 16 (upd (ρ 16) w v)) 16 j = ρ 16 j) := by
    intro v
    refine ⟨fun i i1 i2 => ?_, fun q q1 => ?_, fun j j1 => ?_⟩
    · rw [tm_s_at, if_neg i2, tm_s_at, if_neg i1]
    · show tm_u (ρ 0) 24 v q = _
      rw [tm_u_at, if_neg q1]
    · show upd (ρ 16) w v j = _
      rw [tm_upd_at, if_neg j1]
  have w2 : vp_in (ρ 0 23) 2 := by rw [h23]; exact vp_in_nI hw (by decide)
  have wc : (ρ 0 23).toNatClampNeg = w := by rw [h23]; exact nI_clamp (by omega)
  have same : ∀ K : Int32 → tm_St → Prop, K 0 ρ → ∀ s18 : tm_St, s18 = tm_s ρ 0 (tm_u (ρ 0) 24 (ρ 0 24)) → (vp_in (s18 0 23) 2 ∧ (vp_in (s18 0 23) 2 ∧ (∀ s21 : tm_St, s21 = tm_s s18 16 (upd (s18 16) ((s18 0 23) : Int32).toNatClampNeg (s18 16 ((s18 0 23) : Int32).toNatClampNeg)) → K 0 s21))) := by
    intro K hK s18 e18
    rw [tm_u_id, tm_s_id] at e18
    subst e18
    refine ⟨w2, w2, fun s21 e21 => ?_⟩
    rw [tm_upd_id _ _ _ rfl, tm_s_id] at e21
    rw [e21]; exact hK
  have put : ∀ (K : Int32 → tm_St → Prop) (x : Int32), K 1 (tm_s (tm_s ρ 0 (tm_u (ρ 0) 24 x)) 16 (upd (ρ 16) w x)) → ∀ s27 : tm_St, s27 = tm_s ρ 0 (tm_u (ρ 0) 24 x) → (vp_in (s27 0 23) 2 ∧ (∀ s29 : tm_St, s29 = tm_s s27 16 (upd (s27 16) ((s27 0 23) : Int32).toNatClampNeg x) → K 1 s29)) := by
    intro K x hK s27 e27
    have z23 : s27 0 23 = ρ 0 23 := by rw [e27]; rfl
    have z16 : s27 16 = ρ 16 := by rw [e27]; rfl
    rw [z23, z16, wc]
    refine ⟨w2, fun s29 e29 => ?_⟩
    rw [e29, e27]; exact hK
  rcases hfi with ⟨f1, f2, f3⟩ | ⟨f1, q, f2, f3, f4, f5⟩
  · -- the first figure
    subst f1
    refine ⟨1, tm_s (tm_s ρ 0 (tm_u (ρ 0) 24 (nI d))) 16 (upd (ρ 16) w (nI d)), fun K hK => ?_, fun K hK => ?_, (fr (nI d)).1, (fr (nI d)).2.1, (fr (nI d)).2.2, fun _ => ?_⟩
    · unfold wp_X4_fitsHurt_18
      exact ⟨fun _ => ⟨fun q => absurd q l48, fun _ => ⟨fun _ => ⟨fun q => absurd rfl q, fun _ => hK⟩, fun q => absurd l57 q⟩⟩, fun q => absurd q n44⟩
    · unfold wp_X9_takesHurt
      rw [p_within, if_neg l48, if_neg g57]
      refine ⟨fun q => absurd q (by decide), fun _ => ⟨fun q => absurd f2 q, fun _ x30 e30 => ?_⟩⟩
      rw [dd] at e30
      refine ⟨fun q => absurd (f2.symm.trans q) (by decide), fun _ => ⟨fun q => ?_, fun _ => ?_⟩⟩
      · rw [e30] at q; exact absurd ((nI_ltI (a := 50) (by decide) (by omega)).mp q) (by omega)
      · rw [e30]; exact put K _ hK
    · refine Or.inr ⟨by omega, d, by omega, ?_, rfl, ?_⟩
      · rw [show k + 1 - k = 0 + 1 by omega]
        show 0 * 10 + (g (k + 0) - 48) = nI d
        rw [Nat.add_zero, dd, show (0 : Int32) * 10 = 0 from rfl, Int32.zero_add]
      · show upd (ρ 16) w (nI d) w = _
        rw [tm_upd_at, if_pos rfl]
  · have na : ¬ nI k = nI a := fun z => absurd ((nI_eq (by omega) (by omega)).mp z) (by omega)
    have nm : ¬ ρ 0 24 = -1 := by
      rw [f4]; intro z
      have : nI q < 0 := by rw [z]; decide
      exact absurd this (nI_pos (by omega))
    have cls : ∀ (K : Int32 → tm_St → Prop), ((nI q ≤ 0 → K 0 s) ∧ (¬ nI q ≤ 0 → (((50 : Int32) < nI (10 * q + d) → K 0 s) ∧ (¬ (50 : Int32) < nI (10 * q + d) → K 1 s)))) → wp_X4_fitsHurt_18 K (nI k) (g k) v3 (nI a) s := by
      intro K hK
      unfold wp_X4_fitsHurt_18
      refine ⟨fun _ => ⟨fun q => absurd q l48, fun _ => ⟨fun _ => ⟨fun _ => ?_, fun q => absurd q na⟩, fun q => absurd l57 q⟩⟩, fun q => absurd q n44⟩
      refine p_number h (by omega) (by omega) _ ?_
      rw [f3, dd, show nI q * 10 + nI d = nI (10 * q + d) from (by rw [show (10 : Int32) = nI 10 from rfl, pk_mul, nI_add, Nat.mul_comm])]
      exact hK
    have ref : ∀ (K : Int32 → tm_St → Prop), (q = 0 → K 0 ρ) → (¬ q = 0 → (((50 : Int32) < nI (10 * q + d) → K 0 ρ) ∧ (¬ (50 : Int32) < nI (10 * q + d) → K 1 (tm_s (tm_s ρ 0 (tm_u (ρ 0) 24 (nI (10 * q + d)))) 16 (upd (ρ 16) w (nI (10 * q + d))))))) → wp_X9_takesHurt (g k) ρ K := by
      intro K k1 k2
      unfold wp_X9_takesHurt
      rw [p_within, if_neg l48, if_neg g57]
      refine ⟨fun q => absurd q (by decide), fun _ => ⟨fun _ x16 e16 => ?_, fun z => absurd z nm⟩⟩
      have e : x16 = nI (10 * q + d) := by
        rw [e16, f4, hp, show (10 : Int32) = nI 10 from rfl, pk_mul, nI_add, show (48 : Int32) = nI 48 from rfl, pk_sub (by omega)]
        congr 1
        omega
      refine ⟨fun z => ?_, fun z => ?_⟩
      · have : q = 0 := (nI_eq (b := 0) (by omega) (by decide)).mp (f4.symm.trans z)
        exact same K (k1 this)
      · have nq : ¬ q = 0 := by intro y; apply z; rw [f4, y]; rfl
        obtain ⟨k3, k4⟩ := k2 nq
        rw [e]
        exact ⟨fun y => same K (k3 y), fun y => put K _ (k4 y)⟩
    by_cases q0 : q = 0
    · refine ⟨0, ρ, fun K hK => cls K ⟨fun _ => hK, fun z => absurd (by rw [q0]; decide) z⟩, fun K hK => ref K (fun _ => hK) (fun z => absurd q0 z), fun _ _ _ => rfl, fun _ _ => rfl, fun _ _ => rfl, fun z => absurd rfl z⟩
    · have qn : ¬ nI q ≤ 0 := nI_nle (by omega) (by omega)
      by_cases c : 50 < 10 * q + d
      · have c2 : (50 : Int32) < nI (10 * q + d) := nI_lt (a := 50) c (by omega)
        exact ⟨0, ρ, fun K hK => cls K ⟨fun z => absurd z qn, fun _ => ⟨fun _ => hK, fun z => absurd c2 z⟩⟩, fun K hK => ref K (fun z => absurd z q0) (fun _ => ⟨fun _ => hK, fun z => absurd c2 z⟩), fun _ _ _ => rfl, fun _ _ => rfl, fun _ _ => rfl, fun z => absurd rfl z⟩
      · have c2 : ¬ (50 : Int32) < nI (10 * q + d) := fun z => c ((nI_ltI (a := 50) (by decide) (by omega)).mp z)
        refine ⟨1, tm_s (tm_s ρ 0 (tm_u (ρ 0) 24 (nI (10 * q + d)))) 16 (upd (ρ 16) w (nI (10 * q + d))), fun K hK => cls K ⟨fun z => absurd z qn, fun _ => ⟨fun z => absurd z c2, fun _ => hK⟩⟩, fun K hK => ref K (fun z => absurd z q0) (fun _ => ⟨fun z => absurd z c2, fun _ => hK⟩), (fr _).1, (fr _).2.1, (fr _).2.2, fun _ => Or.inr ⟨by omega, 10 * q + d, by omega, ?_, rfl, ?_⟩⟩
        · rw [show k + 1 - a = (k - a) + 1 by omega]
          show tm_nb g a (k - a) * 10 + (g (a + (k - a)) - 48) = _
          rw [f3, show a + (k - a) = k by omega, dd, show (10 : Int32) = nI 10 from rfl, pk_mul, nI_add, Nat.mul_comm]
        · show upd (ρ 16) w _ w = _
          rw [tm_upd_at, if_pos rfl]
