def tm_ab (t l : Nat → Int32) : Nat → Int32
  | 0 => 0
  | n + 1 => tm_ab t l n + (if 0 ≤ 16 * t n - l n then 16 * t n - l n else 0 - (16 * t n - l n))
theorem tm_ab_c {t l t' l' : Nat → Int32} : ∀ n, (∀ k, k < n → t k = t' k) → (∀ k, k < n → l k = l' k) → tm_ab t l n = tm_ab t' l' n := by
  intro n
  induction n with
  | zero => intro _ _; rfl
  | succ n ih =>
    intro h1 h2
    show tm_ab t l n + _ = tm_ab t' l' n + _
    rw [ih (fun k hk => h1 k (by omega)) (fun k hk => h2 k (by omega)), h1 n (by omega), h2 n (by omega)]
theorem p_remains_4 (K : Int32 → tm_St → Prop) (s : tm_St) (h : K (tm_ab (s 1) (s 2) 4 / 16) s) : ∀ (m i : Nat), i + m = 4 → wp_X0_remains_4 K (m + 1) (tm_ab (s 1) (s 2) i) (nI i) s := by
  intro m
  induction m with
  | zero =>
    intro i hi
    have hi : i = 4 := by omega
    subst hi
    unfold wp_X0_remains_4
    exact ⟨fun _ => h, fun q => absurd (by decide) q⟩
  | succ m ih =>
    intro i hi
    unfold wp_X0_remains_4
    refine ⟨fun q => absurd q (nI_ge (b := 4) (by omega) (by decide)), fun _ => ?_⟩
    rw [nI_clamp (by omega)]
    refine ⟨vp_in_nI (by omega) (by decide), vp_in_nI (by omega) (by decide), fun x4 e4 x5 e5 x6 e6 => ?_⟩
    subst e4; subst e5; subst e6
    rw [nI_1]
    exact ih (i + 1) (by omega)
theorem p_remains (s : tm_St) (K : Int32 → tm_St → Prop) (h : K (tm_ab (s 1) (s 2) 4 / 16) s) : wp_X0_remains s K := ⟨5, p_remains_4 K s h 4 0 rfl⟩
def tm_q (v : Int32) : Nat := if 4 ≤ v then (if 8 ≤ v then (if 12 ≤ v then 3 else 2) else 1) else 0
theorem tm_q_le (v : Int32) : tm_q v ≤ 3 := by unfold tm_q; split <;> (try split) <;> (try split) <;> omega
theorem tm_q_is (v : Int32) : (if (if 0 < v then v else 0) / 4 < 3 then (if 0 < v then v else 0) / 4 else (3 : Int32)) = nI (tm_q v) := by
  by_cases h : 0 < v
  · rw [if_pos h]
    obtain ⟨n, hn, en⟩ := nI_of (x := v) (fun q => Int32.lt_irrefl (Int32.lt_trans h q))
    rw [en, show (nI n / 4 : Int32) = nI (n / 4) from pk_div (d := 4) hn (by decide) (by decide)]
    unfold tm_q
    have l3 : (nI (n / 4) < 3) ↔ n / 4 < 3 := nI_ltI (b := 3) (by omega) (by decide)
    have g4 : ((4 : Int32) ≤ nI n) ↔ 4 ≤ n := nI_leI (a := 4) (by decide) hn
    have g8 : ((8 : Int32) ≤ nI n) ↔ 8 ≤ n := nI_leI (a := 8) (by decide) hn
    have g12 : ((12 : Int32) ≤ nI n) ↔ 12 ≤ n := nI_leI (a := 12) (by decide) hn
    by_cases c4 : 4 ≤ n
    · by_cases c8 : 8 ≤ n
      · by_cases c12 : 12 ≤ n
        · rw [if_neg (fun q => absurd (l3.mp q) (by omega)), if_pos (g4.mpr c4), if_pos (g8.mpr c8), if_pos (g12.mpr c12)]; rfl
        · rw [if_pos (l3.mpr (by omega)), if_pos (g4.mpr c4), if_pos (g8.mpr c8), if_neg (fun q => c12 (g12.mp q)), show n / 4 = 2 by omega]
      · rw [if_pos (l3.mpr (by omega)), if_pos (g4.mpr c4), if_neg (fun q => c8 (g8.mp q)), show n / 4 = 1 by omega]
    · rw [if_pos (l3.mpr (by omega)), if_neg (fun q => c4 (g4.mp q)), show n / 4 = 0 by omega]
  · rw [if_neg h]
    have c4 : ¬ (4 : Int32) ≤ v := fun q => h (Int32.lt_of_lt_of_le (by decide) q)
    unfold tm_q
    rw [if_neg c4]
    decide
def tm_of (f : Nat → Int32) (R : Int32) : Nat → Nat
  | 0 => 0
  | n + 1 => tm_of f R n + tm_q (f n - R / 20)
theorem tm_of_le (f : Nat → Int32) (R : Int32) : ∀ n, tm_of f R n ≤ 3 * n := by
  intro n
  induction n with
  | zero => exact Nat.le_refl _
  | succ n ih => show tm_of f R n + tm_q _ ≤ _; have := tm_q_le (f n - R / 20); omega
theorem tm_of_c {f f' : Nat → Int32} (R : Int32) : ∀ n, (∀ k, k < n → f k = f' k) → tm_of f R n = tm_of f' R n := by
  intro n
  induction n with
  | zero => intro _; rfl
  | succ n ih =>
    intro h
    show tm_of f R n + _ = tm_of f' R n + _
    rw [ih (fun k hk => h k (by omega)), h n (by omega)]
theorem p_mo18 (K : tm_St → Prop) {R : Int32} {f : Nat → Int32} : ∀ (m i : Nat) (s : tm_St), i + m = 8 → s 0 11 = nI (tm_of f R i) → s 0 15 = R → s 7 = f → K (tm_s s 0 (tm_u (s 0) 11 (nI (tm_of f R 8)))) → wp_X3_makeOffer_18 K (m + 1) (nI i) s := by
  intro m
  induction m with
  | zero =>
    intro i s hi h0 hR hf h
    have hi : i = 8 := by omega
    subst hi
    unfold wp_X3_makeOffer_18
    refine ⟨fun _ => ?_, fun q => absurd (by decide) q⟩
    rw [tm_u_idv _ _ _ h0, tm_s_id] at h
    exact h
  | succ m ih =>
    intro i s hi h0 hR hf h
    unfold wp_X3_makeOffer_18
    refine ⟨fun q => absurd q (nI_ge (b := 8) (by omega) (by decide)), fun _ => ?_⟩
    rw [nI_clamp (by omega)]
    refine ⟨vp_in_nI (by omega) (by decide), fun x8 e8 x9 e9 s10 e10 x11 e11 => ?_⟩
    rw [hR, hf] at e8
    rw [e8, tm_q_is] at e9
    rw [e9, h0, nI_add] at e10
    subst e10; subst e11
    rw [nI_1]
    refine ih (i + 1) _ (by omega) (by simp [tm_s_at, tm_u_at]; rfl) (by simpa [tm_s_at, tm_u_at] using hR) (by simpa [tm_s_at] using hf) ?_
    have e1 : ∀ v w : Int32, tm_u (tm_u (s 0) 11 v) 11 w = tm_u (s 0) 11 w := by
      intro v w; funext q; simp only [tm_u_at]; split <;> rfl
    simpa [tm_s_at, tm_s_ss, e1] using h
theorem p_mo56 {e : Nat} (he : e < 2) (K : tm_St → Prop) {R : Int32} (s : tm_St) (h : K (tm_s s 1 (upd (upd (s 1) (24 * e + 11) R) (24 * e + 3) (nI (tm_of (fun b => s 2 (8 * e + b)) R 8))))) : ∀ (m i : Nat), i + m = 8 → wp_X9_makeOffer_56 K (m + 1) (nI e) R (nI (tm_of (fun b => s 2 (8 * e + b)) R i)) (nI i) s := by
  intro m
  induction m with
  | zero =>
    intro i hi
    have hi : i = 8 := by omega
    subst hi
    unfold wp_X9_makeOffer_56
    refine ⟨fun _ => ?_, fun q => absurd (by decide) q⟩
    rw [p_put_11 he, p_put_3 he, tm_s_ss]
    exact h
  | succ m ih =>
    intro i hi
    unfold wp_X9_makeOffer_56
    refine ⟨fun q => absurd q (nI_ge (b := 8) (by omega) (by decide)), fun _ => ?_⟩
    rw [p_8, nI_clamp (by omega)]
    have go : ∀ (w : Nat) (x11 x12 : Int32), tm_q (s 2 (8 * e + i) - R / 20) = w → x11 = nI (tm_of (fun b => s 2 (8 * e + b)) R i) + nI w → x12 = nI i + 1 → wp_X9_makeOffer_56 K (m + 1) (nI e) R x11 x12 s := by
      intro w x11 x12 hw e1 e2
      rw [e1, e2, nI_1, nI_add, ← hw]
      exact ih (i + 1) (by omega)
    refine ⟨vp_in_nI (by omega) (by decide), fun x7 e7 => ?_⟩
    subst e7
    unfold tm_q at go
    refine ⟨fun c4 => ⟨fun c8 => ⟨fun c12 x e1 y e2 => ?_, fun c12 x e1 y e2 => ?_⟩, fun c8 x e1 y e2 => ?_⟩, fun c4 x e1 y e2 => ?_⟩
    · exact go 3 x y (by rw [if_pos c4, if_pos c8, if_pos c12]) e1 e2
    · exact go 2 x y (by rw [if_pos c4, if_pos c8, if_neg c12]) e1 e2
    · exact go 1 x y (by rw [if_pos c4, if_neg c8]) e1 e2
    · exact go 0 x y (by rw [if_neg c4]) e1 e2
theorem p_mo4 {e : Nat} (he : e < 2) (K : tm_St → Prop) (s : tm_St) (h : ∃ nf : Nat, wp_X9_makeOffer_56 K nf (nI e) (tm_ab (fun k => s 4 (4 * e + k)) (fun k => s 3 (4 * e + k)) 4 / 16) 0 0 s) : ∀ (m i : Nat), i + m = 4 → wp_X9_makeOffer_4 K (m + 1) (nI e) (tm_ab (fun k => s 4 (4 * e + k)) (fun k => s 3 (4 * e + k)) i) (nI i) s := by
  intro m
  induction m with
  | zero =>
    intro i hi
    have hi : i = 4 := by omega
    subst hi
    unfold wp_X9_makeOffer_4
    exact ⟨fun _ x e => e ▸ h, fun q => absurd (by decide) q⟩
  | succ m ih =>
    intro i hi
    unfold wp_X9_makeOffer_4
    refine ⟨fun q => absurd q (nI_ge (b := 4) (by omega) (by decide)), fun _ => ?_⟩
    rw [p_4, nI_clamp (by omega), p_size]
    refine ⟨vp_in_nI (by omega) (by decide), vp_in_nI (by omega) (by decide), fun x e1 y e2 => ?_⟩
    rw [e1, e2, nI_1]
    exact ih (i + 1) (by omega)
theorem s_offer {e : Nat} (he : e < 2) {c7 c6 : Int32} {u S X T G S' X' T' G' : Nat} {σ r : tm_St} (h : tm_Q e c7 c6 u S X T G S' X' T' G' σ r) : ∃ σ' r' : tm_St, (∀ K : tm_St → Prop, K σ' → (∀ s10 : tm_St, s10 = tm_s σ 0 (tm_u (σ 0) 10 1) → (wp_X3_makeOffer  s10 (fun s11 => (wp_X3_come 5 s11 (fun s12 => K s12)))))) ∧ (∀ K : tm_St → Prop, K r' → wp_X9_into (nI e) 5 r (fun s12 => (wp_X9_put (nI e) 2 1 s12 (fun s13 => (wp_X9_makeOffer (nI e) s13 (fun s14 => K s14)))))) ∧ (tm_P e c7 c6 u S S' X' T' G' σ r σ' r') ∧ σ' 0 6 = 5 := by
  have t4 : ∀ k, k < 4 → σ 2 k = r 4 (4 * e + k) := h.1.2.1.1
  have t3 : ∀ k, k < 4 → σ 3 k = r 3 (4 * e + k) := h.1.2.1.2.1
  have t2 : ∀ k, k < 8 → σ 7 k = r 2 (8 * e + k) := h.1.2.1.2.2.1
  generalize hR : tm_ab (fun k => r 4 (4 * e + k)) (fun k => r 3 (4 * e + k)) 4 / 16 = R
  have hab : tm_ab (σ 2) (σ 3) 4 / 16 = R := by rw [← hR, tm_ab_c 4 t4 t3]
  have hof : tm_of (σ 7) R 8 = tm_of (fun b => r 2 (8 * e + b)) R 8 := tm_of_c R 8 t2
  have hle : tm_of (σ 7) R 8 ≤ 24 := tm_of_le _ _ 8
  obtain ⟨a1, a2, a3⟩ := q_set_2 he h 1
  obtain ⟨b1, b2, b3⟩ := q_set_11 he a1 R
  obtain ⟨d1, d2, d3⟩ := q_set_3 he b1 hle
  have hc := P_come (p := 5) he ⟨d1, tm_F_tr a2 (tm_F_tr b2 d2), tm_FC_tr a3 (tm_FC_tr b3 d3)⟩ rfl rfl rfl (by decide) (by decide)
  refine ⟨_, _, fun K hK => ?_, fun K hK => ?_, hc, rfl⟩
  · intro s10 e10
    unfold wp_X3_makeOffer
    refine p_remains _ _ ?_
    intro s2 e2
    rw [tm_pk_pj] at e2
    intro s4 e4 s5 e5
    refine ⟨9, p_mo18 _ (R := R) (f := σ 7) 8 0 s5 rfl ?_ ?_ ?_ ?_⟩
    · subst e5; simp [tm_s_at, tm_u_at]; rfl
    · rw [e5, e4, e2, e10]
      simp [tm_pj_at, tm_s_at, tm_u_at, hab]
    · rw [e5, e4, e2, e10]
      simp [tm_s_at]
    · refine (p_come_o 5 (by decide) (by decide) (by decide) _ _).mpr ?_
      have es : tm_s s5 0 (tm_u (s5 0) 11 (nI (tm_of (σ 7) R 8))) = tm_s (tm_s (tm_s σ 0 (tm_u (σ 0) 10 1)) 0 (tm_u ((tm_s σ 0 (tm_u (σ 0) 10 1)) 0) 15 R)) 0 (tm_u ((tm_s (tm_s σ 0 (tm_u (σ 0) 10 1)) 0 (tm_u ((tm_s σ 0 (tm_u (σ 0) 10 1)) 0) 15 R)) 0) 11 (nI (tm_of (σ 7) R 8))) := by
        have hab2 : tm_ab (tm_pj [1, 2, 3] (tm_s σ 0 (tm_u (σ 0) 10 1)) 1) (tm_pj [1, 2, 3] (tm_s σ 0 (tm_u (σ 0) 10 1)) 2) 4 / 16 = R := hab
        rw [e5, e4, e2, e10, hab2]
        have e1 : ∀ (f : Nat → Int32) (v w : Int32), tm_u (tm_u f 11 v) 11 w = tm_u f 11 w := by
          intro f v w; funext q; simp only [tm_u_at]; split <;> rfl
        simp [tm_s_ss, tm_s_at, e1]
      rw [es]
      exact hK
  · refine (p_into_o he 5 (by decide) (by decide) (by decide) _ _).mpr ?_
    rw [p_put_2 he]
    refine ⟨5, p_mo4 he _ _ ⟨9, p_mo56 he _ _ ?_ 8 0 rfl⟩ 4 0 rfl⟩
    have e1 : tm_ab (fun k => (tm_s (tm_into e 5 r) 1 (upd ((tm_into e 5 r) 1) (24 * e + 2) 1)) 4 (4 * e + k)) (fun k => (tm_s (tm_into e 5 r) 1 (upd ((tm_into e 5 r) 1) (24 * e + 2) 1)) 3 (4 * e + k)) 4 / 16 = R := hR
    rw [e1]
    have e2 : tm_of (fun b => (tm_s (tm_into e 5 r) 1 (upd ((tm_into e 5 r) 1) (24 * e + 2) 1)) 2 (8 * e + b)) R 8 = tm_of (σ 7) R 8 := hof.symm
    rw [e2]
    rw [show (nI 5 : Int32) = 5 from rfl] at hK
    refine cast (congrArg K ?_) hK
    funext i
    by_cases i0 : i = 0
    · subst i0; simp [tm_into, tm_s_at]
    · by_cases i1 : i = 1
      · subst i1
        funext k
        simp only [tm_into, tm_s_at, tm_upd_at]
        simp only [tm_upd_at, if_true, if_false, reduceIte, Nat.one_ne_zero, Nat.zero_ne_one]
        by_cases k0 : k = 24 * e
        · subst k0; simp
        · by_cases k1 : k = 24 * e + 1
          · subst k1; simp
          · by_cases k2 : k = 24 * e + 2
            · subst k2; simp
            · by_cases k3 : k = 24 * e + 3
              · subst k3; simp
              · by_cases k11 : k = 24 * e + 11
                · subst k11; simp
                · simp [k0, k1, k2, k3, k11]
      · simp [tm_into, tm_s_at, i0, i1]
