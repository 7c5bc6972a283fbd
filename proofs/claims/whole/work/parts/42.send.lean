theorem i_c1 {a b : Int32} (h : a + 1 = b + 1) : a = b := (i_nx h).symm.trans (i_nx (a := b) (b := b + 1) rfl)
def tm_up5 (f : Nat → Int32) (B : Nat) (a0 a1 a2 a3 a4 : Int32) : Nat → Int32 := upd (upd (upd (upd (upd f B a0) (B + 1) a1) (B + 2) a2) (B + 3) a3) (B + 4) a4
theorem tm_up5_o (f : Nat → Int32) (B : Nat) (a0 a1 a2 a3 a4 : Int32) (i : Nat) (h : i < B ∨ B + 5 ≤ i) : tm_up5 f B a0 a1 a2 a3 a4 i = f i := by
  unfold tm_up5
  rw [tm_upd_at, if_neg (by omega), tm_upd_at, if_neg (by omega), tm_upd_at, if_neg (by omega), tm_upd_at, if_neg (by omega), tm_upd_at, if_neg (by omega)]
theorem tm_up5_0 (f : Nat → Int32) (B : Nat) (a0 a1 a2 a3 a4 : Int32) : tm_up5 f B a0 a1 a2 a3 a4 B = a0 := by simp [tm_up5, tm_upd_at]
theorem tm_up5_1 (f : Nat → Int32) (B : Nat) (a0 a1 a2 a3 a4 : Int32) : tm_up5 f B a0 a1 a2 a3 a4 (B + 1) = a1 := by simp [tm_up5, tm_upd_at]
theorem tm_up5_2 (f : Nat → Int32) (B : Nat) (a0 a1 a2 a3 a4 : Int32) : tm_up5 f B a0 a1 a2 a3 a4 (B + 2) = a2 := by simp [tm_up5, tm_upd_at]
theorem tm_up5_3 (f : Nat → Int32) (B : Nat) (a0 a1 a2 a3 a4 : Int32) : tm_up5 f B a0 a1 a2 a3 a4 (B + 3) = a3 := by simp [tm_up5, tm_upd_at]
theorem tm_up5_4 (f : Nat → Int32) (B : Nat) (a0 a1 a2 a3 a4 : Int32) : tm_up5 f B a0 a1 a2 a3 a4 (B + 4) = a4 := by simp [tm_up5, tm_upd_at]
theorem p_send34 {j : Nat} (hj : j < 16) (s : tm_St) (so on tw nn aa : Int32) (K : tm_St → Prop) (h : K (tm_s s 3 (tm_up5 (s 3) (8 * j) so on tw nn aa))) : wp_X7_send_34 K so on tw nn aa (nI j) s := by
  unfold wp_X7_send_34
  intro x4 e4
  have e8 : (nI j * 8 : Int32) = nI (8 * j) := by rw [show (8 : Int32) = nI 8 from rfl, pk_mul, Nat.mul_comm]
  rw [e8] at e4
  subst e4
  rw [nI_1, show (nI (8 * j) + 2 : Int32) = nI (8 * j + 2) from nI_add _ 2, show (nI (8 * j) + 3 : Int32) = nI (8 * j + 3) from nI_add _ 3, show (nI (8 * j) + 4 : Int32) = nI (8 * j + 4) from nI_add _ 4, nI_clamp (by omega), nI_clamp (by omega), nI_clamp (by omega), nI_clamp (by omega), nI_clamp (by omega)]
  refine ⟨vp_in_nI (by omega) (by decide), fun s6 e6 => ⟨vp_in_nI (by omega) (by decide), fun s8 e8 => ⟨vp_in_nI (by omega) (by decide), fun s10 e10 => ⟨vp_in_nI (by omega) (by decide), fun s12 e12 => ⟨vp_in_nI (by omega) (by decide), fun s14 e14 => ?_⟩⟩⟩⟩⟩
  subst e6; subst e8; subst e10; subst e12; subst e14
  simp only [tm_s_ss, tm_s_at, if_true]
  exact h
theorem p_sendC {D : Nat} (hD : D < 2 ^ 31) (s : tm_St) (so on tw nn aa : Int32) (hf : s 4 (D % 16) = 0 ∨ s 4 (D % 16) = 1) (K : tm_St → Prop) (h : K (tm_s (tm_s (tm_s s 4 (upd (s 4) (D % 16) 1)) 0 (if s 4 (D % 16) = 0 then tm_u (s 0) 7 (s 0 7 + 1) else s 0)) 3 (tm_up5 (s 3) (8 * (D % 16)) so on tw nn aa))) : wp_X7_send (nI D) so on tw nn aa s K := by
  unfold wp_X7_send
  intro x1 e1
  rw [p_row hD] at e1
  subst e1
  rw [nI_clamp (by omega)]
  refine ⟨vp_in_nI (by omega) (by decide), fun c => ?_, fun c => ⟨vp_in_nI (by omega) (by decide), fun s16 e16 s17 e17 => ?_⟩⟩
  · rw [if_neg c, tm_upd_id _ _ _ (hf.resolve_left c), tm_s_id, tm_s_id] at h
    exact p_send34 (by omega) s _ _ _ _ _ K h
  · rw [if_pos c] at h
    rw [e17, e16]
    exact p_send34 (by omega) _ _ _ _ _ _ K h
theorem p_sendR {e t d : Nat} (he : e < 2) (hD : t + d < 2 ^ 31) (r : tm_St) (so on tw nn aa : Int32) (h12 : r 0 12 = nI t) (h8 : r 0 8 = nI d) (K : tm_St → Prop) (h : K (tm_s (tm_s (tm_s r 0 (tm_u (r 0) 28 (nI (8 * (16 * e + (t + d) % 16))))) 10 (tm_up5 (r 10) (8 * (16 * e + (t + d) % 16)) 1 so on tw nn)) 11 (upd (r 11) (16 * e + (t + d) % 16) aa))) : wp_X9_send (nI e) so on tw nn aa r K := by
  unfold wp_X9_send
  rw [h12, h8, nI_add, p_slot he hD]
  generalize hB : 8 * (16 * e + (t + d) % 16) = B at h ⊢
  have hB2 : B + 8 ≤ 256 := by omega
  intro s3 e3
  have z3 : s3 0 28 = nI B := by rw [e3]; rfl
  rw [z3, nI_clamp (by omega)]
  refine ⟨vp_in_nI (by omega) (by decide), fun s5 e5 => ?_⟩
  have z5 : s5 0 28 = nI B := by rw [e5]; exact z3
  rw [z5, nI_1, nI_clamp (by omega)]
  refine ⟨vp_in_nI (by omega) (by decide), fun s7 e7 => ?_⟩
  have z7 : s7 0 28 = nI B := by rw [e7]; exact z5
  rw [z7, show (nI B + 2 : Int32) = nI (B + 2) from nI_add _ 2, nI_clamp (by omega)]
  refine ⟨vp_in_nI (by omega) (by decide), fun s9 e9 => ?_⟩
  have z9 : s9 0 28 = nI B := by rw [e9]; exact z7
  rw [z9, show (nI B + 3 : Int32) = nI (B + 3) from nI_add _ 3, nI_clamp (by omega)]
  refine ⟨vp_in_nI (by omega) (by decide), fun s11 e11 => ?_⟩
  have z11 : s11 0 28 = nI B := by rw [e11]; exact z9
  rw [z11, show (nI B + 4 : Int32) = nI (B + 4) from nI_add _ 4, nI_clamp (by omega)]
  refine ⟨vp_in_nI (by omega) (by decide), fun s13 e13 => ?_⟩
  have z13 : s13 0 28 = nI B := by rw [e13]; exact z11
  rw [z13, show (nI B / 8 : Int32) = nI (B / 8) from pk_div (d := 8) (by omega) (by decide) (by decide), show B / 8 = 16 * e + (t + d) % 16 by omega, nI_clamp (by omega)]
  refine ⟨vp_in_nI (by omega) (by decide), fun s15 e15 => ?_⟩
  subst e3; subst e5; subst e7; subst e9; subst e11; subst e13; subst e15
  simp only [tm_s_ss, tm_s_at, if_true]
  exact h
theorem tm_sm_c {f g : Nat → Int32} : ∀ n, (∀ k, k < n → f (8 * k) = g (8 * k)) → tm_sm f n = tm_sm g n := by
  intro n
  induction n with
  | zero => intro _; rfl
  | succ n ih =>
    intro h
    show tm_sm f n + _ = tm_sm g n + _
    rw [ih (fun k hk => h k (by omega)), h n (by omega)]
/-- a signal goes out -/
theorem q_send {e : Nat} (he : e < 2) {c7 c6 : Int32} {u S X T G S' X' T' G' : Nat} {σ r : tm_St} (h : tm_Q e c7 c6 u S X T G S' X' T' G' σ r) {j : Nat} (hj : j < 16) {so on tw nn aa : Int32} (k3 : so = 3 → ∃ b, b < 8 ∧ on = nI b) (k5 : so = 5 ∨ so = 6 → ∃ q, q ≤ 24 ∧ tw = nI q) (k7 : so = 7 → ∃ P N A, P + N ≤ S ∧ N ≤ 3 ∧ A ≤ G ∧ tw = nI P ∧ nn = nI N ∧ aa = nI A) (v28 : Int32) :
    tm_Q e c7 c6 u S X T G S' X' T' G' (tm_s (tm_s (tm_s σ 18 (upd (σ 18) j 1)) 14 (if σ 18 j = 0 then tm_u (σ 14) 7 (σ 14 7 + 1) else σ 14)) 17 (tm_up5 (σ 17) (8 * j) so on tw nn aa)) (tm_s (tm_s (tm_s r 0 (tm_u (r 0) 28 v28)) 10 (tm_up5 (r 10) (8 * (16 * e + j)) 1 so on tw nn)) 11 (upd (r 11) (16 * e + j) aa)) ∧ tm_F e r (tm_s (tm_s (tm_s r 0 (tm_u (r 0) 28 v28)) 10 (tm_up5 (r 10) (8 * (16 * e + j)) 1 so on tw nn)) 11 (upd (r 11) (16 * e + j) aa)) ∧ tm_FC σ (tm_s (tm_s (tm_s σ 18 (upd (σ 18) j 1)) 14 (if σ 18 j = 0 then tm_u (σ 14) 7 (σ 14 7 + 1) else σ 14)) 17 (tm_up5 (σ 17) (8 * j) so on tw nn aa)) := by
  obtain ⟨⟨hM, hR, h8, hWi, hWo, hla, h7, h6, hu⟩, hE, hE', hx, hs, hs', ht, hd⟩ := h
  obtain ⟨w1, w2, w3, w4, w5, w6, w7, w8⟩ := hWi
  obtain ⟨o1, o2, o3, o4, o5, o6, o7, o8⟩ := hWo
  have f14 : ∀ k, ¬ k = 7 → (if σ 18 j = 0 then tm_u (σ 14) 7 (σ 14 7 + 1) else σ 14) k = σ 14 k := by
    intro k hk; split
    · rw [tm_u_at, if_neg hk]
    · rfl
  have hfl := o5 j hj
  refine ⟨⟨⟨hM, hR, h8, ⟨w1, w2, w3, w4, ?_, ?_, ?_, ?_⟩, ⟨?_, ?_, ?_, o4, ?_, ?_, ?_, ?_⟩, hla, h7, h6, ?_⟩, hE, hE', hx, ?_, ?_, ht, hd⟩, ⟨fun _ _ => rfl, fun _ _ => rfl, fun _ _ => rfl, rfl, rfl, fun _ _ => rfl, fun _ _ => rfl, rfl, rfl, rfl, rfl, rfl, rfl, rfl⟩, ⟨rfl, rfl, rfl, rfl, rfl, rfl⟩⟩
  · intro j' hj'
    show σ 13 j' = tm_up5 _ _ _ _ _ _ _ (8 * (16 * (1 - e) + j'))
    rw [tm_up5_o _ _ _ _ _ _ _ _ (by omega)]; exact w5 j' hj'
  · intro j' k hj' hk
    show σ 12 (8 * j' + k) = tm_up5 _ _ _ _ _ _ _ (8 * (16 * (1 - e) + j') + 1 + k)
    rw [tm_up5_o _ _ _ _ _ _ _ _ (by omega)]; exact w6 j' k hj' hk
  · intro j' hj'
    show σ 12 (8 * j' + 4) = upd (r 11) (16 * e + j) aa (16 * (1 - e) + j')
    rw [tm_upd_at, if_neg (by omega)]; exact w7 j' hj'
  · intro j' k hj' hk
    show σ 12 (8 * j' + 5 + k) = tm_up5 _ _ _ _ _ _ _ (8 * (16 * (1 - e) + j') + 5 + k)
    rw [tm_up5_o _ _ _ _ _ _ _ _ (by omega)]; exact w8 j' k hj' hk
  · exact (f14 4 (by decide)).trans o1
  · exact (f14 5 (by decide)).trans o2
  · exact (f14 6 (by decide)).trans o3
  · intro j' hj'
    show upd (σ 18) j 1 j' = tm_up5 (r 10) (8 * (16 * e + j)) 1 so on tw nn (8 * (16 * e + j'))
    rw [tm_upd_at]
    by_cases q : j' = j
    · rw [if_pos q, q, tm_up5_0]
    · rw [if_neg q, tm_up5_o _ _ _ _ _ _ _ _ (by omega)]; exact o5 j' hj'
  · intro j' k hj' hk
    show tm_up5 (σ 17) (8 * j) so on tw nn aa (8 * j' + k) = tm_up5 (r 10) (8 * (16 * e + j)) 1 so on tw nn (8 * (16 * e + j') + 1 + k)
    by_cases q : j' = j
    · subst q
      rcases (show k = 0 ∨ k = 1 ∨ k = 2 ∨ k = 3 by omega) with z | z | z | z <;> subst z
      · exact (tm_up5_0 _ _ _ _ _ _ _).trans (tm_up5_1 _ _ _ _ _ _ _).symm
      · exact (tm_up5_1 _ _ _ _ _ _ _).trans (tm_up5_2 _ _ _ _ _ _ _).symm
      · exact (tm_up5_2 _ _ _ _ _ _ _).trans (tm_up5_3 _ _ _ _ _ _ _).symm
      · exact (tm_up5_3 _ _ _ _ _ _ _).trans (tm_up5_4 _ _ _ _ _ _ _).symm
    · rw [tm_up5_o _ _ _ _ _ _ _ _ (by omega), tm_up5_o _ _ _ _ _ _ _ _ (by omega)]; exact o6 j' k hj' hk
  · intro j' hj'
    show tm_up5 (σ 17) (8 * j) so on tw nn aa (8 * j' + 4) = upd (r 11) (16 * e + j) aa (16 * e + j')
    rw [tm_upd_at]
    by_cases q : j' = j
    · rw [q, tm_up5_4, if_pos rfl]
    · rw [if_neg (by omega), tm_up5_o _ _ _ _ _ _ _ _ (by omega)]; exact o7 j' hj'
  · intro j' k hj' hk
    show tm_up5 (σ 17) (8 * j) so on tw nn aa (8 * j' + 5 + k) = tm_up5 (r 10) (8 * (16 * e + j)) 1 so on tw nn (8 * (16 * e + j') + 5 + k)
    rw [tm_up5_o _ _ _ _ _ _ _ _ (by omega), tm_up5_o _ _ _ _ _ _ _ _ (by omega)]; exact o8 j' k hj' hk
  · show σ 9 7 + (if σ 18 j = 0 then tm_u (σ 14) 7 (σ 14 7 + 1) else σ 14) 7 = tm_sm (tm_up5 (r 10) (8 * (16 * e + j)) 1 so on tw nn) 32
    have hc : tm_sm (tm_up5 (r 10) (8 * (16 * e + j)) 1 so on tw nn) 32 = tm_sm (upd (r 10) (8 * (16 * e + j)) 1) 32 := tm_sm_c 32 (fun k _ => by
      by_cases q : k = 16 * e + j
      · rw [q, tm_up5_0, tm_upd_at, if_pos rfl]
      · rw [tm_up5_o _ _ _ _ _ _ _ _ (by omega), tm_upd_at, if_neg (by omega)])
    have hsm := tm_sm_u (r 10) (16 * e + j) 1 32 (by omega)
    rw [← hfl] at hsm
    rw [hc]
    by_cases q : σ 18 j = 0
    · rw [if_pos q, tm_u_at, if_pos rfl, ← Int32.add_assoc, hu]
      rw [q, Int32.add_zero] at hsm
      exact hsm.symm
    · have q1 : σ 18 j = 1 := by
        rcases (hs j hj).1 with z | z
        · exact absurd (hfl.trans z) q
        · exact hfl.trans z
      rw [if_neg q, hu]
      rw [q1] at hsm
      exact (i_c1 hsm).symm
  · intro j' hj'
    show tm_Sl S G (tm_up5 (r 10) (8 * (16 * e + j)) 1 so on tw nn) (upd (r 11) (16 * e + j) aa) (16 * e + j')
    by_cases q : j' = j
    · subst q
      refine ⟨Or.inr (tm_up5_0 _ _ _ _ _ _ _), ?_, ?_, ?_⟩
      · intro z
        rw [show tm_up5 (r 10) (8 * (16 * e + j')) 1 so on tw nn (8 * (16 * e + j') + 1) = so from tm_up5_1 _ _ _ _ _ _ _] at z
        obtain ⟨b, hb, eb⟩ := k3 z
        exact ⟨b, hb, (tm_up5_2 _ _ _ _ _ _ _).trans eb⟩
      · intro z
        rw [show tm_up5 (r 10) (8 * (16 * e + j')) 1 so on tw nn (8 * (16 * e + j') + 1) = so from tm_up5_1 _ _ _ _ _ _ _] at z
        obtain ⟨b, hb, eb⟩ := k5 z
        exact ⟨b, hb, (tm_up5_3 _ _ _ _ _ _ _).trans eb⟩
      · intro z
        rw [show tm_up5 (r 10) (8 * (16 * e + j')) 1 so on tw nn (8 * (16 * e + j') + 1) = so from tm_up5_1 _ _ _ _ _ _ _] at z
        obtain ⟨P, N, A, g1, g2, g3, g4, g5, g6⟩ := k7 z
        exact ⟨P, N, A, g1, g2, g3, (tm_up5_3 _ _ _ _ _ _ _).trans g4, (tm_up5_4 _ _ _ _ _ _ _).trans g5, by rw [tm_upd_at, if_pos rfl]; exact g6⟩
    · have := hs j' hj'
      unfold tm_Sl at this ⊢
      rw [tm_up5_o _ _ _ _ _ _ _ _ (by omega), tm_up5_o _ _ _ _ _ _ _ _ (by omega), tm_up5_o _ _ _ _ _ _ _ _ (by omega), tm_up5_o _ _ _ _ _ _ _ _ (by omega), tm_up5_o _ _ _ _ _ _ _ _ (by omega), tm_upd_at, if_neg (by omega)]
      exact this
  · intro j' hj'
    show tm_Sl S' G' (tm_up5 (r 10) (8 * (16 * e + j)) 1 so on tw nn) (upd (r 11) (16 * e + j) aa) (16 * (1 - e) + j')
    have := hs' j' hj'
    unfold tm_Sl at this ⊢
    rw [tm_up5_o _ _ _ _ _ _ _ _ (by omega), tm_up5_o _ _ _ _ _ _ _ _ (by omega), tm_up5_o _ _ _ _ _ _ _ _ (by omega), tm_up5_o _ _ _ _ _ _ _ _ (by omega), tm_up5_o _ _ _ _ _ _ _ _ (by omega), tm_upd_at, if_neg (by omega)]
    exact this
