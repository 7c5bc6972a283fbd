theorem i_start : ∃ c r : tm_St, tm_RR 0 c r ∧ (∀ K : tm_St → Prop, K c → wp_X8_init K) ∧ (∀ K : tm_St → Prop, K r → wp_X9_init K) := by
  have Q : ∀ w j : Nat, w < 2 → j < 8 → tm_cp (fun _ => 8) (fun _ => 0) 0 0 8 j = tm_cp (fun _ => 8) (fun _ => 0) 0 0 16 (8 * w + j) := by
    intro w j hw hj
    rw [tm_cp_at, tm_cp_at, if_pos (by omega), if_pos (by omega)]
  have E : ∀ k, tm_E k 0 0 0 0 0 (fun _ => 0) := fun k => ⟨⟨0, by omega, rfl⟩, ⟨0, by omega, rfl⟩, ⟨0, by omega, rfl⟩, ⟨0, by omega, rfl⟩, ⟨0, by omega, rfl⟩, ⟨0, by omega, rfl⟩, ⟨⟨0, by omega, by omega, rfl⟩, rfl⟩, rfl, rfl, rfl, by omega, by omega, by omega⟩
  have Sl : ∀ k, tm_Sl 0 0 (fun _ => 0) (fun _ => 0) k := fun k => ⟨Or.inl rfl, fun q => absurd (show (0 : Int32) = 3 from q) (by decide), fun q => absurd (show (0 : Int32) = 5 ∨ (0 : Int32) = 6 from q) (by decide), fun q => absurd (show (0 : Int32) = 7 from q) (by decide)⟩
  have N : ∀ e, tm_N e 0 0 0 0 0 0 0 0 0 (tm_s (tm_l [tm_u (fun _ => 0) 8 2, fun _ => 0, fun _ => 0, fun _ => 0, fun _ => 0, fun _ => 0, fun _ => 0, fun _ => 0, fun _ => 0, fun _ => 0, fun _ => 0, fun _ => 0, fun _ => 0, fun _ => 0, fun _ => 0, fun _ => 0, fun _ => 0, fun _ => 0]) 8 (tm_cp (fun _ => 8) (fun _ => 0) 0 0 16)) := fun e => ⟨E _, E _, ⟨by omega, by omega, by omega, by omega⟩, fun j _ => Sl _, fun j _ => Sl _, ⟨0, by omega, rfl⟩, ⟨2, by omega, by omega, rfl⟩⟩
  have M : ∀ e, tm_M e (fun _ => 0) (fun _ => 0) (fun _ => 0) := fun e => ⟨rfl, rfl, rfl, rfl, rfl, rfl, rfl, rfl, rfl, rfl, rfl, rfl, rfl, rfl, rfl, rfl, rfl⟩
  have W : ∀ w, w < 2 → tm_W w (fun _ => 0) (tm_cp (fun _ => 8) (fun _ => 0) 0 0 8) (fun _ => 0) (fun _ => 0) (tm_s (tm_l [tm_u (fun _ => 0) 8 2, fun _ => 0, fun _ => 0, fun _ => 0, fun _ => 0, fun _ => 0, fun _ => 0, fun _ => 0, fun _ => 0, fun _ => 0, fun _ => 0, fun _ => 0, fun _ => 0, fun _ => 0, fun _ => 0, fun _ => 0, fun _ => 0, fun _ => 0]) 8 (tm_cp (fun _ => 8) (fun _ => 0) 0 0 16)) := fun w hw => ⟨rfl, rfl, rfl, fun b hb => Q w b hw hb, fun _ _ => rfl, fun _ _ _ _ => rfl, fun _ _ => rfl, fun _ _ _ _ => rfl⟩
  have sm : ∀ n, tm_sm (fun _ => 0) n = 0 := by
    intro n
    induction n with
    | zero => rfl
    | succ n ih => show tm_sm _ n + 0 = 0; rw [ih]; rfl
  have R : ∀ e, tm_R e (fun _ => 0) (fun _ => 0) (fun _ => 0) (fun _ => 0) (fun _ => 0) (tm_s (tm_l [tm_u (fun _ => 0) 8 2, fun _ => 0, fun _ => 0, fun _ => 0, fun _ => 0, fun _ => 0, fun _ => 0, fun _ => 0, fun _ => 0, fun _ => 0, fun _ => 0, fun _ => 0, fun _ => 0, fun _ => 0, fun _ => 0, fun _ => 0, fun _ => 0, fun _ => 0]) 8 (tm_cp (fun _ => 8) (fun _ => 0) 0 0 16)) := fun e => ⟨fun _ _ => rfl, fun _ _ => rfl, fun _ _ => rfl, fun _ _ => rfl, fun _ _ => rfl⟩
  refine ⟨tm_l [fun _ => 0, fun _ => 0, fun _ => 0, tm_u (fun _ => 0) 2 2, fun _ => 0, tm_cp (fun _ => 8) (fun _ => 0) 0 0 8, fun _ => 0, fun _ => 0, fun _ => 0, fun _ => 0, tm_cp (fun _ => 8) (fun _ => 0) 0 0 8, fun _ => 0, fun _ => 0, fun _ => 0, fun _ => 0, fun _ => 0, fun _ => 0, fun _ => 0, fun _ => 0, fun _ => 0, fun _ => 0, fun _ => 0, fun _ => 0, fun _ => 0, fun _ => 0, fun _ => 0, fun _ => 0, fun _ => 0, fun _ => 0, fun _ => 0], tm_s (tm_l [tm_u (fun _ => 0) 8 2, fun _ => 0, fun _ => 0, fun _ => 0, fun _ => 0, fun _ => 0, fun _ => 0, fun _ => 0, fun _ => 0, fun _ => 0, fun _ => 0, fun _ => 0, fun _ => 0, fun _ => 0, fun _ => 0, fun _ => 0, fun _ => 0, fun _ => 0]) 8 (tm_cp (fun _ => 8) (fun _ => 0) 0 0 16), ⟨⟨0, 0, 0, 0, 0, 0, 0, 0, ⟨⟨M 0, R 0, rfl, W 1 (by decide), W 0 (by decide), fun _ _ => rfl, rfl, rfl, (sm 32).symm⟩, N 0⟩, ⟨⟨M 1, R 1, rfl, W 0 (by decide), W 1 (by decide), fun _ _ => rfl, rfl, rfl, (sm 32).symm⟩, N 1⟩⟩, fun _ => rfl, fun _ => rfl, ⟨0, by omega, rfl, rfl, fun j hj => absurd hj (by omega)⟩, rfl, rfl⟩, fun K hK => ?_, fun K hK => ?_⟩
  · unfold wp_X8_init wp_X1_init
    refine ⟨9, i_7 _ 8 0 _ rfl ⟨9, i_7 _ 8 0 _ rfl ?_⟩⟩
    exact hK
  · exact ⟨17, i_9 K 16 0 _ rfl hK⟩
