set_option maxHeartbeats 4000000 in
set_option maxRecDepth 100000 in
theorem law_K {s : State} {b : Addr} (hts : ∀ w ∈ lw_tbl, w.before #[Value.ref b] s = true) : ∃ (dC : Nat → ClassId) (dI : Nat → Nat → Nat) (cI cZ : ClassId), va_K (dC, dI) vwCl [(cI, .int), (cZ, .boolean)] s := by
  obtain ⟨c0, i0, h0⟩ := u_known (C := RX0) (T := TX0) (N := 2) (n := 2) hts wsL_law_kwsX00 (hts (Cond.instantiable RX0 2) (tb_1 (List.mem_of_getElem? (i := 106) (by decide +kernel))))
  obtain ⟨c1, i1, h1⟩ := u_known (C := RX1) (T := TX1) (N := 4) (n := 4) hts wsL_law_kwsX10 (hts (Cond.instantiable RX1 4) (tb_1 (List.mem_of_getElem? (i := 20) (by decide +kernel))))
  obtain ⟨c2, i2, h2⟩ := u_known (C := RX2) (T := TX2) (N := 8) (n := 8) hts wsL_law_kwsX20 (hts (Cond.instantiable RX2 8) (tb_1 (List.mem_of_getElem? (i := 121) (by decide +kernel))))
  obtain ⟨c3, i3, h3⟩ := u_known (C := RX3) (T := TX3) (N := 20) (n := 20) hts wsL_law_kwsX30 (hts (Cond.instantiable RX3 20) (tb_1 (List.mem_of_getElem? (i := 100) (by decide +kernel))))
  obtain ⟨c4, i4, h4⟩ := u_known (C := RX4) (T := TX4) (N := 2) (n := 2) hts wsL_law_kwsX40 (hts (Cond.instantiable RX4 2) (tb_1 (List.mem_of_getElem? (i := 86) (by decide +kernel))))
  obtain ⟨c5, i5, h5⟩ := u_known (C := RX7) (T := TX7) (N := 8) (n := 8) hts wsL_law_kwsX70 (hts (Cond.instantiable RX7 8) (tb_1 (List.mem_of_getElem? (i := 26) (by decide +kernel))))
  obtain ⟨c6, i6, h6⟩ := u_known (C := RX8) (T := TX8) (N := 5) (n := 5) hts wsL_law_kwsX80 (hts (Cond.instantiable RX8 5) (tb_1 (List.mem_of_getElem? (i := 12) (by decide +kernel))))
  obtain ⟨c7, i7, h7⟩ := u_known (C := RX9) (T := TX9) (N := 30) (n := 30) hts wsL_law_kwsX90 (hts (Cond.instantiable RX9 30) (tb_3 (List.mem_of_getElem? (i := 66) (by decide +kernel))))
  obtain ⟨cI, kI, pI, fI, gI, jI⟩ := Cond.arrayClass_spec (hts (Cond.arrayClass .int) (tb_1 (List.mem_of_getElem? (i := 65) (by decide +kernel))))
  obtain ⟨cZ, kZ, pZ, fZ, gZ, jZ⟩ := Cond.arrayClass_spec (hts (Cond.arrayClass .boolean) (tb_1 (List.mem_of_getElem? (i := 66) (by decide +kernel))))
  refine ⟨fun k => match k with | 0 => c0 | 1 => c1 | 2 => c2 | 3 => c3 | 4 => c4 | 5 => c5 | 6 => c6 | _ => c7, fun k => match k with | 0 => i0 | 1 => i1 | 2 => i2 | 3 => i3 | 4 => i4 | 5 => i5 | 6 => i6 | _ => i7, cI, cZ, fun k q hq => ?_, fun k q hq => ?_⟩
  · match k, hq with
    | 0, hq => cases hq; exact h0
    | 1, hq => cases hq; exact h1
    | 2, hq => cases hq; exact h2
    | 3, hq => cases hq; exact h3
    | 4, hq => cases hq; exact h4
    | 5, hq => cases hq; exact h5
    | 6, hq => cases hq; exact h6
    | 7, hq => cases hq; exact h7
    | k + 8, hq => simp [vwCl] at hq
  · match k, hq with
    | 0, hq => cases hq; exact ⟨fun N z => ⟨(fun k h => by cases h), kI, gI, pI, jI⟩, fI⟩
    | 1, hq => cases hq; exact ⟨fun N z => ⟨(fun k h => by cases h), kZ, gZ, pZ, jZ⟩, fZ⟩
    | k + 2, hq => simp at hq
set_option maxHeartbeats 4000000 in
set_option maxRecDepth 100000 in
theorem law_nest {s : State} {b : Addr} (hts : ∀ w ∈ lw_tbl, w.before #[Value.ref b] s = true) : tm_nw8 s := ⟨⟨va_Nw.of rfl (hts (Cond.methodLinkNest RX8 9 yX1_init "TwoModems") (tb_1 (List.mem_of_getElem? (i := 21) (by decide +kernel)))), va_Nw.of rfl (hts (Cond.methodLinkNest RX8 12 yX4_init "TwoModems") (tb_1 (List.mem_of_getElem? (i := 87) (by decide +kernel))))⟩, va_Nw.of rfl (hts (Cond.methodLinkNest RX3 11 yX0_init "TwoModems") (tb_1 (List.mem_of_getElem? (i := 107) (by decide +kernel)))), va_Nw.of rfl (hts (Cond.methodLinkNest RX3 20 yX2_init "TwoModems") (tb_1 (List.mem_of_getElem? (i := 122) (by decide +kernel))))⟩
set_option maxHeartbeats 4000000 in
set_option maxRecDepth 100000 in
/-- THE LAW, from its entry -/
theorem whole_start {p : Program} {e : Env} {s : State} {m : MethodId} {below : List Frame} {meth : Method} {c : Code} (l : Launch) (hflags : l.flags = flags0) {b L : Nat} {xs : Nat → Int32} (hL : L ≤ 2048) (C0 : lw_At p s m meth c b L xs) : W p l e room_1 s m #[Value.ref b] below meth c s.heap [] 0 0 (lw_Z below #[Value.ref b] s) (entryFrame m ([Value.ref b] : List Value).toArray 4) := by
  obtain ⟨hx, hb, hr, hml, hown, hts, hX, hbl, hlocks, hgv⟩ := id C0
  have hown : s.vm.findClass RL = some m.cls := hown
  have hA : ∀ q : Nat, s.heap.size ≤ q → (fun q : Nat => s.heap.size ≤ q) q := fun _ h => h
  have hN := law_nest hts
  obtain ⟨dC, dI, cI, cZ, hK⟩ := law_K hts
  obtain ⟨c1, r1, hR, q8, q9⟩ := i_start
  have hS : va_S (fun q : Nat => s.heap.size ≤ q) s.heap s.heap [] := va_S.rf
  have hP : va_P (dC, dI) vwCl [] s.heap := fun k q h => by simp at h
  have hD : va_D (fun q : Nat => s.heap.size ≤ q) [] := ⟨fun i j p q h => by simp at h, fun k q h => by simp at h⟩
  have hl := lv_entry ([.ref b]) (n := 4) (Nat.le_of_ble_eq_true rfl)
  rw [lg_entry_eq]
  generalize (lg_sl ([.ref b]) ++ List.replicate (4 - (lg_sl ([.ref b])).length) Slot.unset).toArray = ls at hl ⊢
  have hl : lv_has ls 4 [(0, .ref b)] := hl
  refine va_new (ci := 6) (fs := [.null, .null, .null, .null, .int 0]) (C := RX8) (T := TX8) (N := 5) hx hb hts wsL_law_kwsX80 tyX8 tyX8_ok hown (hts (Cond.classLink RL 7 RX8) (tb_1 (List.mem_of_getElem? (i := 11) (by decide +kernel)))) (hts (Cond.instantiable RX8 5) (tb_1 (List.mem_of_getElem? (i := 12) (by decide +kernel)))) (hts (Cond.initialized RX8) (tb_1 (List.mem_of_getElem? (i := 1) (by decide +kernel)))) hK hP hD hS hA rfl (lt_s (i := 4) (lt_s (i := 3) (lt_s (i := 2) (lt_s (i := 1) (lt_s (i := 0) lt_0 rfl) rfl) rfl) rfl) rfl) (Nat.le_of_ble_eq_true rfl) (Nat.le_of_ble_eq_true rfl) dL_law_0 (fun q0v H hP hD hS => ?_)
  have hP : va_P (dC, dI) vwCl ([(q0v, .inr (6, [.null, .null, .null, .null, .int 0]))]) H := hP
  have hD : va_D (fun q : Nat => s.heap.size ≤ q) ([(q0v, .inr (6, [.null, .null, .null, .null, .int 0]))]) := hD
  refine W.widen (k := 1) (n := 5) (Nat.le_of_ble_eq_true rfl) (Nat.le_of_ble_eq_true rfl) ?_
  refine lv_dup hx hb dL_law_3 rfl ?_
  have hPc := hP.sub (ws' := [(q0v, .inr (6, [.null, .null, .null, .null, .int 0]))]) [0] rfl
  have hDc := hD.sub (ws' := [(q0v, .inr (6, [.null, .null, .null, .null, .int 0]))]) [0] (by decide) rfl
  have hFc := va_free (wc := [(q0v, .inr (6, [.null, .null, .null, .null, .int 0]))]) hD hS hA [0] rfl
  refine va_callv (va_runI (As := []) (rest := [.ref q0v]) ⟨hx, hb, hml, hown, hts⟩ (kk_X8_init l dC dI cI cZ q0v H.size (fun v => v = c1) (q8 _ rfl)) (cwI 0 hts tg_wsX8_init rfl rfl rfl (hts (Cond.initialized RX8) (tb_1 (List.mem_of_getElem? (i := 1) (by decide +kernel)))) (hts (Cond.methodLink RL 9 yX8_init) (tb_1 (List.mem_of_getElem? (i := 13) (by decide +kernel)))) (hts (Cond.instanceMethod yX8_init) (tb_1 (List.mem_of_getElem? (i := 14) (by decide +kernel)))) rfl (by decide +kernel) ⟨Nat.le_of_ble_eq_true rfl, Nat.le_of_ble_eq_true rfl⟩) ⟨tm_blind8, fun U hU hW => ⟨rfl, ⟨⟨by rw [hU], by rw [hU]; exact hPc, va_K.moved hW.alike hK, hDc.weaken (fun _ _ _ _ => trivial)⟩, tm_nw8_w hW hN⟩⟩⟩ rfl rfl hl.1 rfl (lv_room (Nat.le_of_ble_eq_true rfl)) dL_law_4 ⟨Nat.le_of_ble_eq_true rfl, Nat.le_of_ble_eq_true rfl⟩) hS (fun q _ h => hFc q h) hFc (fun u t H1 locs ht hvm hw hB hz1 hk1 hS => ?_)
  obtain ⟨hP1, hK1, hD1⟩ := hB
  rw [ht] at hP1
  obtain ⟨a, u1⟩ := u
  obtain ⟨ea, eu⟩ := hw
  dsimp only at ea eu hP1 hD1
  subst ea
  rw [eu] at hP1 hD1
  obtain ⟨hP, hD⟩ := va_join (wr := []) (w1 := tm_wTwo cI cZ a c1) hP hD [0] [] rfl rfl (by decide) (by decide) hk1 hFc hP1 hD1
  generalize H1 = H at hP hS ⊢
  have hP : va_P (dC, dI) vwCl (tm_wTwo cI cZ a c1) H := hP
  have hD : va_D (fun q : Nat => s.heap.size ≤ q) (tm_wTwo cI cZ a c1) := hD
  refine W.widen (k := 30) (n := 1269) (Nat.le_of_ble_eq_true rfl) (Nat.le_of_ble_eq_true rfl) ?_
  refine lv_astore_n (lv' := [(1, .ref (a 0)), (0, .ref b)]) hx hb dL_law_7 rfl hl (by decide) rfl (fun ls hl => ?_)
  refine va_new (ci := 7) (fs := [.null, .null, .null, .null, .null, .null, .null, .null, .int 0, .null, .null, .null, .int 0, .null, .null, .int 0, .int 0, .int 0, .int 0, .null, .null, .int 0, .null, .int 0, .int 0, .null, .int 0, .int 0, .int 0, .long 0]) (C := RX9) (T := TX9) (N := 30) hx hb hts wsL_law_kwsX90 tyX9 tyX9_ok hown (hts (Cond.classLink RL 10 RX9) (tb_3 (List.mem_of_getElem? (i := 65) (by decide +kernel)))) (hts (Cond.instantiable RX9 30) (tb_3 (List.mem_of_getElem? (i := 66) (by decide +kernel)))) (hts (Cond.initialized RX9) (tb_1 (List.mem_of_getElem? (i := 8) (by decide +kernel)))) hK hP hD hS hA rfl (lt_s (i := 29) (lt_s (i := 28) (lt_s (i := 27) (lt_s (i := 26) (lt_s (i := 25) (lt_s (i := 24) (lt_s (i := 23) (lt_s (i := 22) (lt_s (i := 21) (lt_s (i := 20) (lt_s (i := 19) (lt_s (i := 18) (lt_s (i := 17) (lt_s (i := 16) (lt_s (i := 15) (lt_s (i := 14) (lt_s (i := 13) (lt_s (i := 12) (lt_s (i := 11) (lt_s (i := 10) (lt_s (i := 9) (lt_s (i := 8) (lt_s (i := 7) (lt_s (i := 6) (lt_s (i := 5) (lt_s (i := 4) (lt_s (i := 3) (lt_s (i := 2) (lt_s (i := 1) (lt_s (i := 0) lt_0 rfl) rfl) rfl) rfl) rfl) rfl) rfl) rfl) rfl) rfl) rfl) rfl) rfl) rfl) rfl) rfl) rfl) rfl) rfl) rfl) rfl) rfl) rfl) rfl) rfl) rfl) rfl) rfl) rfl) rfl) (Nat.le_of_ble_eq_true rfl) (Nat.le_of_ble_eq_true rfl) dL_law_8 (fun q0v H hP hD hS => ?_)
  have hP : va_P (dC, dI) vwCl (tm_wTwo cI cZ a c1 ++ [(q0v, .inr (7, [.null, .null, .null, .null, .null, .null, .null, .null, .int 0, .null, .null, .null, .int 0, .null, .null, .int 0, .int 0, .int 0, .int 0, .null, .null, .int 0, .null, .int 0, .int 0, .null, .int 0, .int 0, .int 0, .long 0]))]) H := hP
  have hD : va_D (fun q : Nat => s.heap.size ≤ q) (tm_wTwo cI cZ a c1 ++ [(q0v, .inr (7, [.null, .null, .null, .null, .null, .null, .null, .null, .int 0, .null, .null, .null, .int 0, .null, .null, .int 0, .int 0, .int 0, .int 0, .null, .null, .int 0, .null, .int 0, .int 0, .null, .int 0, .int 0, .int 0, .long 0]))]) := hD
  refine W.widen (k := 31) (n := 1299) (Nat.le_of_ble_eq_true rfl) (Nat.le_of_ble_eq_true rfl) ?_
  refine lv_dup hx hb dL_law_11 rfl ?_
  have hPc := hP.sub (ws' := [(q0v, .inr (7, [.null, .null, .null, .null, .null, .null, .null, .null, .int 0, .null, .null, .null, .int 0, .null, .null, .int 0, .int 0, .int 0, .int 0, .null, .null, .int 0, .null, .int 0, .int 0, .null, .int 0, .int 0, .int 0, .long 0]))]) [30] rfl
  have hDc := hD.sub (ws' := [(q0v, .inr (7, [.null, .null, .null, .null, .null, .null, .null, .null, .int 0, .null, .null, .null, .int 0, .null, .null, .int 0, .int 0, .int 0, .int 0, .null, .null, .int 0, .null, .int 0, .int 0, .null, .int 0, .int 0, .int 0, .long 0]))]) [30] (by decide) rfl
  have hFc := va_free (wc := [(q0v, .inr (7, [.null, .null, .null, .null, .null, .null, .null, .null, .int 0, .null, .null, .null, .int 0, .null, .null, .int 0, .int 0, .int 0, .int 0, .null, .null, .int 0, .null, .int 0, .int 0, .null, .int 0, .int 0, .int 0, .long 0]))]) hD hS hA [30] rfl
  refine va_callv (va_runI (As := []) (rest := [.ref q0v]) ⟨hx, hb, hml, hown, hts⟩ (kk_X9_init l dC dI cI cZ q0v H.size (fun v => v = r1) (q9 _ rfl)) (cwI 0 hts tg_wsX9_init rfl rfl rfl (hts (Cond.initialized RX9) (tb_1 (List.mem_of_getElem? (i := 8) (by decide +kernel)))) (hts (Cond.methodLink RL 12 yX9_init) (tb_3 (List.mem_of_getElem? (i := 67) (by decide +kernel)))) (hts (Cond.instanceMethod yX9_init) (tb_3 (List.mem_of_getElem? (i := 68) (by decide +kernel)))) rfl (by decide +kernel) ⟨Nat.le_of_ble_eq_true rfl, Nat.le_of_ble_eq_true rfl⟩) ⟨tm_blind, fun U hU hW => ⟨rfl, ⟨by rw [hU], by rw [hU]; exact hPc, va_K.moved hW.alike hK, hDc.weaken (fun _ _ _ _ => trivial)⟩⟩⟩ rfl rfl hl.1 rfl (lv_room (Nat.le_of_ble_eq_true rfl)) dL_law_12 ⟨Nat.le_of_ble_eq_true rfl, Nat.le_of_ble_eq_true rfl⟩) hS (fun q _ h => hFc q h) hFc (fun u t H1 locs ht hvm hw hB hz1 hk1 hS => ?_)
  obtain ⟨hP1, hK1, hD1⟩ := hB
  rw [ht] at hP1
  obtain ⟨a2, u1⟩ := u
  obtain ⟨ea, eu⟩ := hw
  dsimp only at ea eu hP1 hD1
  subst ea
  rw [eu] at hP1 hD1
  obtain ⟨hP, hD⟩ := va_join (wr := tm_wTwo cI cZ a c1) (w1 := tm_wModel cI cZ a2 r1 0) hP hD [30] [0, 1, 2, 3, 4, 5, 6, 7, 8, 9, 10, 11, 12, 13, 14, 15, 16, 17, 18, 19, 20, 21, 22, 23, 24, 25, 26, 27, 28, 29] rfl rfl (by decide) (by decide) hk1 hFc hP1 hD1
  generalize H1 = H at hP hS ⊢
  have hP : va_P (dC, dI) vwCl (tm_wTwo cI cZ a c1 ++ tm_wModel cI cZ a2 r1 0) H := hP
  have hD : va_D (fun q : Nat => s.heap.size ≤ q) (tm_wTwo cI cZ a c1 ++ tm_wModel cI cZ a2 r1 0) := hD
  refine W.widen (k := 48) (n := 2553) (Nat.le_of_ble_eq_true rfl) (Nat.le_of_ble_eq_true rfl) ?_
  refine lv_astore_n (lv' := [(2, .ref (a2 0)), (1, .ref (a 0)), (0, .ref b)]) hx hb dL_law_15 rfl hl (by decide) rfl (fun ls hl => ?_)
  refine lv_iconst (v := 0) hx hb dL_law_16 (by decide) ?_
  refine lv_istore_n (lv' := [(3, .int 0), (2, .ref (a2 0)), (1, .ref (a 0)), (0, .ref b)]) hx hb dL_law_17 rfl hl (by decide) rfl (fun ls hl => ?_)
  exact law_loop hL C0 hK (L + 4) 0 0 (by omega) (Nat.zero_le L) nI_0.symm 0 c1 r1 0 (Nat.le_refl 0) hR _ _ hP hD hS ls (lv_sub hl [3, 2, 1, 0] rfl)
