def wp_X9_hearsIn (p0 : Int32) (s0 : tm_St) (K : tm_St → Prop) : Prop := (wp_X9_of p0 0 s0 (fun r1 s2 => ((r1 = 0 → (wp_X9_ear p0 0 s2 (fun r4 s5 => ((¬ r4 = 1 → K s5) ∧ (r4 = 1 → (wp_X9_into p0 2 s5 (fun s7 => K s7))))))) ∧ (¬ r1 = 0 → ((r1 = 1 → (wp_X9_ear p0 0 s2 (fun r9 s10 => ((¬ r9 = 2 → K s10) ∧ (r9 = 2 → (wp_X9_into p0 3 s10 (fun s12 => K s12))))))) ∧ (¬ r1 = 1 → ((r1 = 2 → (wp_X9_answers p0 s2 (fun s14 => K s14))) ∧ (¬ r1 = 2 → ((r1 = 3 → (wp_X9_ear p0 0 s2 (fun r16 s17 => ((¬ r16 = 3 → K s17) ∧ (r16 = 3 → (wp_X9_note p0 s17 (fun s19 => K s19))))))) ∧ (¬ r1 = 3 → ((r1 = 4 → K s2) ∧ (¬ r1 = 4 → ((r1 = 5 → (wp_X9_bargains p0 s2 (fun s22 => K s22))) ∧ (¬ r1 = 5 → ((r1 = 6 → (wp_X9_hearsInAgree p0 s2 (fun s24 => K s24))) ∧ (¬ r1 = 6 → (wp_X9_hearsInData p0 s2 (fun s25 => K s25))))))))))))))))))
set_option maxRecDepth 100000 in
set_option maxHeartbeats 4000000 in
theorem kk_X9_hearsIn (l : Launch) (dC : Nat → ClassId) (dI : Nat → Nat → Nat) (cI cZ : ClassId) (a : Nat → Nat) (s0 : tm_St) (hh : Int64) (sz : Nat) (p0 : Int32) (K : tm_St → Prop) (hw : wp_X9_hearsIn p0 s0 K) : Met l yX9_hearsIn wsX9_hearsIn ({ frames := 5, cells := 0, slots := 0, locals := 112 }) (va_Pc [.ref (a 0), .int p0] (tm_Pre dC dI cI cZ (tm_wModel cI cZ a s0 hh) sz)) (va_Qv (fun (u : tm_St) => K u) (fun (u : tm_St) t => tm_At dC dI cI cZ (va_A (tm_wModel cI cZ a s0 hh) sz) (tm_wModel cI cZ a u hh) t) (va_A (tm_wModel cI cZ a s0 hh) sz)) 0 0 (va_A (tm_wModel cI cZ a s0 hh) sz) := by
  refine Met.ofW (cc := cX9_hearsIn) (maxL := 2) (ret := none) (by decide +kernel) rfl ?_
  intro p e z m args below meth c z₁ B hml hv
  obtain ⟨rfl, hsz, hP, hK, hD0⟩ := hv
  have hx := B.exec
  have hb := B.bytes
  have hr := B.returns
  have hts := atoms_spec (ws := wsX9_hearsIn) B.pre
  have hown : z.vm.findClass RX9 = some m.cls := findClass_of_methodNamed B.named
  have hlocks := B.notSynchronized
  subst hsz
  have hD := hD0.self (sz := z.heap.size)
  generalize hAe : va_A (tm_wModel cI cZ a s0 hh) z.heap.size = A at hD ⊢
  have hA : ∀ q : Nat, z.heap.size ≤ q → A q := fun q h => by rw [← hAe]; exact Or.inr h
  have hS : va_S A z.heap z.heap [] := va_S.rf
  have hl := lv_entry ([.ref (a 0), .int p0]) (n := 2) (Nat.le_of_ble_eq_true rfl)
  rw [lg_entry_eq]
  generalize (lg_sl ([.ref (a 0), .int p0]) ++ List.replicate (2 - (lg_sl ([.ref (a 0), .int p0])).length) Slot.unset).toArray = ls at hl ⊢
  have hl : lv_has ls 2 [(0, .ref (a 0)), (1, .int p0)] := hl
  unfold wp_X9_hearsIn at hw
  refine lv_aload_n hx hb dX9_hearsIn_0 rfl (lv_at hl 0 rfl) ?_
  refine lv_iload_n hx hb dX9_hearsIn_1 rfl (lv_at hl 1 rfl) ?_
  refine lv_iconst (v := 0) hx hb dX9_hearsIn_2 (by decide) ?_
  have hPc := hP
  have hDc := hD
  have hFc := va_free (wc := (tm_wModel cI cZ a s0 hh)) hD hS hA [0, 1, 2, 3, 4, 5, 6, 7, 8, 9, 10, 11, 12, 13, 14, 15, 16, 17] rfl
  refine va_calli (va_runV (As := [.int p0, .int 0]) (rest := []) ⟨hx, hb, hml, hown, hts⟩ (kk_X9_of l dC dI cI cZ a s0 hh z.heap.size p0 0 _ hw) (cwV 2 hts gX9_hearsIn_X9_of rfl rfl rfl (by decide +kernel) ⟨Nat.le_of_ble_eq_true rfl, Nat.le_of_ble_eq_true rfl⟩) ⟨tm_blind, va_recv hK hPc (ci := 7) (q0 := 0) rfl rfl, fun U hU hW => ⟨rfl, by rw [hU], by rw [hU]; exact hPc, va_K.moved hW.alike hK, hDc.weaken (fun _ _ _ _ => trivial)⟩⟩ rfl rfl hl.1 rfl (lv_room (Nat.le_of_ble_eq_true rfl)) dX9_hearsIn_3 ⟨Nat.zero_le _, Nat.zero_le _⟩) hS (fun q _ h => hFc q h) hFc (fun r1 s2 t H1 locs ht hvm hw hB hz1 hk1 hS => ?_)
  obtain ⟨hP1, hK1, hD1⟩ := hB
  rw [ht] at hP1
  obtain ⟨hP, hD⟩ := va_join (wr := []) (w1 := (tm_wModel cI cZ a s2 hh)) hP hD [0, 1, 2, 3, 4, 5, 6, 7, 8, 9, 10, 11, 12, 13, 14, 15, 16, 17] [] rfl rfl (by decide) (by decide) hk1 hFc hP1 hD1
  generalize H1 = H at hP hS ⊢
  have hP : va_P (dC, dI) vwCl (tm_wModel cI cZ a s2 hh) H := hP
  have hD : va_D A (tm_wModel cI cZ a s2 hh) := hD
  refine (Classical.em (r1 = 0)).elim (fun c3 => ?_) (fun c3 => ?_)
  · have hw := hw.1 c3
    refine lv_tableIn (tgt := 48) hx hb dX9_hearsIn_6 (by rw [c3]; decide) (by rw [c3]; decide) (by rw [c3]; rfl) (by decide) ?_
    refine lv_aload_n hx hb dX9_hearsIn_48 rfl (lv_at hl 0 rfl) ?_
    refine lv_iload_n hx hb dX9_hearsIn_49 rfl (lv_at hl 1 rfl) ?_
    refine lv_iconst (v := 0) hx hb dX9_hearsIn_50 (by decide) ?_
    have hPc := hP
    have hDc := hD
    have hFc := va_free (wc := (tm_wModel cI cZ a s2 hh)) hD hS hA [0, 1, 2, 3, 4, 5, 6, 7, 8, 9, 10, 11, 12, 13, 14, 15, 16, 17] rfl
    refine va_calli (va_runV (As := [.int p0, .int 0]) (rest := []) ⟨hx, hb, hml, hown, hts⟩ (kk_X9_ear l dC dI cI cZ a s2 hh H.size p0 0 _ hw) (cwV 2 hts gX9_hearsIn_X9_ear rfl rfl rfl (by decide +kernel) ⟨Nat.le_of_ble_eq_true rfl, Nat.le_of_ble_eq_true rfl⟩) ⟨tm_blind, va_recv hK hPc (ci := 7) (q0 := 0) rfl rfl, fun U hU hW => ⟨rfl, by rw [hU], by rw [hU]; exact hPc, va_K.moved hW.alike hK, hDc.weaken (fun _ _ _ _ => trivial)⟩⟩ rfl rfl hl.1 rfl (lv_room (Nat.le_of_ble_eq_true rfl)) dX9_hearsIn_51 ⟨Nat.zero_le _, Nat.zero_le _⟩) hS (fun q _ h => hFc q h) hFc (fun r4 s5 t H1 locs ht hvm hw hB hz1 hk1 hS => ?_)
    obtain ⟨hP1, hK1, hD1⟩ := hB
    rw [ht] at hP1
    obtain ⟨hP, hD⟩ := va_join (wr := []) (w1 := (tm_wModel cI cZ a s5 hh)) hP hD [0, 1, 2, 3, 4, 5, 6, 7, 8, 9, 10, 11, 12, 13, 14, 15, 16, 17] [] rfl rfl (by decide) (by decide) hk1 hFc hP1 hD1
    generalize H1 = H at hP hS ⊢
    have hP : va_P (dC, dI) vwCl (tm_wModel cI cZ a s5 hh) H := hP
    have hD : va_D A (tm_wModel cI cZ a s5 hh) := hD
    refine lv_iconst (v := 1) hx hb dX9_hearsIn_54 (by decide) ?_
    refine lv_icmp_ne (tgt := 136) hx hb dX9_hearsIn_55 (by decide) (fun c6 => ?_) (fun c6 => ?_)
    · have hw := hw.1 c6
      exact W.vret hx hb hr (fun t ht hW => ⟨⟨s5, rfl, hw, by rw [ht]; exact hP, va_K.moved hW.alike hK, hD⟩, hS.F ht⟩) hS.2.2 dX9_hearsIn_136
    · have hw := hw.2 c6
      refine lv_aload_n hx hb dX9_hearsIn_58 rfl (lv_at hl 0 rfl) ?_
      refine lv_iload_n hx hb dX9_hearsIn_59 rfl (lv_at hl 1 rfl) ?_
      refine lv_iconst (v := 2) hx hb dX9_hearsIn_60 (by decide) ?_
      have hPc := hP
      have hDc := hD
      have hFc := va_free (wc := (tm_wModel cI cZ a s5 hh)) hD hS hA [0, 1, 2, 3, 4, 5, 6, 7, 8, 9, 10, 11, 12, 13, 14, 15, 16, 17] rfl
      refine va_callv (va_runV (As := [.int p0, .int 2]) (rest := []) ⟨hx, hb, hml, hown, hts⟩ (kk_X9_into l dC dI cI cZ a s5 hh H.size p0 2 _ hw) (cwV 2 hts gX9_hearsIn_X9_into rfl rfl rfl (by decide +kernel) ⟨Nat.le_of_ble_eq_true rfl, Nat.le_of_ble_eq_true rfl⟩) ⟨tm_blind, va_recv hK hPc (ci := 7) (q0 := 0) rfl rfl, fun U hU hW => ⟨rfl, by rw [hU], by rw [hU]; exact hPc, va_K.moved hW.alike hK, hDc.weaken (fun _ _ _ _ => trivial)⟩⟩ rfl rfl hl.1 rfl (lv_room (Nat.le_of_ble_eq_true rfl)) dX9_hearsIn_61 ⟨Nat.zero_le _, Nat.zero_le _⟩) hS (fun q _ h => hFc q h) hFc (fun s7 t H1 locs ht hvm hw hB hz1 hk1 hS => ?_)
      obtain ⟨hP1, hK1, hD1⟩ := hB
      rw [ht] at hP1
      obtain ⟨hP, hD⟩ := va_join (wr := []) (w1 := (tm_wModel cI cZ a s7 hh)) hP hD [0, 1, 2, 3, 4, 5, 6, 7, 8, 9, 10, 11, 12, 13, 14, 15, 16, 17] [] rfl rfl (by decide) (by decide) hk1 hFc hP1 hD1
      generalize H1 = H at hP hS ⊢
      have hP : va_P (dC, dI) vwCl (tm_wModel cI cZ a s7 hh) H := hP
      have hD : va_D A (tm_wModel cI cZ a s7 hh) := hD
      refine lv_goto (tgt := 136) hx hb dX9_hearsIn_64 (by decide) ?_
      exact W.vret hx hb hr (fun t ht hW => ⟨⟨s7, rfl, hw, by rw [ht]; exact hP, va_K.moved hW.alike hK, hD⟩, hS.F ht⟩) hS.2.2 dX9_hearsIn_136
  have hw := hw.2 c3
  refine (Classical.em (r1 = 1)).elim (fun c8 => ?_) (fun c8 => ?_)
  · have hw := hw.1 c8
    refine lv_tableIn (tgt := 67) hx hb dX9_hearsIn_6 (by rw [c8]; decide) (by rw [c8]; decide) (by rw [c8]; rfl) (by decide) ?_
    refine lv_aload_n hx hb dX9_hearsIn_67 rfl (lv_at hl 0 rfl) ?_
    refine lv_iload_n hx hb dX9_hearsIn_68 rfl (lv_at hl 1 rfl) ?_
    refine lv_iconst (v := 0) hx hb dX9_hearsIn_69 (by decide) ?_
    have hPc := hP
    have hDc := hD
    have hFc := va_free (wc := (tm_wModel cI cZ a s2 hh)) hD hS hA [0, 1, 2, 3, 4, 5, 6, 7, 8, 9, 10, 11, 12, 13, 14, 15, 16, 17] rfl
    refine va_calli (va_runV (As := [.int p0, .int 0]) (rest := []) ⟨hx, hb, hml, hown, hts⟩ (kk_X9_ear l dC dI cI cZ a s2 hh H.size p0 0 _ hw) (cwV 2 hts gX9_hearsIn_X9_ear rfl rfl rfl (by decide +kernel) ⟨Nat.le_of_ble_eq_true rfl, Nat.le_of_ble_eq_true rfl⟩) ⟨tm_blind, va_recv hK hPc (ci := 7) (q0 := 0) rfl rfl, fun U hU hW => ⟨rfl, by rw [hU], by rw [hU]; exact hPc, va_K.moved hW.alike hK, hDc.weaken (fun _ _ _ _ => trivial)⟩⟩ rfl rfl hl.1 rfl (lv_room (Nat.le_of_ble_eq_true rfl)) dX9_hearsIn_70 ⟨Nat.zero_le _, Nat.zero_le _⟩) hS (fun q _ h => hFc q h) hFc (fun r9 s10 t H1 locs ht hvm hw hB hz1 hk1 hS => ?_)
    obtain ⟨hP1, hK1, hD1⟩ := hB
    rw [ht] at hP1
    obtain ⟨hP, hD⟩ := va_join (wr := []) (w1 := (tm_wModel cI cZ a s10 hh)) hP hD [0, 1, 2, 3, 4, 5, 6, 7, 8, 9, 10, 11, 12, 13, 14, 15, 16, 17] [] rfl rfl (by decide) (by decide) hk1 hFc hP1 hD1
    generalize H1 = H at hP hS ⊢
    have hP : va_P (dC, dI) vwCl (tm_wModel cI cZ a s10 hh) H := hP
    have hD : va_D A (tm_wModel cI cZ a s10 hh) := hD
    refine lv_iconst (v := 2) hx hb dX9_hearsIn_73 (by decide) ?_
    refine lv_icmp_ne (tgt := 136) hx hb dX9_hearsIn_74 (by decide) (fun c11 => ?_) (fun c11 => ?_)
    · have hw := hw.1 c11
      exact W.vret hx hb hr (fun t ht hW => ⟨⟨s10, rfl, hw, by rw [ht]; exact hP, va_K.moved hW.alike hK, hD⟩, hS.F ht⟩) hS.2.2 dX9_hearsIn_136
    · have hw := hw.2 c11
      refine lv_aload_n hx hb dX9_hearsIn_77 rfl (lv_at hl 0 rfl) ?_
      refine lv_iload_n hx hb dX9_hearsIn_78 rfl (lv_at hl 1 rfl) ?_
      refine lv_iconst (v := 3) hx hb dX9_hearsIn_79 (by decide) ?_
      have hPc := hP
      have hDc := hD
      have hFc := va_free (wc := (tm_wModel cI cZ a s10 hh)) hD hS hA [0, 1, 2, 3, 4, 5, 6, 7, 8, 9, 10, 11, 12, 13, 14, 15, 16, 17] rfl
      refine va_callv (va_runV (As := [.int p0, .int 3]) (rest := []) ⟨hx, hb, hml, hown, hts⟩ (kk_X9_into l dC dI cI cZ a s10 hh H.size p0 3 _ hw) (cwV 2 hts gX9_hearsIn_X9_into rfl rfl rfl (by decide +kernel) ⟨Nat.le_of_ble_eq_true rfl, Nat.le_of_ble_eq_true rfl⟩) ⟨tm_blind, va_recv hK hPc (ci := 7) (q0 := 0) rfl rfl, fun U hU hW => ⟨rfl, by rw [hU], by rw [hU]; exact hPc, va_K.moved hW.alike hK, hDc.weaken (fun _ _ _ _ => trivial)⟩⟩ rfl rfl hl.1 rfl (lv_room (Nat.le_of_ble_eq_true rfl)) dX9_hearsIn_80 ⟨Nat.zero_le _, Nat.zero_le _⟩) hS (fun q _ h => hFc q h) hFc (fun s12 t H1 locs ht hvm hw hB hz1 hk1 hS => ?_)
      obtain ⟨hP1, hK1, hD1⟩ := hB
      rw [ht] at hP1
      obtain ⟨hP, hD⟩ := va_join (wr := []) (w1 := (tm_wModel cI cZ a s12 hh)) hP hD [0, 1, 2, 3, 4, 5, 6, 7, 8, 9, 10, 11, 12, 13, 14, 15, 16, 17] [] rfl rfl (by decide) (by decide) hk1 hFc hP1 hD1
      generalize H1 = H at hP hS ⊢
      have hP : va_P (dC, dI) vwCl (tm_wModel cI cZ a s12 hh) H := hP
      have hD : va_D A (tm_wModel cI cZ a s12 hh) := hD
      refine lv_goto (tgt := 136) hx hb dX9_hearsIn_83 (by decide) ?_
      exact W.vret hx hb hr (fun t ht hW => ⟨⟨s12, rfl, hw, by rw [ht]; exact hP, va_K.moved hW.alike hK, hD⟩, hS.F ht⟩) hS.2.2 dX9_hearsIn_136
  have hw := hw.2 c8
  refine (Classical.em (r1 = 2)).elim (fun c13 => ?_) (fun c13 => ?_)
  · have hw := hw.1 c13
    refine lv_tableIn (tgt := 86) hx hb dX9_hearsIn_6 (by rw [c13]; decide) (by rw [c13]; decide) (by rw [c13]; rfl) (by decide) ?_
    refine lv_aload_n hx hb dX9_hearsIn_86 rfl (lv_at hl 0 rfl) ?_
    refine lv_iload_n hx hb dX9_hearsIn_87 rfl (lv_at hl 1 rfl) ?_
    have hPc := hP
    have hDc := hD
    have hFc := va_free (wc := (tm_wModel cI cZ a s2 hh)) hD hS hA [0, 1, 2, 3, 4, 5, 6, 7, 8, 9, 10, 11, 12, 13, 14, 15, 16, 17] rfl
    refine va_callv (va_runV (As := [.int p0]) (rest := []) ⟨hx, hb, hml, hown, hts⟩ (kk_X9_answers l dC dI cI cZ a s2 hh H.size p0 _ hw) (cwV 1 hts gX9_hearsIn_X9_answers rfl rfl rfl (by decide +kernel) ⟨Nat.le_of_ble_eq_true rfl, Nat.le_of_ble_eq_true rfl⟩) ⟨tm_blind, va_recv hK hPc (ci := 7) (q0 := 0) rfl rfl, fun U hU hW => ⟨rfl, by rw [hU], by rw [hU]; exact hPc, va_K.moved hW.alike hK, hDc.weaken (fun _ _ _ _ => trivial)⟩⟩ rfl rfl hl.1 rfl (lv_room (Nat.le_of_ble_eq_true rfl)) dX9_hearsIn_88 ⟨Nat.zero_le _, Nat.zero_le _⟩) hS (fun q _ h => hFc q h) hFc (fun s14 t H1 locs ht hvm hw hB hz1 hk1 hS => ?_)
    obtain ⟨hP1, hK1, hD1⟩ := hB
    rw [ht] at hP1
    obtain ⟨hP, hD⟩ := va_join (wr := []) (w1 := (tm_wModel cI cZ a s14 hh)) hP hD [0, 1, 2, 3, 4, 5, 6, 7, 8, 9, 10, 11, 12, 13, 14, 15, 16, 17] [] rfl rfl (by decide) (by decide) hk1 hFc hP1 hD1
    generalize H1 = H at hP hS ⊢
    have hP : va_P (dC, dI) vwCl (tm_wModel cI cZ a s14 hh) H := hP
    have hD : va_D A (tm_wModel cI cZ a s14 hh) := hD
    refine lv_goto (tgt := 136) hx hb dX9_hearsIn_91 (by decide) ?_
    exact W.vret hx hb hr (fun t ht hW => ⟨⟨s14, rfl, hw, by rw [ht]; exact hP, va_K.moved hW.alike hK, hD⟩, hS.F ht⟩) hS.2.2 dX9_hearsIn_136
  have hw := hw.2 c13
  refine (Classical.em (r1 = 3)).elim (fun c15 => ?_) (fun c15 => ?_)
  · have hw := hw.1 c15
    refine lv_tableIn (tgt := 94) hx hb dX9_hearsIn_6 (by rw [c15]; decide) (by rw [c15]; decide) (by rw [c15]; rfl) (by decide) ?_
    refine lv_aload_n hx hb dX9_hearsIn_94 rfl (lv_at hl 0 rfl) ?_
    refine lv_iload_n hx hb dX9_hearsIn_95 rfl (lv_at hl 1 rfl) ?_
    refine lv_iconst (v := 0) hx hb dX9_hearsIn_96 (by decide) ?_
    have hPc := hP
    have hDc := hD
    have hFc := va_free (wc := (tm_wModel cI cZ a s2 hh)) hD hS hA [0, 1, 2, 3, 4, 5, 6, 7, 8, 9, 10, 11, 12, 13, 14, 15, 16, 17] rfl
    refine va_calli (va_runV (As := [.int p0, .int 0]) (rest := []) ⟨hx, hb, hml, hown, hts⟩ (kk_X9_ear l dC dI cI cZ a s2 hh H.size p0 0 _ hw) (cwV 2 hts gX9_hearsIn_X9_ear rfl rfl rfl (by decide +kernel) ⟨Nat.le_of_ble_eq_true rfl, Nat.le_of_ble_eq_true rfl⟩) ⟨tm_blind, va_recv hK hPc (ci := 7) (q0 := 0) rfl rfl, fun U hU hW => ⟨rfl, by rw [hU], by rw [hU]; exact hPc, va_K.moved hW.alike hK, hDc.weaken (fun _ _ _ _ => trivial)⟩⟩ rfl rfl hl.1 rfl (lv_room (Nat.le_of_ble_eq_true rfl)) dX9_hearsIn_97 ⟨Nat.zero_le _, Nat.zero_le _⟩) hS (fun q _ h => hFc q h) hFc (fun r16 s17 t H1 locs ht hvm hw hB hz1 hk1 hS => ?_)
    obtain ⟨hP1, hK1, hD1⟩ := hB
    rw [ht] at hP1
    obtain ⟨hP, hD⟩ := va_join (wr := []) (w1 := (tm_wModel cI cZ a s17 hh)) hP hD [0, 1, 2, 3, 4, 5, 6, 7, 8, 9, 10, 11, 12, 13, 14, 15, 16, 17] [] rfl rfl (by decide) (by decide) hk1 hFc hP1 hD1
    generalize H1 = H at hP hS ⊢
    have hP : va_P (dC, dI) vwCl (tm_wModel cI cZ a s17 hh) H := hP
    have hD : va_D A (tm_wModel cI cZ a s17 hh) := hD
    refine lv_iconst (v := 3) hx hb dX9_hearsIn_100 (by decide) ?_
    refine lv_icmp_ne (tgt := 136) hx hb dX9_hearsIn_101 (by decide) (fun c18 => ?_) (fun c18 => ?_)
    · have hw := hw.1 c18
      exact W.vret hx hb hr (fun t ht hW => ⟨⟨s17, rfl, hw, by rw [ht]; exact hP, va_K.moved hW.alike hK, hD⟩, hS.F ht⟩) hS.2.2 dX9_hearsIn_136
    · have hw := hw.2 c18
      refine lv_aload_n hx hb dX9_hearsIn_104 rfl (lv_at hl 0 rfl) ?_
      refine lv_iload_n hx hb dX9_hearsIn_105 rfl (lv_at hl 1 rfl) ?_
      have hPc := hP
      have hDc := hD
      have hFc := va_free (wc := (tm_wModel cI cZ a s17 hh)) hD hS hA [0, 1, 2, 3, 4, 5, 6, 7, 8, 9, 10, 11, 12, 13, 14, 15, 16, 17] rfl
      refine va_callv (va_runV (As := [.int p0]) (rest := []) ⟨hx, hb, hml, hown, hts⟩ (kk_X9_note l dC dI cI cZ a s17 hh H.size p0 _ hw) (cwV 1 hts gX9_hearsIn_X9_note rfl rfl rfl (by decide +kernel) ⟨Nat.le_of_ble_eq_true rfl, Nat.le_of_ble_eq_true rfl⟩) ⟨tm_blind, va_recv hK hPc (ci := 7) (q0 := 0) rfl rfl, fun U hU hW => ⟨rfl, by rw [hU], by rw [hU]; exact hPc, va_K.moved hW.alike hK, hDc.weaken (fun _ _ _ _ => trivial)⟩⟩ rfl rfl hl.1 rfl (lv_room (Nat.le_of_ble_eq_true rfl)) dX9_hearsIn_106 ⟨Nat.zero_le _, Nat.zero_le _⟩) hS (fun q _ h => hFc q h) hFc (fun s19 t H1 locs ht hvm hw hB hz1 hk1 hS => ?_)
      obtain ⟨hP1, hK1, hD1⟩ := hB
      rw [ht] at hP1
      obtain ⟨hP, hD⟩ := va_join (wr := []) (w1 := (tm_wModel cI cZ a s19 hh)) hP hD [0, 1, 2, 3, 4, 5, 6, 7, 8, 9, 10, 11, 12, 13, 14, 15, 16, 17] [] rfl rfl (by decide) (by decide) hk1 hFc hP1 hD1
      generalize H1 = H at hP hS ⊢
      have hP : va_P (dC, dI) vwCl (tm_wModel cI cZ a s19 hh) H := hP
      have hD : va_D A (tm_wModel cI cZ a s19 hh) := hD
      refine lv_goto (tgt := 136) hx hb dX9_hearsIn_109 (by decide) ?_
      exact W.vret hx hb hr (fun t ht hW => ⟨⟨s19, rfl, hw, by rw [ht]; exact hP, va_K.moved hW.alike hK, hD⟩, hS.F ht⟩) hS.2.2 dX9_hearsIn_136
  have hw := hw.2 c15
  refine (Classical.em (r1 = 4)).elim (fun c20 => ?_) (fun c20 => ?_)
  · have hw := hw.1 c20
    refine lv_tableIn (tgt := 112) hx hb dX9_hearsIn_6 (by rw [c20]; decide) (by rw [c20]; decide) (by rw [c20]; rfl) (by decide) ?_
    refine lv_goto (tgt := 136) hx hb dX9_hearsIn_112 (by decide) ?_
    exact W.vret hx hb hr (fun t ht hW => ⟨⟨s2, rfl, hw, by rw [ht]; exact hP, va_K.moved hW.alike hK, hD⟩, hS.F ht⟩) hS.2.2 dX9_hearsIn_136
  have hw := hw.2 c20
  refine (Classical.em (r1 = 5)).elim (fun c21 => ?_) (fun c21 => ?_)
  · have hw := hw.1 c21
    refine lv_tableIn (tgt := 115) hx hb dX9_hearsIn_6 (by rw [c21]; decide) (by rw [c21]; decide) (by rw [c21]; rfl) (by decide) ?_
    refine lv_aload_n hx hb dX9_hearsIn_115 rfl (lv_at hl 0 rfl) ?_
    refine lv_iload_n hx hb dX9_hearsIn_116 rfl (lv_at hl 1 rfl) ?_
    have hPc := hP
    have hDc := hD
    have hFc := va_free (wc := (tm_wModel cI cZ a s2 hh)) hD hS hA [0, 1, 2, 3, 4, 5, 6, 7, 8, 9, 10, 11, 12, 13, 14, 15, 16, 17] rfl
    refine va_callv (va_runV (As := [.int p0]) (rest := []) ⟨hx, hb, hml, hown, hts⟩ (kk_X9_bargains l dC dI cI cZ a s2 hh H.size p0 _ hw) (cwV 1 hts gX9_hearsIn_X9_bargains rfl rfl rfl (by decide +kernel) ⟨Nat.le_of_ble_eq_true rfl, Nat.le_of_ble_eq_true rfl⟩) ⟨tm_blind, va_recv hK hPc (ci := 7) (q0 := 0) rfl rfl, fun U hU hW => ⟨rfl, by rw [hU], by rw [hU]; exact hPc, va_K.moved hW.alike hK, hDc.weaken (fun _ _ _ _ => trivial)⟩⟩ rfl rfl hl.1 rfl (lv_room (Nat.le_of_ble_eq_true rfl)) dX9_hearsIn_117 ⟨Nat.zero_le _, Nat.zero_le _⟩) hS (fun q _ h => hFc q h) hFc (fun s22 t H1 locs ht hvm hw hB hz1 hk1 hS => ?_)
    obtain ⟨hP1, hK1, hD1⟩ := hB
    rw [ht] at hP1
    obtain ⟨hP, hD⟩ := va_join (wr := []) (w1 := (tm_wModel cI cZ a s22 hh)) hP hD [0, 1, 2, 3, 4, 5, 6, 7, 8, 9, 10, 11, 12, 13, 14, 15, 16, 17] [] rfl rfl (by decide) (by decide) hk1 hFc hP1 hD1
    generalize H1 = H at hP hS ⊢
    have hP : va_P (dC, dI) vwCl (tm_wModel cI cZ a s22 hh) H := hP
    have hD : va_D A (tm_wModel cI cZ a s22 hh) := hD
    refine lv_goto (tgt := 136) hx hb dX9_hearsIn_120 (by decide) ?_
    exact W.vret hx hb hr (fun t ht hW => ⟨⟨s22, rfl, hw, by rw [ht]; exact hP, va_K.moved hW.alike hK, hD⟩, hS.F ht⟩) hS.2.2 dX9_hearsIn_136
  have hw := hw.2 c21
  refine (Classical.em (r1 = 6)).elim (fun c23 => ?_) (fun c23 => ?_)
  · have hw := hw.1 c23
    refine lv_tableIn (tgt := 123) hx hb dX9_hearsIn_6 (by rw [c23]; decide) (by rw [c23]; decide) (by rw [c23]; rfl) (by decide) ?_
    refine lv_aload_n hx hb dX9_hearsIn_123 rfl (lv_at hl 0 rfl) ?_
    refine lv_iload_n hx hb dX9_hearsIn_124 rfl (lv_at hl 1 rfl) ?_
    have hPc := hP
    have hDc := hD
    have hFc := va_free (wc := (tm_wModel cI cZ a s2 hh)) hD hS hA [0, 1, 2, 3, 4, 5, 6, 7, 8, 9, 10, 11, 12, 13, 14, 15, 16, 17] rfl
    refine va_callv (va_runV (As := [.int p0]) (rest := []) ⟨hx, hb, hml, hown, hts⟩ (kk_X9_hearsInAgree l dC dI cI cZ a s2 hh H.size p0 _ hw) (cwV 1 hts gX9_hearsIn_X9_hearsInAgree rfl rfl rfl (by decide +kernel) ⟨Nat.le_of_ble_eq_true rfl, Nat.le_of_ble_eq_true rfl⟩) ⟨tm_blind, va_recv hK hPc (ci := 7) (q0 := 0) rfl rfl, fun U hU hW => ⟨rfl, by rw [hU], by rw [hU]; exact hPc, va_K.moved hW.alike hK, hDc.weaken (fun _ _ _ _ => trivial)⟩⟩ rfl rfl hl.1 rfl (lv_room (Nat.le_of_ble_eq_true rfl)) dX9_hearsIn_125 ⟨Nat.zero_le _, Nat.zero_le _⟩) hS (fun q _ h => hFc q h) hFc (fun s24 t H1 locs ht hvm hw hB hz1 hk1 hS => ?_)
    obtain ⟨hP1, hK1, hD1⟩ := hB
    rw [ht] at hP1
    obtain ⟨hP, hD⟩ := va_join (wr := []) (w1 := (tm_wModel cI cZ a s24 hh)) hP hD [0, 1, 2, 3, 4, 5, 6, 7, 8, 9, 10, 11, 12, 13, 14, 15, 16, 17] [] rfl rfl (by decide) (by decide) hk1 hFc hP1 hD1
    generalize H1 = H at hP hS ⊢
    have hP : va_P (dC, dI) vwCl (tm_wModel cI cZ a s24 hh) H := hP
    have hD : va_D A (tm_wModel cI cZ a s24 hh) := hD
    refine lv_goto (tgt := 136) hx hb dX9_hearsIn_128 (by decide) ?_
    exact W.vret hx hb hr (fun t ht hW => ⟨⟨s24, rfl, hw, by rw [ht]; exact hP, va_K.moved hW.alike hK, hD⟩, hS.F ht⟩) hS.2.2 dX9_hearsIn_136
  have hw := hw.2 c23
  have nc3 := lv_neT (a := 0) c3 rfl
  have nc8 := lv_neT (a := 1) c8 rfl
  have nc13 := lv_neT (a := 2) c13 rfl
  have nc15 := lv_neT (a := 3) c15 rfl
  have nc20 := lv_neT (a := 4) c20 rfl
  have nc21 := lv_neT (a := 5) c21 rfl
  have nc23 := lv_neT (a := 6) c23 rfl
  refine lv_tableOut (tgt := 131) hx hb dX9_hearsIn_6 (by omega) (by decide) ?_
  refine lv_aload_n hx hb dX9_hearsIn_131 rfl (lv_at hl 0 rfl) ?_
  refine lv_iload_n hx hb dX9_hearsIn_132 rfl (lv_at hl 1 rfl) ?_
  have hPc := hP
  have hDc := hD
  have hFc := va_free (wc := (tm_wModel cI cZ a s2 hh)) hD hS hA [0, 1, 2, 3, 4, 5, 6, 7, 8, 9, 10, 11, 12, 13, 14, 15, 16, 17] rfl
  refine va_callv (va_runV (As := [.int p0]) (rest := []) ⟨hx, hb, hml, hown, hts⟩ (kk_X9_hearsInData l dC dI cI cZ a s2 hh H.size p0 _ hw) (cwV 1 hts gX9_hearsIn_X9_hearsInData rfl rfl rfl (by decide +kernel) ⟨Nat.le_of_ble_eq_true rfl, Nat.le_of_ble_eq_true rfl⟩) ⟨tm_blind, va_recv hK hPc (ci := 7) (q0 := 0) rfl rfl, fun U hU hW => ⟨rfl, by rw [hU], by rw [hU]; exact hPc, va_K.moved hW.alike hK, hDc.weaken (fun _ _ _ _ => trivial)⟩⟩ rfl rfl hl.1 rfl (lv_room (Nat.le_of_ble_eq_true rfl)) dX9_hearsIn_133 ⟨Nat.zero_le _, Nat.zero_le _⟩) hS (fun q _ h => hFc q h) hFc (fun s25 t H1 locs ht hvm hw hB hz1 hk1 hS => ?_)
  obtain ⟨hP1, hK1, hD1⟩ := hB
  rw [ht] at hP1
  obtain ⟨hP, hD⟩ := va_join (wr := []) (w1 := (tm_wModel cI cZ a s25 hh)) hP hD [0, 1, 2, 3, 4, 5, 6, 7, 8, 9, 10, 11, 12, 13, 14, 15, 16, 17] [] rfl rfl (by decide) (by decide) hk1 hFc hP1 hD1
  generalize H1 = H at hP hS ⊢
  have hP : va_P (dC, dI) vwCl (tm_wModel cI cZ a s25 hh) H := hP
  have hD : va_D A (tm_wModel cI cZ a s25 hh) := hD
  exact W.vret hx hb hr (fun t ht hW => ⟨⟨s25, rfl, hw, by rw [ht]; exact hP, va_K.moved hW.alike hK, hD⟩, hS.F ht⟩) hS.2.2 dX9_hearsIn_136
def wp_X9_does (p0 : Int32) (s0 : tm_St) (K : tm_St → Prop) : Prop := (wp_X9_hear p0 s0 (fun s1 => (∀ s2 : tm_St, s2 = tm_s s1 0 (tm_u (s1 0) 26 0) → (wp_X9_mayGiveUp p0 s2 (fun s3 => ((¬ (s3 0 26) = 0 → ((¬ (s3 0 26) = 0 → (wp_X9_sendsIn p0 s3 (fun s6 => (wp_X9_add p0 1 1 s6 (fun s7 => K s7))))) ∧ ((s3 0 26) = 0 → (wp_X9_looksIn p0 s3 (fun s8 => (wp_X9_sendsIn p0 s8 (fun s9 => (wp_X9_add p0 1 1 s9 (fun s10 => K s10))))))))) ∧ ((s3 0 26) = 0 → (wp_X9_hearsIn p0 s3 (fun s11 => ((¬ (s11 0 26) = 0 → (wp_X9_sendsIn p0 s11 (fun s13 => (wp_X9_add p0 1 1 s13 (fun s14 => K s14))))) ∧ ((s11 0 26) = 0 → (wp_X9_looksIn p0 s11 (fun s15 => (wp_X9_sendsIn p0 s15 (fun s16 => (wp_X9_add p0 1 1 s16 (fun s17 => K s17)))))))))))))))))
set_option maxRecDepth 100000 in
set_option maxHeartbeats 4000000 in
theorem kk_X9_does (l : Launch) (dC : Nat → ClassId) (dI : Nat → Nat → Nat) (cI cZ : ClassId) (a : Nat → Nat) (s0 : tm_St) (hh : Int64) (sz : Nat) (p0 : Int32) (K : tm_St → Prop) (hw : wp_X9_does p0 s0 K) : Met l yX9_does wsX9_does ({ frames := 6, cells := 0, slots := 0, locals := 133 }) (va_Pc [.ref (a 0), .int p0] (tm_Pre dC dI cI cZ (tm_wModel cI cZ a s0 hh) sz)) (va_Qv (fun (u : tm_St) => K u) (fun (u : tm_St) t => tm_At dC dI cI cZ (va_A (tm_wModel cI cZ a s0 hh) sz) (tm_wModel cI cZ a u hh) t) (va_A (tm_wModel cI cZ a s0 hh) sz)) 0 0 (va_A (tm_wModel cI cZ a s0 hh) sz) := by
  refine Met.ofW (cc := cX9_does) (maxL := 2) (ret := none) (by decide +kernel) rfl ?_
  intro p e z m args below meth c z₁ B hml hv
  obtain ⟨rfl, hsz, hP, hK, hD0⟩ := hv
  have hx := B.exec
  have hb := B.bytes
  have hr := B.returns
  have hts := atoms_spec (ws := wsX9_does) B.pre
  have hown : z.vm.findClass RX9 = some m.cls := findClass_of_methodNamed B.named
  have hlocks := B.notSynchronized
  subst hsz
  have hD := hD0.self (sz := z.heap.size)
  generalize hAe : va_A (tm_wModel cI cZ a s0 hh) z.heap.size = A at hD ⊢
  have hA : ∀ q : Nat, z.heap.size ≤ q → A q := fun q h => by rw [← hAe]; exact Or.inr h
  have hS : va_S A z.heap z.heap [] := va_S.rf
  have h_f127 := hts (.fieldLink RX9 127 "TwoModemsModel" "isChanged" "Z") (by decide +kernel)
  have h_in9 : ∀ w ∈ u_ws RX9 TX9 30, w ∈ wsX9_does := by decide +kernel
  have hl := lv_entry ([.ref (a 0), .int p0]) (n := 2) (Nat.le_of_ble_eq_true rfl)
  rw [lg_entry_eq]
  generalize (lg_sl ([.ref (a 0), .int p0]) ++ List.replicate (2 - (lg_sl ([.ref (a 0), .int p0])).length) Slot.unset).toArray = ls at hl ⊢
  have hl : lv_has ls 2 [(0, .ref (a 0)), (1, .int p0)] := hl
  unfold wp_X9_does at hw
  refine lv_aload_n hx hb dX9_does_0 rfl (lv_at hl 0 rfl) ?_
  refine lv_iload_n hx hb dX9_does_1 rfl (lv_at hl 1 rfl) ?_
  have hPc := hP
  have hDc := hD
  have hFc := va_free (wc := (tm_wModel cI cZ a s0 hh)) hD hS hA [0, 1, 2, 3, 4, 5, 6, 7, 8, 9, 10, 11, 12, 13, 14, 15, 16, 17] rfl
  refine va_callv (va_runV (As := [.int p0]) (rest := []) ⟨hx, hb, hml, hown, hts⟩ (kk_X9_hear l dC dI cI cZ a s0 hh z.heap.size p0 _ hw) (cwV 1 hts gX9_does_X9_hear rfl rfl rfl (by decide +kernel) ⟨Nat.le_of_ble_eq_true rfl, Nat.le_of_ble_eq_true rfl⟩) ⟨tm_blind, va_recv hK hPc (ci := 7) (q0 := 0) rfl rfl, fun U hU hW => ⟨rfl, by rw [hU], by rw [hU]; exact hPc, va_K.moved hW.alike hK, hDc.weaken (fun _ _ _ _ => trivial)⟩⟩ rfl rfl hl.1 rfl (lv_room (Nat.le_of_ble_eq_true rfl)) dX9_does_2 ⟨Nat.zero_le _, Nat.zero_le _⟩) hS (fun q _ h => hFc q h) hFc (fun s1 t H1 locs ht hvm hw hB hz1 hk1 hS => ?_)
  obtain ⟨hP1, hK1, hD1⟩ := hB
  rw [ht] at hP1
  obtain ⟨hP, hD⟩ := va_join (wr := []) (w1 := (tm_wModel cI cZ a s1 hh)) hP hD [0, 1, 2, 3, 4, 5, 6, 7, 8, 9, 10, 11, 12, 13, 14, 15, 16, 17] [] rfl rfl (by decide) (by decide) hk1 hFc hP1 hD1
  generalize H1 = H at hP hS ⊢
  have hP : va_P (dC, dI) vwCl (tm_wModel cI cZ a s1 hh) H := hP
  have hD : va_D A (tm_wModel cI cZ a s1 hh) := hD
  refine lv_aload_n hx hb dX9_does_5 rfl (lv_at hl 0 rfl) ?_
  refine lv_iconst (v := 0) hx hb dX9_does_6 (by decide) ?_
  refine va_put (D := (dC, dI)) (ci := 7) (v := .int 0) (ty := .boolean) (C := RX9) (T := TX9) (N := 30) hx hb hts h_in9 tyX9 tyX9_ok nmX9 hown hK hP hD hS 0 rfl rfl 26 (by decide) h_f127 (fun _ h9 => h9) rfl (by decide +kernel) rfl rfl (Nat.le_of_ble_eq_true rfl) dX9_does_7 (fun H locs hP hD hS => ?_)
  obtain ⟨s2, es2⟩ : ∃ y : tm_St, y = tm_s s1 0 (tm_u (s1 0) 26 0) := ⟨_, rfl⟩
  have hw := hw s2 es2
  have hP : va_P (dC, dI) vwCl (tm_wModel cI cZ a s2 hh) H := by rw [es2]; exact hP
  have hD : va_D A (tm_wModel cI cZ a s2 hh) := by rw [es2]; exact hD
  refine lv_aload_n hx hb dX9_does_10 rfl (lv_at hl 0 rfl) ?_
  refine lv_iload_n hx hb dX9_does_11 rfl (lv_at hl 1 rfl) ?_
  have hPc := hP
  have hDc := hD
  have hFc := va_free (wc := (tm_wModel cI cZ a s2 hh)) hD hS hA [0, 1, 2, 3, 4, 5, 6, 7, 8, 9, 10, 11, 12, 13, 14, 15, 16, 17] rfl
  refine va_callv (va_runV (As := [.int p0]) (rest := []) ⟨hx, hb, hml, hown, hts⟩ (kk_X9_mayGiveUp l dC dI cI cZ a s2 hh H.size p0 _ hw) (cwV 1 hts gX9_does_X9_mayGiveUp rfl rfl rfl (by decide +kernel) ⟨Nat.le_of_ble_eq_true rfl, Nat.le_of_ble_eq_true rfl⟩) ⟨tm_blind, va_recv hK hPc (ci := 7) (q0 := 0) rfl rfl, fun U hU hW => ⟨rfl, by rw [hU], by rw [hU]; exact hPc, va_K.moved hW.alike hK, hDc.weaken (fun _ _ _ _ => trivial)⟩⟩ rfl rfl hl.1 rfl (lv_room (Nat.le_of_ble_eq_true rfl)) dX9_does_12 ⟨Nat.zero_le _, Nat.zero_le _⟩) hS (fun q _ h => hFc q h) hFc (fun s3 t H1 locs ht hvm hw hB hz1 hk1 hS => ?_)
  obtain ⟨hP1, hK1, hD1⟩ := hB
  rw [ht] at hP1
  obtain ⟨hP, hD⟩ := va_join (wr := []) (w1 := (tm_wModel cI cZ a s3 hh)) hP hD [0, 1, 2, 3, 4, 5, 6, 7, 8, 9, 10, 11, 12, 13, 14, 15, 16, 17] [] rfl rfl (by decide) (by decide) hk1 hFc hP1 hD1
  generalize H1 = H at hP hS ⊢
  have hP : va_P (dC, dI) vwCl (tm_wModel cI cZ a s3 hh) H := hP
  have hD : va_D A (tm_wModel cI cZ a s3 hh) := hD
  refine lv_aload_n hx hb dX9_does_15 rfl (lv_at hl 0 rfl) ?_
  refine va_get (D := (dC, dI)) (ci := 7) (v := .int (s3 0 26)) (C := RX9) (T := TX9) (N := 30) hx hb hts h_in9 hown hK hP 0 rfl rfl 26 (by decide) h_f127 (fun _ h9 => h9) rfl dX9_does_16 ?_
  refine lv_if_ne (tgt := 27) hx hb dX9_does_19 (by decide) (fun c4 => ?_) (fun c4 => ?_)
  · have hw := hw.1 c4
    refine lv_aload_n hx hb dX9_does_27 rfl (lv_at hl 0 rfl) ?_
    refine va_get (D := (dC, dI)) (ci := 7) (v := .int (s3 0 26)) (C := RX9) (T := TX9) (N := 30) hx hb hts h_in9 hown hK hP 0 rfl rfl 26 (by decide) h_f127 (fun _ h9 => h9) rfl dX9_does_28 ?_
    refine lv_if_ne (tgt := 39) hx hb dX9_does_31 (by decide) (fun c5 => ?_) (fun c5 => ?_)
    · have hw := hw.1 c5
      refine lv_aload_n hx hb dX9_does_39 rfl (lv_at hl 0 rfl) ?_
      refine lv_iload_n hx hb dX9_does_40 rfl (lv_at hl 1 rfl) ?_
      have hPc := hP
      have hDc := hD
      have hFc := va_free (wc := (tm_wModel cI cZ a s3 hh)) hD hS hA [0, 1, 2, 3, 4, 5, 6, 7, 8, 9, 10, 11, 12, 13, 14, 15, 16, 17] rfl
      refine va_callv (va_runV (As := [.int p0]) (rest := []) ⟨hx, hb, hml, hown, hts⟩ (kk_X9_sendsIn l dC dI cI cZ a s3 hh H.size p0 _ hw) (cwV 1 hts gX9_does_X9_sendsIn rfl rfl rfl (by decide +kernel) ⟨Nat.le_of_ble_eq_true rfl, Nat.le_of_ble_eq_true rfl⟩) ⟨tm_blind, va_recv hK hPc (ci := 7) (q0 := 0) rfl rfl, fun U hU hW => ⟨rfl, by rw [hU], by rw [hU]; exact hPc, va_K.moved hW.alike hK, hDc.weaken (fun _ _ _ _ => trivial)⟩⟩ rfl rfl hl.1 rfl (lv_room (Nat.le_of_ble_eq_true rfl)) dX9_does_41 ⟨Nat.zero_le _, Nat.zero_le _⟩) hS (fun q _ h => hFc q h) hFc (fun s6 t H1 locs ht hvm hw hB hz1 hk1 hS => ?_)
      obtain ⟨hP1, hK1, hD1⟩ := hB
      rw [ht] at hP1
      obtain ⟨hP, hD⟩ := va_join (wr := []) (w1 := (tm_wModel cI cZ a s6 hh)) hP hD [0, 1, 2, 3, 4, 5, 6, 7, 8, 9, 10, 11, 12, 13, 14, 15, 16, 17] [] rfl rfl (by decide) (by decide) hk1 hFc hP1 hD1
      generalize H1 = H at hP hS ⊢
      have hP : va_P (dC, dI) vwCl (tm_wModel cI cZ a s6 hh) H := hP
      have hD : va_D A (tm_wModel cI cZ a s6 hh) := hD
      refine lv_aload_n hx hb dX9_does_44 rfl (lv_at hl 0 rfl) ?_
      refine lv_iload_n hx hb dX9_does_45 rfl (lv_at hl 1 rfl) ?_
      refine lv_iconst (v := 1) hx hb dX9_does_46 (by decide) ?_
      refine lv_iconst (v := 1) hx hb dX9_does_47 (by decide) ?_
      have hPc := hP
      have hDc := hD
      have hFc := va_free (wc := (tm_wModel cI cZ a s6 hh)) hD hS hA [0, 1, 2, 3, 4, 5, 6, 7, 8, 9, 10, 11, 12, 13, 14, 15, 16, 17] rfl
      refine va_callv (va_runV (As := [.int p0, .int 1, .int 1]) (rest := []) ⟨hx, hb, hml, hown, hts⟩ (kk_X9_add l dC dI cI cZ a s6 hh H.size p0 1 1 _ hw) (cwV 3 hts gX9_does_X9_add rfl rfl rfl (by decide +kernel) ⟨Nat.le_of_ble_eq_true rfl, Nat.le_of_ble_eq_true rfl⟩) ⟨tm_blind, va_recv hK hPc (ci := 7) (q0 := 0) rfl rfl, fun U hU hW => ⟨rfl, by rw [hU], by rw [hU]; exact hPc, va_K.moved hW.alike hK, hDc.weaken (fun _ _ _ _ => trivial)⟩⟩ rfl rfl hl.1 rfl (lv_room (Nat.le_of_ble_eq_true rfl)) dX9_does_48 ⟨Nat.zero_le _, Nat.zero_le _⟩) hS (fun q _ h => hFc q h) hFc (fun s7 t H1 locs ht hvm hw hB hz1 hk1 hS => ?_)
      obtain ⟨hP1, hK1, hD1⟩ := hB
      rw [ht] at hP1
      obtain ⟨hP, hD⟩ := va_join (wr := []) (w1 := (tm_wModel cI cZ a s7 hh)) hP hD [0, 1, 2, 3, 4, 5, 6, 7, 8, 9, 10, 11, 12, 13, 14, 15, 16, 17] [] rfl rfl (by decide) (by decide) hk1 hFc hP1 hD1
      generalize H1 = H at hP hS ⊢
      have hP : va_P (dC, dI) vwCl (tm_wModel cI cZ a s7 hh) H := hP
      have hD : va_D A (tm_wModel cI cZ a s7 hh) := hD
      exact W.vret hx hb hr (fun t ht hW => ⟨⟨s7, rfl, hw, by rw [ht]; exact hP, va_K.moved hW.alike hK, hD⟩, hS.F ht⟩) hS.2.2 dX9_does_51
    · have hw := hw.2 c5
      refine lv_aload_n hx hb dX9_does_34 rfl (lv_at hl 0 rfl) ?_
      refine lv_iload_n hx hb dX9_does_35 rfl (lv_at hl 1 rfl) ?_
      have hPc := hP
      have hDc := hD
      have hFc := va_free (wc := (tm_wModel cI cZ a s3 hh)) hD hS hA [0, 1, 2, 3, 4, 5, 6, 7, 8, 9, 10, 11, 12, 13, 14, 15, 16, 17] rfl
      refine va_callv (va_runV (As := [.int p0]) (rest := []) ⟨hx, hb, hml, hown, hts⟩ (kk_X9_looksIn l dC dI cI cZ a s3 hh H.size p0 _ hw) (cwV 1 hts gX9_does_X9_looksIn rfl rfl rfl (by decide +kernel) ⟨Nat.le_of_ble_eq_true rfl, Nat.le_of_ble_eq_true rfl⟩) ⟨tm_blind, va_recv hK hPc (ci := 7) (q0 := 0) rfl rfl, fun U hU hW => ⟨rfl, by rw [hU], by rw [hU]; exact hPc, va_K.moved hW.alike hK, hDc.weaken (fun _ _ _ _ => trivial)⟩⟩ rfl rfl hl.1 rfl (lv_room (Nat.le_of_ble_eq_true rfl)) dX9_does_36 ⟨Nat.zero_le _, Nat.zero_le _⟩) hS (fun q _ h => hFc q h) hFc (fun s8 t H1 locs ht hvm hw hB hz1 hk1 hS => ?_)
      obtain ⟨hP1, hK1, hD1⟩ := hB
      rw [ht] at hP1
      obtain ⟨hP, hD⟩ := va_join (wr := []) (w1 := (tm_wModel cI cZ a s8 hh)) hP hD [0, 1, 2, 3, 4, 5, 6, 7, 8, 9, 10, 11, 12, 13, 14, 15, 16, 17] [] rfl rfl (by decide) (by decide) hk1 hFc hP1 hD1
      generalize H1 = H at hP hS ⊢
      have hP : va_P (dC, dI) vwCl (tm_wModel cI cZ a s8 hh) H := hP
      have hD : va_D A (tm_wModel cI cZ a s8 hh) := hD
      refine lv_aload_n hx hb dX9_does_39 rfl (lv_at hl 0 rfl) ?_
      refine lv_iload_n hx hb dX9_does_40 rfl (lv_at hl 1 rfl) ?_
      have hPc := hP
      have hDc := hD
      have hFc := va_free (wc := (tm_wModel cI cZ a s8 hh)) hD hS hA [0, 1, 2, 3, 4, 5, 6, 7, 8, 9, 10, 11, 12, 13, 14, 15, 16, 17] rfl
      refine va_callv (va_runV (As := [.int p0]) (rest := []) ⟨hx, hb, hml, hown, hts⟩ (kk_X9_sendsIn l dC dI cI cZ a s8 hh H.size p0 _ hw) (cwV 1 hts gX9_does_X9_sendsIn rfl rfl rfl (by decide +kernel) ⟨Nat.le_of_ble_eq_true rfl, Nat.le_of_ble_eq_true rfl⟩) ⟨tm_blind, va_recv hK hPc (ci := 7) (q0 := 0) rfl rfl, fun U hU hW => ⟨rfl, by rw [hU], by rw [hU]; exact hPc, va_K.moved hW.alike hK, hDc.weaken (fun _ _ _ _ => trivial)⟩⟩ rfl rfl hl.1 rfl (lv_room (Nat.le_of_ble_eq_true rfl)) dX9_does_41 ⟨Nat.zero_le _, Nat.zero_le _⟩) hS (fun q _ h => hFc q h) hFc (fun s9 t H1 locs ht hvm hw hB hz1 hk1 hS => ?_)
      obtain ⟨hP1, hK1, hD1⟩ := hB
      rw [ht] at hP1
      obtain ⟨hP, hD⟩ := va_join (wr := []) (w1 := (tm_wModel cI cZ a s9 hh)) hP hD [0, 1, 2, 3, 4, 5, 6, 7, 8, 9, 10, 11, 12, 13, 14, 15, 16, 17] [] rfl rfl (by decide) (by decide) hk1 hFc hP1 hD1
      generalize H1 = H at hP hS ⊢
      have hP : va_P (dC, dI) vwCl (tm_wModel cI cZ a s9 hh) H := hP
      have hD : va_D A (tm_wModel cI cZ a s9 hh) := hD
      refine lv_aload_n hx hb dX9_does_44 rfl (lv_at hl 0 rfl) ?_
      refine lv_iload_n hx hb dX9_does_45 rfl (lv_at hl 1 rfl) ?_
      refine lv_iconst (v := 1) hx hb dX9_does_46 (by decide) ?_
      refine lv_iconst (v := 1) hx hb dX9_does_47 (by decide) ?_
      have hPc := hP
      have hDc := hD
      have hFc := va_free (wc := (tm_wModel cI cZ a s9 hh)) hD hS hA [0, 1, 2, 3, 4, 5, 6, 7, 8, 9, 10, 11, 12, 13, 14, 15, 16, 17] rfl
      refine va_callv (va_runV (As := [.int p0, .int 1, .int 1]) (rest := []) ⟨hx, hb, hml, hown, hts⟩ (kk_X9_add l dC dI cI cZ a s9 hh H.size p0 1 1 _ hw) (cwV 3 hts gX9_does_X9_add rfl rfl rfl (by decide +kernel) ⟨Nat.le_of_ble_eq_true rfl, Nat.le_of_ble_eq_true rfl⟩) ⟨tm_blind, va_recv hK hPc (ci := 7) (q0 := 0) rfl rfl, fun U hU hW => ⟨rfl, by rw [hU], by rw [hU]; exact hPc, va_K.moved hW.alike hK, hDc.weaken (fun _ _ _ _ => trivial)⟩⟩ rfl rfl hl.1 rfl (lv_room (Nat.le_of_ble_eq_true rfl)) dX9_does_48 ⟨Nat.zero_le _, Nat.zero_le _⟩) hS (fun q _ h => hFc q h) hFc (fun s10 t H1 locs ht hvm hw hB hz1 hk1 hS => ?_)
      obtain ⟨hP1, hK1, hD1⟩ := hB
      rw [ht] at hP1
      obtain ⟨hP, hD⟩ := va_join (wr := []) (w1 := (tm_wModel cI cZ a s10 hh)) hP hD [0, 1, 2, 3, 4, 5, 6, 7, 8, 9, 10, 11, 12, 13, 14, 15, 16, 17] [] rfl rfl (by decide) (by decide) hk1 hFc hP1 hD1
      generalize H1 = H at hP hS ⊢
      have hP : va_P (dC, dI) vwCl (tm_wModel cI cZ a s10 hh) H := hP
      have hD : va_D A (tm_wModel cI cZ a s10 hh) := hD
      exact W.vret hx hb hr (fun t ht hW => ⟨⟨s10, rfl, hw, by rw [ht]; exact hP, va_K.moved hW.alike hK, hD⟩, hS.F ht⟩) hS.2.2 dX9_does_51
  · have hw := hw.2 c4
    refine lv_aload_n hx hb dX9_does_22 rfl (lv_at hl 0 rfl) ?_
    refine lv_iload_n hx hb dX9_does_23 rfl (lv_at hl 1 rfl) ?_
    have hPc := hP
    have hDc := hD
    have hFc := va_free (wc := (tm_wModel cI cZ a s3 hh)) hD hS hA [0, 1, 2, 3, 4, 5, 6, 7, 8, 9, 10, 11, 12, 13, 14, 15, 16, 17] rfl
    refine va_callv (va_runV (As := [.int p0]) (rest := []) ⟨hx, hb, hml, hown, hts⟩ (kk_X9_hearsIn l dC dI cI cZ a s3 hh H.size p0 _ hw) (cwV 1 hts gX9_does_X9_hearsIn rfl rfl rfl (by decide +kernel) ⟨Nat.le_of_ble_eq_true rfl, Nat.le_of_ble_eq_true rfl⟩) ⟨tm_blind, va_recv hK hPc (ci := 7) (q0 := 0) rfl rfl, fun U hU hW => ⟨rfl, by rw [hU], by rw [hU]; exact hPc, va_K.moved hW.alike hK, hDc.weaken (fun _ _ _ _ => trivial)⟩⟩ rfl rfl hl.1 rfl (lv_room (Nat.le_of_ble_eq_true rfl)) dX9_does_24 ⟨Nat.zero_le _, Nat.zero_le _⟩) hS (fun q _ h => hFc q h) hFc (fun s11 t H1 locs ht hvm hw hB hz1 hk1 hS => ?_)
    obtain ⟨hP1, hK1, hD1⟩ := hB
    rw [ht] at hP1
    obtain ⟨hP, hD⟩ := va_join (wr := []) (w1 := (tm_wModel cI cZ a s11 hh)) hP hD [0, 1, 2, 3, 4, 5, 6, 7, 8, 9, 10, 11, 12, 13, 14, 15, 16, 17] [] rfl rfl (by decide) (by decide) hk1 hFc hP1 hD1
    generalize H1 = H at hP hS ⊢
    have hP : va_P (dC, dI) vwCl (tm_wModel cI cZ a s11 hh) H := hP
    have hD : va_D A (tm_wModel cI cZ a s11 hh) := hD
    refine lv_aload_n hx hb dX9_does_27 rfl (lv_at hl 0 rfl) ?_
    refine va_get (D := (dC, dI)) (ci := 7) (v := .int (s11 0 26)) (C := RX9) (T := TX9) (N := 30) hx hb hts h_in9 hown hK hP 0 rfl rfl 26 (by decide) h_f127 (fun _ h9 => h9) rfl dX9_does_28 ?_
    refine lv_if_ne (tgt := 39) hx hb dX9_does_31 (by decide) (fun c12 => ?_) (fun c12 => ?_)
    · have hw := hw.1 c12
      refine lv_aload_n hx hb dX9_does_39 rfl (lv_at hl 0 rfl) ?_
      refine lv_iload_n hx hb dX9_does_40 rfl (lv_at hl 1 rfl) ?_
      have hPc := hP
      have hDc := hD
      have hFc := va_free (wc := (tm_wModel cI cZ a s11 hh)) hD hS hA [0, 1, 2, 3, 4, 5, 6, 7, 8, 9, 10, 11, 12, 13, 14, 15, 16, 17] rfl
      refine va_callv (va_runV (As := [.int p0]) (rest := []) ⟨hx, hb, hml, hown, hts⟩ (kk_X9_sendsIn l dC dI cI cZ a s11 hh H.size p0 _ hw) (cwV 1 hts gX9_does_X9_sendsIn rfl rfl rfl (by decide +kernel) ⟨Nat.le_of_ble_eq_true rfl, Nat.le_of_ble_eq_true rfl⟩) ⟨tm_blind, va_recv hK hPc (ci := 7) (q0 := 0) rfl rfl, fun U hU hW => ⟨rfl, by rw [hU], by rw [hU]; exact hPc, va_K.moved hW.alike hK, hDc.weaken (fun _ _ _ _ => trivial)⟩⟩ rfl rfl hl.1 rfl (lv_room (Nat.le_of_ble_eq_true rfl)) dX9_does_41 ⟨Nat.zero_le _, Nat.zero_le _⟩) hS (fun q _ h => hFc q h) hFc (fun s13 t H1 locs ht hvm hw hB hz1 hk1 hS => ?_)
      obtain ⟨hP1, hK1, hD1⟩ := hB
      rw [ht] at hP1
      obtain ⟨hP, hD⟩ := va_join (wr := []) (w1 := (tm_wModel cI cZ a s13 hh)) hP hD [0, 1, 2, 3, 4, 5, 6, 7, 8, 9, 10, 11, 12, 13, 14, 15, 16, 17] [] rfl rfl (by decide) (by decide) hk1 hFc hP1 hD1
      generalize H1 = H at hP hS ⊢
      have hP : va_P (dC, dI) vwCl (tm_wModel cI cZ a s13 hh) H := hP
      have hD : va_D A (tm_wModel cI cZ a s13 hh) := hD
      refine lv_aload_n hx hb dX9_does_44 rfl (lv_at hl 0 rfl) ?_
      refine lv_iload_n hx hb dX9_does_45 rfl (lv_at hl 1 rfl) ?_
      refine lv_iconst (v := 1) hx hb dX9_does_46 (by decide) ?_
      refine lv_iconst (v := 1) hx hb dX9_does_47 (by decide) ?_
      have hPc := hP
      have hDc := hD
      have hFc := va_free (wc := (tm_wModel cI cZ a s13 hh)) hD hS hA [0, 1, 2, 3, 4, 5, 6, 7, 8, 9, 10, 11, 12, 13, 14, 15, 16, 17] rfl
      refine va_callv (va_runV (As := [.int p0, .int 1, .int 1]) (rest := []) ⟨hx, hb, hml, hown, hts⟩ (kk_X9_add l dC dI cI cZ a s13 hh H.size p0 1 1 _ hw) (cwV 3 hts gX9_does_X9_add rfl rfl rfl (by decide +kernel) ⟨Nat.le_of_ble_eq_true rfl, Nat.le_of_ble_eq_true rfl⟩) ⟨tm_blind, va_recv hK hPc (ci := 7) (q0 := 0) rfl rfl, fun U hU hW => ⟨rfl, by rw [hU], by rw [hU]; exact hPc, va_K.moved hW.alike hK, hDc.weaken (fun _ _ _ _ => trivial)⟩⟩ rfl rfl hl.1 rfl (lv_room (Nat.le_of_ble_eq_true rfl)) dX9_does_48 ⟨Nat.zero_le _, Nat.zero_le _⟩) hS (fun q _ h => hFc q h) hFc (fun s14 t H1 locs ht hvm hw hB hz1 hk1 hS => ?_)
      obtain ⟨hP1, hK1, hD1⟩ := hB
      rw [ht] at hP1
      obtain ⟨hP, hD⟩ := va_join (wr := []) (w1 := (tm_wModel cI cZ a s14 hh)) hP hD [0, 1, 2, 3, 4, 5, 6, 7, 8, 9, 10, 11, 12, 13, 14, 15, 16, 17] [] rfl rfl (by decide) (by decide) hk1 hFc hP1 hD1
      generalize H1 = H at hP hS ⊢
      have hP : va_P (dC, dI) vwCl (tm_wModel cI cZ a s14 hh) H := hP
      have hD : va_D A (tm_wModel cI cZ a s14 hh) := hD
      exact W.vret hx hb hr (fun t ht hW => ⟨⟨s14, rfl, hw, by rw [ht]; exact hP, va_K.moved hW.alike hK, hD⟩, hS.F ht⟩) hS.2.2 dX9_does_51
    · have hw := hw.2 c12
      refine lv_aload_n hx hb dX9_does_34 rfl (lv_at hl 0 rfl) ?_
      refine lv_iload_n hx hb dX9_does_35 rfl (lv_at hl 1 rfl) ?_
      have hPc := hP
      have hDc := hD
      have hFc := va_free (wc := (tm_wModel cI cZ a s11 hh)) hD hS hA [0, 1, 2, 3, 4, 5, 6, 7, 8, 9, 10, 11, 12, 13, 14, 15, 16, 17] rfl
      refine va_callv (va_runV (As := [.int p0]) (rest := []) ⟨hx, hb, hml, hown, hts⟩ (kk_X9_looksIn l dC dI cI cZ a s11 hh H.size p0 _ hw) (cwV 1 hts gX9_does_X9_looksIn rfl rfl rfl (by decide +kernel) ⟨Nat.le_of_ble_eq_true rfl, Nat.le_of_ble_eq_true rfl⟩) ⟨tm_blind, va_recv hK hPc (ci := 7) (q0 := 0) rfl rfl, fun U hU hW => ⟨rfl, by rw [hU], by rw [hU]; exact hPc, va_K.moved hW.alike hK, hDc.weaken (fun _ _ _ _ => trivial)⟩⟩ rfl rfl hl.1 rfl (lv_room (Nat.le_of_ble_eq_true rfl)) dX9_does_36 ⟨Nat.zero_le _, Nat.zero_le _⟩) hS (fun q _ h => hFc q h) hFc (fun s15 t H1 locs ht hvm hw hB hz1 hk1 hS => ?_)
      obtain ⟨hP1, hK1, hD1⟩ := hB
      rw [ht] at hP1
      obtain ⟨hP, hD⟩ := va_join (wr := []) (w1 := (tm_wModel cI cZ a s15 hh)) hP hD [0, 1, 2, 3, 4, 5, 6, 7, 8, 9, 10, 11, 12, 13, 14, 15, 16, 17] [] rfl rfl (by decide) (by decide) hk1 hFc hP1 hD1
      generalize H1 = H at hP hS ⊢
      have hP : va_P (dC, dI) vwCl (tm_wModel cI cZ a s15 hh) H := hP
      have hD : va_D A (tm_wModel cI cZ a s15 hh) := hD
      refine lv_aload_n hx hb dX9_does_39 rfl (lv_at hl 0 rfl) ?_
      refine lv_iload_n hx hb dX9_does_40 rfl (lv_at hl 1 rfl) ?_
      have hPc := hP
      have hDc := hD
      have hFc := va_free (wc := (tm_wModel cI cZ a s15 hh)) hD hS hA [0, 1, 2, 3, 4, 5, 6, 7, 8, 9, 10, 11, 12, 13, 14, 15, 16, 17] rfl
      refine va_callv (va_runV (As := [.int p0]) (rest := []) ⟨hx, hb, hml, hown, hts⟩ (kk_X9_sendsIn l dC dI cI cZ a s15 hh H.size p0 _ hw) (cwV 1 hts gX9_does_X9_sendsIn rfl rfl rfl (by decide +kernel) ⟨Nat.le_of_ble_eq_true rfl, Nat.le_of_ble_eq_true rfl⟩) ⟨tm_blind, va_recv hK hPc (ci := 7) (q0 := 0) rfl rfl, fun U hU hW => ⟨rfl, by rw [hU], by rw [hU]; exact hPc, va_K.moved hW.alike hK, hDc.weaken (fun _ _ _ _ => trivial)⟩⟩ rfl rfl hl.1 rfl (lv_room (Nat.le_of_ble_eq_true rfl)) dX9_does_41 ⟨Nat.zero_le _, Nat.zero_le _⟩) hS (fun q _ h => hFc q h) hFc (fun s16 t H1 locs ht hvm hw hB hz1 hk1 hS => ?_)
      obtain ⟨hP1, hK1, hD1⟩ := hB
      rw [ht] at hP1
      obtain ⟨hP, hD⟩ := va_join (wr := []) (w1 := (tm_wModel cI cZ a s16 hh)) hP hD [0, 1, 2, 3, 4, 5, 6, 7, 8, 9, 10, 11, 12, 13, 14, 15, 16, 17] [] rfl rfl (by decide) (by decide) hk1 hFc hP1 hD1
      generalize H1 = H at hP hS ⊢
      have hP : va_P (dC, dI) vwCl (tm_wModel cI cZ a s16 hh) H := hP
      have hD : va_D A (tm_wModel cI cZ a s16 hh) := hD
      refine lv_aload_n hx hb dX9_does_44 rfl (lv_at hl 0 rfl) ?_
      refine lv_iload_n hx hb dX9_does_45 rfl (lv_at hl 1 rfl) ?_
      refine lv_iconst (v := 1) hx hb dX9_does_46 (by decide) ?_
      refine lv_iconst (v := 1) hx hb dX9_does_47 (by decide) ?_
      have hPc := hP
      have hDc := hD
      have hFc := va_free (wc := (tm_wModel cI cZ a s16 hh)) hD hS hA [0, 1, 2, 3, 4, 5, 6, 7, 8, 9, 10, 11, 12, 13, 14, 15, 16, 17] rfl
      refine va_callv (va_runV (As := [.int p0, .int 1, .int 1]) (rest := []) ⟨hx, hb, hml, hown, hts⟩ (kk_X9_add l dC dI cI cZ a s16 hh H.size p0 1 1 _ hw) (cwV 3 hts gX9_does_X9_add rfl rfl rfl (by decide +kernel) ⟨Nat.le_of_ble_eq_true rfl, Nat.le_of_ble_eq_true rfl⟩) ⟨tm_blind, va_recv hK hPc (ci := 7) (q0 := 0) rfl rfl, fun U hU hW => ⟨rfl, by rw [hU], by rw [hU]; exact hPc, va_K.moved hW.alike hK, hDc.weaken (fun _ _ _ _ => trivial)⟩⟩ rfl rfl hl.1 rfl (lv_room (Nat.le_of_ble_eq_true rfl)) dX9_does_48 ⟨Nat.zero_le _, Nat.zero_le _⟩) hS (fun q _ h => hFc q h) hFc (fun s17 t H1 locs ht hvm hw hB hz1 hk1 hS => ?_)
      obtain ⟨hP1, hK1, hD1⟩ := hB
      rw [ht] at hP1
      obtain ⟨hP, hD⟩ := va_join (wr := []) (w1 := (tm_wModel cI cZ a s17 hh)) hP hD [0, 1, 2, 3, 4, 5, 6, 7, 8, 9, 10, 11, 12, 13, 14, 15, 16, 17] [] rfl rfl (by decide) (by decide) hk1 hFc hP1 hD1
      generalize H1 = H at hP hS ⊢
      have hP : va_P (dC, dI) vwCl (tm_wModel cI cZ a s17 hh) H := hP
      have hD : va_D A (tm_wModel cI cZ a s17 hh) := hD
      exact W.vret hx hb hr (fun t ht hW => ⟨⟨s17, rfl, hw, by rw [ht]; exact hP, va_K.moved hW.alike hK, hD⟩, hS.F ht⟩) hS.2.2 dX9_does_51
def wp_X9_go_21 (K : Int32 → tm_St → Prop) : Nat → Int32 → Int32 → Int32 → tm_St → Prop
  | 0, _, _, _, _ => False
  | n + 1, v1, v2, v3, s => ((v1 ≤ v3 → K ((s 0 15) - v2) s) ∧ (¬ v1 ≤ v3 → (wp_X9_does 0 s (fun s6 => (wp_X9_does 1 s6 (fun s7 => (∀ s8 : tm_St, s8 = tm_s s7 0 (tm_u (s7 0) 12 ((s7 0 12) + 1)) → (∀ x9 : Int32, x9 = v3 + 1 → wp_X9_go_21 K n v1 v2 x9 s8))))))))
def wp_X9_go (p0 : Int32) (s0 : tm_St) (K : Int32 → tm_St → Prop) : Prop := (wp_X9_within p0 1 100 (fun r1 => ((¬ r1 = 0 → (∀ x4 : Int32, x4 = (s0 0 15) → ∃ nf : Nat, wp_X9_go_21 K nf p0 x4 0 s0)) ∧ (r1 = 0 → K (-1002) s0))))
set_option maxRecDepth 100000 in
set_option maxHeartbeats 4000000 in
theorem kk_X9_go (l : Launch) (dC : Nat → ClassId) (dI : Nat → Nat → Nat) (cI cZ : ClassId) (a : Nat → Nat) (s0 : tm_St) (hh : Int64) (sz : Nat) (p0 : Int32) (K : Int32 → tm_St → Prop) (hw : wp_X9_go p0 s0 K) : Met l yX9_go wsX9_go ({ frames := 7, cells := 0, slots := 0, locals := 154 }) (va_Pc [.ref (a 0), .int p0] (tm_Pre dC dI cI cZ (tm_wModel cI cZ a s0 hh) sz)) (va_Qi (fun (r : Int32) (u : tm_St) => K r u) (fun (u : tm_St) t => tm_At dC dI cI cZ (va_A (tm_wModel cI cZ a s0 hh) sz) (tm_wModel cI cZ a u hh) t) (va_A (tm_wModel cI cZ a s0 hh) sz)) 0 0 (va_A (tm_wModel cI cZ a s0 hh) sz) := by
  refine Met.ofW (cc := cX9_go) (maxL := 4) (ret := (some .int)) (by decide +kernel) rfl ?_
  intro p e z m args below meth c z₁ B hml hv
  obtain ⟨rfl, hsz, hP, hK, hD0⟩ := hv
  have hx := B.exec
  have hb := B.bytes
  have hr := B.returns
  have hts := atoms_spec (ws := wsX9_go) B.pre
  have hown : z.vm.findClass RX9 = some m.cls := findClass_of_methodNamed B.named
  have hlocks := B.notSynchronized
  subst hsz
  have hD := hD0.self (sz := z.heap.size)
  generalize hAe : va_A (tm_wModel cI cZ a s0 hh) z.heap.size = A at hD ⊢
  have hA : ∀ q : Nat, z.heap.size ≤ q → A q := fun q h => by rw [← hAe]; exact Or.inr h
  have hS : va_S A z.heap z.heap [] := va_S.rf
  have h_f131 := hts (.fieldLink RX9 131 "TwoModemsModel" "changes" "I") (by decide +kernel)
  have h_in9 : ∀ w ∈ u_ws RX9 TX9 30, w ∈ wsX9_go := by decide +kernel
  have h_f121 := hts (.fieldLink RX9 121 "TwoModemsModel" "tick" "I") (by decide +kernel)
  have b21 : ∀ (n : Nat) (v1 : Int32) (v2 : Int32) (v3 : Int32) (s : tm_St) (H : Heap) (locs : List Loc) (ls : Array Slot), wp_X9_go_21 K n v1 v2 v3 s → va_P (dC, dI) vwCl (tm_wModel cI cZ a s hh) H → va_D A (tm_wModel cI cZ a s hh) → va_S A z.heap H locs → lv_has ls 4 [(0, .ref (a 0)), (1, .int v1), (2, .int v2), (3, .int v3)] → W p l e (headSpec wsX9_go ({ frames := 7, cells := 0, slots := 0, locals := 154 })).room z m (([.ref (a 0), .int p0] : List Value).toArray) below meth c H locs 0 0 (MQ below (va_Qi (fun (r : Int32) (u : tm_St) => K r u) (fun (u : tm_St) t => tm_At dC dI cI cZ A (tm_wModel cI cZ a u hh) t) A) (([.ref (a 0), .int p0] : List Value).toArray) z 0 0 A) (F0 m 21 ls []) := by
    intro n
    induction n with
    | zero => intro v1 v2 v3 s H locs ls hw hP hD hS hl; unfold wp_X9_go_21 at hw; exact hw.elim
    | succ n ih =>
      intro v1 v2 v3 s H locs ls hw hP hD hS hl
      unfold wp_X9_go_21 at hw
      refine lv_iload_n hx hb dX9_go_21 rfl (lv_at hl 3 rfl) ?_
      refine lv_iload_n hx hb dX9_go_22 rfl (lv_at hl 1 rfl) ?_
      refine lv_icmp_ge (tgt := 52) hx hb dX9_go_23 (by decide) (fun c5 => ?_) (fun c5 => ?_)
      · have hw := hw.1 c5
        refine lv_aload_n hx hb dX9_go_52 rfl (lv_at hl 0 rfl) ?_
        refine va_get (D := (dC, dI)) (ci := 7) (v := .int (s 0 15)) (C := RX9) (T := TX9) (N := 30) hx hb hts h_in9 hown hK hP 0 rfl rfl 15 (by decide) h_f131 (fun _ h9 => h9) rfl dX9_go_53 ?_
        refine lv_iload_n hx hb dX9_go_56 rfl (lv_at hl 2 rfl) ?_
        refine lv_isub hx hb dX9_go_57 ?_
        exact W.iret (v := ((s 0 15) - v2)) hx hb hr (fun t ht hW => ⟨⟨((s 0 15) - v2), s, rfl, hw, by rw [ht]; exact hP, va_K.moved hW.alike hK, hD⟩, hS.F ht⟩) hS.2.2 dX9_go_58
      · have hw := hw.2 c5
        refine lv_aload_n hx hb dX9_go_26 rfl (lv_at hl 0 rfl) ?_
        refine lv_iconst (v := 0) hx hb dX9_go_27 (by decide) ?_
        have hPc := hP
        have hDc := hD
        have hFc := va_free (wc := (tm_wModel cI cZ a s hh)) hD hS hA [0, 1, 2, 3, 4, 5, 6, 7, 8, 9, 10, 11, 12, 13, 14, 15, 16, 17] rfl
        refine va_callv (va_runV (As := [.int 0]) (rest := []) ⟨hx, hb, hml, hown, hts⟩ (kk_X9_does l dC dI cI cZ a s hh H.size 0 _ hw) (cwV 1 hts gX9_go_X9_does rfl rfl rfl (by decide +kernel) ⟨Nat.le_of_ble_eq_true rfl, Nat.le_of_ble_eq_true rfl⟩) ⟨tm_blind, va_recv hK hPc (ci := 7) (q0 := 0) rfl rfl, fun U hU hW => ⟨rfl, by rw [hU], by rw [hU]; exact hPc, va_K.moved hW.alike hK, hDc.weaken (fun _ _ _ _ => trivial)⟩⟩ rfl rfl hl.1 rfl (lv_room (Nat.le_of_ble_eq_true rfl)) dX9_go_28 ⟨Nat.zero_le _, Nat.zero_le _⟩) hS (fun q _ h => hFc q h) hFc (fun s6 t H1 locs ht hvm hw hB hz1 hk1 hS => ?_)
        obtain ⟨hP1, hK1, hD1⟩ := hB
        rw [ht] at hP1
        obtain ⟨hP, hD⟩ := va_join (wr := []) (w1 := (tm_wModel cI cZ a s6 hh)) hP hD [0, 1, 2, 3, 4, 5, 6, 7, 8, 9, 10, 11, 12, 13, 14, 15, 16, 17] [] rfl rfl (by decide) (by decide) hk1 hFc hP1 hD1
        generalize H1 = H at hP hS ⊢
        have hP : va_P (dC, dI) vwCl (tm_wModel cI cZ a s6 hh) H := hP
        have hD : va_D A (tm_wModel cI cZ a s6 hh) := hD
        refine lv_aload_n hx hb dX9_go_31 rfl (lv_at hl 0 rfl) ?_
        refine lv_iconst (v := 1) hx hb dX9_go_32 (by decide) ?_
        have hPc := hP
        have hDc := hD
        have hFc := va_free (wc := (tm_wModel cI cZ a s6 hh)) hD hS hA [0, 1, 2, 3, 4, 5, 6, 7, 8, 9, 10, 11, 12, 13, 14, 15, 16, 17] rfl
        refine va_callv (va_runV (As := [.int 1]) (rest := []) ⟨hx, hb, hml, hown, hts⟩ (kk_X9_does l dC dI cI cZ a s6 hh H.size 1 _ hw) (cwV 1 hts gX9_go_X9_does rfl rfl rfl (by decide +kernel) ⟨Nat.le_of_ble_eq_true rfl, Nat.le_of_ble_eq_true rfl⟩) ⟨tm_blind, va_recv hK hPc (ci := 7) (q0 := 0) rfl rfl, fun U hU hW => ⟨rfl, by rw [hU], by rw [hU]; exact hPc, va_K.moved hW.alike hK, hDc.weaken (fun _ _ _ _ => trivial)⟩⟩ rfl rfl hl.1 rfl (lv_room (Nat.le_of_ble_eq_true rfl)) dX9_go_33 ⟨Nat.zero_le _, Nat.zero_le _⟩) hS (fun q _ h => hFc q h) hFc (fun s7 t H1 locs ht hvm hw hB hz1 hk1 hS => ?_)
        obtain ⟨hP1, hK1, hD1⟩ := hB
        rw [ht] at hP1
        obtain ⟨hP, hD⟩ := va_join (wr := []) (w1 := (tm_wModel cI cZ a s7 hh)) hP hD [0, 1, 2, 3, 4, 5, 6, 7, 8, 9, 10, 11, 12, 13, 14, 15, 16, 17] [] rfl rfl (by decide) (by decide) hk1 hFc hP1 hD1
        generalize H1 = H at hP hS ⊢
        have hP : va_P (dC, dI) vwCl (tm_wModel cI cZ a s7 hh) H := hP
        have hD : va_D A (tm_wModel cI cZ a s7 hh) := hD
        refine lv_aload_n hx hb dX9_go_36 rfl (lv_at hl 0 rfl) ?_
        refine lv_dup hx hb dX9_go_37 rfl ?_
        refine va_get (D := (dC, dI)) (ci := 7) (v := .int (s7 0 12)) (C := RX9) (T := TX9) (N := 30) hx hb hts h_in9 hown hK hP 0 rfl rfl 12 (by decide) h_f121 (fun _ h9 => h9) rfl dX9_go_38 ?_
        refine lv_iconst (v := 1) hx hb dX9_go_41 (by decide) ?_
        refine lv_iadd hx hb dX9_go_42 ?_
        refine va_put (D := (dC, dI)) (ci := 7) (v := .int ((s7 0 12) + 1)) (ty := .int) (C := RX9) (T := TX9) (N := 30) hx hb hts h_in9 tyX9 tyX9_ok nmX9 hown hK hP hD hS 0 rfl rfl 12 (by decide) h_f121 (fun _ h9 => h9) rfl (by decide +kernel) rfl rfl (Nat.le_of_ble_eq_true rfl) dX9_go_43 (fun H locs hP hD hS => ?_)
        obtain ⟨s8, es8⟩ : ∃ y : tm_St, y = tm_s s7 0 (tm_u (s7 0) 12 ((s7 0 12) + 1)) := ⟨_, rfl⟩
        have hw := hw s8 es8
        have hP : va_P (dC, dI) vwCl (tm_wModel cI cZ a s8 hh) H := by rw [es8]; exact hP
        have hD : va_D A (tm_wModel cI cZ a s8 hh) := by rw [es8]; exact hD
        obtain ⟨x9, ex9⟩ : ∃ y : Int32, y = v3 + 1 := ⟨_, rfl⟩
        have hw := hw x9 ex9
        refine lv_iinc (v := x9) (lv' := [(3, .int x9), (0, .ref (a 0)), (1, .int v1), (2, .int v2)]) hx hb dX9_go_46 hl (k := 3) rfl (by rw [ex9]; rfl) (by decide) rfl (fun ls hl => ?_)
        refine lv_goto (tgt := 21) hx hb dX9_go_49 (by decide) ?_
        exact ih v1 v2 x9 s8 _ _ _ hw hP hD hS (lv_sub hl [1, 2, 3, 0] rfl)
  have hl := lv_entry ([.ref (a 0), .int p0]) (n := 4) (Nat.le_of_ble_eq_true rfl)
  rw [lg_entry_eq]
  generalize (lg_sl ([.ref (a 0), .int p0]) ++ List.replicate (4 - (lg_sl ([.ref (a 0), .int p0])).length) Slot.unset).toArray = ls at hl ⊢
  have hl : lv_has ls 4 [(0, .ref (a 0)), (1, .int p0)] := hl
  unfold wp_X9_go at hw
  refine lv_iload_n hx hb dX9_go_0 rfl (lv_at hl 1 rfl) ?_
  refine lv_iconst (v := 1) hx hb dX9_go_1 (by decide) ?_
  refine lv_bipush (v := 100) hx hb dX9_go_2 (by decide) ?_
  have hPc := hP.sub (ws' := ([] : va_W)) [] rfl
  have hDc := hD.sub (ws' := ([] : va_W)) [] (by decide) rfl
  have hFc := va_free (wc := ([] : va_W)) hD hS hA [] rfl
  refine va_calli (va_runS (As := [.int p0, .int 1, .int 100]) (rest := []) ⟨hx, hb, hml, hown, hts⟩ (kk_X9_within l dC dI cI cZ z.heap.size p0 1 100 _ hw) (va_cwS 3 hts gX9_go_X9_within rfl rfl rfl (by decide +kernel) ⟨Nat.le_of_ble_eq_true rfl, Nat.le_of_ble_eq_true rfl⟩) ⟨tm_blind, fun U hU hW => ⟨rfl, by rw [hU], by rw [hU]; exact hPc, va_K.moved hW.alike hK, hDc.weaken (fun _ _ _ _ => trivial)⟩⟩ rfl rfl hl.1 rfl (lv_room (Nat.le_of_ble_eq_true rfl)) dX9_go_4 ⟨Nat.zero_le _, Nat.zero_le _⟩) hS (fun q _ h => hFc q h) hFc (fun r1 u t H1 locs ht hvm hw hB hz1 hk1 hS => ?_)
  obtain ⟨hP1, hK1, hD1⟩ := hB
  rw [ht] at hP1
  have b9_r1 := hw.1
  have hw := hw.2
  obtain ⟨hP, hD⟩ := va_join (wr := (tm_wModel cI cZ a s0 hh)) (w1 := ([] : va_W)) hP hD [] [0, 1, 2, 3, 4, 5, 6, 7, 8, 9, 10, 11, 12, 13, 14, 15, 16, 17] rfl rfl (by decide) (by decide) hk1 hFc hP1 hD1
  rw [List.append_nil] at hP hD
  generalize H1 = H at hP hS ⊢
  refine lv_if_ne (tgt := 14) hx hb dX9_go_7 (by decide) (fun c3 => ?_) (fun c3 => ?_)
  · have hw := hw.1 c3
    refine lv_aload_n hx hb dX9_go_14 rfl (lv_at hl 0 rfl) ?_
    refine va_get (D := (dC, dI)) (ci := 7) (v := .int (s0 0 15)) (C := RX9) (T := TX9) (N := 30) hx hb hts h_in9 hown hK hP 0 rfl rfl 15 (by decide) h_f131 (fun _ h9 => h9) rfl dX9_go_15 ?_
    refine lv_topi (fun x4 ex4 => ?_)
    have hw := hw x4 ex4
    refine lv_istore_n (lv' := [(2, .int x4), (0, .ref (a 0)), (1, .int p0)]) hx hb dX9_go_18 rfl hl (by decide) rfl (fun ls hl => ?_)
    refine lv_iconst (v := 0) hx hb dX9_go_19 (by decide) ?_
    refine lv_istore_n (lv' := [(3, .int 0), (2, .int x4), (0, .ref (a 0)), (1, .int p0)]) hx hb dX9_go_20 rfl hl (by decide) rfl (fun ls hl => ?_)
    obtain ⟨nf, hw⟩ := hw
    exact b21 nf p0 x4 0 s0 _ _ _ hw hP hD hS (lv_sub hl [2, 3, 1, 0] rfl)
  · have hw := hw.2 c3
    refine lv_sipush (v := (-1002)) hx hb dX9_go_10 (by decide) ?_
    exact W.iret (v := (-1002)) hx hb hr (fun t ht hW => ⟨⟨(-1002), s0, rfl, hw, by rw [ht]; exact hP, va_K.moved hW.alike hK, hD⟩, hS.F ht⟩) hS.2.2 dX9_go_13
def wp_X9_end (p0 : Int32) (p1 : Int32) (s0 : tm_St) (K : Int32 → tm_St → Prop) : Prop := (wp_X9_isEnd p0 (fun r1 => ((¬ r1 = 0 → (wp_X9_within p1 0 15 (fun r4 => ((r4 = 0 → K (-1002) s0) ∧ (¬ r4 = 0 → (wp_X9_of p0 p1 s0 (fun r7 s8 => K r7 s8))))))) ∧ (r1 = 0 → K (-1001) s0))))
set_option maxRecDepth 100000 in
set_option maxHeartbeats 4000000 in
theorem kk_X9_end (l : Launch) (dC : Nat → ClassId) (dI : Nat → Nat → Nat) (cI cZ : ClassId) (a : Nat → Nat) (s0 : tm_St) (hh : Int64) (sz : Nat) (p0 : Int32) (p1 : Int32) (K : Int32 → tm_St → Prop) (hw : wp_X9_end p0 p1 s0 K) : Met l yX9_end wsX9_end ({ frames := 2, cells := 0, slots := 0, locals := 42 }) (va_Pc [.ref (a 0), .int p0, .int p1] (tm_Pre dC dI cI cZ (tm_wModel cI cZ a s0 hh) sz)) (va_Qi (fun (r : Int32) (u : tm_St) => K r u) (fun (u : tm_St) t => tm_At dC dI cI cZ (va_A (tm_wModel cI cZ a s0 hh) sz) (tm_wModel cI cZ a u hh) t) (va_A (tm_wModel cI cZ a s0 hh) sz)) 0 0 (va_A (tm_wModel cI cZ a s0 hh) sz) := by
  refine Met.ofW (cc := cX9_end) (maxL := 3) (ret := (some .int)) (by decide +kernel) rfl ?_
  intro p e z m args below meth c z₁ B hml hv
  obtain ⟨rfl, hsz, hP, hK, hD0⟩ := hv
  have hx := B.exec
  have hb := B.bytes
  have hr := B.returns
  have hts := atoms_spec (ws := wsX9_end) B.pre
  have hown : z.vm.findClass RX9 = some m.cls := findClass_of_methodNamed B.named
  have hlocks := B.notSynchronized
  subst hsz
  have hD := hD0.self (sz := z.heap.size)
  generalize hAe : va_A (tm_wModel cI cZ a s0 hh) z.heap.size = A at hD ⊢
  have hA : ∀ q : Nat, z.heap.size ≤ q → A q := fun q h => by rw [← hAe]; exact Or.inr h
  have hS : va_S A z.heap z.heap [] := va_S.rf
  have hl := lv_entry ([.ref (a 0), .int p0, .int p1]) (n := 3) (Nat.le_of_ble_eq_true rfl)
  rw [lg_entry_eq]
  generalize (lg_sl ([.ref (a 0), .int p0, .int p1]) ++ List.replicate (3 - (lg_sl ([.ref (a 0), .int p0, .int p1])).length) Slot.unset).toArray = ls at hl ⊢
  have hl : lv_has ls 3 [(0, .ref (a 0)), (1, .int p0), (2, .int p1)] := hl
  unfold wp_X9_end at hw
  refine lv_iload_n hx hb dX9_end_0 rfl (lv_at hl 1 rfl) ?_
  have hPc := hP.sub (ws' := ([] : va_W)) [] rfl
  have hDc := hD.sub (ws' := ([] : va_W)) [] (by decide) rfl
  have hFc := va_free (wc := ([] : va_W)) hD hS hA [] rfl
  refine va_calli (va_runS (As := [.int p0]) (rest := []) ⟨hx, hb, hml, hown, hts⟩ (kk_X9_isEnd l dC dI cI cZ z.heap.size p0 _ hw) (va_cwS 1 hts gX9_end_X9_isEnd rfl rfl rfl (by decide +kernel) ⟨Nat.le_of_ble_eq_true rfl, Nat.le_of_ble_eq_true rfl⟩) ⟨tm_blind, fun U hU hW => ⟨rfl, by rw [hU], by rw [hU]; exact hPc, va_K.moved hW.alike hK, hDc.weaken (fun _ _ _ _ => trivial)⟩⟩ rfl rfl hl.1 rfl (lv_room (Nat.le_of_ble_eq_true rfl)) dX9_end_1 ⟨Nat.zero_le _, Nat.zero_le _⟩) hS (fun q _ h => hFc q h) hFc (fun r1 u t H1 locs ht hvm hw hB hz1 hk1 hS => ?_)
  obtain ⟨hP1, hK1, hD1⟩ := hB
  rw [ht] at hP1
  have b9_r1 := hw.1
  have hw := hw.2
  obtain ⟨hP, hD⟩ := va_join (wr := (tm_wModel cI cZ a s0 hh)) (w1 := ([] : va_W)) hP hD [] [0, 1, 2, 3, 4, 5, 6, 7, 8, 9, 10, 11, 12, 13, 14, 15, 16, 17] rfl rfl (by decide) (by decide) hk1 hFc hP1 hD1
  rw [List.append_nil] at hP hD
  generalize H1 = H at hP hS ⊢
  refine lv_if_ne (tgt := 11) hx hb dX9_end_4 (by decide) (fun c3 => ?_) (fun c3 => ?_)
  · have hw := hw.1 c3
    refine lv_iload_n hx hb dX9_end_11 rfl (lv_at hl 2 rfl) ?_
    refine lv_iconst (v := 0) hx hb dX9_end_12 (by decide) ?_
    refine lv_bipush (v := 15) hx hb dX9_end_13 (by decide) ?_
    have hPc := hP.sub (ws' := ([] : va_W)) [] rfl
    have hDc := hD.sub (ws' := ([] : va_W)) [] (by decide) rfl
    have hFc := va_free (wc := ([] : va_W)) hD hS hA [] rfl
    refine va_calli (va_runS (As := [.int p1, .int 0, .int 15]) (rest := []) ⟨hx, hb, hml, hown, hts⟩ (kk_X9_within l dC dI cI cZ H.size p1 0 15 _ hw) (va_cwS 3 hts gX9_end_X9_within rfl rfl rfl (by decide +kernel) ⟨Nat.le_of_ble_eq_true rfl, Nat.le_of_ble_eq_true rfl⟩) ⟨tm_blind, fun U hU hW => ⟨rfl, by rw [hU], by rw [hU]; exact hPc, va_K.moved hW.alike hK, hDc.weaken (fun _ _ _ _ => trivial)⟩⟩ rfl rfl hl.1 rfl (lv_room (Nat.le_of_ble_eq_true rfl)) dX9_end_15 ⟨Nat.zero_le _, Nat.zero_le _⟩) hS (fun q _ h => hFc q h) hFc (fun r4 u t H1 locs ht hvm hw hB hz1 hk1 hS => ?_)
    obtain ⟨hP1, hK1, hD1⟩ := hB
    rw [ht] at hP1
    have b9_r4 := hw.1
    have hw := hw.2
    obtain ⟨hP, hD⟩ := va_join (wr := (tm_wModel cI cZ a s0 hh)) (w1 := ([] : va_W)) hP hD [] [0, 1, 2, 3, 4, 5, 6, 7, 8, 9, 10, 11, 12, 13, 14, 15, 16, 17] rfl rfl (by decide) (by decide) hk1 hFc hP1 hD1
    rw [List.append_nil] at hP hD
    generalize H1 = H at hP hS ⊢
    refine lv_if_eq (tgt := 30) hx hb dX9_end_18 (by decide) (fun c6 => ?_) (fun c6 => ?_)
    · have hw := hw.1 c6
      refine lv_sipush (v := (-1002)) hx hb dX9_end_30 (by decide) ?_
      exact W.iret (v := (-1002)) hx hb hr (fun t ht hW => ⟨⟨(-1002), s0, rfl, hw, by rw [ht]; exact hP, va_K.moved hW.alike hK, hD⟩, hS.F ht⟩) hS.2.2 dX9_end_33
    · have hw := hw.2 c6
      refine lv_aload_n hx hb dX9_end_21 rfl (lv_at hl 0 rfl) ?_
      refine lv_iload_n hx hb dX9_end_22 rfl (lv_at hl 1 rfl) ?_
      refine lv_iload_n hx hb dX9_end_23 rfl (lv_at hl 2 rfl) ?_
      have hPc := hP
      have hDc := hD
      have hFc := va_free (wc := (tm_wModel cI cZ a s0 hh)) hD hS hA [0, 1, 2, 3, 4, 5, 6, 7, 8, 9, 10, 11, 12, 13, 14, 15, 16, 17] rfl
      refine va_calli (va_runV (As := [.int p0, .int p1]) (rest := []) ⟨hx, hb, hml, hown, hts⟩ (kk_X9_of l dC dI cI cZ a s0 hh H.size p0 p1 _ hw) (cwV 2 hts gX9_end_X9_of rfl rfl rfl (by decide +kernel) ⟨Nat.le_of_ble_eq_true rfl, Nat.le_of_ble_eq_true rfl⟩) ⟨tm_blind, va_recv hK hPc (ci := 7) (q0 := 0) rfl rfl, fun U hU hW => ⟨rfl, by rw [hU], by rw [hU]; exact hPc, va_K.moved hW.alike hK, hDc.weaken (fun _ _ _ _ => trivial)⟩⟩ rfl rfl hl.1 rfl (lv_room (Nat.le_of_ble_eq_true rfl)) dX9_end_24 ⟨Nat.zero_le _, Nat.zero_le _⟩) hS (fun q _ h => hFc q h) hFc (fun r7 s8 t H1 locs ht hvm hw hB hz1 hk1 hS => ?_)
      obtain ⟨hP1, hK1, hD1⟩ := hB
      rw [ht] at hP1
      obtain ⟨hP, hD⟩ := va_join (wr := []) (w1 := (tm_wModel cI cZ a s8 hh)) hP hD [0, 1, 2, 3, 4, 5, 6, 7, 8, 9, 10, 11, 12, 13, 14, 15, 16, 17] [] rfl rfl (by decide) (by decide) hk1 hFc hP1 hD1
      generalize H1 = H at hP hS ⊢
      have hP : va_P (dC, dI) vwCl (tm_wModel cI cZ a s8 hh) H := hP
      have hD : va_D A (tm_wModel cI cZ a s8 hh) := hD
      refine lv_goto (tgt := 33) hx hb dX9_end_27 (by decide) ?_
      exact W.iret (v := r7) hx hb hr (fun t ht hW => ⟨⟨r7, s8, rfl, hw, by rw [ht]; exact hP, va_K.moved hW.alike hK, hD⟩, hS.F ht⟩) hS.2.2 dX9_end_33
  · have hw := hw.2 c3
    refine lv_sipush (v := (-1001)) hx hb dX9_end_7 (by decide) ?_
    exact W.iret (v := (-1001)) hx hb hr (fun t ht hW => ⟨⟨(-1001), s0, rfl, hw, by rw [ht]; exact hP, va_K.moved hW.alike hK, hD⟩, hS.F ht⟩) hS.2.2 dX9_end_10
def wp_X9_band (p0 : Int32) (p1 : Int32) (s0 : tm_St) (K : Int32 → tm_St → Prop) : Prop := (wp_X9_isEnd p0 (fun r1 => ((r1 = 0 → K (-1001) s0) ∧ (¬ r1 = 0 → (wp_X9_within p1 0 7 (fun r4 => ((r4 = 0 → K (-1001) s0) ∧ (¬ r4 = 0 → (vp_in ((8 * p0) + p1) 16 ∧ K (s0 2 (((8 * p0) + p1) : Int32).toNatClampNeg) s0)))))))))
set_option maxRecDepth 100000 in
set_option maxHeartbeats 4000000 in
theorem kk_X9_band (l : Launch) (dC : Nat → ClassId) (dI : Nat → Nat → Nat) (cI cZ : ClassId) (a : Nat → Nat) (s0 : tm_St) (hh : Int64) (sz : Nat) (p0 : Int32) (p1 : Int32) (K : Int32 → tm_St → Prop) (hw : wp_X9_band p0 p1 s0 K) : Met l yX9_band wsX9_band ({ frames := 2, cells := 0, slots := 0, locals := 42 }) (va_Pc [.ref (a 0), .int p0, .int p1] (tm_Pre dC dI cI cZ (tm_wModel cI cZ a s0 hh) sz)) (va_Qi (fun (r : Int32) (u : tm_St) => K r u) (fun (u : tm_St) t => tm_At dC dI cI cZ (va_A (tm_wModel cI cZ a s0 hh) sz) (tm_wModel cI cZ a u hh) t) (va_A (tm_wModel cI cZ a s0 hh) sz)) 0 0 (va_A (tm_wModel cI cZ a s0 hh) sz) := by
  refine Met.ofW (cc := cX9_band) (maxL := 3) (ret := (some .int)) (by decide +kernel) rfl ?_
  intro p e z m args below meth c z₁ B hml hv
  obtain ⟨rfl, hsz, hP, hK, hD0⟩ := hv
  have hx := B.exec
  have hb := B.bytes
  have hr := B.returns
  have hts := atoms_spec (ws := wsX9_band) B.pre
  have hown : z.vm.findClass RX9 = some m.cls := findClass_of_methodNamed B.named
  have hlocks := B.notSynchronized
  subst hsz
  have hD := hD0.self (sz := z.heap.size)
  generalize hAe : va_A (tm_wModel cI cZ a s0 hh) z.heap.size = A at hD ⊢
  have hA : ∀ q : Nat, z.heap.size ≤ q → A q := fun q h => by rw [← hAe]; exact Or.inr h
  have hS : va_S A z.heap z.heap [] := va_S.rf
  have h_f13 := hts (.fieldLink RX9 13 "TwoModemsModel" "noted" "[I") (by decide +kernel)
  have h_in9 : ∀ w ∈ u_ws RX9 TX9 30, w ∈ wsX9_band := by decide +kernel
  have hl := lv_entry ([.ref (a 0), .int p0, .int p1]) (n := 3) (Nat.le_of_ble_eq_true rfl)
  rw [lg_entry_eq]
  generalize (lg_sl ([.ref (a 0), .int p0, .int p1]) ++ List.replicate (3 - (lg_sl ([.ref (a 0), .int p0, .int p1])).length) Slot.unset).toArray = ls at hl ⊢
  have hl : lv_has ls 3 [(0, .ref (a 0)), (1, .int p0), (2, .int p1)] := hl
  unfold wp_X9_band at hw
  refine lv_iload_n hx hb dX9_band_0 rfl (lv_at hl 1 rfl) ?_
  have hPc := hP.sub (ws' := ([] : va_W)) [] rfl
  have hDc := hD.sub (ws' := ([] : va_W)) [] (by decide) rfl
  have hFc := va_free (wc := ([] : va_W)) hD hS hA [] rfl
  refine va_calli (va_runS (As := [.int p0]) (rest := []) ⟨hx, hb, hml, hown, hts⟩ (kk_X9_isEnd l dC dI cI cZ z.heap.size p0 _ hw) (va_cwS 1 hts gX9_band_X9_isEnd rfl rfl rfl (by decide +kernel) ⟨Nat.le_of_ble_eq_true rfl, Nat.le_of_ble_eq_true rfl⟩) ⟨tm_blind, fun U hU hW => ⟨rfl, by rw [hU], by rw [hU]; exact hPc, va_K.moved hW.alike hK, hDc.weaken (fun _ _ _ _ => trivial)⟩⟩ rfl rfl hl.1 rfl (lv_room (Nat.le_of_ble_eq_true rfl)) dX9_band_1 ⟨Nat.zero_le _, Nat.zero_le _⟩) hS (fun q _ h => hFc q h) hFc (fun r1 u t H1 locs ht hvm hw hB hz1 hk1 hS => ?_)
  obtain ⟨hP1, hK1, hD1⟩ := hB
  rw [ht] at hP1
  have b9_r1 := hw.1
  have hw := hw.2
  obtain ⟨hP, hD⟩ := va_join (wr := (tm_wModel cI cZ a s0 hh)) (w1 := ([] : va_W)) hP hD [] [0, 1, 2, 3, 4, 5, 6, 7, 8, 9, 10, 11, 12, 13, 14, 15, 16, 17] rfl rfl (by decide) (by decide) hk1 hFc hP1 hD1
  rw [List.append_nil] at hP hD
  generalize H1 = H at hP hS ⊢
  refine lv_if_eq (tgt := 31) hx hb dX9_band_4 (by decide) (fun c3 => ?_) (fun c3 => ?_)
  · have hw := hw.1 c3
    refine lv_sipush (v := (-1001)) hx hb dX9_band_31 (by decide) ?_
    exact W.iret (v := (-1001)) hx hb hr (fun t ht hW => ⟨⟨(-1001), s0, rfl, hw, by rw [ht]; exact hP, va_K.moved hW.alike hK, hD⟩, hS.F ht⟩) hS.2.2 dX9_band_34
  · have hw := hw.2 c3
    refine lv_iload_n hx hb dX9_band_7 rfl (lv_at hl 2 rfl) ?_
    refine lv_iconst (v := 0) hx hb dX9_band_8 (by decide) ?_
    refine lv_bipush (v := 7) hx hb dX9_band_9 (by decide) ?_
    have hPc := hP.sub (ws' := ([] : va_W)) [] rfl
    have hDc := hD.sub (ws' := ([] : va_W)) [] (by decide) rfl
    have hFc := va_free (wc := ([] : va_W)) hD hS hA [] rfl
    refine va_calli (va_runS (As := [.int p1, .int 0, .int 7]) (rest := []) ⟨hx, hb, hml, hown, hts⟩ (kk_X9_within l dC dI cI cZ H.size p1 0 7 _ hw) (va_cwS 3 hts gX9_band_X9_within rfl rfl rfl (by decide +kernel) ⟨Nat.le_of_ble_eq_true rfl, Nat.le_of_ble_eq_true rfl⟩) ⟨tm_blind, fun U hU hW => ⟨rfl, by rw [hU], by rw [hU]; exact hPc, va_K.moved hW.alike hK, hDc.weaken (fun _ _ _ _ => trivial)⟩⟩ rfl rfl hl.1 rfl (lv_room (Nat.le_of_ble_eq_true rfl)) dX9_band_11 ⟨Nat.zero_le _, Nat.zero_le _⟩) hS (fun q _ h => hFc q h) hFc (fun r4 u t H1 locs ht hvm hw hB hz1 hk1 hS => ?_)
    obtain ⟨hP1, hK1, hD1⟩ := hB
    rw [ht] at hP1
    have b9_r4 := hw.1
    have hw := hw.2
    obtain ⟨hP, hD⟩ := va_join (wr := (tm_wModel cI cZ a s0 hh)) (w1 := ([] : va_W)) hP hD [] [0, 1, 2, 3, 4, 5, 6, 7, 8, 9, 10, 11, 12, 13, 14, 15, 16, 17] rfl rfl (by decide) (by decide) hk1 hFc hP1 hD1
    rw [List.append_nil] at hP hD
    generalize H1 = H at hP hS ⊢
    refine lv_if_eq (tgt := 31) hx hb dX9_band_14 (by decide) (fun c6 => ?_) (fun c6 => ?_)
    · have hw := hw.1 c6
      refine lv_sipush (v := (-1001)) hx hb dX9_band_31 (by decide) ?_
      exact W.iret (v := (-1001)) hx hb hr (fun t ht hW => ⟨⟨(-1001), s0, rfl, hw, by rw [ht]; exact hP, va_K.moved hW.alike hK, hD⟩, hS.F ht⟩) hS.2.2 dX9_band_34
    · have hw := hw.2 c6
      refine lv_aload_n hx hb dX9_band_17 rfl (lv_at hl 0 rfl) ?_
      refine va_get (D := (dC, dI)) (ci := 7) (v := .ref (a 2)) (C := RX9) (T := TX9) (N := 30) hx hb hts h_in9 hown hK hP 0 rfl rfl 1 (by decide) h_f13 (fun _ h9 => h9) rfl dX9_band_18 ?_
      refine lv_bipush (v := 8) hx hb dX9_band_21 (by decide) ?_
      refine lv_iload_n hx hb dX9_band_23 rfl (lv_at hl 1 rfl) ?_
      refine lv_imul hx hb dX9_band_24 ?_
      refine lv_iload_n hx hb dX9_band_25 rfl (lv_at hl 2 rfl) ?_
      refine lv_iadd hx hb dX9_band_26 ?_
      have c7 := hw.1
      have hw := hw.2
      refine va_iald hx hb hK hP 2 0 rfl rfl c7 dX9_band_27 ?_
      refine lv_goto (tgt := 34) hx hb dX9_band_28 (by decide) ?_
      exact W.iret (v := (s0 2 (((8 * p0) + p1) : Int32).toNatClampNeg)) hx hb hr (fun t ht hW => ⟨⟨(s0 2 (((8 * p0) + p1) : Int32).toNatClampNeg), s0, rfl, hw, by rw [ht]; exact hP, va_K.moved hW.alike hK, hD⟩, hS.F ht⟩) hS.2.2 dX9_band_34
def wp_X9_learnt (p0 : Int32) (p1 : Int32) (s0 : tm_St) (K : Int32 → tm_St → Prop) : Prop := (wp_X9_isEnd p0 (fun r1 => ((r1 = 0 → K (-1001) s0) ∧ (¬ r1 = 0 → (wp_X9_within p1 0 3 (fun r4 => ((r4 = 0 → K (-1001) s0) ∧ (¬ r4 = 0 → (vp_in ((4 * p0) + p1) 8 ∧ K (s0 3 (((4 * p0) + p1) : Int32).toNatClampNeg) s0)))))))))
set_option maxRecDepth 100000 in
set_option maxHeartbeats 4000000 in
theorem kk_X9_learnt (l : Launch) (dC : Nat → ClassId) (dI : Nat → Nat → Nat) (cI cZ : ClassId) (a : Nat → Nat) (s0 : tm_St) (hh : Int64) (sz : Nat) (p0 : Int32) (p1 : Int32) (K : Int32 → tm_St → Prop) (hw : wp_X9_learnt p0 p1 s0 K) : Met l yX9_learnt wsX9_learnt ({ frames := 2, cells := 0, slots := 0, locals := 42 }) (va_Pc [.ref (a 0), .int p0, .int p1] (tm_Pre dC dI cI cZ (tm_wModel cI cZ a s0 hh) sz)) (va_Qi (fun (r : Int32) (u : tm_St) => K r u) (fun (u : tm_St) t => tm_At dC dI cI cZ (va_A (tm_wModel cI cZ a s0 hh) sz) (tm_wModel cI cZ a u hh) t) (va_A (tm_wModel cI cZ a s0 hh) sz)) 0 0 (va_A (tm_wModel cI cZ a s0 hh) sz) := by
  refine Met.ofW (cc := cX9_learnt) (maxL := 3) (ret := (some .int)) (by decide +kernel) rfl ?_
  intro p e z m args below meth c z₁ B hml hv
  obtain ⟨rfl, hsz, hP, hK, hD0⟩ := hv
  have hx := B.exec
  have hb := B.bytes
  have hr := B.returns
  have hts := atoms_spec (ws := wsX9_learnt) B.pre
  have hown : z.vm.findClass RX9 = some m.cls := findClass_of_methodNamed B.named
  have hlocks := B.notSynchronized
  subst hsz
  have hD := hD0.self (sz := z.heap.size)
  generalize hAe : va_A (tm_wModel cI cZ a s0 hh) z.heap.size = A at hD ⊢
  have hA : ∀ q : Nat, z.heap.size ≤ q → A q := fun q h => by rw [← hAe]; exact Or.inr h
  have hS : va_S A z.heap z.heap [] := va_S.rf
  have h_f16 := hts (.fieldLink RX9 16 "TwoModemsModel" "learnts" "[I") (by decide +kernel)
  have h_in9 : ∀ w ∈ u_ws RX9 TX9 30, w ∈ wsX9_learnt := by decide +kernel
  have hl := lv_entry ([.ref (a 0), .int p0, .int p1]) (n := 3) (Nat.le_of_ble_eq_true rfl)
  rw [lg_entry_eq]
  generalize (lg_sl ([.ref (a 0), .int p0, .int p1]) ++ List.replicate (3 - (lg_sl ([.ref (a 0), .int p0, .int p1])).length) Slot.unset).toArray = ls at hl ⊢
  have hl : lv_has ls 3 [(0, .ref (a 0)), (1, .int p0), (2, .int p1)] := hl
  unfold wp_X9_learnt at hw
  refine lv_iload_n hx hb dX9_learnt_0 rfl (lv_at hl 1 rfl) ?_
  have hPc := hP.sub (ws' := ([] : va_W)) [] rfl
  have hDc := hD.sub (ws' := ([] : va_W)) [] (by decide) rfl
  have hFc := va_free (wc := ([] : va_W)) hD hS hA [] rfl
  refine va_calli (va_runS (As := [.int p0]) (rest := []) ⟨hx, hb, hml, hown, hts⟩ (kk_X9_isEnd l dC dI cI cZ z.heap.size p0 _ hw) (va_cwS 1 hts gX9_learnt_X9_isEnd rfl rfl rfl (by decide +kernel) ⟨Nat.le_of_ble_eq_true rfl, Nat.le_of_ble_eq_true rfl⟩) ⟨tm_blind, fun U hU hW => ⟨rfl, by rw [hU], by rw [hU]; exact hPc, va_K.moved hW.alike hK, hDc.weaken (fun _ _ _ _ => trivial)⟩⟩ rfl rfl hl.1 rfl (lv_room (Nat.le_of_ble_eq_true rfl)) dX9_learnt_1 ⟨Nat.zero_le _, Nat.zero_le _⟩) hS (fun q _ h => hFc q h) hFc (fun r1 u t H1 locs ht hvm hw hB hz1 hk1 hS => ?_)
  obtain ⟨hP1, hK1, hD1⟩ := hB
  rw [ht] at hP1
  have b9_r1 := hw.1
  have hw := hw.2
  obtain ⟨hP, hD⟩ := va_join (wr := (tm_wModel cI cZ a s0 hh)) (w1 := ([] : va_W)) hP hD [] [0, 1, 2, 3, 4, 5, 6, 7, 8, 9, 10, 11, 12, 13, 14, 15, 16, 17] rfl rfl (by decide) (by decide) hk1 hFc hP1 hD1
  rw [List.append_nil] at hP hD
  generalize H1 = H at hP hS ⊢
  refine lv_if_eq (tgt := 29) hx hb dX9_learnt_4 (by decide) (fun c3 => ?_) (fun c3 => ?_)
  · have hw := hw.1 c3
    refine lv_sipush (v := (-1001)) hx hb dX9_learnt_29 (by decide) ?_
    exact W.iret (v := (-1001)) hx hb hr (fun t ht hW => ⟨⟨(-1001), s0, rfl, hw, by rw [ht]; exact hP, va_K.moved hW.alike hK, hD⟩, hS.F ht⟩) hS.2.2 dX9_learnt_32
  · have hw := hw.2 c3
    refine lv_iload_n hx hb dX9_learnt_7 rfl (lv_at hl 2 rfl) ?_
    refine lv_iconst (v := 0) hx hb dX9_learnt_8 (by decide) ?_
    refine lv_iconst (v := 3) hx hb dX9_learnt_9 (by decide) ?_
    have hPc := hP.sub (ws' := ([] : va_W)) [] rfl
    have hDc := hD.sub (ws' := ([] : va_W)) [] (by decide) rfl
    have hFc := va_free (wc := ([] : va_W)) hD hS hA [] rfl
    refine va_calli (va_runS (As := [.int p1, .int 0, .int 3]) (rest := []) ⟨hx, hb, hml, hown, hts⟩ (kk_X9_within l dC dI cI cZ H.size p1 0 3 _ hw) (va_cwS 3 hts gX9_learnt_X9_within rfl rfl rfl (by decide +kernel) ⟨Nat.le_of_ble_eq_true rfl, Nat.le_of_ble_eq_true rfl⟩) ⟨tm_blind, fun U hU hW => ⟨rfl, by rw [hU], by rw [hU]; exact hPc, va_K.moved hW.alike hK, hDc.weaken (fun _ _ _ _ => trivial)⟩⟩ rfl rfl hl.1 rfl (lv_room (Nat.le_of_ble_eq_true rfl)) dX9_learnt_10 ⟨Nat.zero_le _, Nat.zero_le _⟩) hS (fun q _ h => hFc q h) hFc (fun r4 u t H1 locs ht hvm hw hB hz1 hk1 hS => ?_)
    obtain ⟨hP1, hK1, hD1⟩ := hB
    rw [ht] at hP1
    have b9_r4 := hw.1
    have hw := hw.2
    obtain ⟨hP, hD⟩ := va_join (wr := (tm_wModel cI cZ a s0 hh)) (w1 := ([] : va_W)) hP hD [] [0, 1, 2, 3, 4, 5, 6, 7, 8, 9, 10, 11, 12, 13, 14, 15, 16, 17] rfl rfl (by decide) (by decide) hk1 hFc hP1 hD1
    rw [List.append_nil] at hP hD
    generalize H1 = H at hP hS ⊢
    refine lv_if_eq (tgt := 29) hx hb dX9_learnt_13 (by decide) (fun c6 => ?_) (fun c6 => ?_)
    · have hw := hw.1 c6
      refine lv_sipush (v := (-1001)) hx hb dX9_learnt_29 (by decide) ?_
      exact W.iret (v := (-1001)) hx hb hr (fun t ht hW => ⟨⟨(-1001), s0, rfl, hw, by rw [ht]; exact hP, va_K.moved hW.alike hK, hD⟩, hS.F ht⟩) hS.2.2 dX9_learnt_32
    · have hw := hw.2 c6
      refine lv_aload_n hx hb dX9_learnt_16 rfl (lv_at hl 0 rfl) ?_
      refine va_get (D := (dC, dI)) (ci := 7) (v := .ref (a 3)) (C := RX9) (T := TX9) (N := 30) hx hb hts h_in9 hown hK hP 0 rfl rfl 2 (by decide) h_f16 (fun _ h9 => h9) rfl dX9_learnt_17 ?_
      refine lv_iconst (v := 4) hx hb dX9_learnt_20 (by decide) ?_
      refine lv_iload_n hx hb dX9_learnt_21 rfl (lv_at hl 1 rfl) ?_
      refine lv_imul hx hb dX9_learnt_22 ?_
      refine lv_iload_n hx hb dX9_learnt_23 rfl (lv_at hl 2 rfl) ?_
      refine lv_iadd hx hb dX9_learnt_24 ?_
      have c7 := hw.1
      have hw := hw.2
      refine va_iald hx hb hK hP 3 0 rfl rfl c7 dX9_learnt_25 ?_
      refine lv_goto (tgt := 32) hx hb dX9_learnt_26 (by decide) ?_
      exact W.iret (v := (s0 3 (((4 * p0) + p1) : Int32).toNatClampNeg)) hx hb hr (fun t ht hW => ⟨⟨(s0 3 (((4 * p0) + p1) : Int32).toNatClampNeg), s0, rfl, hw, by rw [ht]; exact hP, va_K.moved hW.alike hK, hD⟩, hS.F ht⟩) hS.2.2 dX9_learnt_32
def wp_X9_got (p0 : Int32) (p1 : Int32) (s0 : tm_St) (K : Int32 → tm_St → Prop) : Prop := (wp_X9_isEnd p0 (fun r1 => ((r1 = 0 → K (-1001) s0) ∧ (¬ r1 = 0 → (wp_X9_of p0 9 s0 (fun r4 s5 => (wp_X9_within p1 0 (r4 - 1) (fun r6 => ((r6 = 0 → K (-1001) s5) ∧ (¬ r6 = 0 → (vp_in ((200 * p0) + p1) 400 ∧ K (s5 6 (((200 * p0) + p1) : Int32).toNatClampNeg) s5)))))))))))
set_option maxRecDepth 100000 in
set_option maxHeartbeats 4000000 in
theorem kk_X9_got (l : Launch) (dC : Nat → ClassId) (dI : Nat → Nat → Nat) (cI cZ : ClassId) (a : Nat → Nat) (s0 : tm_St) (hh : Int64) (sz : Nat) (p0 : Int32) (p1 : Int32) (K : Int32 → tm_St → Prop) (hw : wp_X9_got p0 p1 s0 K) : Met l yX9_got wsX9_got ({ frames := 2, cells := 0, slots := 0, locals := 42 }) (va_Pc [.ref (a 0), .int p0, .int p1] (tm_Pre dC dI cI cZ (tm_wModel cI cZ a s0 hh) sz)) (va_Qi (fun (r : Int32) (u : tm_St) => K r u) (fun (u : tm_St) t => tm_At dC dI cI cZ (va_A (tm_wModel cI cZ a s0 hh) sz) (tm_wModel cI cZ a u hh) t) (va_A (tm_wModel cI cZ a s0 hh) sz)) 0 0 (va_A (tm_wModel cI cZ a s0 hh) sz) := by
  refine Met.ofW (cc := cX9_got) (maxL := 3) (ret := (some .int)) (by decide +kernel) rfl ?_
  intro p e z m args below meth c z₁ B hml hv
  obtain ⟨rfl, hsz, hP, hK, hD0⟩ := hv
  have hx := B.exec
  have hb := B.bytes
  have hr := B.returns
  have hts := atoms_spec (ws := wsX9_got) B.pre
  have hown : z.vm.findClass RX9 = some m.cls := findClass_of_methodNamed B.named
  have hlocks := B.notSynchronized
  subst hsz
  have hD := hD0.self (sz := z.heap.size)
  generalize hAe : va_A (tm_wModel cI cZ a s0 hh) z.heap.size = A at hD ⊢
  have hA : ∀ q : Nat, z.heap.size ≤ q → A q := fun q h => by rw [← hAe]; exact Or.inr h
  have hS : va_S A z.heap z.heap [] := va_S.rf
  have h_f25 := hts (.fieldLink RX9 25 "TwoModemsModel" "gotten" "[I") (by decide +kernel)
  have h_in9 : ∀ w ∈ u_ws RX9 TX9 30, w ∈ wsX9_got := by decide +kernel
  have hl := lv_entry ([.ref (a 0), .int p0, .int p1]) (n := 3) (Nat.le_of_ble_eq_true rfl)
  rw [lg_entry_eq]
  generalize (lg_sl ([.ref (a 0), .int p0, .int p1]) ++ List.replicate (3 - (lg_sl ([.ref (a 0), .int p0, .int p1])).length) Slot.unset).toArray = ls at hl ⊢
  have hl : lv_has ls 3 [(0, .ref (a 0)), (1, .int p0), (2, .int p1)] := hl
  unfold wp_X9_got at hw
  refine lv_iload_n hx hb dX9_got_0 rfl (lv_at hl 1 rfl) ?_
  have hPc := hP.sub (ws' := ([] : va_W)) [] rfl
  have hDc := hD.sub (ws' := ([] : va_W)) [] (by decide) rfl
  have hFc := va_free (wc := ([] : va_W)) hD hS hA [] rfl
  refine va_calli (va_runS (As := [.int p0]) (rest := []) ⟨hx, hb, hml, hown, hts⟩ (kk_X9_isEnd l dC dI cI cZ z.heap.size p0 _ hw) (va_cwS 1 hts gX9_got_X9_isEnd rfl rfl rfl (by decide +kernel) ⟨Nat.le_of_ble_eq_true rfl, Nat.le_of_ble_eq_true rfl⟩) ⟨tm_blind, fun U hU hW => ⟨rfl, by rw [hU], by rw [hU]; exact hPc, va_K.moved hW.alike hK, hDc.weaken (fun _ _ _ _ => trivial)⟩⟩ rfl rfl hl.1 rfl (lv_room (Nat.le_of_ble_eq_true rfl)) dX9_got_1 ⟨Nat.zero_le _, Nat.zero_le _⟩) hS (fun q _ h => hFc q h) hFc (fun r1 u t H1 locs ht hvm hw hB hz1 hk1 hS => ?_)
  obtain ⟨hP1, hK1, hD1⟩ := hB
  rw [ht] at hP1
  have b9_r1 := hw.1
  have hw := hw.2
  obtain ⟨hP, hD⟩ := va_join (wr := (tm_wModel cI cZ a s0 hh)) (w1 := ([] : va_W)) hP hD [] [0, 1, 2, 3, 4, 5, 6, 7, 8, 9, 10, 11, 12, 13, 14, 15, 16, 17] rfl rfl (by decide) (by decide) hk1 hFc hP1 hD1
  rw [List.append_nil] at hP hD
  generalize H1 = H at hP hS ⊢
  refine lv_if_eq (tgt := 39) hx hb dX9_got_4 (by decide) (fun c3 => ?_) (fun c3 => ?_)
  · have hw := hw.1 c3
    refine lv_sipush (v := (-1001)) hx hb dX9_got_39 (by decide) ?_
    exact W.iret (v := (-1001)) hx hb hr (fun t ht hW => ⟨⟨(-1001), s0, rfl, hw, by rw [ht]; exact hP, va_K.moved hW.alike hK, hD⟩, hS.F ht⟩) hS.2.2 dX9_got_42
  · have hw := hw.2 c3
    refine lv_iload_n hx hb dX9_got_7 rfl (lv_at hl 2 rfl) ?_
    refine lv_iconst (v := 0) hx hb dX9_got_8 (by decide) ?_
    refine lv_aload_n hx hb dX9_got_9 rfl (lv_at hl 0 rfl) ?_
    refine lv_iload_n hx hb dX9_got_10 rfl (lv_at hl 1 rfl) ?_
    refine lv_bipush (v := 9) hx hb dX9_got_11 (by decide) ?_
    have hPc := hP
    have hDc := hD
    have hFc := va_free (wc := (tm_wModel cI cZ a s0 hh)) hD hS hA [0, 1, 2, 3, 4, 5, 6, 7, 8, 9, 10, 11, 12, 13, 14, 15, 16, 17] rfl
    refine va_calli (va_runV (As := [.int p0, .int 9]) (rest := [.int 0, .int p1]) ⟨hx, hb, hml, hown, hts⟩ (kk_X9_of l dC dI cI cZ a s0 hh H.size p0 9 _ hw) (cwV 2 hts gX9_got_X9_of rfl rfl rfl (by decide +kernel) ⟨Nat.le_of_ble_eq_true rfl, Nat.le_of_ble_eq_true rfl⟩) ⟨tm_blind, va_recv hK hPc (ci := 7) (q0 := 0) rfl rfl, fun U hU hW => ⟨rfl, by rw [hU], by rw [hU]; exact hPc, va_K.moved hW.alike hK, hDc.weaken (fun _ _ _ _ => trivial)⟩⟩ rfl rfl hl.1 rfl (lv_room (Nat.le_of_ble_eq_true rfl)) dX9_got_13 ⟨Nat.zero_le _, Nat.zero_le _⟩) hS (fun q _ h => hFc q h) hFc (fun r4 s5 t H1 locs ht hvm hw hB hz1 hk1 hS => ?_)
    obtain ⟨hP1, hK1, hD1⟩ := hB
    rw [ht] at hP1
    obtain ⟨hP, hD⟩ := va_join (wr := []) (w1 := (tm_wModel cI cZ a s5 hh)) hP hD [0, 1, 2, 3, 4, 5, 6, 7, 8, 9, 10, 11, 12, 13, 14, 15, 16, 17] [] rfl rfl (by decide) (by decide) hk1 hFc hP1 hD1
    generalize H1 = H at hP hS ⊢
    have hP : va_P (dC, dI) vwCl (tm_wModel cI cZ a s5 hh) H := hP
    have hD : va_D A (tm_wModel cI cZ a s5 hh) := hD
    refine lv_iconst (v := 1) hx hb dX9_got_16 (by decide) ?_
    refine lv_isub hx hb dX9_got_17 ?_
    have hPc := hP.sub (ws' := ([] : va_W)) [] rfl
    have hDc := hD.sub (ws' := ([] : va_W)) [] (by decide) rfl
    have hFc := va_free (wc := ([] : va_W)) hD hS hA [] rfl
    refine va_calli (va_runS (As := [.int p1, .int 0, .int (r4 - 1)]) (rest := []) ⟨hx, hb, hml, hown, hts⟩ (kk_X9_within l dC dI cI cZ H.size p1 0 (r4 - 1) _ hw) (va_cwS 3 hts gX9_got_X9_within rfl rfl rfl (by decide +kernel) ⟨Nat.le_of_ble_eq_true rfl, Nat.le_of_ble_eq_true rfl⟩) ⟨tm_blind, fun U hU hW => ⟨rfl, by rw [hU], by rw [hU]; exact hPc, va_K.moved hW.alike hK, hDc.weaken (fun _ _ _ _ => trivial)⟩⟩ rfl rfl hl.1 rfl (lv_room (Nat.le_of_ble_eq_true rfl)) dX9_got_18 ⟨Nat.zero_le _, Nat.zero_le _⟩) hS (fun q _ h => hFc q h) hFc (fun r6 u t H1 locs ht hvm hw hB hz1 hk1 hS => ?_)
    obtain ⟨hP1, hK1, hD1⟩ := hB
    rw [ht] at hP1
    have b9_r6 := hw.1
    have hw := hw.2
    obtain ⟨hP, hD⟩ := va_join (wr := (tm_wModel cI cZ a s5 hh)) (w1 := ([] : va_W)) hP hD [] [0, 1, 2, 3, 4, 5, 6, 7, 8, 9, 10, 11, 12, 13, 14, 15, 16, 17] rfl rfl (by decide) (by decide) hk1 hFc hP1 hD1
    rw [List.append_nil] at hP hD
    generalize H1 = H at hP hS ⊢
    refine lv_if_eq (tgt := 39) hx hb dX9_got_21 (by decide) (fun c8 => ?_) (fun c8 => ?_)
    · have hw := hw.1 c8
      refine lv_sipush (v := (-1001)) hx hb dX9_got_39 (by decide) ?_
      exact W.iret (v := (-1001)) hx hb hr (fun t ht hW => ⟨⟨(-1001), s5, rfl, hw, by rw [ht]; exact hP, va_K.moved hW.alike hK, hD⟩, hS.F ht⟩) hS.2.2 dX9_got_42
    · have hw := hw.2 c8
      refine lv_aload_n hx hb dX9_got_24 rfl (lv_at hl 0 rfl) ?_
      refine va_get (D := (dC, dI)) (ci := 7) (v := .ref (a 6)) (C := RX9) (T := TX9) (N := 30) hx hb hts h_in9 hown hK hP 0 rfl rfl 5 (by decide) h_f25 (fun _ h9 => h9) rfl dX9_got_25 ?_
      refine lv_sipush (v := 200) hx hb dX9_got_28 (by decide) ?_
      refine lv_iload_n hx hb dX9_got_31 rfl (lv_at hl 1 rfl) ?_
      refine lv_imul hx hb dX9_got_32 ?_
      refine lv_iload_n hx hb dX9_got_33 rfl (lv_at hl 2 rfl) ?_
      refine lv_iadd hx hb dX9_got_34 ?_
      have c9 := hw.1
      have hw := hw.2
      refine va_iald hx hb hK hP 6 0 rfl rfl c9 dX9_got_35 ?_
      refine lv_goto (tgt := 42) hx hb dX9_got_36 (by decide) ?_
      exact W.iret (v := (s5 6 (((200 * p0) + p1) : Int32).toNatClampNeg)) hx hb hr (fun t ht hW => ⟨⟨(s5 6 (((200 * p0) + p1) : Int32).toNatClampNeg), s5, rfl, hw, by rw [ht]; exact hP, va_K.moved hW.alike hK, hD⟩, hS.F ht⟩) hS.2.2 dX9_got_42
def wp_X9_heard (p0 : Int32) (p1 : Int32) (s0 : tm_St) (K : Int32 → tm_St → Prop) : Prop := (wp_X9_isEnd p0 (fun r1 => ((¬ r1 = 0 → (wp_X9_within p1 0 4 (fun r4 => ((r4 = 0 → K (-1002) s0) ∧ (¬ r4 = 0 → (vp_in ((5 * p0) + p1) 10 ∧ K (s0 7 (((5 * p0) + p1) : Int32).toNatClampNeg) s0)))))) ∧ (r1 = 0 → K (-1001) s0))))
set_option maxRecDepth 100000 in
set_option maxHeartbeats 4000000 in
theorem kk_X9_heard (l : Launch) (dC : Nat → ClassId) (dI : Nat → Nat → Nat) (cI cZ : ClassId) (a : Nat → Nat) (s0 : tm_St) (hh : Int64) (sz : Nat) (p0 : Int32) (p1 : Int32) (K : Int32 → tm_St → Prop) (hw : wp_X9_heard p0 p1 s0 K) : Met l yX9_heard wsX9_heard ({ frames := 2, cells := 0, slots := 0, locals := 42 }) (va_Pc [.ref (a 0), .int p0, .int p1] (tm_Pre dC dI cI cZ (tm_wModel cI cZ a s0 hh) sz)) (va_Qi (fun (r : Int32) (u : tm_St) => K r u) (fun (u : tm_St) t => tm_At dC dI cI cZ (va_A (tm_wModel cI cZ a s0 hh) sz) (tm_wModel cI cZ a u hh) t) (va_A (tm_wModel cI cZ a s0 hh) sz)) 0 0 (va_A (tm_wModel cI cZ a s0 hh) sz) := by
  refine Met.ofW (cc := cX9_heard) (maxL := 3) (ret := (some .int)) (by decide +kernel) rfl ?_
  intro p e z m args below meth c z₁ B hml hv
  obtain ⟨rfl, hsz, hP, hK, hD0⟩ := hv
  have hx := B.exec
  have hb := B.bytes
  have hr := B.returns
  have hts := atoms_spec (ws := wsX9_heard) B.pre
  have hown : z.vm.findClass RX9 = some m.cls := findClass_of_methodNamed B.named
  have hlocks := B.notSynchronized
  subst hsz
  have hD := hD0.self (sz := z.heap.size)
  generalize hAe : va_A (tm_wModel cI cZ a s0 hh) z.heap.size = A at hD ⊢
  have hA : ∀ q : Nat, z.heap.size ≤ q → A q := fun q h => by rw [← hAe]; exact Or.inr h
  have hS : va_S A z.heap z.heap [] := va_S.rf
  have h_f28 := hts (.fieldLink RX9 28 "TwoModemsModel" "hears" "[I") (by decide +kernel)
  have h_in9 : ∀ w ∈ u_ws RX9 TX9 30, w ∈ wsX9_heard := by decide +kernel
  have hl := lv_entry ([.ref (a 0), .int p0, .int p1]) (n := 3) (Nat.le_of_ble_eq_true rfl)
  rw [lg_entry_eq]
  generalize (lg_sl ([.ref (a 0), .int p0, .int p1]) ++ List.replicate (3 - (lg_sl ([.ref (a 0), .int p0, .int p1])).length) Slot.unset).toArray = ls at hl ⊢
  have hl : lv_has ls 3 [(0, .ref (a 0)), (1, .int p0), (2, .int p1)] := hl
  unfold wp_X9_heard at hw
  refine lv_iload_n hx hb dX9_heard_0 rfl (lv_at hl 1 rfl) ?_
  have hPc := hP.sub (ws' := ([] : va_W)) [] rfl
  have hDc := hD.sub (ws' := ([] : va_W)) [] (by decide) rfl
  have hFc := va_free (wc := ([] : va_W)) hD hS hA [] rfl
  refine va_calli (va_runS (As := [.int p0]) (rest := []) ⟨hx, hb, hml, hown, hts⟩ (kk_X9_isEnd l dC dI cI cZ z.heap.size p0 _ hw) (va_cwS 1 hts gX9_heard_X9_isEnd rfl rfl rfl (by decide +kernel) ⟨Nat.le_of_ble_eq_true rfl, Nat.le_of_ble_eq_true rfl⟩) ⟨tm_blind, fun U hU hW => ⟨rfl, by rw [hU], by rw [hU]; exact hPc, va_K.moved hW.alike hK, hDc.weaken (fun _ _ _ _ => trivial)⟩⟩ rfl rfl hl.1 rfl (lv_room (Nat.le_of_ble_eq_true rfl)) dX9_heard_1 ⟨Nat.zero_le _, Nat.zero_le _⟩) hS (fun q _ h => hFc q h) hFc (fun r1 u t H1 locs ht hvm hw hB hz1 hk1 hS => ?_)
  obtain ⟨hP1, hK1, hD1⟩ := hB
  rw [ht] at hP1
  have b9_r1 := hw.1
  have hw := hw.2
  obtain ⟨hP, hD⟩ := va_join (wr := (tm_wModel cI cZ a s0 hh)) (w1 := ([] : va_W)) hP hD [] [0, 1, 2, 3, 4, 5, 6, 7, 8, 9, 10, 11, 12, 13, 14, 15, 16, 17] rfl rfl (by decide) (by decide) hk1 hFc hP1 hD1
  rw [List.append_nil] at hP hD
  generalize H1 = H at hP hS ⊢
  refine lv_if_ne (tgt := 11) hx hb dX9_heard_4 (by decide) (fun c3 => ?_) (fun c3 => ?_)
  · have hw := hw.1 c3
    refine lv_iload_n hx hb dX9_heard_11 rfl (lv_at hl 2 rfl) ?_
    refine lv_iconst (v := 0) hx hb dX9_heard_12 (by decide) ?_
    refine lv_iconst (v := 4) hx hb dX9_heard_13 (by decide) ?_
    have hPc := hP.sub (ws' := ([] : va_W)) [] rfl
    have hDc := hD.sub (ws' := ([] : va_W)) [] (by decide) rfl
    have hFc := va_free (wc := ([] : va_W)) hD hS hA [] rfl
    refine va_calli (va_runS (As := [.int p1, .int 0, .int 4]) (rest := []) ⟨hx, hb, hml, hown, hts⟩ (kk_X9_within l dC dI cI cZ H.size p1 0 4 _ hw) (va_cwS 3 hts gX9_heard_X9_within rfl rfl rfl (by decide +kernel) ⟨Nat.le_of_ble_eq_true rfl, Nat.le_of_ble_eq_true rfl⟩) ⟨tm_blind, fun U hU hW => ⟨rfl, by rw [hU], by rw [hU]; exact hPc, va_K.moved hW.alike hK, hDc.weaken (fun _ _ _ _ => trivial)⟩⟩ rfl rfl hl.1 rfl (lv_room (Nat.le_of_ble_eq_true rfl)) dX9_heard_14 ⟨Nat.zero_le _, Nat.zero_le _⟩) hS (fun q _ h => hFc q h) hFc (fun r4 u t H1 locs ht hvm hw hB hz1 hk1 hS => ?_)
    obtain ⟨hP1, hK1, hD1⟩ := hB
    rw [ht] at hP1
    have b9_r4 := hw.1
    have hw := hw.2
    obtain ⟨hP, hD⟩ := va_join (wr := (tm_wModel cI cZ a s0 hh)) (w1 := ([] : va_W)) hP hD [] [0, 1, 2, 3, 4, 5, 6, 7, 8, 9, 10, 11, 12, 13, 14, 15, 16, 17] rfl rfl (by decide) (by decide) hk1 hFc hP1 hD1
    rw [List.append_nil] at hP hD
    generalize H1 = H at hP hS ⊢
    refine lv_if_eq (tgt := 33) hx hb dX9_heard_17 (by decide) (fun c6 => ?_) (fun c6 => ?_)
    · have hw := hw.1 c6
      refine lv_sipush (v := (-1002)) hx hb dX9_heard_33 (by decide) ?_
      exact W.iret (v := (-1002)) hx hb hr (fun t ht hW => ⟨⟨(-1002), s0, rfl, hw, by rw [ht]; exact hP, va_K.moved hW.alike hK, hD⟩, hS.F ht⟩) hS.2.2 dX9_heard_36
    · have hw := hw.2 c6
      refine lv_aload_n hx hb dX9_heard_20 rfl (lv_at hl 0 rfl) ?_
      refine va_get (D := (dC, dI)) (ci := 7) (v := .ref (a 7)) (C := RX9) (T := TX9) (N := 30) hx hb hts h_in9 hown hK hP 0 rfl rfl 6 (by decide) h_f28 (fun _ h9 => h9) rfl dX9_heard_21 ?_
      refine lv_iconst (v := 5) hx hb dX9_heard_24 (by decide) ?_
      refine lv_iload_n hx hb dX9_heard_25 rfl (lv_at hl 1 rfl) ?_
      refine lv_imul hx hb dX9_heard_26 ?_
      refine lv_iload_n hx hb dX9_heard_27 rfl (lv_at hl 2 rfl) ?_
      refine lv_iadd hx hb dX9_heard_28 ?_
      have c7 := hw.1
      have hw := hw.2
      refine va_iald hx hb hK hP 7 0 rfl rfl c7 dX9_heard_29 ?_
      refine lv_goto (tgt := 36) hx hb dX9_heard_30 (by decide) ?_
      exact W.iret (v := (s0 7 (((5 * p0) + p1) : Int32).toNatClampNeg)) hx hb hr (fun t ht hW => ⟨⟨(s0 7 (((5 * p0) + p1) : Int32).toNatClampNeg), s0, rfl, hw, by rw [ht]; exact hP, va_K.moved hW.alike hK, hD⟩, hS.F ht⟩) hS.2.2 dX9_heard_36
  · have hw := hw.2 c3
    refine lv_sipush (v := (-1001)) hx hb dX9_heard_7 (by decide) ?_
    exact W.iret (v := (-1001)) hx hb hr (fun t ht hW => ⟨⟨(-1001), s0, rfl, hw, by rw [ht]; exact hP, va_K.moved hW.alike hK, hD⟩, hS.F ht⟩) hS.2.2 dX9_heard_10
def wp_X9_onWay_4 (K : Int32 → tm_St → Prop) : Nat → Int32 → Int32 → tm_St → Prop
  | 0, _, _, _ => False
  | n + 1, v1, v2, s => (((32 : Int32) ≤ v2 → K v1 s) ∧ (¬ (32 : Int32) ≤ v2 → (vp_in (8 * v2) 256 ∧ (∀ x3 : Int32, x3 = (v1 + (s 10 ((8 * v2) : Int32).toNatClampNeg)) → (∀ x4 : Int32, x4 = v2 + 1 → wp_X9_onWay_4 K n x3 x4 s)))))
def wp_X9_onWay  (s0 : tm_St) (K : Int32 → tm_St → Prop) : Prop := ∃ nf : Nat, wp_X9_onWay_4 K nf 0 0 s0
set_option maxRecDepth 100000 in
set_option maxHeartbeats 4000000 in
theorem kk_X9_onWay (l : Launch) (dC : Nat → ClassId) (dI : Nat → Nat → Nat) (cI cZ : ClassId) (a : Nat → Nat) (s0 : tm_St) (hh : Int64) (sz : Nat)  (K : Int32 → tm_St → Prop) (hw : wp_X9_onWay s0 K) : Met l yX9_onWay wsX9_onWay ({ frames := 0, cells := 0, slots := 0, locals := 0 }) (va_Pc [.ref (a 0)] (tm_Pre dC dI cI cZ (tm_wModel cI cZ a s0 hh) sz)) (va_Qi (fun (r : Int32) (u : tm_St) => K r u) (fun (u : tm_St) t => tm_At dC dI cI cZ (va_A (tm_wModel cI cZ a s0 hh) sz) (tm_wModel cI cZ a u hh) t) (va_A (tm_wModel cI cZ a s0 hh) sz)) 0 0 (va_A (tm_wModel cI cZ a s0 hh) sz) := by
  refine Met.ofW (cc := cX9_onWay) (maxL := 3) (ret := (some .int)) (by decide +kernel) rfl ?_
  intro p e z m args below meth c z₁ B hml hv
  obtain ⟨rfl, hsz, hP, hK, hD0⟩ := hv
  have hx := B.exec
  have hb := B.bytes
  have hr := B.returns
  have hts := atoms_spec (ws := wsX9_onWay) B.pre
  have hown : z.vm.findClass RX9 = some m.cls := findClass_of_methodNamed B.named
  have hlocks := B.notSynchronized
  subst hsz
  have hD := hD0.self (sz := z.heap.size)
  generalize hAe : va_A (tm_wModel cI cZ a s0 hh) z.heap.size = A at hD ⊢
  have hA : ∀ q : Nat, z.heap.size ≤ q → A q := fun q h => by rw [← hAe]; exact Or.inr h
  have hS : va_S A z.heap z.heap [] := va_S.rf
  have h_f41 := hts (.fieldLink RX9 41 "TwoModemsModel" "comes" "[I") (by decide +kernel)
  have h_in9 : ∀ w ∈ u_ws RX9 TX9 30, w ∈ wsX9_onWay := by decide +kernel
  have b4 : ∀ (n : Nat) (v1 : Int32) (v2 : Int32) (s : tm_St) (H : Heap) (locs : List Loc) (ls : Array Slot), wp_X9_onWay_4 K n v1 v2 s → va_P (dC, dI) vwCl (tm_wModel cI cZ a s hh) H → va_D A (tm_wModel cI cZ a s hh) → va_S A z.heap H locs → lv_has ls 3 [(0, .ref (a 0)), (1, .int v1), (2, .int v2)] → W p l e (headSpec wsX9_onWay ({ frames := 0, cells := 0, slots := 0, locals := 0 })).room z m (([.ref (a 0)] : List Value).toArray) below meth c H locs 0 0 (MQ below (va_Qi (fun (r : Int32) (u : tm_St) => K r u) (fun (u : tm_St) t => tm_At dC dI cI cZ A (tm_wModel cI cZ a u hh) t) A) (([.ref (a 0)] : List Value).toArray) z 0 0 A) (F0 m 4 ls []) := by
    intro n
    induction n with
    | zero => intro v1 v2 s H locs ls hw hP hD hS hl; unfold wp_X9_onWay_4 at hw; exact hw.elim
    | succ n ih =>
      intro v1 v2 s H locs ls hw hP hD hS hl
      unfold wp_X9_onWay_4 at hw
      refine lv_iload_n hx hb dX9_onWay_4 rfl (lv_at hl 2 rfl) ?_
      refine lv_bipush (v := 32) hx hb dX9_onWay_5 (by decide) ?_
      refine lv_icmp_ge (tgt := 28) hx hb dX9_onWay_7 (by decide) (fun c1 => ?_) (fun c1 => ?_)
      · have hw := hw.1 c1
        refine lv_iload_n hx hb dX9_onWay_28 rfl (lv_at hl 1 rfl) ?_
        exact W.iret (v := v1) hx hb hr (fun t ht hW => ⟨⟨v1, s, rfl, hw, by rw [ht]; exact hP, va_K.moved hW.alike hK, hD⟩, hS.F ht⟩) hS.2.2 dX9_onWay_29
      · have hw := hw.2 c1
        refine lv_iload_n hx hb dX9_onWay_10 rfl (lv_at hl 1 rfl) ?_
        refine lv_aload_n hx hb dX9_onWay_11 rfl (lv_at hl 0 rfl) ?_
        refine va_get (D := (dC, dI)) (ci := 7) (v := .ref (a 10)) (C := RX9) (T := TX9) (N := 30) hx hb hts h_in9 hown hK hP 0 rfl rfl 10 (by decide) h_f41 (fun _ h9 => h9) rfl dX9_onWay_12 ?_
        refine lv_bipush (v := 8) hx hb dX9_onWay_15 (by decide) ?_
        refine lv_iload_n hx hb dX9_onWay_17 rfl (lv_at hl 2 rfl) ?_
        refine lv_imul hx hb dX9_onWay_18 ?_
        have c2 := hw.1
        have hw := hw.2
        refine va_iald hx hb hK hP 10 0 rfl rfl c2 dX9_onWay_19 ?_
        refine lv_iadd hx hb dX9_onWay_20 ?_
        refine lv_topi (fun x3 ex3 => ?_)
        have hw := hw x3 ex3
        refine lv_istore_n (lv' := [(1, .int x3), (0, .ref (a 0)), (2, .int v2)]) hx hb dX9_onWay_21 rfl hl (by decide) rfl (fun ls hl => ?_)
        obtain ⟨x4, ex4⟩ : ∃ y : Int32, y = v2 + 1 := ⟨_, rfl⟩
        have hw := hw x4 ex4
        refine lv_iinc (v := x4) (lv' := [(2, .int x4), (1, .int x3), (0, .ref (a 0))]) hx hb dX9_onWay_22 hl (k := 2) rfl (by rw [ex4]; rfl) (by decide) rfl (fun ls hl => ?_)
        refine lv_goto (tgt := 4) hx hb dX9_onWay_25 (by decide) ?_
        exact ih x3 x4 s _ _ _ hw hP hD hS (lv_sub hl [2, 1, 0] rfl)
  have hl := lv_entry ([.ref (a 0)]) (n := 3) (Nat.le_of_ble_eq_true rfl)
  rw [lg_entry_eq]
  generalize (lg_sl ([.ref (a 0)]) ++ List.replicate (3 - (lg_sl ([.ref (a 0)])).length) Slot.unset).toArray = ls at hl ⊢
  have hl : lv_has ls 3 [(0, .ref (a 0))] := hl
  unfold wp_X9_onWay at hw
  refine lv_iconst (v := 0) hx hb dX9_onWay_0 (by decide) ?_
  refine lv_istore_n (lv' := [(1, .int 0), (0, .ref (a 0))]) hx hb dX9_onWay_1 rfl hl (by decide) rfl (fun ls hl => ?_)
  refine lv_iconst (v := 0) hx hb dX9_onWay_2 (by decide) ?_
  refine lv_istore_n (lv' := [(2, .int 0), (1, .int 0), (0, .ref (a 0))]) hx hb dX9_onWay_3 rfl hl (by decide) rfl (fun ls hl => ?_)
  obtain ⟨nf, hw⟩ := hw
  exact b4 nf 0 0 s0 _ _ _ hw hP hD hS (lv_sub hl [2, 1, 0] rfl)
def wp_X9_aboutNow (p0 : Int32) (s0 : tm_St) (K : Int32 → tm_St → Prop) : Prop := ((p0 = 0 → K (s0 0 8) s0) ∧ (¬ p0 = 0 → ((p0 = 1 → (vp_in 0 2 ∧ K (s0 9 (0 : Int32).toNatClampNeg) s0)) ∧ (¬ p0 = 1 → ((p0 = 2 → (vp_in 1 2 ∧ K (s0 9 (1 : Int32).toNatClampNeg) s0)) ∧ (¬ p0 = 2 → ((p0 = 3 → (wp_X9_onWay  s0 (fun r7 s8 => K r7 s8))) ∧ (¬ p0 = 3 → (((20 : Int32) ≤ p0 → (vp_in (p0 - 12) 16 ∧ K (s0 8 ((p0 - 12) : Int32).toNatClampNeg) s0)) ∧ (¬ (20 : Int32) ≤ p0 → (vp_in (p0 - 10) 16 ∧ K (s0 8 ((p0 - 10) : Int32).toNatClampNeg) s0)))))))))))
set_option maxRecDepth 100000 in
set_option maxHeartbeats 4000000 in
theorem kk_X9_aboutNow (l : Launch) (dC : Nat → ClassId) (dI : Nat → Nat → Nat) (cI cZ : ClassId) (a : Nat → Nat) (s0 : tm_St) (hh : Int64) (sz : Nat) (p0 : Int32) (K : Int32 → tm_St → Prop) (hw : wp_X9_aboutNow p0 s0 K) : Met l yX9_aboutNow wsX9_aboutNow ({ frames := 1, cells := 0, slots := 0, locals := 22 }) (va_Pc [.ref (a 0), .int p0] (tm_Pre dC dI cI cZ (tm_wModel cI cZ a s0 hh) sz)) (va_Qi (fun (r : Int32) (u : tm_St) => K r u) (fun (u : tm_St) t => tm_At dC dI cI cZ (va_A (tm_wModel cI cZ a s0 hh) sz) (tm_wModel cI cZ a u hh) t) (va_A (tm_wModel cI cZ a s0 hh) sz)) 0 0 (va_A (tm_wModel cI cZ a s0 hh) sz) := by
  refine Met.ofW (cc := cX9_aboutNow) (maxL := 2) (ret := (some .int)) (by decide +kernel) rfl ?_
  intro p e z m args below meth c z₁ B hml hv
  obtain ⟨rfl, hsz, hP, hK, hD0⟩ := hv
  have hx := B.exec
  have hb := B.bytes
  have hr := B.returns
  have hts := atoms_spec (ws := wsX9_aboutNow) B.pre
  have hown : z.vm.findClass RX9 = some m.cls := findClass_of_methodNamed B.named
  have hlocks := B.notSynchronized
  subst hsz
  have hD := hD0.self (sz := z.heap.size)
  generalize hAe : va_A (tm_wModel cI cZ a s0 hh) z.heap.size = A at hD ⊢
  have hA : ∀ q : Nat, z.heap.size ≤ q → A q := fun q h => by rw [← hAe]; exact Or.inr h
  have hS : va_S A z.heap z.heap [] := va_S.rf
  have h_f34 := hts (.fieldLink RX9 34 "TwoModemsModel" "delay" "I") (by decide +kernel)
  have h_in9 : ∀ w ∈ u_ws RX9 TX9 30, w ∈ wsX9_aboutNow := by decide +kernel
  have h_f38 := hts (.fieldLink RX9 38 "TwoModemsModel" "hurts" "[I") (by decide +kernel)
  have h_f31 := hts (.fieldLink RX9 31 "TwoModemsModel" "quality" "[I") (by decide +kernel)
  have hl := lv_entry ([.ref (a 0), .int p0]) (n := 2) (Nat.le_of_ble_eq_true rfl)
  rw [lg_entry_eq]
  generalize (lg_sl ([.ref (a 0), .int p0]) ++ List.replicate (2 - (lg_sl ([.ref (a 0), .int p0])).length) Slot.unset).toArray = ls at hl ⊢
  have hl : lv_has ls 2 [(0, .ref (a 0)), (1, .int p0)] := hl
  unfold wp_X9_aboutNow at hw
  refine lv_iload_n hx hb dX9_aboutNow_0 rfl (lv_at hl 1 rfl) ?_
  refine (Classical.em (p0 = 0)).elim (fun c1 => ?_) (fun c1 => ?_)
  · have hw := hw.1 c1
    refine lv_tableIn (tgt := 32) hx hb dX9_aboutNow_1 (by rw [c1]; decide) (by rw [c1]; decide) (by rw [c1]; rfl) (by decide) ?_
    refine lv_aload_n hx hb dX9_aboutNow_32 rfl (lv_at hl 0 rfl) ?_
    refine va_get (D := (dC, dI)) (ci := 7) (v := .int (s0 0 8)) (C := RX9) (T := TX9) (N := 30) hx hb hts h_in9 hown hK hP 0 rfl rfl 8 (by decide) h_f34 (fun _ h9 => h9) rfl dX9_aboutNow_33 ?_
    exact W.iret (v := (s0 0 8)) hx hb hr (fun t ht hW => ⟨⟨(s0 0 8), s0, rfl, hw, by rw [ht]; exact hP, va_K.moved hW.alike hK, hD⟩, hS.F ht⟩) hS.2.2 dX9_aboutNow_36
  have hw := hw.2 c1
  refine (Classical.em (p0 = 1)).elim (fun c2 => ?_) (fun c2 => ?_)
  · have hw := hw.1 c2
    refine lv_tableIn (tgt := 37) hx hb dX9_aboutNow_1 (by rw [c2]; decide) (by rw [c2]; decide) (by rw [c2]; rfl) (by decide) ?_
    refine lv_aload_n hx hb dX9_aboutNow_37 rfl (lv_at hl 0 rfl) ?_
    refine va_get (D := (dC, dI)) (ci := 7) (v := .ref (a 9)) (C := RX9) (T := TX9) (N := 30) hx hb hts h_in9 hown hK hP 0 rfl rfl 9 (by decide) h_f38 (fun _ h9 => h9) rfl dX9_aboutNow_38 ?_
    refine lv_iconst (v := 0) hx hb dX9_aboutNow_41 (by decide) ?_
    have c3 := hw.1
    have hw := hw.2
    refine va_iald hx hb hK hP 9 0 rfl rfl c3 dX9_aboutNow_42 ?_
    exact W.iret (v := (s0 9 (0 : Int32).toNatClampNeg)) hx hb hr (fun t ht hW => ⟨⟨(s0 9 (0 : Int32).toNatClampNeg), s0, rfl, hw, by rw [ht]; exact hP, va_K.moved hW.alike hK, hD⟩, hS.F ht⟩) hS.2.2 dX9_aboutNow_43
  have hw := hw.2 c2
  refine (Classical.em (p0 = 2)).elim (fun c4 => ?_) (fun c4 => ?_)
  · have hw := hw.1 c4
    refine lv_tableIn (tgt := 44) hx hb dX9_aboutNow_1 (by rw [c4]; decide) (by rw [c4]; decide) (by rw [c4]; rfl) (by decide) ?_
    refine lv_aload_n hx hb dX9_aboutNow_44 rfl (lv_at hl 0 rfl) ?_
    refine va_get (D := (dC, dI)) (ci := 7) (v := .ref (a 9)) (C := RX9) (T := TX9) (N := 30) hx hb hts h_in9 hown hK hP 0 rfl rfl 9 (by decide) h_f38 (fun _ h9 => h9) rfl dX9_aboutNow_45 ?_
    refine lv_iconst (v := 1) hx hb dX9_aboutNow_48 (by decide) ?_
    have c5 := hw.1
    have hw := hw.2
    refine va_iald hx hb hK hP 9 0 rfl rfl c5 dX9_aboutNow_49 ?_
    exact W.iret (v := (s0 9 (1 : Int32).toNatClampNeg)) hx hb hr (fun t ht hW => ⟨⟨(s0 9 (1 : Int32).toNatClampNeg), s0, rfl, hw, by rw [ht]; exact hP, va_K.moved hW.alike hK, hD⟩, hS.F ht⟩) hS.2.2 dX9_aboutNow_50
  have hw := hw.2 c4
  refine (Classical.em (p0 = 3)).elim (fun c6 => ?_) (fun c6 => ?_)
  · have hw := hw.1 c6
    refine lv_tableIn (tgt := 51) hx hb dX9_aboutNow_1 (by rw [c6]; decide) (by rw [c6]; decide) (by rw [c6]; rfl) (by decide) ?_
    refine lv_aload_n hx hb dX9_aboutNow_51 rfl (lv_at hl 0 rfl) ?_
    have hPc := hP
    have hDc := hD
    have hFc := va_free (wc := (tm_wModel cI cZ a s0 hh)) hD hS hA [0, 1, 2, 3, 4, 5, 6, 7, 8, 9, 10, 11, 12, 13, 14, 15, 16, 17] rfl
    refine va_calli (va_runV (As := []) (rest := []) ⟨hx, hb, hml, hown, hts⟩ (kk_X9_onWay l dC dI cI cZ a s0 hh z.heap.size  _ hw) (cwV 0 hts gX9_aboutNow_X9_onWay rfl rfl rfl (by decide +kernel) ⟨Nat.le_of_ble_eq_true rfl, Nat.le_of_ble_eq_true rfl⟩) ⟨tm_blind, va_recv hK hPc (ci := 7) (q0 := 0) rfl rfl, fun U hU hW => ⟨rfl, by rw [hU], by rw [hU]; exact hPc, va_K.moved hW.alike hK, hDc.weaken (fun _ _ _ _ => trivial)⟩⟩ rfl rfl hl.1 rfl (lv_room (Nat.le_of_ble_eq_true rfl)) dX9_aboutNow_52 ⟨Nat.zero_le _, Nat.zero_le _⟩) hS (fun q _ h => hFc q h) hFc (fun r7 s8 t H1 locs ht hvm hw hB hz1 hk1 hS => ?_)
    obtain ⟨hP1, hK1, hD1⟩ := hB
    rw [ht] at hP1
    obtain ⟨hP, hD⟩ := va_join (wr := []) (w1 := (tm_wModel cI cZ a s8 hh)) hP hD [0, 1, 2, 3, 4, 5, 6, 7, 8, 9, 10, 11, 12, 13, 14, 15, 16, 17] [] rfl rfl (by decide) (by decide) hk1 hFc hP1 hD1
    generalize H1 = H at hP hS ⊢
    have hP : va_P (dC, dI) vwCl (tm_wModel cI cZ a s8 hh) H := hP
    have hD : va_D A (tm_wModel cI cZ a s8 hh) := hD
    exact W.iret (v := r7) hx hb hr (fun t ht hW => ⟨⟨r7, s8, rfl, hw, by rw [ht]; exact hP, va_K.moved hW.alike hK, hD⟩, hS.F ht⟩) hS.2.2 dX9_aboutNow_55
  have hw := hw.2 c6
  have nc1 := lv_neT (a := 0) c1 rfl
  have nc2 := lv_neT (a := 1) c2 rfl
  have nc4 := lv_neT (a := 2) c4 rfl
  have nc6 := lv_neT (a := 3) c6 rfl
  refine lv_tableOut (tgt := 56) hx hb dX9_aboutNow_1 (by omega) (by decide) ?_
  refine lv_aload_n hx hb dX9_aboutNow_56 rfl (lv_at hl 0 rfl) ?_
  refine va_get (D := (dC, dI)) (ci := 7) (v := .ref (a 8)) (C := RX9) (T := TX9) (N := 30) hx hb hts h_in9 hown hK hP 0 rfl rfl 7 (by decide) h_f31 (fun _ h9 => h9) rfl dX9_aboutNow_57 ?_
  refine lv_iload_n hx hb dX9_aboutNow_60 rfl (lv_at hl 1 rfl) ?_
  refine lv_bipush (v := 20) hx hb dX9_aboutNow_61 (by decide) ?_
  refine lv_icmp_ge (tgt := 73) hx hb dX9_aboutNow_63 (by decide) (fun c9 => ?_) (fun c9 => ?_)
  · have hw := hw.1 c9
    refine lv_iload_n hx hb dX9_aboutNow_73 rfl (lv_at hl 1 rfl) ?_
    refine lv_bipush (v := 12) hx hb dX9_aboutNow_74 (by decide) ?_
    refine lv_isub hx hb dX9_aboutNow_76 ?_
    have c10 := hw.1
    have hw := hw.2
    refine va_iald hx hb hK hP 8 0 rfl rfl c10 dX9_aboutNow_77 ?_
    exact W.iret (v := (s0 8 ((p0 - 12) : Int32).toNatClampNeg)) hx hb hr (fun t ht hW => ⟨⟨(s0 8 ((p0 - 12) : Int32).toNatClampNeg), s0, rfl, hw, by rw [ht]; exact hP, va_K.moved hW.alike hK, hD⟩, hS.F ht⟩) hS.2.2 dX9_aboutNow_78
  · have hw := hw.2 c9
    refine lv_iload_n hx hb dX9_aboutNow_66 rfl (lv_at hl 1 rfl) ?_
    refine lv_bipush (v := 10) hx hb dX9_aboutNow_67 (by decide) ?_
    refine lv_isub hx hb dX9_aboutNow_69 ?_
    refine lv_goto (tgt := 77) hx hb dX9_aboutNow_70 (by decide) ?_
    have c11 := hw.1
    have hw := hw.2
    refine va_iald hx hb hK hP 8 0 rfl rfl c11 dX9_aboutNow_77 ?_
    exact W.iret (v := (s0 8 ((p0 - 10) : Int32).toNatClampNeg)) hx hb hr (fun t ht hW => ⟨⟨(s0 8 ((p0 - 10) : Int32).toNatClampNeg), s0, rfl, hw, by rw [ht]; exact hP, va_K.moved hW.alike hK, hD⟩, hS.F ht⟩) hS.2.2 dX9_aboutNow_78
def wp_X9_about (p0 : Int32) (s0 : tm_St) (K : Int32 → tm_St → Prop) : Prop := (wp_X9_within p0 0 3 (fun r1 => ((¬ r1 = 0 → (wp_X9_aboutNow p0 s0 (fun r4 s5 => K r4 s5))) ∧ (r1 = 0 → (wp_X9_within p0 10 17 (fun r6 => ((¬ r6 = 0 → (wp_X9_aboutNow p0 s0 (fun r9 s10 => K r9 s10))) ∧ (r6 = 0 → (wp_X9_within p0 20 27 (fun r11 => ((r11 = 0 → K (-1002) s0) ∧ (¬ r11 = 0 → (wp_X9_aboutNow p0 s0 (fun r14 s15 => K r14 s15))))))))))))))
set_option maxRecDepth 100000 in
set_option maxHeartbeats 4000000 in
theorem kk_X9_about (l : Launch) (dC : Nat → ClassId) (dI : Nat → Nat → Nat) (cI cZ : ClassId) (a : Nat → Nat) (s0 : tm_St) (hh : Int64) (sz : Nat) (p0 : Int32) (K : Int32 → tm_St → Prop) (hw : wp_X9_about p0 s0 K) : Met l yX9_about wsX9_about ({ frames := 2, cells := 0, slots := 0, locals := 43 }) (va_Pc [.ref (a 0), .int p0] (tm_Pre dC dI cI cZ (tm_wModel cI cZ a s0 hh) sz)) (va_Qi (fun (r : Int32) (u : tm_St) => K r u) (fun (u : tm_St) t => tm_At dC dI cI cZ (va_A (tm_wModel cI cZ a s0 hh) sz) (tm_wModel cI cZ a u hh) t) (va_A (tm_wModel cI cZ a s0 hh) sz)) 0 0 (va_A (tm_wModel cI cZ a s0 hh) sz) := by
  refine Met.ofW (cc := cX9_about) (maxL := 2) (ret := (some .int)) (by decide +kernel) rfl ?_
  intro p e z m args below meth c z₁ B hml hv
  obtain ⟨rfl, hsz, hP, hK, hD0⟩ := hv
  have hx := B.exec
  have hb := B.bytes
  have hr := B.returns
  have hts := atoms_spec (ws := wsX9_about) B.pre
  have hown : z.vm.findClass RX9 = some m.cls := findClass_of_methodNamed B.named
  have hlocks := B.notSynchronized
  subst hsz
  have hD := hD0.self (sz := z.heap.size)
  generalize hAe : va_A (tm_wModel cI cZ a s0 hh) z.heap.size = A at hD ⊢
  have hA : ∀ q : Nat, z.heap.size ≤ q → A q := fun q h => by rw [← hAe]; exact Or.inr h
  have hS : va_S A z.heap z.heap [] := va_S.rf
  have hl := lv_entry ([.ref (a 0), .int p0]) (n := 2) (Nat.le_of_ble_eq_true rfl)
  rw [lg_entry_eq]
  generalize (lg_sl ([.ref (a 0), .int p0]) ++ List.replicate (2 - (lg_sl ([.ref (a 0), .int p0])).length) Slot.unset).toArray = ls at hl ⊢
  have hl : lv_has ls 2 [(0, .ref (a 0)), (1, .int p0)] := hl
  unfold wp_X9_about at hw
  refine lv_iload_n hx hb dX9_about_0 rfl (lv_at hl 1 rfl) ?_
  refine lv_iconst (v := 0) hx hb dX9_about_1 (by decide) ?_
  refine lv_iconst (v := 3) hx hb dX9_about_2 (by decide) ?_
  have hPc := hP.sub (ws' := ([] : va_W)) [] rfl
  have hDc := hD.sub (ws' := ([] : va_W)) [] (by decide) rfl
  have hFc := va_free (wc := ([] : va_W)) hD hS hA [] rfl
  refine va_calli (va_runS (As := [.int p0, .int 0, .int 3]) (rest := []) ⟨hx, hb, hml, hown, hts⟩ (kk_X9_within l dC dI cI cZ z.heap.size p0 0 3 _ hw) (va_cwS 3 hts gX9_about_X9_within rfl rfl rfl (by decide +kernel) ⟨Nat.le_of_ble_eq_true rfl, Nat.le_of_ble_eq_true rfl⟩) ⟨tm_blind, fun U hU hW => ⟨rfl, by rw [hU], by rw [hU]; exact hPc, va_K.moved hW.alike hK, hDc.weaken (fun _ _ _ _ => trivial)⟩⟩ rfl rfl hl.1 rfl (lv_room (Nat.le_of_ble_eq_true rfl)) dX9_about_3 ⟨Nat.zero_le _, Nat.zero_le _⟩) hS (fun q _ h => hFc q h) hFc (fun r1 u t H1 locs ht hvm hw hB hz1 hk1 hS => ?_)
  obtain ⟨hP1, hK1, hD1⟩ := hB
  rw [ht] at hP1
  have b9_r1 := hw.1
  have hw := hw.2
  obtain ⟨hP, hD⟩ := va_join (wr := (tm_wModel cI cZ a s0 hh)) (w1 := ([] : va_W)) hP hD [] [0, 1, 2, 3, 4, 5, 6, 7, 8, 9, 10, 11, 12, 13, 14, 15, 16, 17] rfl rfl (by decide) (by decide) hk1 hFc hP1 hD1
  rw [List.append_nil] at hP hD
  generalize H1 = H at hP hS ⊢
  refine lv_if_ne (tgt := 31) hx hb dX9_about_6 (by decide) (fun c3 => ?_) (fun c3 => ?_)
  · have hw := hw.1 c3
    refine lv_aload_n hx hb dX9_about_31 rfl (lv_at hl 0 rfl) ?_
    refine lv_iload_n hx hb dX9_about_32 rfl (lv_at hl 1 rfl) ?_
    have hPc := hP
    have hDc := hD
    have hFc := va_free (wc := (tm_wModel cI cZ a s0 hh)) hD hS hA [0, 1, 2, 3, 4, 5, 6, 7, 8, 9, 10, 11, 12, 13, 14, 15, 16, 17] rfl
    refine va_calli (va_runV (As := [.int p0]) (rest := []) ⟨hx, hb, hml, hown, hts⟩ (kk_X9_aboutNow l dC dI cI cZ a s0 hh H.size p0 _ hw) (cwV 1 hts gX9_about_X9_aboutNow rfl rfl rfl (by decide +kernel) ⟨Nat.le_of_ble_eq_true rfl, Nat.le_of_ble_eq_true rfl⟩) ⟨tm_blind, va_recv hK hPc (ci := 7) (q0 := 0) rfl rfl, fun U hU hW => ⟨rfl, by rw [hU], by rw [hU]; exact hPc, va_K.moved hW.alike hK, hDc.weaken (fun _ _ _ _ => trivial)⟩⟩ rfl rfl hl.1 rfl (lv_room (Nat.le_of_ble_eq_true rfl)) dX9_about_33 ⟨Nat.zero_le _, Nat.zero_le _⟩) hS (fun q _ h => hFc q h) hFc (fun r4 s5 t H1 locs ht hvm hw hB hz1 hk1 hS => ?_)
    obtain ⟨hP1, hK1, hD1⟩ := hB
    rw [ht] at hP1
    obtain ⟨hP, hD⟩ := va_join (wr := []) (w1 := (tm_wModel cI cZ a s5 hh)) hP hD [0, 1, 2, 3, 4, 5, 6, 7, 8, 9, 10, 11, 12, 13, 14, 15, 16, 17] [] rfl rfl (by decide) (by decide) hk1 hFc hP1 hD1
    generalize H1 = H at hP hS ⊢
    have hP : va_P (dC, dI) vwCl (tm_wModel cI cZ a s5 hh) H := hP
    have hD : va_D A (tm_wModel cI cZ a s5 hh) := hD
    refine lv_goto (tgt := 42) hx hb dX9_about_36 (by decide) ?_
    exact W.iret (v := r4) hx hb hr (fun t ht hW => ⟨⟨r4, s5, rfl, hw, by rw [ht]; exact hP, va_K.moved hW.alike hK, hD⟩, hS.F ht⟩) hS.2.2 dX9_about_42
  · have hw := hw.2 c3
    refine lv_iload_n hx hb dX9_about_9 rfl (lv_at hl 1 rfl) ?_
    refine lv_bipush (v := 10) hx hb dX9_about_10 (by decide) ?_
    refine lv_bipush (v := 17) hx hb dX9_about_12 (by decide) ?_
    have hPc := hP.sub (ws' := ([] : va_W)) [] rfl
    have hDc := hD.sub (ws' := ([] : va_W)) [] (by decide) rfl
    have hFc := va_free (wc := ([] : va_W)) hD hS hA [] rfl
    refine va_calli (va_runS (As := [.int p0, .int 10, .int 17]) (rest := []) ⟨hx, hb, hml, hown, hts⟩ (kk_X9_within l dC dI cI cZ H.size p0 10 17 _ hw) (va_cwS 3 hts gX9_about_X9_within rfl rfl rfl (by decide +kernel) ⟨Nat.le_of_ble_eq_true rfl, Nat.le_of_ble_eq_true rfl⟩) ⟨tm_blind, fun U hU hW => ⟨rfl, by rw [hU], by rw [hU]; exact hPc, va_K.moved hW.alike hK, hDc.weaken (fun _ _ _ _ => trivial)⟩⟩ rfl rfl hl.1 rfl (lv_room (Nat.le_of_ble_eq_true rfl)) dX9_about_14 ⟨Nat.zero_le _, Nat.zero_le _⟩) hS (fun q _ h => hFc q h) hFc (fun r6 u t H1 locs ht hvm hw hB hz1 hk1 hS => ?_)
    obtain ⟨hP1, hK1, hD1⟩ := hB
    rw [ht] at hP1
    have b9_r6 := hw.1
    have hw := hw.2
    obtain ⟨hP, hD⟩ := va_join (wr := (tm_wModel cI cZ a s0 hh)) (w1 := ([] : va_W)) hP hD [] [0, 1, 2, 3, 4, 5, 6, 7, 8, 9, 10, 11, 12, 13, 14, 15, 16, 17] rfl rfl (by decide) (by decide) hk1 hFc hP1 hD1
    rw [List.append_nil] at hP hD
    generalize H1 = H at hP hS ⊢
    refine lv_if_ne (tgt := 31) hx hb dX9_about_17 (by decide) (fun c8 => ?_) (fun c8 => ?_)
    · have hw := hw.1 c8
      refine lv_aload_n hx hb dX9_about_31 rfl (lv_at hl 0 rfl) ?_
      refine lv_iload_n hx hb dX9_about_32 rfl (lv_at hl 1 rfl) ?_
      have hPc := hP
      have hDc := hD
      have hFc := va_free (wc := (tm_wModel cI cZ a s0 hh)) hD hS hA [0, 1, 2, 3, 4, 5, 6, 7, 8, 9, 10, 11, 12, 13, 14, 15, 16, 17] rfl
      refine va_calli (va_runV (As := [.int p0]) (rest := []) ⟨hx, hb, hml, hown, hts⟩ (kk_X9_aboutNow l dC dI cI cZ a s0 hh H.size p0 _ hw) (cwV 1 hts gX9_about_X9_aboutNow rfl rfl rfl (by decide +kernel) ⟨Nat.le_of_ble_eq_true rfl, Nat.le_of_ble_eq_true rfl⟩) ⟨tm_blind, va_recv hK hPc (ci := 7) (q0 := 0) rfl rfl, fun U hU hW => ⟨rfl, by rw [hU], by rw [hU]; exact hPc, va_K.moved hW.alike hK, hDc.weaken (fun _ _ _ _ => trivial)⟩⟩ rfl rfl hl.1 rfl (lv_room (Nat.le_of_ble_eq_true rfl)) dX9_about_33 ⟨Nat.zero_le _, Nat.zero_le _⟩) hS (fun q _ h => hFc q h) hFc (fun r9 s10 t H1 locs ht hvm hw hB hz1 hk1 hS => ?_)
      obtain ⟨hP1, hK1, hD1⟩ := hB
      rw [ht] at hP1
      obtain ⟨hP, hD⟩ := va_join (wr := []) (w1 := (tm_wModel cI cZ a s10 hh)) hP hD [0, 1, 2, 3, 4, 5, 6, 7, 8, 9, 10, 11, 12, 13, 14, 15, 16, 17] [] rfl rfl (by decide) (by decide) hk1 hFc hP1 hD1
      generalize H1 = H at hP hS ⊢
      have hP : va_P (dC, dI) vwCl (tm_wModel cI cZ a s10 hh) H := hP
      have hD : va_D A (tm_wModel cI cZ a s10 hh) := hD
      refine lv_goto (tgt := 42) hx hb dX9_about_36 (by decide) ?_
      exact W.iret (v := r9) hx hb hr (fun t ht hW => ⟨⟨r9, s10, rfl, hw, by rw [ht]; exact hP, va_K.moved hW.alike hK, hD⟩, hS.F ht⟩) hS.2.2 dX9_about_42
    · have hw := hw.2 c8
      refine lv_iload_n hx hb dX9_about_20 rfl (lv_at hl 1 rfl) ?_
      refine lv_bipush (v := 20) hx hb dX9_about_21 (by decide) ?_
      refine lv_bipush (v := 27) hx hb dX9_about_23 (by decide) ?_
      have hPc := hP.sub (ws' := ([] : va_W)) [] rfl
      have hDc := hD.sub (ws' := ([] : va_W)) [] (by decide) rfl
      have hFc := va_free (wc := ([] : va_W)) hD hS hA [] rfl
      refine va_calli (va_runS (As := [.int p0, .int 20, .int 27]) (rest := []) ⟨hx, hb, hml, hown, hts⟩ (kk_X9_within l dC dI cI cZ H.size p0 20 27 _ hw) (va_cwS 3 hts gX9_about_X9_within rfl rfl rfl (by decide +kernel) ⟨Nat.le_of_ble_eq_true rfl, Nat.le_of_ble_eq_true rfl⟩) ⟨tm_blind, fun U hU hW => ⟨rfl, by rw [hU], by rw [hU]; exact hPc, va_K.moved hW.alike hK, hDc.weaken (fun _ _ _ _ => trivial)⟩⟩ rfl rfl hl.1 rfl (lv_room (Nat.le_of_ble_eq_true rfl)) dX9_about_25 ⟨Nat.zero_le _, Nat.zero_le _⟩) hS (fun q _ h => hFc q h) hFc (fun r11 u t H1 locs ht hvm hw hB hz1 hk1 hS => ?_)
      obtain ⟨hP1, hK1, hD1⟩ := hB
      rw [ht] at hP1
      have b9_r11 := hw.1
      have hw := hw.2
      obtain ⟨hP, hD⟩ := va_join (wr := (tm_wModel cI cZ a s0 hh)) (w1 := ([] : va_W)) hP hD [] [0, 1, 2, 3, 4, 5, 6, 7, 8, 9, 10, 11, 12, 13, 14, 15, 16, 17] rfl rfl (by decide) (by decide) hk1 hFc hP1 hD1
      rw [List.append_nil] at hP hD
      generalize H1 = H at hP hS ⊢
      refine lv_if_eq (tgt := 39) hx hb dX9_about_28 (by decide) (fun c13 => ?_) (fun c13 => ?_)
      · have hw := hw.1 c13
        refine lv_sipush (v := (-1002)) hx hb dX9_about_39 (by decide) ?_
        exact W.iret (v := (-1002)) hx hb hr (fun t ht hW => ⟨⟨(-1002), s0, rfl, hw, by rw [ht]; exact hP, va_K.moved hW.alike hK, hD⟩, hS.F ht⟩) hS.2.2 dX9_about_42
      · have hw := hw.2 c13
        refine lv_aload_n hx hb dX9_about_31 rfl (lv_at hl 0 rfl) ?_
        refine lv_iload_n hx hb dX9_about_32 rfl (lv_at hl 1 rfl) ?_
        have hPc := hP
        have hDc := hD
        have hFc := va_free (wc := (tm_wModel cI cZ a s0 hh)) hD hS hA [0, 1, 2, 3, 4, 5, 6, 7, 8, 9, 10, 11, 12, 13, 14, 15, 16, 17] rfl
        refine va_calli (va_runV (As := [.int p0]) (rest := []) ⟨hx, hb, hml, hown, hts⟩ (kk_X9_aboutNow l dC dI cI cZ a s0 hh H.size p0 _ hw) (cwV 1 hts gX9_about_X9_aboutNow rfl rfl rfl (by decide +kernel) ⟨Nat.le_of_ble_eq_true rfl, Nat.le_of_ble_eq_true rfl⟩) ⟨tm_blind, va_recv hK hPc (ci := 7) (q0 := 0) rfl rfl, fun U hU hW => ⟨rfl, by rw [hU], by rw [hU]; exact hPc, va_K.moved hW.alike hK, hDc.weaken (fun _ _ _ _ => trivial)⟩⟩ rfl rfl hl.1 rfl (lv_room (Nat.le_of_ble_eq_true rfl)) dX9_about_33 ⟨Nat.zero_le _, Nat.zero_le _⟩) hS (fun q _ h => hFc q h) hFc (fun r14 s15 t H1 locs ht hvm hw hB hz1 hk1 hS => ?_)
        obtain ⟨hP1, hK1, hD1⟩ := hB
        rw [ht] at hP1
        obtain ⟨hP, hD⟩ := va_join (wr := []) (w1 := (tm_wModel cI cZ a s15 hh)) hP hD [0, 1, 2, 3, 4, 5, 6, 7, 8, 9, 10, 11, 12, 13, 14, 15, 16, 17] [] rfl rfl (by decide) (by decide) hk1 hFc hP1 hD1
        generalize H1 = H at hP hS ⊢
        have hP : va_P (dC, dI) vwCl (tm_wModel cI cZ a s15 hh) H := hP
        have hD : va_D A (tm_wModel cI cZ a s15 hh) := hD
        refine lv_goto (tgt := 42) hx hb dX9_about_36 (by decide) ?_
        exact W.iret (v := r14) hx hb hr (fun t ht hW => ⟨⟨r14, s15, rfl, hw, by rw [ht]; exact hP, va_K.moved hW.alike hK, hD⟩, hS.F ht⟩) hS.2.2 dX9_about_42
def wp_X9_howMany (p0 : Int32) (s0 : tm_St) (K : Int32 → tm_St → Prop) : Prop := ((p0 = 0 → K (s0 0 18) s0) ∧ (¬ p0 = 0 → ((p0 = 1 → K (s0 0 12) s0) ∧ (¬ p0 = 1 → ((p0 = 2 → (vp_in 0 2 ∧ K (s0 12 (0 : Int32).toNatClampNeg) s0)) ∧ (¬ p0 = 2 → ((p0 = 3 → (vp_in 1 2 ∧ K (s0 12 (1 : Int32).toNatClampNeg) s0)) ∧ (¬ p0 = 3 → ((p0 = 4 → (vp_in 0 2 ∧ K (s0 13 (0 : Int32).toNatClampNeg) s0)) ∧ (¬ p0 = 4 → ((p0 = 5 → (vp_in 1 2 ∧ K (s0 13 (1 : Int32).toNatClampNeg) s0)) ∧ (¬ p0 = 5 → ((p0 = 6 → K (s0 0 15) s0) ∧ (¬ p0 = 6 → ((p0 = 7 → K (s0 0 16) s0) ∧ (¬ p0 = 7 → ((p0 = 8 → K (s0 0 17) s0) ∧ (¬ p0 = 8 → K (-1002) s0))))))))))))))))))
set_option maxRecDepth 100000 in
set_option maxHeartbeats 4000000 in
theorem kk_X9_howMany (l : Launch) (dC : Nat → ClassId) (dI : Nat → Nat → Nat) (cI cZ : ClassId) (a : Nat → Nat) (s0 : tm_St) (hh : Int64) (sz : Nat) (p0 : Int32) (K : Int32 → tm_St → Prop) (hw : wp_X9_howMany p0 s0 K) : Met l yX9_howMany wsX9_howMany ({ frames := 0, cells := 0, slots := 0, locals := 0 }) (va_Pc [.ref (a 0), .int p0] (tm_Pre dC dI cI cZ (tm_wModel cI cZ a s0 hh) sz)) (va_Qi (fun (r : Int32) (u : tm_St) => K r u) (fun (u : tm_St) t => tm_At dC dI cI cZ (va_A (tm_wModel cI cZ a s0 hh) sz) (tm_wModel cI cZ a u hh) t) (va_A (tm_wModel cI cZ a s0 hh) sz)) 0 0 (va_A (tm_wModel cI cZ a s0 hh) sz) := by
  refine Met.ofW (cc := cX9_howMany) (maxL := 2) (ret := (some .int)) (by decide +kernel) rfl ?_
  intro p e z m args below meth c z₁ B hml hv
  obtain ⟨rfl, hsz, hP, hK, hD0⟩ := hv
  have hx := B.exec
  have hb := B.bytes
  have hr := B.returns
  have hts := atoms_spec (ws := wsX9_howMany) B.pre
  have hown : z.vm.findClass RX9 = some m.cls := findClass_of_methodNamed B.named
  have hlocks := B.notSynchronized
  subst hsz
  have hD := hD0.self (sz := z.heap.size)
  generalize hAe : va_A (tm_wModel cI cZ a s0 hh) z.heap.size = A at hD ⊢
  have hA : ∀ q : Nat, z.heap.size ≤ q → A q := fun q h => by rw [← hAe]; exact Or.inr h
  have hS : va_S A z.heap z.heap [] := va_S.rf
  have h_f69 := hts (.fieldLink RX9 69 "TwoModemsModel" "pageLength" "I") (by decide +kernel)
  have h_in9 : ∀ w ∈ u_ws RX9 TX9 30, w ∈ wsX9_howMany := by decide +kernel
  have h_f121 := hts (.fieldLink RX9 121 "TwoModemsModel" "tick" "I") (by decide +kernel)
  have h_f47 := hts (.fieldLink RX9 47 "TwoModemsModel" "came" "[I") (by decide +kernel)
  have h_f50 := hts (.fieldLink RX9 50 "TwoModemsModel" "wereHurt" "[I") (by decide +kernel)
  have h_f131 := hts (.fieldLink RX9 131 "TwoModemsModel" "changes" "I") (by decide +kernel)
  have h_f100 := hts (.fieldLink RX9 100 "TwoModemsModel" "lines" "I") (by decide +kernel)
  have h_f193 := hts (.fieldLink RX9 193 "TwoModemsModel" "sentAgain" "I") (by decide +kernel)
  have hl := lv_entry ([.ref (a 0), .int p0]) (n := 2) (Nat.le_of_ble_eq_true rfl)
  rw [lg_entry_eq]
  generalize (lg_sl ([.ref (a 0), .int p0]) ++ List.replicate (2 - (lg_sl ([.ref (a 0), .int p0])).length) Slot.unset).toArray = ls at hl ⊢
  have hl : lv_has ls 2 [(0, .ref (a 0)), (1, .int p0)] := hl
  unfold wp_X9_howMany at hw
  refine lv_iload_n hx hb dX9_howMany_0 rfl (lv_at hl 1 rfl) ?_
  refine (Classical.em (p0 = 0)).elim (fun c1 => ?_) (fun c1 => ?_)
  · have hw := hw.1 c1
    refine lv_tableIn (tgt := 52) hx hb dX9_howMany_1 (by rw [c1]; decide) (by rw [c1]; decide) (by rw [c1]; rfl) (by decide) ?_
    refine lv_aload_n hx hb dX9_howMany_52 rfl (lv_at hl 0 rfl) ?_
    refine va_get (D := (dC, dI)) (ci := 7) (v := .int (s0 0 18)) (C := RX9) (T := TX9) (N := 30) hx hb hts h_in9 hown hK hP 0 rfl rfl 18 (by decide) h_f69 (fun _ h9 => h9) rfl dX9_howMany_53 ?_
    exact W.iret (v := (s0 0 18)) hx hb hr (fun t ht hW => ⟨⟨(s0 0 18), s0, rfl, hw, by rw [ht]; exact hP, va_K.moved hW.alike hK, hD⟩, hS.F ht⟩) hS.2.2 dX9_howMany_56
  have hw := hw.2 c1
  refine (Classical.em (p0 = 1)).elim (fun c2 => ?_) (fun c2 => ?_)
  · have hw := hw.1 c2
    refine lv_tableIn (tgt := 57) hx hb dX9_howMany_1 (by rw [c2]; decide) (by rw [c2]; decide) (by rw [c2]; rfl) (by decide) ?_
    refine lv_aload_n hx hb dX9_howMany_57 rfl (lv_at hl 0 rfl) ?_
    refine va_get (D := (dC, dI)) (ci := 7) (v := .int (s0 0 12)) (C := RX9) (T := TX9) (N := 30) hx hb hts h_in9 hown hK hP 0 rfl rfl 12 (by decide) h_f121 (fun _ h9 => h9) rfl dX9_howMany_58 ?_
    exact W.iret (v := (s0 0 12)) hx hb hr (fun t ht hW => ⟨⟨(s0 0 12), s0, rfl, hw, by rw [ht]; exact hP, va_K.moved hW.alike hK, hD⟩, hS.F ht⟩) hS.2.2 dX9_howMany_61
  have hw := hw.2 c2
  refine (Classical.em (p0 = 2)).elim (fun c3 => ?_) (fun c3 => ?_)
  · have hw := hw.1 c3
    refine lv_tableIn (tgt := 62) hx hb dX9_howMany_1 (by rw [c3]; decide) (by rw [c3]; decide) (by rw [c3]; rfl) (by decide) ?_
    refine lv_aload_n hx hb dX9_howMany_62 rfl (lv_at hl 0 rfl) ?_
    refine va_get (D := (dC, dI)) (ci := 7) (v := .ref (a 12)) (C := RX9) (T := TX9) (N := 30) hx hb hts h_in9 hown hK hP 0 rfl rfl 13 (by decide) h_f47 (fun _ h9 => h9) rfl dX9_howMany_63 ?_
    refine lv_iconst (v := 0) hx hb dX9_howMany_66 (by decide) ?_
    have c4 := hw.1
    have hw := hw.2
    refine va_iald hx hb hK hP 12 0 rfl rfl c4 dX9_howMany_67 ?_
    exact W.iret (v := (s0 12 (0 : Int32).toNatClampNeg)) hx hb hr (fun t ht hW => ⟨⟨(s0 12 (0 : Int32).toNatClampNeg), s0, rfl, hw, by rw [ht]; exact hP, va_K.moved hW.alike hK, hD⟩, hS.F ht⟩) hS.2.2 dX9_howMany_68
  have hw := hw.2 c3
  refine (Classical.em (p0 = 3)).elim (fun c5 => ?_) (fun c5 => ?_)
  · have hw := hw.1 c5
    refine lv_tableIn (tgt := 69) hx hb dX9_howMany_1 (by rw [c5]; decide) (by rw [c5]; decide) (by rw [c5]; rfl) (by decide) ?_
    refine lv_aload_n hx hb dX9_howMany_69 rfl (lv_at hl 0 rfl) ?_
    refine va_get (D := (dC, dI)) (ci := 7) (v := .ref (a 12)) (C := RX9) (T := TX9) (N := 30) hx hb hts h_in9 hown hK hP 0 rfl rfl 13 (by decide) h_f47 (fun _ h9 => h9) rfl dX9_howMany_70 ?_
    refine lv_iconst (v := 1) hx hb dX9_howMany_73 (by decide) ?_
    have c6 := hw.1
    have hw := hw.2
    refine va_iald hx hb hK hP 12 0 rfl rfl c6 dX9_howMany_74 ?_
    exact W.iret (v := (s0 12 (1 : Int32).toNatClampNeg)) hx hb hr (fun t ht hW => ⟨⟨(s0 12 (1 : Int32).toNatClampNeg), s0, rfl, hw, by rw [ht]; exact hP, va_K.moved hW.alike hK, hD⟩, hS.F ht⟩) hS.2.2 dX9_howMany_75
  have hw := hw.2 c5
  refine (Classical.em (p0 = 4)).elim (fun c7 => ?_) (fun c7 => ?_)
  · have hw := hw.1 c7
    refine lv_tableIn (tgt := 76) hx hb dX9_howMany_1 (by rw [c7]; decide) (by rw [c7]; decide) (by rw [c7]; rfl) (by decide) ?_
    refine lv_aload_n hx hb dX9_howMany_76 rfl (lv_at hl 0 rfl) ?_
    refine va_get (D := (dC, dI)) (ci := 7) (v := .ref (a 13)) (C := RX9) (T := TX9) (N := 30) hx hb hts h_in9 hown hK hP 0 rfl rfl 14 (by decide) h_f50 (fun _ h9 => h9) rfl dX9_howMany_77 ?_
    refine lv_iconst (v := 0) hx hb dX9_howMany_80 (by decide) ?_
    have c8 := hw.1
    have hw := hw.2
    refine va_iald hx hb hK hP 13 0 rfl rfl c8 dX9_howMany_81 ?_
    exact W.iret (v := (s0 13 (0 : Int32).toNatClampNeg)) hx hb hr (fun t ht hW => ⟨⟨(s0 13 (0 : Int32).toNatClampNeg), s0, rfl, hw, by rw [ht]; exact hP, va_K.moved hW.alike hK, hD⟩, hS.F ht⟩) hS.2.2 dX9_howMany_82
  have hw := hw.2 c7
  refine (Classical.em (p0 = 5)).elim (fun c9 => ?_) (fun c9 => ?_)
  · have hw := hw.1 c9
    refine lv_tableIn (tgt := 83) hx hb dX9_howMany_1 (by rw [c9]; decide) (by rw [c9]; decide) (by rw [c9]; rfl) (by decide) ?_
    refine lv_aload_n hx hb dX9_howMany_83 rfl (lv_at hl 0 rfl) ?_
    refine va_get (D := (dC, dI)) (ci := 7) (v := .ref (a 13)) (C := RX9) (T := TX9) (N := 30) hx hb hts h_in9 hown hK hP 0 rfl rfl 14 (by decide) h_f50 (fun _ h9 => h9) rfl dX9_howMany_84 ?_
    refine lv_iconst (v := 1) hx hb dX9_howMany_87 (by decide) ?_
    have c10 := hw.1
    have hw := hw.2
    refine va_iald hx hb hK hP 13 0 rfl rfl c10 dX9_howMany_88 ?_
    exact W.iret (v := (s0 13 (1 : Int32).toNatClampNeg)) hx hb hr (fun t ht hW => ⟨⟨(s0 13 (1 : Int32).toNatClampNeg), s0, rfl, hw, by rw [ht]; exact hP, va_K.moved hW.alike hK, hD⟩, hS.F ht⟩) hS.2.2 dX9_howMany_89
  have hw := hw.2 c9
  refine (Classical.em (p0 = 6)).elim (fun c11 => ?_) (fun c11 => ?_)
  · have hw := hw.1 c11
    refine lv_tableIn (tgt := 90) hx hb dX9_howMany_1 (by rw [c11]; decide) (by rw [c11]; decide) (by rw [c11]; rfl) (by decide) ?_
    refine lv_aload_n hx hb dX9_howMany_90 rfl (lv_at hl 0 rfl) ?_
    refine va_get (D := (dC, dI)) (ci := 7) (v := .int (s0 0 15)) (C := RX9) (T := TX9) (N := 30) hx hb hts h_in9 hown hK hP 0 rfl rfl 15 (by decide) h_f131 (fun _ h9 => h9) rfl dX9_howMany_91 ?_
    exact W.iret (v := (s0 0 15)) hx hb hr (fun t ht hW => ⟨⟨(s0 0 15), s0, rfl, hw, by rw [ht]; exact hP, va_K.moved hW.alike hK, hD⟩, hS.F ht⟩) hS.2.2 dX9_howMany_94
  have hw := hw.2 c11
  refine (Classical.em (p0 = 7)).elim (fun c12 => ?_) (fun c12 => ?_)
  · have hw := hw.1 c12
    refine lv_tableIn (tgt := 95) hx hb dX9_howMany_1 (by rw [c12]; decide) (by rw [c12]; decide) (by rw [c12]; rfl) (by decide) ?_
    refine lv_aload_n hx hb dX9_howMany_95 rfl (lv_at hl 0 rfl) ?_
    refine va_get (D := (dC, dI)) (ci := 7) (v := .int (s0 0 16)) (C := RX9) (T := TX9) (N := 30) hx hb hts h_in9 hown hK hP 0 rfl rfl 16 (by decide) h_f100 (fun _ h9 => h9) rfl dX9_howMany_96 ?_
    exact W.iret (v := (s0 0 16)) hx hb hr (fun t ht hW => ⟨⟨(s0 0 16), s0, rfl, hw, by rw [ht]; exact hP, va_K.moved hW.alike hK, hD⟩, hS.F ht⟩) hS.2.2 dX9_howMany_99
  have hw := hw.2 c12
  refine (Classical.em (p0 = 8)).elim (fun c13 => ?_) (fun c13 => ?_)
  · have hw := hw.1 c13
    refine lv_tableIn (tgt := 100) hx hb dX9_howMany_1 (by rw [c13]; decide) (by rw [c13]; decide) (by rw [c13]; rfl) (by decide) ?_
    refine lv_aload_n hx hb dX9_howMany_100 rfl (lv_at hl 0 rfl) ?_
    refine va_get (D := (dC, dI)) (ci := 7) (v := .int (s0 0 17)) (C := RX9) (T := TX9) (N := 30) hx hb hts h_in9 hown hK hP 0 rfl rfl 17 (by decide) h_f193 (fun _ h9 => h9) rfl dX9_howMany_101 ?_
    exact W.iret (v := (s0 0 17)) hx hb hr (fun t ht hW => ⟨⟨(s0 0 17), s0, rfl, hw, by rw [ht]; exact hP, va_K.moved hW.alike hK, hD⟩, hS.F ht⟩) hS.2.2 dX9_howMany_104
  have hw := hw.2 c13
  have nc1 := lv_neT (a := 0) c1 rfl
  have nc2 := lv_neT (a := 1) c2 rfl
  have nc3 := lv_neT (a := 2) c3 rfl
  have nc5 := lv_neT (a := 3) c5 rfl
  have nc7 := lv_neT (a := 4) c7 rfl
  have nc9 := lv_neT (a := 5) c9 rfl
  have nc11 := lv_neT (a := 6) c11 rfl
  have nc12 := lv_neT (a := 7) c12 rfl
  have nc13 := lv_neT (a := 8) c13 rfl
  refine lv_tableOut (tgt := 105) hx hb dX9_howMany_1 (by omega) (by decide) ?_
  refine lv_sipush (v := (-1002)) hx hb dX9_howMany_105 (by decide) ?_
  exact W.iret (v := (-1002)) hx hb hr (fun t ht hW => ⟨⟨(-1002), s0, rfl, hw, by rw [ht]; exact hP, va_K.moved hW.alike hK, hD⟩, hS.F ht⟩) hS.2.2 dX9_howMany_108
def wp_X9_count (p0 : Int32) (s0 : tm_St) (K : Int32 → tm_St → Prop) : Prop := (wp_X9_howMany p0 s0 (fun r1 s2 => K r1 s2))
set_option maxRecDepth 100000 in
set_option maxHeartbeats 4000000 in
theorem kk_X9_count (l : Launch) (dC : Nat → ClassId) (dI : Nat → Nat → Nat) (cI cZ : ClassId) (a : Nat → Nat) (s0 : tm_St) (hh : Int64) (sz : Nat) (p0 : Int32) (K : Int32 → tm_St → Prop) (hw : wp_X9_count p0 s0 K) : Met l yX9_count wsX9_count ({ frames := 1, cells := 0, slots := 0, locals := 21 }) (va_Pc [.ref (a 0), .int p0] (tm_Pre dC dI cI cZ (tm_wModel cI cZ a s0 hh) sz)) (va_Qi (fun (r : Int32) (u : tm_St) => K r u) (fun (u : tm_St) t => tm_At dC dI cI cZ (va_A (tm_wModel cI cZ a s0 hh) sz) (tm_wModel cI cZ a u hh) t) (va_A (tm_wModel cI cZ a s0 hh) sz)) 0 0 (va_A (tm_wModel cI cZ a s0 hh) sz) := by
  refine Met.ofW (cc := cX9_count) (maxL := 2) (ret := (some .int)) (by decide +kernel) rfl ?_
  intro p e z m args below meth c z₁ B hml hv
  obtain ⟨rfl, hsz, hP, hK, hD0⟩ := hv
  have hx := B.exec
  have hb := B.bytes
  have hr := B.returns
  have hts := atoms_spec (ws := wsX9_count) B.pre
  have hown : z.vm.findClass RX9 = some m.cls := findClass_of_methodNamed B.named
  have hlocks := B.notSynchronized
  subst hsz
  have hD := hD0.self (sz := z.heap.size)
  generalize hAe : va_A (tm_wModel cI cZ a s0 hh) z.heap.size = A at hD ⊢
  have hA : ∀ q : Nat, z.heap.size ≤ q → A q := fun q h => by rw [← hAe]; exact Or.inr h
  have hS : va_S A z.heap z.heap [] := va_S.rf
  have hl := lv_entry ([.ref (a 0), .int p0]) (n := 2) (Nat.le_of_ble_eq_true rfl)
  rw [lg_entry_eq]
  generalize (lg_sl ([.ref (a 0), .int p0]) ++ List.replicate (2 - (lg_sl ([.ref (a 0), .int p0])).length) Slot.unset).toArray = ls at hl ⊢
  have hl : lv_has ls 2 [(0, .ref (a 0)), (1, .int p0)] := hl
  unfold wp_X9_count at hw
  refine lv_aload_n hx hb dX9_count_0 rfl (lv_at hl 0 rfl) ?_
  refine lv_iload_n hx hb dX9_count_1 rfl (lv_at hl 1 rfl) ?_
  have hPc := hP
  have hDc := hD
  have hFc := va_free (wc := (tm_wModel cI cZ a s0 hh)) hD hS hA [0, 1, 2, 3, 4, 5, 6, 7, 8, 9, 10, 11, 12, 13, 14, 15, 16, 17] rfl
  refine va_calli (va_runV (As := [.int p0]) (rest := []) ⟨hx, hb, hml, hown, hts⟩ (kk_X9_howMany l dC dI cI cZ a s0 hh z.heap.size p0 _ hw) (cwV 1 hts gX9_count_X9_howMany rfl rfl rfl (by decide +kernel) ⟨Nat.le_of_ble_eq_true rfl, Nat.le_of_ble_eq_true rfl⟩) ⟨tm_blind, va_recv hK hPc (ci := 7) (q0 := 0) rfl rfl, fun U hU hW => ⟨rfl, by rw [hU], by rw [hU]; exact hPc, va_K.moved hW.alike hK, hDc.weaken (fun _ _ _ _ => trivial)⟩⟩ rfl rfl hl.1 rfl (lv_room (Nat.le_of_ble_eq_true rfl)) dX9_count_2 ⟨Nat.zero_le _, Nat.zero_le _⟩) hS (fun q _ h => hFc q h) hFc (fun r1 s2 t H1 locs ht hvm hw hB hz1 hk1 hS => ?_)
  obtain ⟨hP1, hK1, hD1⟩ := hB
  rw [ht] at hP1
  obtain ⟨hP, hD⟩ := va_join (wr := []) (w1 := (tm_wModel cI cZ a s2 hh)) hP hD [0, 1, 2, 3, 4, 5, 6, 7, 8, 9, 10, 11, 12, 13, 14, 15, 16, 17] [] rfl rfl (by decide) (by decide) hk1 hFc hP1 hD1
  generalize H1 = H at hP hS ⊢
  have hP : va_P (dC, dI) vwCl (tm_wModel cI cZ a s2 hh) H := hP
  have hD : va_D A (tm_wModel cI cZ a s2 hh) := hD
  exact W.iret (v := r1) hx hb hr (fun t ht hW => ⟨⟨r1, s2, rfl, hw, by rw [ht]; exact hP, va_K.moved hW.alike hK, hD⟩, hS.F ht⟩) hS.2.2 dX9_count_5
def wp_X9_mix (p0 : Int64) (s0 : tm_St) (hh : Int64) (K : tm_St → Int64 → Prop) : Prop := (∀ hh1 : Int64, hh1 = ((31 * hh) + p0) → K s0 hh1)
set_option maxRecDepth 100000 in
set_option maxHeartbeats 4000000 in
theorem kk_X9_mix (l : Launch) (dC : Nat → ClassId) (dI : Nat → Nat → Nat) (cI cZ : ClassId) (a : Nat → Nat) (s0 : tm_St) (hh : Int64) (sz : Nat) (p0 : Int64) (K : tm_St → Int64 → Prop) (hw : wp_X9_mix p0 s0 hh K) : Met l yX9_mix wsX9_mix ({ frames := 0, cells := 0, slots := 0, locals := 0 }) (va_Pc [.ref (a 0), .long p0] (tm_Pre dC dI cI cZ (tm_wModel cI cZ a s0 hh) sz)) (va_Qv (fun (u : tm_St × Int64) => K u.1 u.2) (fun (u : tm_St × Int64) t => tm_At dC dI cI cZ (va_A (tm_wModel cI cZ a s0 hh) sz) (tm_wModel cI cZ a u.1 u.2) t) (va_A (tm_wModel cI cZ a s0 hh) sz)) 0 0 (va_A (tm_wModel cI cZ a s0 hh) sz) := by
  refine Met.ofW (cc := cX9_mix) (maxL := 3) (ret := none) (by decide +kernel) rfl ?_
  intro p e z m args below meth c z₁ B hml hv
  obtain ⟨rfl, hsz, hP, hK, hD0⟩ := hv
  have hx := B.exec
  have hb := B.bytes
  have hr := B.returns
  have hts := atoms_spec (ws := wsX9_mix) B.pre
  have hown : z.vm.findClass RX9 = some m.cls := findClass_of_methodNamed B.named
  have hlocks := B.notSynchronized
  subst hsz
  have hD := hD0.self (sz := z.heap.size)
  generalize hAe : va_A (tm_wModel cI cZ a s0 hh) z.heap.size = A at hD ⊢
  have hA : ∀ q : Nat, z.heap.size ≤ q → A q := fun q h => by rw [← hAe]; exact Or.inr h
  have hS : va_S A z.heap z.heap [] := va_S.rf
  have h_c229 := hts (.constantLong RX9 229 (31)) (by decide +kernel)
  have h_f231 := hts (.fieldLink RX9 231 "TwoModemsModel" "h" "J") (by decide +kernel)
  have h_in9 : ∀ w ∈ u_ws RX9 TX9 30, w ∈ wsX9_mix := by decide +kernel
  have hl := lv_entry ([.ref (a 0), .long p0]) (n := 3) (Nat.le_of_ble_eq_true rfl)
  rw [lg_entry_eq]
  generalize (lg_sl ([.ref (a 0), .long p0]) ++ List.replicate (3 - (lg_sl ([.ref (a 0), .long p0])).length) Slot.unset).toArray = ls at hl ⊢
  have hl : lv_has ls 3 [(0, .ref (a 0)), (1, .long p0)] := hl
  unfold wp_X9_mix at hw
  refine lv_aload_n hx hb dX9_mix_0 rfl (lv_at hl 0 rfl) ?_
  refine lv_ldc2 (v := 31) hx hb hown h_c229 dX9_mix_1 ?_
  refine lv_aload_n hx hb dX9_mix_4 rfl (lv_at hl 0 rfl) ?_
  refine va_get (D := (dC, dI)) (ci := 7) (v := .long hh) (C := RX9) (T := TX9) (N := 30) hx hb hts h_in9 hown hK hP 0 rfl rfl 29 (by decide) h_f231 (fun _ h9 => h9) rfl dX9_mix_5 ?_
  refine lv_lmul hx hb dX9_mix_8 ?_
  refine lv_lload_n hx hb dX9_mix_9 rfl (lv_at hl 1 rfl) ?_
  refine lv_ladd hx hb dX9_mix_10 ?_
  refine va_put (D := (dC, dI)) (ci := 7) (v := .long ((31 * hh) + p0)) (ty := .long) (C := RX9) (T := TX9) (N := 30) hx hb hts h_in9 tyX9 tyX9_ok nmX9 hown hK hP hD hS 0 rfl rfl 29 (by decide) h_f231 (fun _ h9 => h9) rfl (by decide +kernel) rfl rfl (Nat.le_of_ble_eq_true rfl) dX9_mix_11 (fun H locs hP hD hS => ?_)
  obtain ⟨hh1, ehh1⟩ : ∃ y : Int64, y = ((31 * hh) + p0) := ⟨_, rfl⟩
  have hw := hw hh1 ehh1
  have hP : va_P (dC, dI) vwCl (tm_wModel cI cZ a s0 hh1) H := by rw [ehh1]; exact hP
  have hD : va_D A (tm_wModel cI cZ a s0 hh1) := by rw [ehh1]; exact hD
  exact W.vret hx hb hr (fun t ht hW => ⟨⟨(s0, hh1), rfl, hw, by rw [ht]; exact hP, va_K.moved hW.alike hK, hD⟩, hS.F ht⟩) hS.2.2 dX9_mix_14
