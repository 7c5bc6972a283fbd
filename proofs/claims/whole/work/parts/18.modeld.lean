def wp_X9_looksIn_39 (K : tm_St → Prop) (v1 : Int32) (v2 : Int32) (s : tm_St) : Prop := ((¬ v2 = 4 → ((¬ v2 = 7 → K s) ∧ (v2 = 7 → (wp_X9_looksInData v1 s (fun s6 => K s6))))) ∧ (v2 = 4 → (wp_X9_of v1 1 s (fun r7 s8 => ((r7 < 32 → ((¬ v2 = 7 → K s8) ∧ (v2 = 7 → (wp_X9_looksInData v1 s8 (fun s11 => K s11))))) ∧ (¬ r7 < 32 → (wp_X9_into v1 5 s8 (fun s12 => (wp_X9_put v1 2 1 s12 (fun s13 => (wp_X9_makeOffer v1 s13 (fun s14 => K s14))))))))))))
def wp_X9_looksIn (p0 : Int32) (s0 : tm_St) (K : tm_St → Prop) : Prop := (wp_X9_of p0 0 s0 (fun r1 s2 => ((¬ r1 = 3 → wp_X9_looksIn_39 K p0 r1 s2) ∧ (r1 = 3 → (wp_X9_of p0 1 s2 (fun r15 s16 => ((r15 < (10 + (2 * (s16 0 8))) → wp_X9_looksIn_39 K p0 r1 s16) ∧ (¬ r15 < (10 + (2 * (s16 0 8))) → (wp_X9_into p0 4 s16 (fun s18 => K s18))))))))))
set_option maxRecDepth 100000 in
set_option maxHeartbeats 4000000 in
theorem kk_X9_looksIn (l : Launch) (dC : Nat → ClassId) (dI : Nat → Nat → Nat) (cI cZ : ClassId) (a : Nat → Nat) (s0 : tm_St) (hh : Int64) (sz : Nat) (p0 : Int32) (K : tm_St → Prop) (hw : wp_X9_looksIn p0 s0 K) : Met l yX9_looksIn wsX9_looksIn ({ frames := 4, cells := 0, slots := 0, locals := 89 }) (va_Pc [.ref (a 0), .int p0] (tm_Pre dC dI cI cZ (tm_wModel cI cZ a s0 hh) sz)) (va_Qv (fun (u : tm_St) => K u) (fun (u : tm_St) t => tm_At dC dI cI cZ (va_A (tm_wModel cI cZ a s0 hh) sz) (tm_wModel cI cZ a u hh) t) (va_A (tm_wModel cI cZ a s0 hh) sz)) 0 0 (va_A (tm_wModel cI cZ a s0 hh) sz) := by
  refine Met.ofW (cc := cX9_looksIn) (maxL := 3) (ret := none) (by decide +kernel) rfl ?_
  intro p e z m args below meth c z₁ B hml hv
  obtain ⟨rfl, hsz, hP, hK, hD0⟩ := hv
  have hx := B.exec
  have hb := B.bytes
  have hr := B.returns
  have hts := atoms_spec (ws := wsX9_looksIn) B.pre
  have hown : z.vm.findClass RX9 = some m.cls := findClass_of_methodNamed B.named
  have hlocks := B.notSynchronized
  subst hsz
  have hD := hD0.self (sz := z.heap.size)
  generalize hAe : va_A (tm_wModel cI cZ a s0 hh) z.heap.size = A at hD ⊢
  have hA : ∀ q : Nat, z.heap.size ≤ q → A q := fun q h => by rw [← hAe]; exact Or.inr h
  have hS : va_S A z.heap z.heap [] := va_S.rf
  have h_f34 := hts (.fieldLink RX9 34 "TwoModemsModel" "delay" "I") (by decide +kernel)
  have h_in9 : ∀ w ∈ u_ws RX9 TX9 30, w ∈ wsX9_looksIn := by decide +kernel
  have b39 : ∀ (v1 : Int32) (v2 : Int32) (s : tm_St) (H : Heap) (locs : List Loc) (ls : Array Slot), wp_X9_looksIn_39 K v1 v2 s → va_P (dC, dI) vwCl (tm_wModel cI cZ a s hh) H → va_D A (tm_wModel cI cZ a s hh) → va_S A z.heap H locs → lv_has ls 3 [(0, .ref (a 0)), (1, .int v1), (2, .int v2)] → W p l e (headSpec wsX9_looksIn ({ frames := 4, cells := 0, slots := 0, locals := 89 })).room z m (([.ref (a 0), .int p0] : List Value).toArray) below meth c H locs 0 0 (MQ below (va_Qv (fun (u : tm_St) => K u) (fun (u : tm_St) t => tm_At dC dI cI cZ A (tm_wModel cI cZ a u hh) t) A) (([.ref (a 0), .int p0] : List Value).toArray) z 0 0 A) (F0 m 39 ls []) := by
    intro v1 v2 s H locs ls hw hP hD hS hl
    unfold wp_X9_looksIn_39 at hw
    refine lv_iload_n hx hb dX9_looksIn_39 rfl (lv_at hl 2 rfl) ?_
    refine lv_iconst (v := 4) hx hb dX9_looksIn_40 (by decide) ?_
    refine lv_icmp_ne (tgt := 76) hx hb dX9_looksIn_41 (by decide) (fun c4 => ?_) (fun c4 => ?_)
    · have hw := hw.1 c4
      refine lv_iload_n hx hb dX9_looksIn_76 rfl (lv_at hl 2 rfl) ?_
      refine lv_bipush (v := 7) hx hb dX9_looksIn_77 (by decide) ?_
      refine lv_icmp_ne (tgt := 87) hx hb dX9_looksIn_79 (by decide) (fun c5 => ?_) (fun c5 => ?_)
      · have hw := hw.1 c5
        exact W.vret hx hb hr (fun t ht hW => ⟨⟨s, rfl, hw, by rw [ht]; exact hP, va_K.moved hW.alike hK, hD⟩, hS.F ht⟩) hS.2.2 dX9_looksIn_87
      · have hw := hw.2 c5
        refine lv_aload_n hx hb dX9_looksIn_82 rfl (lv_at hl 0 rfl) ?_
        refine lv_iload_n hx hb dX9_looksIn_83 rfl (lv_at hl 1 rfl) ?_
        have hPc := hP
        have hDc := hD
        have hFc := va_free (wc := (tm_wModel cI cZ a s hh)) hD hS hA [0, 1, 2, 3, 4, 5, 6, 7, 8, 9, 10, 11, 12, 13, 14, 15, 16, 17] rfl
        refine va_callv (va_runV (As := [.int v1]) (rest := []) ⟨hx, hb, hml, hown, hts⟩ (kk_X9_looksInData l dC dI cI cZ a s hh H.size v1 _ hw) (cwV 1 hts gX9_looksIn_X9_looksInData rfl rfl rfl (by decide +kernel) ⟨Nat.le_of_ble_eq_true rfl, Nat.le_of_ble_eq_true rfl⟩) ⟨tm_blind, va_recv hK hPc (ci := 7) (q0 := 0) rfl rfl, fun U hU hW => ⟨rfl, by rw [hU], by rw [hU]; exact hPc, va_K.moved hW.alike hK, hDc.weaken (fun _ _ _ _ => trivial)⟩⟩ rfl rfl hl.1 rfl (lv_room (Nat.le_of_ble_eq_true rfl)) dX9_looksIn_84 ⟨Nat.zero_le _, Nat.zero_le _⟩) hS (fun q _ h => hFc q h) hFc (fun s6 t H1 locs ht hvm hw hB hz1 hk1 hS => ?_)
        obtain ⟨hP1, hK1, hD1⟩ := hB
        rw [ht] at hP1
        obtain ⟨hP, hD⟩ := va_join (wr := []) (w1 := (tm_wModel cI cZ a s6 hh)) hP hD [0, 1, 2, 3, 4, 5, 6, 7, 8, 9, 10, 11, 12, 13, 14, 15, 16, 17] [] rfl rfl (by decide) (by decide) hk1 hFc hP1 hD1
        generalize H1 = H at hP hS ⊢
        have hP : va_P (dC, dI) vwCl (tm_wModel cI cZ a s6 hh) H := hP
        have hD : va_D A (tm_wModel cI cZ a s6 hh) := hD
        exact W.vret hx hb hr (fun t ht hW => ⟨⟨s6, rfl, hw, by rw [ht]; exact hP, va_K.moved hW.alike hK, hD⟩, hS.F ht⟩) hS.2.2 dX9_looksIn_87
    · have hw := hw.2 c4
      refine lv_aload_n hx hb dX9_looksIn_44 rfl (lv_at hl 0 rfl) ?_
      refine lv_iload_n hx hb dX9_looksIn_45 rfl (lv_at hl 1 rfl) ?_
      refine lv_iconst (v := 1) hx hb dX9_looksIn_46 (by decide) ?_
      have hPc := hP
      have hDc := hD
      have hFc := va_free (wc := (tm_wModel cI cZ a s hh)) hD hS hA [0, 1, 2, 3, 4, 5, 6, 7, 8, 9, 10, 11, 12, 13, 14, 15, 16, 17] rfl
      refine va_calli (va_runV (As := [.int v1, .int 1]) (rest := []) ⟨hx, hb, hml, hown, hts⟩ (kk_X9_of l dC dI cI cZ a s hh H.size v1 1 _ hw) (cwV 2 hts gX9_looksIn_X9_of rfl rfl rfl (by decide +kernel) ⟨Nat.le_of_ble_eq_true rfl, Nat.le_of_ble_eq_true rfl⟩) ⟨tm_blind, va_recv hK hPc (ci := 7) (q0 := 0) rfl rfl, fun U hU hW => ⟨rfl, by rw [hU], by rw [hU]; exact hPc, va_K.moved hW.alike hK, hDc.weaken (fun _ _ _ _ => trivial)⟩⟩ rfl rfl hl.1 rfl (lv_room (Nat.le_of_ble_eq_true rfl)) dX9_looksIn_47 ⟨Nat.zero_le _, Nat.zero_le _⟩) hS (fun q _ h => hFc q h) hFc (fun r7 s8 t H1 locs ht hvm hw hB hz1 hk1 hS => ?_)
      obtain ⟨hP1, hK1, hD1⟩ := hB
      rw [ht] at hP1
      obtain ⟨hP, hD⟩ := va_join (wr := []) (w1 := (tm_wModel cI cZ a s8 hh)) hP hD [0, 1, 2, 3, 4, 5, 6, 7, 8, 9, 10, 11, 12, 13, 14, 15, 16, 17] [] rfl rfl (by decide) (by decide) hk1 hFc hP1 hD1
      generalize H1 = H at hP hS ⊢
      have hP : va_P (dC, dI) vwCl (tm_wModel cI cZ a s8 hh) H := hP
      have hD : va_D A (tm_wModel cI cZ a s8 hh) := hD
      refine lv_bipush (v := 32) hx hb dX9_looksIn_50 (by decide) ?_
      refine lv_icmp_lt (tgt := 76) hx hb dX9_looksIn_52 (by decide) (fun c9 => ?_) (fun c9 => ?_)
      · have hw := hw.1 c9
        refine lv_iload_n hx hb dX9_looksIn_76 rfl (lv_at hl 2 rfl) ?_
        refine lv_bipush (v := 7) hx hb dX9_looksIn_77 (by decide) ?_
        refine lv_icmp_ne (tgt := 87) hx hb dX9_looksIn_79 (by decide) (fun c10 => ?_) (fun c10 => ?_)
        · have hw := hw.1 c10
          exact W.vret hx hb hr (fun t ht hW => ⟨⟨s8, rfl, hw, by rw [ht]; exact hP, va_K.moved hW.alike hK, hD⟩, hS.F ht⟩) hS.2.2 dX9_looksIn_87
        · have hw := hw.2 c10
          refine lv_aload_n hx hb dX9_looksIn_82 rfl (lv_at hl 0 rfl) ?_
          refine lv_iload_n hx hb dX9_looksIn_83 rfl (lv_at hl 1 rfl) ?_
          have hPc := hP
          have hDc := hD
          have hFc := va_free (wc := (tm_wModel cI cZ a s8 hh)) hD hS hA [0, 1, 2, 3, 4, 5, 6, 7, 8, 9, 10, 11, 12, 13, 14, 15, 16, 17] rfl
          refine va_callv (va_runV (As := [.int v1]) (rest := []) ⟨hx, hb, hml, hown, hts⟩ (kk_X9_looksInData l dC dI cI cZ a s8 hh H.size v1 _ hw) (cwV 1 hts gX9_looksIn_X9_looksInData rfl rfl rfl (by decide +kernel) ⟨Nat.le_of_ble_eq_true rfl, Nat.le_of_ble_eq_true rfl⟩) ⟨tm_blind, va_recv hK hPc (ci := 7) (q0 := 0) rfl rfl, fun U hU hW => ⟨rfl, by rw [hU], by rw [hU]; exact hPc, va_K.moved hW.alike hK, hDc.weaken (fun _ _ _ _ => trivial)⟩⟩ rfl rfl hl.1 rfl (lv_room (Nat.le_of_ble_eq_true rfl)) dX9_looksIn_84 ⟨Nat.zero_le _, Nat.zero_le _⟩) hS (fun q _ h => hFc q h) hFc (fun s11 t H1 locs ht hvm hw hB hz1 hk1 hS => ?_)
          obtain ⟨hP1, hK1, hD1⟩ := hB
          rw [ht] at hP1
          obtain ⟨hP, hD⟩ := va_join (wr := []) (w1 := (tm_wModel cI cZ a s11 hh)) hP hD [0, 1, 2, 3, 4, 5, 6, 7, 8, 9, 10, 11, 12, 13, 14, 15, 16, 17] [] rfl rfl (by decide) (by decide) hk1 hFc hP1 hD1
          generalize H1 = H at hP hS ⊢
          have hP : va_P (dC, dI) vwCl (tm_wModel cI cZ a s11 hh) H := hP
          have hD : va_D A (tm_wModel cI cZ a s11 hh) := hD
          exact W.vret hx hb hr (fun t ht hW => ⟨⟨s11, rfl, hw, by rw [ht]; exact hP, va_K.moved hW.alike hK, hD⟩, hS.F ht⟩) hS.2.2 dX9_looksIn_87
      · have hw := hw.2 c9
        refine lv_aload_n hx hb dX9_looksIn_55 rfl (lv_at hl 0 rfl) ?_
        refine lv_iload_n hx hb dX9_looksIn_56 rfl (lv_at hl 1 rfl) ?_
        refine lv_iconst (v := 5) hx hb dX9_looksIn_57 (by decide) ?_
        have hPc := hP
        have hDc := hD
        have hFc := va_free (wc := (tm_wModel cI cZ a s8 hh)) hD hS hA [0, 1, 2, 3, 4, 5, 6, 7, 8, 9, 10, 11, 12, 13, 14, 15, 16, 17] rfl
        refine va_callv (va_runV (As := [.int v1, .int 5]) (rest := []) ⟨hx, hb, hml, hown, hts⟩ (kk_X9_into l dC dI cI cZ a s8 hh H.size v1 5 _ hw) (cwV 2 hts gX9_looksIn_X9_into rfl rfl rfl (by decide +kernel) ⟨Nat.le_of_ble_eq_true rfl, Nat.le_of_ble_eq_true rfl⟩) ⟨tm_blind, va_recv hK hPc (ci := 7) (q0 := 0) rfl rfl, fun U hU hW => ⟨rfl, by rw [hU], by rw [hU]; exact hPc, va_K.moved hW.alike hK, hDc.weaken (fun _ _ _ _ => trivial)⟩⟩ rfl rfl hl.1 rfl (lv_room (Nat.le_of_ble_eq_true rfl)) dX9_looksIn_58 ⟨Nat.zero_le _, Nat.zero_le _⟩) hS (fun q _ h => hFc q h) hFc (fun s12 t H1 locs ht hvm hw hB hz1 hk1 hS => ?_)
        obtain ⟨hP1, hK1, hD1⟩ := hB
        rw [ht] at hP1
        obtain ⟨hP, hD⟩ := va_join (wr := []) (w1 := (tm_wModel cI cZ a s12 hh)) hP hD [0, 1, 2, 3, 4, 5, 6, 7, 8, 9, 10, 11, 12, 13, 14, 15, 16, 17] [] rfl rfl (by decide) (by decide) hk1 hFc hP1 hD1
        generalize H1 = H at hP hS ⊢
        have hP : va_P (dC, dI) vwCl (tm_wModel cI cZ a s12 hh) H := hP
        have hD : va_D A (tm_wModel cI cZ a s12 hh) := hD
        refine lv_aload_n hx hb dX9_looksIn_61 rfl (lv_at hl 0 rfl) ?_
        refine lv_iload_n hx hb dX9_looksIn_62 rfl (lv_at hl 1 rfl) ?_
        refine lv_iconst (v := 2) hx hb dX9_looksIn_63 (by decide) ?_
        refine lv_iconst (v := 1) hx hb dX9_looksIn_64 (by decide) ?_
        have hPc := hP
        have hDc := hD
        have hFc := va_free (wc := (tm_wModel cI cZ a s12 hh)) hD hS hA [0, 1, 2, 3, 4, 5, 6, 7, 8, 9, 10, 11, 12, 13, 14, 15, 16, 17] rfl
        refine va_callv (va_runV (As := [.int v1, .int 2, .int 1]) (rest := []) ⟨hx, hb, hml, hown, hts⟩ (kk_X9_put l dC dI cI cZ a s12 hh H.size v1 2 1 _ hw) (cwV 3 hts gX9_looksIn_X9_put rfl rfl rfl (by decide +kernel) ⟨Nat.le_of_ble_eq_true rfl, Nat.le_of_ble_eq_true rfl⟩) ⟨tm_blind, va_recv hK hPc (ci := 7) (q0 := 0) rfl rfl, fun U hU hW => ⟨rfl, by rw [hU], by rw [hU]; exact hPc, va_K.moved hW.alike hK, hDc.weaken (fun _ _ _ _ => trivial)⟩⟩ rfl rfl hl.1 rfl (lv_room (Nat.le_of_ble_eq_true rfl)) dX9_looksIn_65 ⟨Nat.zero_le _, Nat.zero_le _⟩) hS (fun q _ h => hFc q h) hFc (fun s13 t H1 locs ht hvm hw hB hz1 hk1 hS => ?_)
        obtain ⟨hP1, hK1, hD1⟩ := hB
        rw [ht] at hP1
        obtain ⟨hP, hD⟩ := va_join (wr := []) (w1 := (tm_wModel cI cZ a s13 hh)) hP hD [0, 1, 2, 3, 4, 5, 6, 7, 8, 9, 10, 11, 12, 13, 14, 15, 16, 17] [] rfl rfl (by decide) (by decide) hk1 hFc hP1 hD1
        generalize H1 = H at hP hS ⊢
        have hP : va_P (dC, dI) vwCl (tm_wModel cI cZ a s13 hh) H := hP
        have hD : va_D A (tm_wModel cI cZ a s13 hh) := hD
        refine lv_aload_n hx hb dX9_looksIn_68 rfl (lv_at hl 0 rfl) ?_
        refine lv_iload_n hx hb dX9_looksIn_69 rfl (lv_at hl 1 rfl) ?_
        have hPc := hP
        have hDc := hD
        have hFc := va_free (wc := (tm_wModel cI cZ a s13 hh)) hD hS hA [0, 1, 2, 3, 4, 5, 6, 7, 8, 9, 10, 11, 12, 13, 14, 15, 16, 17] rfl
        refine va_callv (va_runV (As := [.int v1]) (rest := []) ⟨hx, hb, hml, hown, hts⟩ (kk_X9_makeOffer l dC dI cI cZ a s13 hh H.size v1 _ hw) (cwV 1 hts gX9_looksIn_X9_makeOffer rfl rfl rfl (by decide +kernel) ⟨Nat.le_of_ble_eq_true rfl, Nat.le_of_ble_eq_true rfl⟩) ⟨tm_blind, va_recv hK hPc (ci := 7) (q0 := 0) rfl rfl, fun U hU hW => ⟨rfl, by rw [hU], by rw [hU]; exact hPc, va_K.moved hW.alike hK, hDc.weaken (fun _ _ _ _ => trivial)⟩⟩ rfl rfl hl.1 rfl (lv_room (Nat.le_of_ble_eq_true rfl)) dX9_looksIn_70 ⟨Nat.zero_le _, Nat.zero_le _⟩) hS (fun q _ h => hFc q h) hFc (fun s14 t H1 locs ht hvm hw hB hz1 hk1 hS => ?_)
        obtain ⟨hP1, hK1, hD1⟩ := hB
        rw [ht] at hP1
        obtain ⟨hP, hD⟩ := va_join (wr := []) (w1 := (tm_wModel cI cZ a s14 hh)) hP hD [0, 1, 2, 3, 4, 5, 6, 7, 8, 9, 10, 11, 12, 13, 14, 15, 16, 17] [] rfl rfl (by decide) (by decide) hk1 hFc hP1 hD1
        generalize H1 = H at hP hS ⊢
        have hP : va_P (dC, dI) vwCl (tm_wModel cI cZ a s14 hh) H := hP
        have hD : va_D A (tm_wModel cI cZ a s14 hh) := hD
        refine lv_goto (tgt := 87) hx hb dX9_looksIn_73 (by decide) ?_
        exact W.vret hx hb hr (fun t ht hW => ⟨⟨s14, rfl, hw, by rw [ht]; exact hP, va_K.moved hW.alike hK, hD⟩, hS.F ht⟩) hS.2.2 dX9_looksIn_87
  have hl := lv_entry ([.ref (a 0), .int p0]) (n := 3) (Nat.le_of_ble_eq_true rfl)
  rw [lg_entry_eq]
  generalize (lg_sl ([.ref (a 0), .int p0]) ++ List.replicate (3 - (lg_sl ([.ref (a 0), .int p0])).length) Slot.unset).toArray = ls at hl ⊢
  have hl : lv_has ls 3 [(0, .ref (a 0)), (1, .int p0)] := hl
  unfold wp_X9_looksIn at hw
  refine lv_aload_n hx hb dX9_looksIn_0 rfl (lv_at hl 0 rfl) ?_
  refine lv_iload_n hx hb dX9_looksIn_1 rfl (lv_at hl 1 rfl) ?_
  refine lv_iconst (v := 0) hx hb dX9_looksIn_2 (by decide) ?_
  have hPc := hP
  have hDc := hD
  have hFc := va_free (wc := (tm_wModel cI cZ a s0 hh)) hD hS hA [0, 1, 2, 3, 4, 5, 6, 7, 8, 9, 10, 11, 12, 13, 14, 15, 16, 17] rfl
  refine va_calli (va_runV (As := [.int p0, .int 0]) (rest := []) ⟨hx, hb, hml, hown, hts⟩ (kk_X9_of l dC dI cI cZ a s0 hh z.heap.size p0 0 _ hw) (cwV 2 hts gX9_looksIn_X9_of rfl rfl rfl (by decide +kernel) ⟨Nat.le_of_ble_eq_true rfl, Nat.le_of_ble_eq_true rfl⟩) ⟨tm_blind, va_recv hK hPc (ci := 7) (q0 := 0) rfl rfl, fun U hU hW => ⟨rfl, by rw [hU], by rw [hU]; exact hPc, va_K.moved hW.alike hK, hDc.weaken (fun _ _ _ _ => trivial)⟩⟩ rfl rfl hl.1 rfl (lv_room (Nat.le_of_ble_eq_true rfl)) dX9_looksIn_3 ⟨Nat.zero_le _, Nat.zero_le _⟩) hS (fun q _ h => hFc q h) hFc (fun r1 s2 t H1 locs ht hvm hw hB hz1 hk1 hS => ?_)
  obtain ⟨hP1, hK1, hD1⟩ := hB
  rw [ht] at hP1
  obtain ⟨hP, hD⟩ := va_join (wr := []) (w1 := (tm_wModel cI cZ a s2 hh)) hP hD [0, 1, 2, 3, 4, 5, 6, 7, 8, 9, 10, 11, 12, 13, 14, 15, 16, 17] [] rfl rfl (by decide) (by decide) hk1 hFc hP1 hD1
  generalize H1 = H at hP hS ⊢
  have hP : va_P (dC, dI) vwCl (tm_wModel cI cZ a s2 hh) H := hP
  have hD : va_D A (tm_wModel cI cZ a s2 hh) := hD
  refine lv_istore_n (lv' := [(2, .int r1), (0, .ref (a 0)), (1, .int p0)]) hx hb dX9_looksIn_6 rfl hl (by decide) rfl (fun ls hl => ?_)
  refine lv_iload_n hx hb dX9_looksIn_7 rfl (lv_at hl 0 rfl) ?_
  refine lv_iconst (v := 3) hx hb dX9_looksIn_8 (by decide) ?_
  refine lv_icmp_ne (tgt := 39) hx hb dX9_looksIn_9 (by decide) (fun c3 => ?_) (fun c3 => ?_)
  · have hw := hw.1 c3
    exact b39 p0 r1 s2 _ _ _ hw hP hD hS (lv_sub hl [1, 2, 0] rfl)
  · have hw := hw.2 c3
    refine lv_aload_n hx hb dX9_looksIn_12 rfl (lv_at hl 1 rfl) ?_
    refine lv_iload_n hx hb dX9_looksIn_13 rfl (lv_at hl 2 rfl) ?_
    refine lv_iconst (v := 1) hx hb dX9_looksIn_14 (by decide) ?_
    have hPc := hP
    have hDc := hD
    have hFc := va_free (wc := (tm_wModel cI cZ a s2 hh)) hD hS hA [0, 1, 2, 3, 4, 5, 6, 7, 8, 9, 10, 11, 12, 13, 14, 15, 16, 17] rfl
    refine va_calli (va_runV (As := [.int p0, .int 1]) (rest := []) ⟨hx, hb, hml, hown, hts⟩ (kk_X9_of l dC dI cI cZ a s2 hh H.size p0 1 _ hw) (cwV 2 hts gX9_looksIn_X9_of rfl rfl rfl (by decide +kernel) ⟨Nat.le_of_ble_eq_true rfl, Nat.le_of_ble_eq_true rfl⟩) ⟨tm_blind, va_recv hK hPc (ci := 7) (q0 := 0) rfl rfl, fun U hU hW => ⟨rfl, by rw [hU], by rw [hU]; exact hPc, va_K.moved hW.alike hK, hDc.weaken (fun _ _ _ _ => trivial)⟩⟩ rfl rfl hl.1 rfl (lv_room (Nat.le_of_ble_eq_true rfl)) dX9_looksIn_15 ⟨Nat.zero_le _, Nat.zero_le _⟩) hS (fun q _ h => hFc q h) hFc (fun r15 s16 t H1 locs ht hvm hw hB hz1 hk1 hS => ?_)
    obtain ⟨hP1, hK1, hD1⟩ := hB
    rw [ht] at hP1
    obtain ⟨hP, hD⟩ := va_join (wr := []) (w1 := (tm_wModel cI cZ a s16 hh)) hP hD [0, 1, 2, 3, 4, 5, 6, 7, 8, 9, 10, 11, 12, 13, 14, 15, 16, 17] [] rfl rfl (by decide) (by decide) hk1 hFc hP1 hD1
    generalize H1 = H at hP hS ⊢
    have hP : va_P (dC, dI) vwCl (tm_wModel cI cZ a s16 hh) H := hP
    have hD : va_D A (tm_wModel cI cZ a s16 hh) := hD
    refine lv_bipush (v := 10) hx hb dX9_looksIn_18 (by decide) ?_
    refine lv_iconst (v := 2) hx hb dX9_looksIn_20 (by decide) ?_
    refine lv_aload_n hx hb dX9_looksIn_21 rfl (lv_at hl 1 rfl) ?_
    refine va_get (D := (dC, dI)) (ci := 7) (v := .int (s16 0 8)) (C := RX9) (T := TX9) (N := 30) hx hb hts h_in9 hown hK hP 0 rfl rfl 8 (by decide) h_f34 (fun _ h9 => h9) rfl dX9_looksIn_22 ?_
    refine lv_imul hx hb dX9_looksIn_25 ?_
    refine lv_iadd hx hb dX9_looksIn_26 ?_
    refine lv_icmp_lt (tgt := 39) hx hb dX9_looksIn_27 (by decide) (fun c17 => ?_) (fun c17 => ?_)
    · have hw := hw.1 c17
      exact b39 p0 r1 s16 _ _ _ hw hP hD hS (lv_sub hl [1, 2, 0] rfl)
    · have hw := hw.2 c17
      refine lv_aload_n hx hb dX9_looksIn_30 rfl (lv_at hl 1 rfl) ?_
      refine lv_iload_n hx hb dX9_looksIn_31 rfl (lv_at hl 2 rfl) ?_
      refine lv_iconst (v := 4) hx hb dX9_looksIn_32 (by decide) ?_
      have hPc := hP
      have hDc := hD
      have hFc := va_free (wc := (tm_wModel cI cZ a s16 hh)) hD hS hA [0, 1, 2, 3, 4, 5, 6, 7, 8, 9, 10, 11, 12, 13, 14, 15, 16, 17] rfl
      refine va_callv (va_runV (As := [.int p0, .int 4]) (rest := []) ⟨hx, hb, hml, hown, hts⟩ (kk_X9_into l dC dI cI cZ a s16 hh H.size p0 4 _ hw) (cwV 2 hts gX9_looksIn_X9_into rfl rfl rfl (by decide +kernel) ⟨Nat.le_of_ble_eq_true rfl, Nat.le_of_ble_eq_true rfl⟩) ⟨tm_blind, va_recv hK hPc (ci := 7) (q0 := 0) rfl rfl, fun U hU hW => ⟨rfl, by rw [hU], by rw [hU]; exact hPc, va_K.moved hW.alike hK, hDc.weaken (fun _ _ _ _ => trivial)⟩⟩ rfl rfl hl.1 rfl (lv_room (Nat.le_of_ble_eq_true rfl)) dX9_looksIn_33 ⟨Nat.zero_le _, Nat.zero_le _⟩) hS (fun q _ h => hFc q h) hFc (fun s18 t H1 locs ht hvm hw hB hz1 hk1 hS => ?_)
      obtain ⟨hP1, hK1, hD1⟩ := hB
      rw [ht] at hP1
      obtain ⟨hP, hD⟩ := va_join (wr := []) (w1 := (tm_wModel cI cZ a s18 hh)) hP hD [0, 1, 2, 3, 4, 5, 6, 7, 8, 9, 10, 11, 12, 13, 14, 15, 16, 17] [] rfl rfl (by decide) (by decide) hk1 hFc hP1 hD1
      generalize H1 = H at hP hS ⊢
      have hP : va_P (dC, dI) vwCl (tm_wModel cI cZ a s18 hh) H := hP
      have hD : va_D A (tm_wModel cI cZ a s18 hh) := hD
      refine lv_goto (tgt := 87) hx hb dX9_looksIn_36 (by decide) ?_
      exact W.vret hx hb hr (fun t ht hW => ⟨⟨s18, rfl, hw, by rw [ht]; exact hP, va_K.moved hW.alike hK, hD⟩, hS.F ht⟩) hS.2.2 dX9_looksIn_87
def wp_X9_ear (p0 : Int32) (p1 : Int32) (s0 : tm_St) (K : Int32 → tm_St → Prop) : Prop := (vp_in ((5 * p0) + p1) 10 ∧ K (s0 7 (((5 * p0) + p1) : Int32).toNatClampNeg) s0)
set_option maxRecDepth 100000 in
set_option maxHeartbeats 4000000 in
theorem kk_X9_ear (l : Launch) (dC : Nat → ClassId) (dI : Nat → Nat → Nat) (cI cZ : ClassId) (a : Nat → Nat) (s0 : tm_St) (hh : Int64) (sz : Nat) (p0 : Int32) (p1 : Int32) (K : Int32 → tm_St → Prop) (hw : wp_X9_ear p0 p1 s0 K) : Met l yX9_ear wsX9_ear ({ frames := 0, cells := 0, slots := 0, locals := 0 }) (va_Pc [.ref (a 0), .int p0, .int p1] (tm_Pre dC dI cI cZ (tm_wModel cI cZ a s0 hh) sz)) (va_Qi (fun (r : Int32) (u : tm_St) => K r u) (fun (u : tm_St) t => tm_At dC dI cI cZ (va_A (tm_wModel cI cZ a s0 hh) sz) (tm_wModel cI cZ a u hh) t) (va_A (tm_wModel cI cZ a s0 hh) sz)) 0 0 (va_A (tm_wModel cI cZ a s0 hh) sz) := by
  refine Met.ofW (cc := cX9_ear) (maxL := 3) (ret := (some .int)) (by decide +kernel) rfl ?_
  intro p e z m args below meth c z₁ B hml hv
  obtain ⟨rfl, hsz, hP, hK, hD0⟩ := hv
  have hx := B.exec
  have hb := B.bytes
  have hr := B.returns
  have hts := atoms_spec (ws := wsX9_ear) B.pre
  have hown : z.vm.findClass RX9 = some m.cls := findClass_of_methodNamed B.named
  have hlocks := B.notSynchronized
  subst hsz
  have hD := hD0.self (sz := z.heap.size)
  generalize hAe : va_A (tm_wModel cI cZ a s0 hh) z.heap.size = A at hD ⊢
  have hA : ∀ q : Nat, z.heap.size ≤ q → A q := fun q h => by rw [← hAe]; exact Or.inr h
  have hS : va_S A z.heap z.heap [] := va_S.rf
  have h_f28 := hts (.fieldLink RX9 28 "TwoModemsModel" "hears" "[I") (by decide +kernel)
  have h_in9 : ∀ w ∈ u_ws RX9 TX9 30, w ∈ wsX9_ear := by decide +kernel
  have hl := lv_entry ([.ref (a 0), .int p0, .int p1]) (n := 3) (Nat.le_of_ble_eq_true rfl)
  rw [lg_entry_eq]
  generalize (lg_sl ([.ref (a 0), .int p0, .int p1]) ++ List.replicate (3 - (lg_sl ([.ref (a 0), .int p0, .int p1])).length) Slot.unset).toArray = ls at hl ⊢
  have hl : lv_has ls 3 [(0, .ref (a 0)), (1, .int p0), (2, .int p1)] := hl
  unfold wp_X9_ear at hw
  refine lv_aload_n hx hb dX9_ear_0 rfl (lv_at hl 0 rfl) ?_
  refine va_get (D := (dC, dI)) (ci := 7) (v := .ref (a 7)) (C := RX9) (T := TX9) (N := 30) hx hb hts h_in9 hown hK hP 0 rfl rfl 6 (by decide) h_f28 (fun _ h9 => h9) rfl dX9_ear_1 ?_
  refine lv_iconst (v := 5) hx hb dX9_ear_4 (by decide) ?_
  refine lv_iload_n hx hb dX9_ear_5 rfl (lv_at hl 1 rfl) ?_
  refine lv_imul hx hb dX9_ear_6 ?_
  refine lv_iload_n hx hb dX9_ear_7 rfl (lv_at hl 2 rfl) ?_
  refine lv_iadd hx hb dX9_ear_8 ?_
  have c1 := hw.1
  have hw := hw.2
  refine va_iald hx hb hK hP 7 0 rfl rfl c1 dX9_ear_9 ?_
  exact W.iret (v := (s0 7 (((5 * p0) + p1) : Int32).toNatClampNeg)) hx hb hr (fun t ht hW => ⟨⟨(s0 7 (((5 * p0) + p1) : Int32).toNatClampNeg), s0, rfl, hw, by rw [ht]; exact hP, va_K.moved hW.alike hK, hD⟩, hS.F ht⟩) hS.2.2 dX9_ear_10
def wp_X9_note (p0 : Int32) (s0 : tm_St) (K : tm_St → Prop) : Prop := (wp_X9_ear p0 1 s0 (fun r1 s2 => (wp_X9_ear p0 1 s2 (fun r3 s4 => (vp_in ((8 * (1 - p0)) + r3) 16 ∧ (vp_in ((8 * p0) + r1) 16 ∧ (∀ s7 : tm_St, s7 = tm_s s4 2 (upd (s4 2) (((8 * p0) + r1) : Int32).toNatClampNeg (s4 8 (((8 * (1 - p0)) + r3) : Int32).toNatClampNeg)) → K s7)))))))
set_option maxRecDepth 100000 in
set_option maxHeartbeats 4000000 in
theorem kk_X9_note (l : Launch) (dC : Nat → ClassId) (dI : Nat → Nat → Nat) (cI cZ : ClassId) (a : Nat → Nat) (s0 : tm_St) (hh : Int64) (sz : Nat) (p0 : Int32) (K : tm_St → Prop) (hw : wp_X9_note p0 s0 K) : Met l yX9_note wsX9_note ({ frames := 1, cells := 0, slots := 0, locals := 22 }) (va_Pc [.ref (a 0), .int p0] (tm_Pre dC dI cI cZ (tm_wModel cI cZ a s0 hh) sz)) (va_Qv (fun (u : tm_St) => K u) (fun (u : tm_St) t => tm_At dC dI cI cZ (va_A (tm_wModel cI cZ a s0 hh) sz) (tm_wModel cI cZ a u hh) t) (va_A (tm_wModel cI cZ a s0 hh) sz)) 0 0 (va_A (tm_wModel cI cZ a s0 hh) sz) := by
  refine Met.ofW (cc := cX9_note) (maxL := 2) (ret := none) (by decide +kernel) rfl ?_
  intro p e z m args below meth c z₁ B hml hv
  obtain ⟨rfl, hsz, hP, hK, hD0⟩ := hv
  have hx := B.exec
  have hb := B.bytes
  have hr := B.returns
  have hts := atoms_spec (ws := wsX9_note) B.pre
  have hown : z.vm.findClass RX9 = some m.cls := findClass_of_methodNamed B.named
  have hlocks := B.notSynchronized
  subst hsz
  have hD := hD0.self (sz := z.heap.size)
  generalize hAe : va_A (tm_wModel cI cZ a s0 hh) z.heap.size = A at hD ⊢
  have hA : ∀ q : Nat, z.heap.size ≤ q → A q := fun q h => by rw [← hAe]; exact Or.inr h
  have hS : va_S A z.heap z.heap [] := va_S.rf
  have h_f13 := hts (.fieldLink RX9 13 "TwoModemsModel" "noted" "[I") (by decide +kernel)
  have h_in9 : ∀ w ∈ u_ws RX9 TX9 30, w ∈ wsX9_note := by decide +kernel
  have h_f31 := hts (.fieldLink RX9 31 "TwoModemsModel" "quality" "[I") (by decide +kernel)
  have hl := lv_entry ([.ref (a 0), .int p0]) (n := 2) (Nat.le_of_ble_eq_true rfl)
  rw [lg_entry_eq]
  generalize (lg_sl ([.ref (a 0), .int p0]) ++ List.replicate (2 - (lg_sl ([.ref (a 0), .int p0])).length) Slot.unset).toArray = ls at hl ⊢
  have hl : lv_has ls 2 [(0, .ref (a 0)), (1, .int p0)] := hl
  unfold wp_X9_note at hw
  refine lv_aload_n hx hb dX9_note_0 rfl (lv_at hl 0 rfl) ?_
  refine va_get (D := (dC, dI)) (ci := 7) (v := .ref (a 2)) (C := RX9) (T := TX9) (N := 30) hx hb hts h_in9 hown hK hP 0 rfl rfl 1 (by decide) h_f13 (fun _ h9 => h9) rfl dX9_note_1 ?_
  refine lv_bipush (v := 8) hx hb dX9_note_4 (by decide) ?_
  refine lv_iload_n hx hb dX9_note_6 rfl (lv_at hl 1 rfl) ?_
  refine lv_imul hx hb dX9_note_7 ?_
  refine lv_aload_n hx hb dX9_note_8 rfl (lv_at hl 0 rfl) ?_
  refine lv_iload_n hx hb dX9_note_9 rfl (lv_at hl 1 rfl) ?_
  refine lv_iconst (v := 1) hx hb dX9_note_10 (by decide) ?_
  have hPc := hP
  have hDc := hD
  have hFc := va_free (wc := (tm_wModel cI cZ a s0 hh)) hD hS hA [0, 1, 2, 3, 4, 5, 6, 7, 8, 9, 10, 11, 12, 13, 14, 15, 16, 17] rfl
  refine va_calli (va_runV (As := [.int p0, .int 1]) (rest := [.int (8 * p0), .ref (a 2)]) ⟨hx, hb, hml, hown, hts⟩ (kk_X9_ear l dC dI cI cZ a s0 hh z.heap.size p0 1 _ hw) (cwV 2 hts gX9_note_X9_ear rfl rfl rfl (by decide +kernel) ⟨Nat.le_of_ble_eq_true rfl, Nat.le_of_ble_eq_true rfl⟩) ⟨tm_blind, va_recv hK hPc (ci := 7) (q0 := 0) rfl rfl, fun U hU hW => ⟨rfl, by rw [hU], by rw [hU]; exact hPc, va_K.moved hW.alike hK, hDc.weaken (fun _ _ _ _ => trivial)⟩⟩ rfl rfl hl.1 rfl (lv_room (Nat.le_of_ble_eq_true rfl)) dX9_note_11 ⟨Nat.zero_le _, Nat.zero_le _⟩) hS (fun q _ h => hFc q h) hFc (fun r1 s2 t H1 locs ht hvm hw hB hz1 hk1 hS => ?_)
  obtain ⟨hP1, hK1, hD1⟩ := hB
  rw [ht] at hP1
  obtain ⟨hP, hD⟩ := va_join (wr := []) (w1 := (tm_wModel cI cZ a s2 hh)) hP hD [0, 1, 2, 3, 4, 5, 6, 7, 8, 9, 10, 11, 12, 13, 14, 15, 16, 17] [] rfl rfl (by decide) (by decide) hk1 hFc hP1 hD1
  generalize H1 = H at hP hS ⊢
  have hP : va_P (dC, dI) vwCl (tm_wModel cI cZ a s2 hh) H := hP
  have hD : va_D A (tm_wModel cI cZ a s2 hh) := hD
  refine lv_iadd hx hb dX9_note_14 ?_
  refine lv_aload_n hx hb dX9_note_15 rfl (lv_at hl 0 rfl) ?_
  refine va_get (D := (dC, dI)) (ci := 7) (v := .ref (a 8)) (C := RX9) (T := TX9) (N := 30) hx hb hts h_in9 hown hK hP 0 rfl rfl 7 (by decide) h_f31 (fun _ h9 => h9) rfl dX9_note_16 ?_
  refine lv_bipush (v := 8) hx hb dX9_note_19 (by decide) ?_
  refine lv_iconst (v := 1) hx hb dX9_note_21 (by decide) ?_
  refine lv_iload_n hx hb dX9_note_22 rfl (lv_at hl 1 rfl) ?_
  refine lv_isub hx hb dX9_note_23 ?_
  refine lv_imul hx hb dX9_note_24 ?_
  refine lv_aload_n hx hb dX9_note_25 rfl (lv_at hl 0 rfl) ?_
  refine lv_iload_n hx hb dX9_note_26 rfl (lv_at hl 1 rfl) ?_
  refine lv_iconst (v := 1) hx hb dX9_note_27 (by decide) ?_
  have hPc := hP
  have hDc := hD
  have hFc := va_free (wc := (tm_wModel cI cZ a s2 hh)) hD hS hA [0, 1, 2, 3, 4, 5, 6, 7, 8, 9, 10, 11, 12, 13, 14, 15, 16, 17] rfl
  refine va_calli (va_runV (As := [.int p0, .int 1]) (rest := [.int (8 * (1 - p0)), .ref (a 8), .int ((8 * p0) + r1), .ref (a 2)]) ⟨hx, hb, hml, hown, hts⟩ (kk_X9_ear l dC dI cI cZ a s2 hh H.size p0 1 _ hw) (cwV 2 hts gX9_note_X9_ear rfl rfl rfl (by decide +kernel) ⟨Nat.le_of_ble_eq_true rfl, Nat.le_of_ble_eq_true rfl⟩) ⟨tm_blind, va_recv hK hPc (ci := 7) (q0 := 0) rfl rfl, fun U hU hW => ⟨rfl, by rw [hU], by rw [hU]; exact hPc, va_K.moved hW.alike hK, hDc.weaken (fun _ _ _ _ => trivial)⟩⟩ rfl rfl hl.1 rfl (lv_room (Nat.le_of_ble_eq_true rfl)) dX9_note_28 ⟨Nat.zero_le _, Nat.zero_le _⟩) hS (fun q _ h => hFc q h) hFc (fun r3 s4 t H1 locs ht hvm hw hB hz1 hk1 hS => ?_)
  obtain ⟨hP1, hK1, hD1⟩ := hB
  rw [ht] at hP1
  obtain ⟨hP, hD⟩ := va_join (wr := []) (w1 := (tm_wModel cI cZ a s4 hh)) hP hD [0, 1, 2, 3, 4, 5, 6, 7, 8, 9, 10, 11, 12, 13, 14, 15, 16, 17] [] rfl rfl (by decide) (by decide) hk1 hFc hP1 hD1
  generalize H1 = H at hP hS ⊢
  have hP : va_P (dC, dI) vwCl (tm_wModel cI cZ a s4 hh) H := hP
  have hD : va_D A (tm_wModel cI cZ a s4 hh) := hD
  refine lv_iadd hx hb dX9_note_31 ?_
  have c5 := hw.1
  have hw := hw.2
  refine va_iald hx hb hK hP 8 0 rfl rfl c5 dX9_note_32 ?_
  have c6 := hw.1
  have hw := hw.2
  refine va_iast hx hb hK hP hD hS 2 0 rfl rfl c6 dX9_note_33 (fun H locs hP hD hS => ?_)
  obtain ⟨s7, es7⟩ : ∃ y : tm_St, y = tm_s s4 2 (upd (s4 2) (((8 * p0) + r1) : Int32).toNatClampNeg (s4 8 (((8 * (1 - p0)) + r3) : Int32).toNatClampNeg)) := ⟨_, rfl⟩
  have hw := hw s7 es7
  have hP : va_P (dC, dI) vwCl (tm_wModel cI cZ a s7 hh) H := by rw [es7]; exact hP
  have hD : va_D A (tm_wModel cI cZ a s7 hh) := by rw [es7]; exact hD
  exact W.vret hx hb hr (fun t ht hW => ⟨⟨s7, rfl, hw, by rw [ht]; exact hP, va_K.moved hW.alike hK, hD⟩, hS.F ht⟩) hS.2.2 dX9_note_34
def wp_X9_answers (p0 : Int32) (s0 : tm_St) (K : tm_St → Prop) : Prop := (wp_X9_ear p0 0 s0 (fun r1 s2 => ((¬ r1 = 3 → K s2) ∧ (r1 = 3 → (wp_X9_into p0 3 s2 (fun s4 => (wp_X9_note p0 s4 (fun s5 => K s5))))))))
set_option maxRecDepth 100000 in
set_option maxHeartbeats 4000000 in
theorem kk_X9_answers (l : Launch) (dC : Nat → ClassId) (dI : Nat → Nat → Nat) (cI cZ : ClassId) (a : Nat → Nat) (s0 : tm_St) (hh : Int64) (sz : Nat) (p0 : Int32) (K : tm_St → Prop) (hw : wp_X9_answers p0 s0 K) : Met l yX9_answers wsX9_answers ({ frames := 3, cells := 0, slots := 0, locals := 68 }) (va_Pc [.ref (a 0), .int p0] (tm_Pre dC dI cI cZ (tm_wModel cI cZ a s0 hh) sz)) (va_Qv (fun (u : tm_St) => K u) (fun (u : tm_St) t => tm_At dC dI cI cZ (va_A (tm_wModel cI cZ a s0 hh) sz) (tm_wModel cI cZ a u hh) t) (va_A (tm_wModel cI cZ a s0 hh) sz)) 0 0 (va_A (tm_wModel cI cZ a s0 hh) sz) := by
  refine Met.ofW (cc := cX9_answers) (maxL := 2) (ret := none) (by decide +kernel) rfl ?_
  intro p e z m args below meth c z₁ B hml hv
  obtain ⟨rfl, hsz, hP, hK, hD0⟩ := hv
  have hx := B.exec
  have hb := B.bytes
  have hr := B.returns
  have hts := atoms_spec (ws := wsX9_answers) B.pre
  have hown : z.vm.findClass RX9 = some m.cls := findClass_of_methodNamed B.named
  have hlocks := B.notSynchronized
  subst hsz
  have hD := hD0.self (sz := z.heap.size)
  generalize hAe : va_A (tm_wModel cI cZ a s0 hh) z.heap.size = A at hD ⊢
  have hA : ∀ q : Nat, z.heap.size ≤ q → A q := fun q h => by rw [← hAe]; exact Or.inr h
  have hS : va_S A z.heap z.heap [] := va_S.rf
  have hl := lv_entry ([.ref (a 0), .int p0]) (n := 2) (Nat.le_of_ble_eq_true rfl)
  rw [lg_entry_eq]
  generalize (lg_sl ([.ref (a 0), .int p0]) ++ List.replicate (2 - (lg_sl ([.ref (a 0), .int p0])).length) Slot.unset).toArray = ls at hl ⊢
  have hl : lv_has ls 2 [(0, .ref (a 0)), (1, .int p0)] := hl
  unfold wp_X9_answers at hw
  refine lv_aload_n hx hb dX9_answers_0 rfl (lv_at hl 0 rfl) ?_
  refine lv_iload_n hx hb dX9_answers_1 rfl (lv_at hl 1 rfl) ?_
  refine lv_iconst (v := 0) hx hb dX9_answers_2 (by decide) ?_
  have hPc := hP
  have hDc := hD
  have hFc := va_free (wc := (tm_wModel cI cZ a s0 hh)) hD hS hA [0, 1, 2, 3, 4, 5, 6, 7, 8, 9, 10, 11, 12, 13, 14, 15, 16, 17] rfl
  refine va_calli (va_runV (As := [.int p0, .int 0]) (rest := []) ⟨hx, hb, hml, hown, hts⟩ (kk_X9_ear l dC dI cI cZ a s0 hh z.heap.size p0 0 _ hw) (cwV 2 hts gX9_answers_X9_ear rfl rfl rfl (by decide +kernel) ⟨Nat.le_of_ble_eq_true rfl, Nat.le_of_ble_eq_true rfl⟩) ⟨tm_blind, va_recv hK hPc (ci := 7) (q0 := 0) rfl rfl, fun U hU hW => ⟨rfl, by rw [hU], by rw [hU]; exact hPc, va_K.moved hW.alike hK, hDc.weaken (fun _ _ _ _ => trivial)⟩⟩ rfl rfl hl.1 rfl (lv_room (Nat.le_of_ble_eq_true rfl)) dX9_answers_3 ⟨Nat.zero_le _, Nat.zero_le _⟩) hS (fun q _ h => hFc q h) hFc (fun r1 s2 t H1 locs ht hvm hw hB hz1 hk1 hS => ?_)
  obtain ⟨hP1, hK1, hD1⟩ := hB
  rw [ht] at hP1
  obtain ⟨hP, hD⟩ := va_join (wr := []) (w1 := (tm_wModel cI cZ a s2 hh)) hP hD [0, 1, 2, 3, 4, 5, 6, 7, 8, 9, 10, 11, 12, 13, 14, 15, 16, 17] [] rfl rfl (by decide) (by decide) hk1 hFc hP1 hD1
  generalize H1 = H at hP hS ⊢
  have hP : va_P (dC, dI) vwCl (tm_wModel cI cZ a s2 hh) H := hP
  have hD : va_D A (tm_wModel cI cZ a s2 hh) := hD
  refine lv_iconst (v := 3) hx hb dX9_answers_6 (by decide) ?_
  refine lv_icmp_ne (tgt := 21) hx hb dX9_answers_7 (by decide) (fun c3 => ?_) (fun c3 => ?_)
  · have hw := hw.1 c3
    exact W.vret hx hb hr (fun t ht hW => ⟨⟨s2, rfl, hw, by rw [ht]; exact hP, va_K.moved hW.alike hK, hD⟩, hS.F ht⟩) hS.2.2 dX9_answers_21
  · have hw := hw.2 c3
    refine lv_aload_n hx hb dX9_answers_10 rfl (lv_at hl 0 rfl) ?_
    refine lv_iload_n hx hb dX9_answers_11 rfl (lv_at hl 1 rfl) ?_
    refine lv_iconst (v := 3) hx hb dX9_answers_12 (by decide) ?_
    have hPc := hP
    have hDc := hD
    have hFc := va_free (wc := (tm_wModel cI cZ a s2 hh)) hD hS hA [0, 1, 2, 3, 4, 5, 6, 7, 8, 9, 10, 11, 12, 13, 14, 15, 16, 17] rfl
    refine va_callv (va_runV (As := [.int p0, .int 3]) (rest := []) ⟨hx, hb, hml, hown, hts⟩ (kk_X9_into l dC dI cI cZ a s2 hh H.size p0 3 _ hw) (cwV 2 hts gX9_answers_X9_into rfl rfl rfl (by decide +kernel) ⟨Nat.le_of_ble_eq_true rfl, Nat.le_of_ble_eq_true rfl⟩) ⟨tm_blind, va_recv hK hPc (ci := 7) (q0 := 0) rfl rfl, fun U hU hW => ⟨rfl, by rw [hU], by rw [hU]; exact hPc, va_K.moved hW.alike hK, hDc.weaken (fun _ _ _ _ => trivial)⟩⟩ rfl rfl hl.1 rfl (lv_room (Nat.le_of_ble_eq_true rfl)) dX9_answers_13 ⟨Nat.zero_le _, Nat.zero_le _⟩) hS (fun q _ h => hFc q h) hFc (fun s4 t H1 locs ht hvm hw hB hz1 hk1 hS => ?_)
    obtain ⟨hP1, hK1, hD1⟩ := hB
    rw [ht] at hP1
    obtain ⟨hP, hD⟩ := va_join (wr := []) (w1 := (tm_wModel cI cZ a s4 hh)) hP hD [0, 1, 2, 3, 4, 5, 6, 7, 8, 9, 10, 11, 12, 13, 14, 15, 16, 17] [] rfl rfl (by decide) (by decide) hk1 hFc hP1 hD1
    generalize H1 = H at hP hS ⊢
    have hP : va_P (dC, dI) vwCl (tm_wModel cI cZ a s4 hh) H := hP
    have hD : va_D A (tm_wModel cI cZ a s4 hh) := hD
    refine lv_aload_n hx hb dX9_answers_16 rfl (lv_at hl 0 rfl) ?_
    refine lv_iload_n hx hb dX9_answers_17 rfl (lv_at hl 1 rfl) ?_
    have hPc := hP
    have hDc := hD
    have hFc := va_free (wc := (tm_wModel cI cZ a s4 hh)) hD hS hA [0, 1, 2, 3, 4, 5, 6, 7, 8, 9, 10, 11, 12, 13, 14, 15, 16, 17] rfl
    refine va_callv (va_runV (As := [.int p0]) (rest := []) ⟨hx, hb, hml, hown, hts⟩ (kk_X9_note l dC dI cI cZ a s4 hh H.size p0 _ hw) (cwV 1 hts gX9_answers_X9_note rfl rfl rfl (by decide +kernel) ⟨Nat.le_of_ble_eq_true rfl, Nat.le_of_ble_eq_true rfl⟩) ⟨tm_blind, va_recv hK hPc (ci := 7) (q0 := 0) rfl rfl, fun U hU hW => ⟨rfl, by rw [hU], by rw [hU]; exact hPc, va_K.moved hW.alike hK, hDc.weaken (fun _ _ _ _ => trivial)⟩⟩ rfl rfl hl.1 rfl (lv_room (Nat.le_of_ble_eq_true rfl)) dX9_answers_18 ⟨Nat.zero_le _, Nat.zero_le _⟩) hS (fun q _ h => hFc q h) hFc (fun s5 t H1 locs ht hvm hw hB hz1 hk1 hS => ?_)
    obtain ⟨hP1, hK1, hD1⟩ := hB
    rw [ht] at hP1
    obtain ⟨hP, hD⟩ := va_join (wr := []) (w1 := (tm_wModel cI cZ a s5 hh)) hP hD [0, 1, 2, 3, 4, 5, 6, 7, 8, 9, 10, 11, 12, 13, 14, 15, 16, 17] [] rfl rfl (by decide) (by decide) hk1 hFc hP1 hD1
    generalize H1 = H at hP hS ⊢
    have hP : va_P (dC, dI) vwCl (tm_wModel cI cZ a s5 hh) H := hP
    have hD : va_D A (tm_wModel cI cZ a s5 hh) := hD
    exact W.vret hx hb hr (fun t ht hW => ⟨⟨s5, rfl, hw, by rw [ht]; exact hP, va_K.moved hW.alike hK, hD⟩, hS.F ht⟩) hS.2.2 dX9_answers_21
def wp_X9_hearsOffer (p0 : Int32) (s0 : tm_St) (K : tm_St → Prop) : Prop := (wp_X9_ear p0 0 s0 (fun r1 s2 => ((¬ r1 = 5 → K s2) ∧ (r1 = 5 → (wp_X9_ear p0 1 s2 (fun r4 s5 => (wp_X9_of p0 2 s5 (fun r6 s7 => ((r4 ≤ r6 → K s7) ∧ (¬ r4 ≤ r6 → (wp_X9_ear p0 1 s7 (fun r9 s10 => (wp_X9_put p0 2 r9 s10 (fun s11 => (wp_X9_into p0 5 s11 (fun s12 => K s12))))))))))))))))
set_option maxRecDepth 100000 in
set_option maxHeartbeats 4000000 in
theorem kk_X9_hearsOffer (l : Launch) (dC : Nat → ClassId) (dI : Nat → Nat → Nat) (cI cZ : ClassId) (a : Nat → Nat) (s0 : tm_St) (hh : Int64) (sz : Nat) (p0 : Int32) (K : tm_St → Prop) (hw : wp_X9_hearsOffer p0 s0 K) : Met l yX9_hearsOffer wsX9_hearsOffer ({ frames := 3, cells := 0, slots := 0, locals := 68 }) (va_Pc [.ref (a 0), .int p0] (tm_Pre dC dI cI cZ (tm_wModel cI cZ a s0 hh) sz)) (va_Qv (fun (u : tm_St) => K u) (fun (u : tm_St) t => tm_At dC dI cI cZ (va_A (tm_wModel cI cZ a s0 hh) sz) (tm_wModel cI cZ a u hh) t) (va_A (tm_wModel cI cZ a s0 hh) sz)) 0 0 (va_A (tm_wModel cI cZ a s0 hh) sz) := by
  refine Met.ofW (cc := cX9_hearsOffer) (maxL := 2) (ret := none) (by decide +kernel) rfl ?_
  intro p e z m args below meth c z₁ B hml hv
  obtain ⟨rfl, hsz, hP, hK, hD0⟩ := hv
  have hx := B.exec
  have hb := B.bytes
  have hr := B.returns
  have hts := atoms_spec (ws := wsX9_hearsOffer) B.pre
  have hown : z.vm.findClass RX9 = some m.cls := findClass_of_methodNamed B.named
  have hlocks := B.notSynchronized
  subst hsz
  have hD := hD0.self (sz := z.heap.size)
  generalize hAe : va_A (tm_wModel cI cZ a s0 hh) z.heap.size = A at hD ⊢
  have hA : ∀ q : Nat, z.heap.size ≤ q → A q := fun q h => by rw [← hAe]; exact Or.inr h
  have hS : va_S A z.heap z.heap [] := va_S.rf
  have hl := lv_entry ([.ref (a 0), .int p0]) (n := 2) (Nat.le_of_ble_eq_true rfl)
  rw [lg_entry_eq]
  generalize (lg_sl ([.ref (a 0), .int p0]) ++ List.replicate (2 - (lg_sl ([.ref (a 0), .int p0])).length) Slot.unset).toArray = ls at hl ⊢
  have hl : lv_has ls 2 [(0, .ref (a 0)), (1, .int p0)] := hl
  unfold wp_X9_hearsOffer at hw
  refine lv_aload_n hx hb dX9_hearsOffer_0 rfl (lv_at hl 0 rfl) ?_
  refine lv_iload_n hx hb dX9_hearsOffer_1 rfl (lv_at hl 1 rfl) ?_
  refine lv_iconst (v := 0) hx hb dX9_hearsOffer_2 (by decide) ?_
  have hPc := hP
  have hDc := hD
  have hFc := va_free (wc := (tm_wModel cI cZ a s0 hh)) hD hS hA [0, 1, 2, 3, 4, 5, 6, 7, 8, 9, 10, 11, 12, 13, 14, 15, 16, 17] rfl
  refine va_calli (va_runV (As := [.int p0, .int 0]) (rest := []) ⟨hx, hb, hml, hown, hts⟩ (kk_X9_ear l dC dI cI cZ a s0 hh z.heap.size p0 0 _ hw) (cwV 2 hts gX9_hearsOffer_X9_ear rfl rfl rfl (by decide +kernel) ⟨Nat.le_of_ble_eq_true rfl, Nat.le_of_ble_eq_true rfl⟩) ⟨tm_blind, va_recv hK hPc (ci := 7) (q0 := 0) rfl rfl, fun U hU hW => ⟨rfl, by rw [hU], by rw [hU]; exact hPc, va_K.moved hW.alike hK, hDc.weaken (fun _ _ _ _ => trivial)⟩⟩ rfl rfl hl.1 rfl (lv_room (Nat.le_of_ble_eq_true rfl)) dX9_hearsOffer_3 ⟨Nat.zero_le _, Nat.zero_le _⟩) hS (fun q _ h => hFc q h) hFc (fun r1 s2 t H1 locs ht hvm hw hB hz1 hk1 hS => ?_)
  obtain ⟨hP1, hK1, hD1⟩ := hB
  rw [ht] at hP1
  obtain ⟨hP, hD⟩ := va_join (wr := []) (w1 := (tm_wModel cI cZ a s2 hh)) hP hD [0, 1, 2, 3, 4, 5, 6, 7, 8, 9, 10, 11, 12, 13, 14, 15, 16, 17] [] rfl rfl (by decide) (by decide) hk1 hFc hP1 hD1
  generalize H1 = H at hP hS ⊢
  have hP : va_P (dC, dI) vwCl (tm_wModel cI cZ a s2 hh) H := hP
  have hD : va_D A (tm_wModel cI cZ a s2 hh) := hD
  refine lv_iconst (v := 5) hx hb dX9_hearsOffer_6 (by decide) ?_
  refine lv_icmp_ne (tgt := 43) hx hb dX9_hearsOffer_7 (by decide) (fun c3 => ?_) (fun c3 => ?_)
  · have hw := hw.1 c3
    exact W.vret hx hb hr (fun t ht hW => ⟨⟨s2, rfl, hw, by rw [ht]; exact hP, va_K.moved hW.alike hK, hD⟩, hS.F ht⟩) hS.2.2 dX9_hearsOffer_43
  · have hw := hw.2 c3
    refine lv_aload_n hx hb dX9_hearsOffer_10 rfl (lv_at hl 0 rfl) ?_
    refine lv_iload_n hx hb dX9_hearsOffer_11 rfl (lv_at hl 1 rfl) ?_
    refine lv_iconst (v := 1) hx hb dX9_hearsOffer_12 (by decide) ?_
    have hPc := hP
    have hDc := hD
    have hFc := va_free (wc := (tm_wModel cI cZ a s2 hh)) hD hS hA [0, 1, 2, 3, 4, 5, 6, 7, 8, 9, 10, 11, 12, 13, 14, 15, 16, 17] rfl
    refine va_calli (va_runV (As := [.int p0, .int 1]) (rest := []) ⟨hx, hb, hml, hown, hts⟩ (kk_X9_ear l dC dI cI cZ a s2 hh H.size p0 1 _ hw) (cwV 2 hts gX9_hearsOffer_X9_ear rfl rfl rfl (by decide +kernel) ⟨Nat.le_of_ble_eq_true rfl, Nat.le_of_ble_eq_true rfl⟩) ⟨tm_blind, va_recv hK hPc (ci := 7) (q0 := 0) rfl rfl, fun U hU hW => ⟨rfl, by rw [hU], by rw [hU]; exact hPc, va_K.moved hW.alike hK, hDc.weaken (fun _ _ _ _ => trivial)⟩⟩ rfl rfl hl.1 rfl (lv_room (Nat.le_of_ble_eq_true rfl)) dX9_hearsOffer_13 ⟨Nat.zero_le _, Nat.zero_le _⟩) hS (fun q _ h => hFc q h) hFc (fun r4 s5 t H1 locs ht hvm hw hB hz1 hk1 hS => ?_)
    obtain ⟨hP1, hK1, hD1⟩ := hB
    rw [ht] at hP1
    obtain ⟨hP, hD⟩ := va_join (wr := []) (w1 := (tm_wModel cI cZ a s5 hh)) hP hD [0, 1, 2, 3, 4, 5, 6, 7, 8, 9, 10, 11, 12, 13, 14, 15, 16, 17] [] rfl rfl (by decide) (by decide) hk1 hFc hP1 hD1
    generalize H1 = H at hP hS ⊢
    have hP : va_P (dC, dI) vwCl (tm_wModel cI cZ a s5 hh) H := hP
    have hD : va_D A (tm_wModel cI cZ a s5 hh) := hD
    refine lv_aload_n hx hb dX9_hearsOffer_16 rfl (lv_at hl 0 rfl) ?_
    refine lv_iload_n hx hb dX9_hearsOffer_17 rfl (lv_at hl 1 rfl) ?_
    refine lv_iconst (v := 2) hx hb dX9_hearsOffer_18 (by decide) ?_
    have hPc := hP
    have hDc := hD
    have hFc := va_free (wc := (tm_wModel cI cZ a s5 hh)) hD hS hA [0, 1, 2, 3, 4, 5, 6, 7, 8, 9, 10, 11, 12, 13, 14, 15, 16, 17] rfl
    refine va_calli (va_runV (As := [.int p0, .int 2]) (rest := [.int r4]) ⟨hx, hb, hml, hown, hts⟩ (kk_X9_of l dC dI cI cZ a s5 hh H.size p0 2 _ hw) (cwV 2 hts gX9_hearsOffer_X9_of rfl rfl rfl (by decide +kernel) ⟨Nat.le_of_ble_eq_true rfl, Nat.le_of_ble_eq_true rfl⟩) ⟨tm_blind, va_recv hK hPc (ci := 7) (q0 := 0) rfl rfl, fun U hU hW => ⟨rfl, by rw [hU], by rw [hU]; exact hPc, va_K.moved hW.alike hK, hDc.weaken (fun _ _ _ _ => trivial)⟩⟩ rfl rfl hl.1 rfl (lv_room (Nat.le_of_ble_eq_true rfl)) dX9_hearsOffer_19 ⟨Nat.zero_le _, Nat.zero_le _⟩) hS (fun q _ h => hFc q h) hFc (fun r6 s7 t H1 locs ht hvm hw hB hz1 hk1 hS => ?_)
    obtain ⟨hP1, hK1, hD1⟩ := hB
    rw [ht] at hP1
    obtain ⟨hP, hD⟩ := va_join (wr := []) (w1 := (tm_wModel cI cZ a s7 hh)) hP hD [0, 1, 2, 3, 4, 5, 6, 7, 8, 9, 10, 11, 12, 13, 14, 15, 16, 17] [] rfl rfl (by decide) (by decide) hk1 hFc hP1 hD1
    generalize H1 = H at hP hS ⊢
    have hP : va_P (dC, dI) vwCl (tm_wModel cI cZ a s7 hh) H := hP
    have hD : va_D A (tm_wModel cI cZ a s7 hh) := hD
    refine lv_icmp_le (tgt := 43) hx hb dX9_hearsOffer_22 (by decide) (fun c8 => ?_) (fun c8 => ?_)
    · have hw := hw.1 c8
      exact W.vret hx hb hr (fun t ht hW => ⟨⟨s7, rfl, hw, by rw [ht]; exact hP, va_K.moved hW.alike hK, hD⟩, hS.F ht⟩) hS.2.2 dX9_hearsOffer_43
    · have hw := hw.2 c8
      refine lv_aload_n hx hb dX9_hearsOffer_25 rfl (lv_at hl 0 rfl) ?_
      refine lv_iload_n hx hb dX9_hearsOffer_26 rfl (lv_at hl 1 rfl) ?_
      refine lv_iconst (v := 2) hx hb dX9_hearsOffer_27 (by decide) ?_
      refine lv_aload_n hx hb dX9_hearsOffer_28 rfl (lv_at hl 0 rfl) ?_
      refine lv_iload_n hx hb dX9_hearsOffer_29 rfl (lv_at hl 1 rfl) ?_
      refine lv_iconst (v := 1) hx hb dX9_hearsOffer_30 (by decide) ?_
      have hPc := hP
      have hDc := hD
      have hFc := va_free (wc := (tm_wModel cI cZ a s7 hh)) hD hS hA [0, 1, 2, 3, 4, 5, 6, 7, 8, 9, 10, 11, 12, 13, 14, 15, 16, 17] rfl
      refine va_calli (va_runV (As := [.int p0, .int 1]) (rest := [.int 2, .int p0, .ref (a 0)]) ⟨hx, hb, hml, hown, hts⟩ (kk_X9_ear l dC dI cI cZ a s7 hh H.size p0 1 _ hw) (cwV 2 hts gX9_hearsOffer_X9_ear rfl rfl rfl (by decide +kernel) ⟨Nat.le_of_ble_eq_true rfl, Nat.le_of_ble_eq_true rfl⟩) ⟨tm_blind, va_recv hK hPc (ci := 7) (q0 := 0) rfl rfl, fun U hU hW => ⟨rfl, by rw [hU], by rw [hU]; exact hPc, va_K.moved hW.alike hK, hDc.weaken (fun _ _ _ _ => trivial)⟩⟩ rfl rfl hl.1 rfl (lv_room (Nat.le_of_ble_eq_true rfl)) dX9_hearsOffer_31 ⟨Nat.zero_le _, Nat.zero_le _⟩) hS (fun q _ h => hFc q h) hFc (fun r9 s10 t H1 locs ht hvm hw hB hz1 hk1 hS => ?_)
      obtain ⟨hP1, hK1, hD1⟩ := hB
      rw [ht] at hP1
      obtain ⟨hP, hD⟩ := va_join (wr := []) (w1 := (tm_wModel cI cZ a s10 hh)) hP hD [0, 1, 2, 3, 4, 5, 6, 7, 8, 9, 10, 11, 12, 13, 14, 15, 16, 17] [] rfl rfl (by decide) (by decide) hk1 hFc hP1 hD1
      generalize H1 = H at hP hS ⊢
      have hP : va_P (dC, dI) vwCl (tm_wModel cI cZ a s10 hh) H := hP
      have hD : va_D A (tm_wModel cI cZ a s10 hh) := hD
      have hPc := hP
      have hDc := hD
      have hFc := va_free (wc := (tm_wModel cI cZ a s10 hh)) hD hS hA [0, 1, 2, 3, 4, 5, 6, 7, 8, 9, 10, 11, 12, 13, 14, 15, 16, 17] rfl
      refine va_callv (va_runV (As := [.int p0, .int 2, .int r9]) (rest := []) ⟨hx, hb, hml, hown, hts⟩ (kk_X9_put l dC dI cI cZ a s10 hh H.size p0 2 r9 _ hw) (cwV 3 hts gX9_hearsOffer_X9_put rfl rfl rfl (by decide +kernel) ⟨Nat.le_of_ble_eq_true rfl, Nat.le_of_ble_eq_true rfl⟩) ⟨tm_blind, va_recv hK hPc (ci := 7) (q0 := 0) rfl rfl, fun U hU hW => ⟨rfl, by rw [hU], by rw [hU]; exact hPc, va_K.moved hW.alike hK, hDc.weaken (fun _ _ _ _ => trivial)⟩⟩ rfl rfl hl.1 rfl (lv_room (Nat.le_of_ble_eq_true rfl)) dX9_hearsOffer_34 ⟨Nat.zero_le _, Nat.zero_le _⟩) hS (fun q _ h => hFc q h) hFc (fun s11 t H1 locs ht hvm hw hB hz1 hk1 hS => ?_)
      obtain ⟨hP1, hK1, hD1⟩ := hB
      rw [ht] at hP1
      obtain ⟨hP, hD⟩ := va_join (wr := []) (w1 := (tm_wModel cI cZ a s11 hh)) hP hD [0, 1, 2, 3, 4, 5, 6, 7, 8, 9, 10, 11, 12, 13, 14, 15, 16, 17] [] rfl rfl (by decide) (by decide) hk1 hFc hP1 hD1
      generalize H1 = H at hP hS ⊢
      have hP : va_P (dC, dI) vwCl (tm_wModel cI cZ a s11 hh) H := hP
      have hD : va_D A (tm_wModel cI cZ a s11 hh) := hD
      refine lv_aload_n hx hb dX9_hearsOffer_37 rfl (lv_at hl 0 rfl) ?_
      refine lv_iload_n hx hb dX9_hearsOffer_38 rfl (lv_at hl 1 rfl) ?_
      refine lv_iconst (v := 5) hx hb dX9_hearsOffer_39 (by decide) ?_
      have hPc := hP
      have hDc := hD
      have hFc := va_free (wc := (tm_wModel cI cZ a s11 hh)) hD hS hA [0, 1, 2, 3, 4, 5, 6, 7, 8, 9, 10, 11, 12, 13, 14, 15, 16, 17] rfl
      refine va_callv (va_runV (As := [.int p0, .int 5]) (rest := []) ⟨hx, hb, hml, hown, hts⟩ (kk_X9_into l dC dI cI cZ a s11 hh H.size p0 5 _ hw) (cwV 2 hts gX9_hearsOffer_X9_into rfl rfl rfl (by decide +kernel) ⟨Nat.le_of_ble_eq_true rfl, Nat.le_of_ble_eq_true rfl⟩) ⟨tm_blind, va_recv hK hPc (ci := 7) (q0 := 0) rfl rfl, fun U hU hW => ⟨rfl, by rw [hU], by rw [hU]; exact hPc, va_K.moved hW.alike hK, hDc.weaken (fun _ _ _ _ => trivial)⟩⟩ rfl rfl hl.1 rfl (lv_room (Nat.le_of_ble_eq_true rfl)) dX9_hearsOffer_40 ⟨Nat.zero_le _, Nat.zero_le _⟩) hS (fun q _ h => hFc q h) hFc (fun s12 t H1 locs ht hvm hw hB hz1 hk1 hS => ?_)
      obtain ⟨hP1, hK1, hD1⟩ := hB
      rw [ht] at hP1
      obtain ⟨hP, hD⟩ := va_join (wr := []) (w1 := (tm_wModel cI cZ a s12 hh)) hP hD [0, 1, 2, 3, 4, 5, 6, 7, 8, 9, 10, 11, 12, 13, 14, 15, 16, 17] [] rfl rfl (by decide) (by decide) hk1 hFc hP1 hD1
      generalize H1 = H at hP hS ⊢
      have hP : va_P (dC, dI) vwCl (tm_wModel cI cZ a s12 hh) H := hP
      have hD : va_D A (tm_wModel cI cZ a s12 hh) := hD
      exact W.vret hx hb hr (fun t ht hW => ⟨⟨s12, rfl, hw, by rw [ht]; exact hP, va_K.moved hW.alike hK, hD⟩, hS.F ht⟩) hS.2.2 dX9_hearsOffer_43
def wp_X9_agrees (p0 : Int32) (p1 : Int32) (s0 : tm_St) (K : tm_St → Prop) : Prop := (wp_X9_put p0 4 p1 s0 (fun s1 => ((¬ p1 = 0 → (wp_X9_into p0 6 s1 (fun s3 => K s3))) ∧ (p1 = 0 → (wp_X9_into p0 0 s1 (fun s4 => K s4))))))
set_option maxRecDepth 100000 in
set_option maxHeartbeats 4000000 in
theorem kk_X9_agrees (l : Launch) (dC : Nat → ClassId) (dI : Nat → Nat → Nat) (cI cZ : ClassId) (a : Nat → Nat) (s0 : tm_St) (hh : Int64) (sz : Nat) (p0 : Int32) (p1 : Int32) (K : tm_St → Prop) (hw : wp_X9_agrees p0 p1 s0 K) : Met l yX9_agrees wsX9_agrees ({ frames := 3, cells := 0, slots := 0, locals := 68 }) (va_Pc [.ref (a 0), .int p0, .int p1] (tm_Pre dC dI cI cZ (tm_wModel cI cZ a s0 hh) sz)) (va_Qv (fun (u : tm_St) => K u) (fun (u : tm_St) t => tm_At dC dI cI cZ (va_A (tm_wModel cI cZ a s0 hh) sz) (tm_wModel cI cZ a u hh) t) (va_A (tm_wModel cI cZ a s0 hh) sz)) 0 0 (va_A (tm_wModel cI cZ a s0 hh) sz) := by
  refine Met.ofW (cc := cX9_agrees) (maxL := 3) (ret := none) (by decide +kernel) rfl ?_
  intro p e z m args below meth c z₁ B hml hv
  obtain ⟨rfl, hsz, hP, hK, hD0⟩ := hv
  have hx := B.exec
  have hb := B.bytes
  have hr := B.returns
  have hts := atoms_spec (ws := wsX9_agrees) B.pre
  have hown : z.vm.findClass RX9 = some m.cls := findClass_of_methodNamed B.named
  have hlocks := B.notSynchronized
  subst hsz
  have hD := hD0.self (sz := z.heap.size)
  generalize hAe : va_A (tm_wModel cI cZ a s0 hh) z.heap.size = A at hD ⊢
  have hA : ∀ q : Nat, z.heap.size ≤ q → A q := fun q h => by rw [← hAe]; exact Or.inr h
  have hS : va_S A z.heap z.heap [] := va_S.rf
  have hl := lv_entry ([.ref (a 0), .int p0, .int p1]) (n := 3) (Nat.le_of_ble_eq_true rfl)
  rw [lg_entry_eq]
  generalize (lg_sl ([.ref (a 0), .int p0, .int p1]) ++ List.replicate (3 - (lg_sl ([.ref (a 0), .int p0, .int p1])).length) Slot.unset).toArray = ls at hl ⊢
  have hl : lv_has ls 3 [(0, .ref (a 0)), (1, .int p0), (2, .int p1)] := hl
  unfold wp_X9_agrees at hw
  refine lv_aload_n hx hb dX9_agrees_0 rfl (lv_at hl 0 rfl) ?_
  refine lv_iload_n hx hb dX9_agrees_1 rfl (lv_at hl 1 rfl) ?_
  refine lv_iconst (v := 4) hx hb dX9_agrees_2 (by decide) ?_
  refine lv_iload_n hx hb dX9_agrees_3 rfl (lv_at hl 2 rfl) ?_
  have hPc := hP
  have hDc := hD
  have hFc := va_free (wc := (tm_wModel cI cZ a s0 hh)) hD hS hA [0, 1, 2, 3, 4, 5, 6, 7, 8, 9, 10, 11, 12, 13, 14, 15, 16, 17] rfl
  refine va_callv (va_runV (As := [.int p0, .int 4, .int p1]) (rest := []) ⟨hx, hb, hml, hown, hts⟩ (kk_X9_put l dC dI cI cZ a s0 hh z.heap.size p0 4 p1 _ hw) (cwV 3 hts gX9_agrees_X9_put rfl rfl rfl (by decide +kernel) ⟨Nat.le_of_ble_eq_true rfl, Nat.le_of_ble_eq_true rfl⟩) ⟨tm_blind, va_recv hK hPc (ci := 7) (q0 := 0) rfl rfl, fun U hU hW => ⟨rfl, by rw [hU], by rw [hU]; exact hPc, va_K.moved hW.alike hK, hDc.weaken (fun _ _ _ _ => trivial)⟩⟩ rfl rfl hl.1 rfl (lv_room (Nat.le_of_ble_eq_true rfl)) dX9_agrees_4 ⟨Nat.zero_le _, Nat.zero_le _⟩) hS (fun q _ h => hFc q h) hFc (fun s1 t H1 locs ht hvm hw hB hz1 hk1 hS => ?_)
  obtain ⟨hP1, hK1, hD1⟩ := hB
  rw [ht] at hP1
  obtain ⟨hP, hD⟩ := va_join (wr := []) (w1 := (tm_wModel cI cZ a s1 hh)) hP hD [0, 1, 2, 3, 4, 5, 6, 7, 8, 9, 10, 11, 12, 13, 14, 15, 16, 17] [] rfl rfl (by decide) (by decide) hk1 hFc hP1 hD1
  generalize H1 = H at hP hS ⊢
  have hP : va_P (dC, dI) vwCl (tm_wModel cI cZ a s1 hh) H := hP
  have hD : va_D A (tm_wModel cI cZ a s1 hh) := hD
  refine lv_aload_n hx hb dX9_agrees_7 rfl (lv_at hl 0 rfl) ?_
  refine lv_iload_n hx hb dX9_agrees_8 rfl (lv_at hl 1 rfl) ?_
  refine lv_iload_n hx hb dX9_agrees_9 rfl (lv_at hl 2 rfl) ?_
  refine lv_if_ne (tgt := 17) hx hb dX9_agrees_10 (by decide) (fun c2 => ?_) (fun c2 => ?_)
  · have hw := hw.1 c2
    refine lv_bipush (v := 6) hx hb dX9_agrees_17 (by decide) ?_
    have hPc := hP
    have hDc := hD
    have hFc := va_free (wc := (tm_wModel cI cZ a s1 hh)) hD hS hA [0, 1, 2, 3, 4, 5, 6, 7, 8, 9, 10, 11, 12, 13, 14, 15, 16, 17] rfl
    refine va_callv (va_runV (As := [.int p0, .int 6]) (rest := []) ⟨hx, hb, hml, hown, hts⟩ (kk_X9_into l dC dI cI cZ a s1 hh H.size p0 6 _ hw) (cwV 2 hts gX9_agrees_X9_into rfl rfl rfl (by decide +kernel) ⟨Nat.le_of_ble_eq_true rfl, Nat.le_of_ble_eq_true rfl⟩) ⟨tm_blind, va_recv hK hPc (ci := 7) (q0 := 0) rfl rfl, fun U hU hW => ⟨rfl, by rw [hU], by rw [hU]; exact hPc, va_K.moved hW.alike hK, hDc.weaken (fun _ _ _ _ => trivial)⟩⟩ rfl rfl hl.1 rfl (lv_room (Nat.le_of_ble_eq_true rfl)) dX9_agrees_19 ⟨Nat.zero_le _, Nat.zero_le _⟩) hS (fun q _ h => hFc q h) hFc (fun s3 t H1 locs ht hvm hw hB hz1 hk1 hS => ?_)
    obtain ⟨hP1, hK1, hD1⟩ := hB
    rw [ht] at hP1
    obtain ⟨hP, hD⟩ := va_join (wr := []) (w1 := (tm_wModel cI cZ a s3 hh)) hP hD [0, 1, 2, 3, 4, 5, 6, 7, 8, 9, 10, 11, 12, 13, 14, 15, 16, 17] [] rfl rfl (by decide) (by decide) hk1 hFc hP1 hD1
    generalize H1 = H at hP hS ⊢
    have hP : va_P (dC, dI) vwCl (tm_wModel cI cZ a s3 hh) H := hP
    have hD : va_D A (tm_wModel cI cZ a s3 hh) := hD
    exact W.vret hx hb hr (fun t ht hW => ⟨⟨s3, rfl, hw, by rw [ht]; exact hP, va_K.moved hW.alike hK, hD⟩, hS.F ht⟩) hS.2.2 dX9_agrees_22
  · have hw := hw.2 c2
    refine lv_iconst (v := 0) hx hb dX9_agrees_13 (by decide) ?_
    refine lv_goto (tgt := 19) hx hb dX9_agrees_14 (by decide) ?_
    have hPc := hP
    have hDc := hD
    have hFc := va_free (wc := (tm_wModel cI cZ a s1 hh)) hD hS hA [0, 1, 2, 3, 4, 5, 6, 7, 8, 9, 10, 11, 12, 13, 14, 15, 16, 17] rfl
    refine va_callv (va_runV (As := [.int p0, .int 0]) (rest := []) ⟨hx, hb, hml, hown, hts⟩ (kk_X9_into l dC dI cI cZ a s1 hh H.size p0 0 _ hw) (cwV 2 hts gX9_agrees_X9_into rfl rfl rfl (by decide +kernel) ⟨Nat.le_of_ble_eq_true rfl, Nat.le_of_ble_eq_true rfl⟩) ⟨tm_blind, va_recv hK hPc (ci := 7) (q0 := 0) rfl rfl, fun U hU hW => ⟨rfl, by rw [hU], by rw [hU]; exact hPc, va_K.moved hW.alike hK, hDc.weaken (fun _ _ _ _ => trivial)⟩⟩ rfl rfl hl.1 rfl (lv_room (Nat.le_of_ble_eq_true rfl)) dX9_agrees_19 ⟨Nat.zero_le _, Nat.zero_le _⟩) hS (fun q _ h => hFc q h) hFc (fun s4 t H1 locs ht hvm hw hB hz1 hk1 hS => ?_)
    obtain ⟨hP1, hK1, hD1⟩ := hB
    rw [ht] at hP1
    obtain ⟨hP, hD⟩ := va_join (wr := []) (w1 := (tm_wModel cI cZ a s4 hh)) hP hD [0, 1, 2, 3, 4, 5, 6, 7, 8, 9, 10, 11, 12, 13, 14, 15, 16, 17] [] rfl rfl (by decide) (by decide) hk1 hFc hP1 hD1
    generalize H1 = H at hP hS ⊢
    have hP : va_P (dC, dI) vwCl (tm_wModel cI cZ a s4 hh) H := hP
    have hD : va_D A (tm_wModel cI cZ a s4 hh) := hD
    exact W.vret hx hb hr (fun t ht hW => ⟨⟨s4, rfl, hw, by rw [ht]; exact hP, va_K.moved hW.alike hK, hD⟩, hS.F ht⟩) hS.2.2 dX9_agrees_22
def wp_X9_bargains_20 (K : tm_St → Prop) (v1 : Int32) (t0 : Int32) (s : tm_St) : Prop := (wp_X9_ear v1 0 s (fun r6 s7 => ((¬ r6 = 5 → (wp_X9_ear v1 0 s7 (fun r9 s10 => ((¬ r9 = 6 → (wp_X9_hearsOffer v1 s10 (fun s12 => K s12))) ∧ (r9 = 6 → ((t0 = 0 → (wp_X9_hearsOffer v1 s10 (fun s14 => K s14))) ∧ (¬ t0 = 0 → (wp_X9_ear v1 2 s10 (fun r15 s16 => (wp_X9_agrees v1 r15 s16 (fun s17 => K s17))))))))))) ∧ (r6 = 5 → ((t0 = 0 → (wp_X9_ear v1 0 s7 (fun r19 s20 => ((¬ r19 = 6 → (wp_X9_hearsOffer v1 s20 (fun s22 => K s22))) ∧ (r19 = 6 → ((t0 = 0 → (wp_X9_hearsOffer v1 s20 (fun s24 => K s24))) ∧ (¬ t0 = 0 → (wp_X9_ear v1 2 s20 (fun r25 s26 => (wp_X9_agrees v1 r25 s26 (fun s27 => K s27))))))))))) ∧ (¬ t0 = 0 → (wp_X9_ear v1 2 s7 (fun r28 s29 => (wp_X9_of v1 3 s29 (fun r30 s31 => ((r30 ≤ r28 → (wp_X9_of v1 3 s31 (fun r33 s34 => (wp_X9_agrees v1 r33 s34 (fun s35 => K s35))))) ∧ (¬ r30 ≤ r28 → (wp_X9_ear v1 2 s31 (fun r36 s37 => (wp_X9_agrees v1 r36 s37 (fun s38 => K s38))))))))))))))))
def wp_X9_bargains (p0 : Int32) (s0 : tm_St) (K : tm_St → Prop) : Prop := (wp_X9_ear p0 1 s0 (fun r1 s2 => (wp_X9_of p0 2 s2 (fun r3 s4 => ((¬ r1 = r3 → wp_X9_bargains_20 K p0 0 s4) ∧ (r1 = r3 → wp_X9_bargains_20 K p0 1 s4))))))
set_option maxRecDepth 100000 in
set_option maxHeartbeats 4000000 in
theorem kk_X9_bargains (l : Launch) (dC : Nat → ClassId) (dI : Nat → Nat → Nat) (cI cZ : ClassId) (a : Nat → Nat) (s0 : tm_St) (hh : Int64) (sz : Nat) (p0 : Int32) (K : tm_St → Prop) (hw : wp_X9_bargains p0 s0 K) : Met l yX9_bargains wsX9_bargains ({ frames := 4, cells := 0, slots := 0, locals := 90 }) (va_Pc [.ref (a 0), .int p0] (tm_Pre dC dI cI cZ (tm_wModel cI cZ a s0 hh) sz)) (va_Qv (fun (u : tm_St) => K u) (fun (u : tm_St) t => tm_At dC dI cI cZ (va_A (tm_wModel cI cZ a s0 hh) sz) (tm_wModel cI cZ a u hh) t) (va_A (tm_wModel cI cZ a s0 hh) sz)) 0 0 (va_A (tm_wModel cI cZ a s0 hh) sz) := by
  refine Met.ofW (cc := cX9_bargains) (maxL := 3) (ret := none) (by decide +kernel) rfl ?_
  intro p e z m args below meth c z₁ B hml hv
  obtain ⟨rfl, hsz, hP, hK, hD0⟩ := hv
  have hx := B.exec
  have hb := B.bytes
  have hr := B.returns
  have hts := atoms_spec (ws := wsX9_bargains) B.pre
  have hown : z.vm.findClass RX9 = some m.cls := findClass_of_methodNamed B.named
  have hlocks := B.notSynchronized
  subst hsz
  have hD := hD0.self (sz := z.heap.size)
  generalize hAe : va_A (tm_wModel cI cZ a s0 hh) z.heap.size = A at hD ⊢
  have hA : ∀ q : Nat, z.heap.size ≤ q → A q := fun q h => by rw [← hAe]; exact Or.inr h
  have hS : va_S A z.heap z.heap [] := va_S.rf
  have b20 : ∀ (v1 : Int32) (t0 : Int32) (s : tm_St) (H : Heap) (locs : List Loc) (ls : Array Slot), wp_X9_bargains_20 K v1 t0 s → va_P (dC, dI) vwCl (tm_wModel cI cZ a s hh) H → va_D A (tm_wModel cI cZ a s hh) → va_S A z.heap H locs → lv_has ls 3 [(0, .ref (a 0)), (1, .int v1)] → W p l e (headSpec wsX9_bargains ({ frames := 4, cells := 0, slots := 0, locals := 90 })).room z m (([.ref (a 0), .int p0] : List Value).toArray) below meth c H locs 0 0 (MQ below (va_Qv (fun (u : tm_St) => K u) (fun (u : tm_St) t => tm_At dC dI cI cZ A (tm_wModel cI cZ a u hh) t) A) (([.ref (a 0), .int p0] : List Value).toArray) z 0 0 A) (F0 m 20 ls [.int t0]) := by
    intro v1 t0 s H locs ls hw hP hD hS hl
    unfold wp_X9_bargains_20 at hw
    refine lv_istore_n (lv' := [(2, .int t0), (0, .ref (a 0)), (1, .int v1)]) hx hb dX9_bargains_20 rfl hl (by decide) rfl (fun ls hl => ?_)
    refine lv_aload_n hx hb dX9_bargains_21 rfl (lv_at hl 1 rfl) ?_
    refine lv_iload_n hx hb dX9_bargains_22 rfl (lv_at hl 2 rfl) ?_
    refine lv_iconst (v := 0) hx hb dX9_bargains_23 (by decide) ?_
    have hPc := hP
    have hDc := hD
    have hFc := va_free (wc := (tm_wModel cI cZ a s hh)) hD hS hA [0, 1, 2, 3, 4, 5, 6, 7, 8, 9, 10, 11, 12, 13, 14, 15, 16, 17] rfl
    refine va_calli (va_runV (As := [.int v1, .int 0]) (rest := []) ⟨hx, hb, hml, hown, hts⟩ (kk_X9_ear l dC dI cI cZ a s hh H.size v1 0 _ hw) (cwV 2 hts gX9_bargains_X9_ear rfl rfl rfl (by decide +kernel) ⟨Nat.le_of_ble_eq_true rfl, Nat.le_of_ble_eq_true rfl⟩) ⟨tm_blind, va_recv hK hPc (ci := 7) (q0 := 0) rfl rfl, fun U hU hW => ⟨rfl, by rw [hU], by rw [hU]; exact hPc, va_K.moved hW.alike hK, hDc.weaken (fun _ _ _ _ => trivial)⟩⟩ rfl rfl hl.1 rfl (lv_room (Nat.le_of_ble_eq_true rfl)) dX9_bargains_24 ⟨Nat.zero_le _, Nat.zero_le _⟩) hS (fun q _ h => hFc q h) hFc (fun r6 s7 t H1 locs ht hvm hw hB hz1 hk1 hS => ?_)
    obtain ⟨hP1, hK1, hD1⟩ := hB
    rw [ht] at hP1
    obtain ⟨hP, hD⟩ := va_join (wr := []) (w1 := (tm_wModel cI cZ a s7 hh)) hP hD [0, 1, 2, 3, 4, 5, 6, 7, 8, 9, 10, 11, 12, 13, 14, 15, 16, 17] [] rfl rfl (by decide) (by decide) hk1 hFc hP1 hD1
    generalize H1 = H at hP hS ⊢
    have hP : va_P (dC, dI) vwCl (tm_wModel cI cZ a s7 hh) H := hP
    have hD : va_D A (tm_wModel cI cZ a s7 hh) := hD
    refine lv_iconst (v := 5) hx hb dX9_bargains_27 (by decide) ?_
    refine lv_icmp_ne (tgt := 73) hx hb dX9_bargains_28 (by decide) (fun c8 => ?_) (fun c8 => ?_)
    · have hw := hw.1 c8
      refine lv_aload_n hx hb dX9_bargains_73 rfl (lv_at hl 1 rfl) ?_
      refine lv_iload_n hx hb dX9_bargains_74 rfl (lv_at hl 2 rfl) ?_
      refine lv_iconst (v := 0) hx hb dX9_bargains_75 (by decide) ?_
      have hPc := hP
      have hDc := hD
      have hFc := va_free (wc := (tm_wModel cI cZ a s7 hh)) hD hS hA [0, 1, 2, 3, 4, 5, 6, 7, 8, 9, 10, 11, 12, 13, 14, 15, 16, 17] rfl
      refine va_calli (va_runV (As := [.int v1, .int 0]) (rest := []) ⟨hx, hb, hml, hown, hts⟩ (kk_X9_ear l dC dI cI cZ a s7 hh H.size v1 0 _ hw) (cwV 2 hts gX9_bargains_X9_ear rfl rfl rfl (by decide +kernel) ⟨Nat.le_of_ble_eq_true rfl, Nat.le_of_ble_eq_true rfl⟩) ⟨tm_blind, va_recv hK hPc (ci := 7) (q0 := 0) rfl rfl, fun U hU hW => ⟨rfl, by rw [hU], by rw [hU]; exact hPc, va_K.moved hW.alike hK, hDc.weaken (fun _ _ _ _ => trivial)⟩⟩ rfl rfl hl.1 rfl (lv_room (Nat.le_of_ble_eq_true rfl)) dX9_bargains_76 ⟨Nat.zero_le _, Nat.zero_le _⟩) hS (fun q _ h => hFc q h) hFc (fun r9 s10 t H1 locs ht hvm hw hB hz1 hk1 hS => ?_)
      obtain ⟨hP1, hK1, hD1⟩ := hB
      rw [ht] at hP1
      obtain ⟨hP, hD⟩ := va_join (wr := []) (w1 := (tm_wModel cI cZ a s10 hh)) hP hD [0, 1, 2, 3, 4, 5, 6, 7, 8, 9, 10, 11, 12, 13, 14, 15, 16, 17] [] rfl rfl (by decide) (by decide) hk1 hFc hP1 hD1
      generalize H1 = H at hP hS ⊢
      have hP : va_P (dC, dI) vwCl (tm_wModel cI cZ a s10 hh) H := hP
      have hD : va_D A (tm_wModel cI cZ a s10 hh) := hD
      refine lv_bipush (v := 6) hx hb dX9_bargains_79 (by decide) ?_
      refine lv_icmp_ne (tgt := 102) hx hb dX9_bargains_81 (by decide) (fun c11 => ?_) (fun c11 => ?_)
      · have hw := hw.1 c11
        refine lv_aload_n hx hb dX9_bargains_102 rfl (lv_at hl 1 rfl) ?_
        refine lv_iload_n hx hb dX9_bargains_103 rfl (lv_at hl 2 rfl) ?_
        have hPc := hP
        have hDc := hD
        have hFc := va_free (wc := (tm_wModel cI cZ a s10 hh)) hD hS hA [0, 1, 2, 3, 4, 5, 6, 7, 8, 9, 10, 11, 12, 13, 14, 15, 16, 17] rfl
        refine va_callv (va_runV (As := [.int v1]) (rest := []) ⟨hx, hb, hml, hown, hts⟩ (kk_X9_hearsOffer l dC dI cI cZ a s10 hh H.size v1 _ hw) (cwV 1 hts gX9_bargains_X9_hearsOffer rfl rfl rfl (by decide +kernel) ⟨Nat.le_of_ble_eq_true rfl, Nat.le_of_ble_eq_true rfl⟩) ⟨tm_blind, va_recv hK hPc (ci := 7) (q0 := 0) rfl rfl, fun U hU hW => ⟨rfl, by rw [hU], by rw [hU]; exact hPc, va_K.moved hW.alike hK, hDc.weaken (fun _ _ _ _ => trivial)⟩⟩ rfl rfl hl.1 rfl (lv_room (Nat.le_of_ble_eq_true rfl)) dX9_bargains_104 ⟨Nat.zero_le _, Nat.zero_le _⟩) hS (fun q _ h => hFc q h) hFc (fun s12 t H1 locs ht hvm hw hB hz1 hk1 hS => ?_)
        obtain ⟨hP1, hK1, hD1⟩ := hB
        rw [ht] at hP1
        obtain ⟨hP, hD⟩ := va_join (wr := []) (w1 := (tm_wModel cI cZ a s12 hh)) hP hD [0, 1, 2, 3, 4, 5, 6, 7, 8, 9, 10, 11, 12, 13, 14, 15, 16, 17] [] rfl rfl (by decide) (by decide) hk1 hFc hP1 hD1
        generalize H1 = H at hP hS ⊢
        have hP : va_P (dC, dI) vwCl (tm_wModel cI cZ a s12 hh) H := hP
        have hD : va_D A (tm_wModel cI cZ a s12 hh) := hD
        exact W.vret hx hb hr (fun t ht hW => ⟨⟨s12, rfl, hw, by rw [ht]; exact hP, va_K.moved hW.alike hK, hD⟩, hS.F ht⟩) hS.2.2 dX9_bargains_107
      · have hw := hw.2 c11
        refine lv_iload_n hx hb dX9_bargains_84 rfl (lv_at hl 0 rfl) ?_
        refine lv_if_eq (tgt := 102) hx hb dX9_bargains_85 (by decide) (fun c13 => ?_) (fun c13 => ?_)
        · have hw := hw.1 c13
          refine lv_aload_n hx hb dX9_bargains_102 rfl (lv_at hl 1 rfl) ?_
          refine lv_iload_n hx hb dX9_bargains_103 rfl (lv_at hl 2 rfl) ?_
          have hPc := hP
          have hDc := hD
          have hFc := va_free (wc := (tm_wModel cI cZ a s10 hh)) hD hS hA [0, 1, 2, 3, 4, 5, 6, 7, 8, 9, 10, 11, 12, 13, 14, 15, 16, 17] rfl
          refine va_callv (va_runV (As := [.int v1]) (rest := []) ⟨hx, hb, hml, hown, hts⟩ (kk_X9_hearsOffer l dC dI cI cZ a s10 hh H.size v1 _ hw) (cwV 1 hts gX9_bargains_X9_hearsOffer rfl rfl rfl (by decide +kernel) ⟨Nat.le_of_ble_eq_true rfl, Nat.le_of_ble_eq_true rfl⟩) ⟨tm_blind, va_recv hK hPc (ci := 7) (q0 := 0) rfl rfl, fun U hU hW => ⟨rfl, by rw [hU], by rw [hU]; exact hPc, va_K.moved hW.alike hK, hDc.weaken (fun _ _ _ _ => trivial)⟩⟩ rfl rfl hl.1 rfl (lv_room (Nat.le_of_ble_eq_true rfl)) dX9_bargains_104 ⟨Nat.zero_le _, Nat.zero_le _⟩) hS (fun q _ h => hFc q h) hFc (fun s14 t H1 locs ht hvm hw hB hz1 hk1 hS => ?_)
          obtain ⟨hP1, hK1, hD1⟩ := hB
          rw [ht] at hP1
          obtain ⟨hP, hD⟩ := va_join (wr := []) (w1 := (tm_wModel cI cZ a s14 hh)) hP hD [0, 1, 2, 3, 4, 5, 6, 7, 8, 9, 10, 11, 12, 13, 14, 15, 16, 17] [] rfl rfl (by decide) (by decide) hk1 hFc hP1 hD1
          generalize H1 = H at hP hS ⊢
          have hP : va_P (dC, dI) vwCl (tm_wModel cI cZ a s14 hh) H := hP
          have hD : va_D A (tm_wModel cI cZ a s14 hh) := hD
          exact W.vret hx hb hr (fun t ht hW => ⟨⟨s14, rfl, hw, by rw [ht]; exact hP, va_K.moved hW.alike hK, hD⟩, hS.F ht⟩) hS.2.2 dX9_bargains_107
        · have hw := hw.2 c13
          refine lv_aload_n hx hb dX9_bargains_88 rfl (lv_at hl 1 rfl) ?_
          refine lv_iload_n hx hb dX9_bargains_89 rfl (lv_at hl 2 rfl) ?_
          refine lv_aload_n hx hb dX9_bargains_90 rfl (lv_at hl 1 rfl) ?_
          refine lv_iload_n hx hb dX9_bargains_91 rfl (lv_at hl 2 rfl) ?_
          refine lv_iconst (v := 2) hx hb dX9_bargains_92 (by decide) ?_
          have hPc := hP
          have hDc := hD
          have hFc := va_free (wc := (tm_wModel cI cZ a s10 hh)) hD hS hA [0, 1, 2, 3, 4, 5, 6, 7, 8, 9, 10, 11, 12, 13, 14, 15, 16, 17] rfl
          refine va_calli (va_runV (As := [.int v1, .int 2]) (rest := [.int v1, .ref (a 0)]) ⟨hx, hb, hml, hown, hts⟩ (kk_X9_ear l dC dI cI cZ a s10 hh H.size v1 2 _ hw) (cwV 2 hts gX9_bargains_X9_ear rfl rfl rfl (by decide +kernel) ⟨Nat.le_of_ble_eq_true rfl, Nat.le_of_ble_eq_true rfl⟩) ⟨tm_blind, va_recv hK hPc (ci := 7) (q0 := 0) rfl rfl, fun U hU hW => ⟨rfl, by rw [hU], by rw [hU]; exact hPc, va_K.moved hW.alike hK, hDc.weaken (fun _ _ _ _ => trivial)⟩⟩ rfl rfl hl.1 rfl (lv_room (Nat.le_of_ble_eq_true rfl)) dX9_bargains_93 ⟨Nat.zero_le _, Nat.zero_le _⟩) hS (fun q _ h => hFc q h) hFc (fun r15 s16 t H1 locs ht hvm hw hB hz1 hk1 hS => ?_)
          obtain ⟨hP1, hK1, hD1⟩ := hB
          rw [ht] at hP1
          obtain ⟨hP, hD⟩ := va_join (wr := []) (w1 := (tm_wModel cI cZ a s16 hh)) hP hD [0, 1, 2, 3, 4, 5, 6, 7, 8, 9, 10, 11, 12, 13, 14, 15, 16, 17] [] rfl rfl (by decide) (by decide) hk1 hFc hP1 hD1
          generalize H1 = H at hP hS ⊢
          have hP : va_P (dC, dI) vwCl (tm_wModel cI cZ a s16 hh) H := hP
          have hD : va_D A (tm_wModel cI cZ a s16 hh) := hD
          have hPc := hP
          have hDc := hD
          have hFc := va_free (wc := (tm_wModel cI cZ a s16 hh)) hD hS hA [0, 1, 2, 3, 4, 5, 6, 7, 8, 9, 10, 11, 12, 13, 14, 15, 16, 17] rfl
          refine va_callv (va_runV (As := [.int v1, .int r15]) (rest := []) ⟨hx, hb, hml, hown, hts⟩ (kk_X9_agrees l dC dI cI cZ a s16 hh H.size v1 r15 _ hw) (cwV 2 hts gX9_bargains_X9_agrees rfl rfl rfl (by decide +kernel) ⟨Nat.le_of_ble_eq_true rfl, Nat.le_of_ble_eq_true rfl⟩) ⟨tm_blind, va_recv hK hPc (ci := 7) (q0 := 0) rfl rfl, fun U hU hW => ⟨rfl, by rw [hU], by rw [hU]; exact hPc, va_K.moved hW.alike hK, hDc.weaken (fun _ _ _ _ => trivial)⟩⟩ rfl rfl hl.1 rfl (lv_room (Nat.le_of_ble_eq_true rfl)) dX9_bargains_96 ⟨Nat.zero_le _, Nat.zero_le _⟩) hS (fun q _ h => hFc q h) hFc (fun s17 t H1 locs ht hvm hw hB hz1 hk1 hS => ?_)
          obtain ⟨hP1, hK1, hD1⟩ := hB
          rw [ht] at hP1
          obtain ⟨hP, hD⟩ := va_join (wr := []) (w1 := (tm_wModel cI cZ a s17 hh)) hP hD [0, 1, 2, 3, 4, 5, 6, 7, 8, 9, 10, 11, 12, 13, 14, 15, 16, 17] [] rfl rfl (by decide) (by decide) hk1 hFc hP1 hD1
          generalize H1 = H at hP hS ⊢
          have hP : va_P (dC, dI) vwCl (tm_wModel cI cZ a s17 hh) H := hP
          have hD : va_D A (tm_wModel cI cZ a s17 hh) := hD
          refine lv_goto (tgt := 107) hx hb dX9_bargains_99 (by decide) ?_
          exact W.vret hx hb hr (fun t ht hW => ⟨⟨s17, rfl, hw, by rw [ht]; exact hP, va_K.moved hW.alike hK, hD⟩, hS.F ht⟩) hS.2.2 dX9_bargains_107
    · have hw := hw.2 c8
      refine lv_iload_n hx hb dX9_bargains_31 rfl (lv_at hl 0 rfl) ?_
      refine lv_if_eq (tgt := 73) hx hb dX9_bargains_32 (by decide) (fun c18 => ?_) (fun c18 => ?_)
      · have hw := hw.1 c18
        refine lv_aload_n hx hb dX9_bargains_73 rfl (lv_at hl 1 rfl) ?_
        refine lv_iload_n hx hb dX9_bargains_74 rfl (lv_at hl 2 rfl) ?_
        refine lv_iconst (v := 0) hx hb dX9_bargains_75 (by decide) ?_
        have hPc := hP
        have hDc := hD
        have hFc := va_free (wc := (tm_wModel cI cZ a s7 hh)) hD hS hA [0, 1, 2, 3, 4, 5, 6, 7, 8, 9, 10, 11, 12, 13, 14, 15, 16, 17] rfl
        refine va_calli (va_runV (As := [.int v1, .int 0]) (rest := []) ⟨hx, hb, hml, hown, hts⟩ (kk_X9_ear l dC dI cI cZ a s7 hh H.size v1 0 _ hw) (cwV 2 hts gX9_bargains_X9_ear rfl rfl rfl (by decide +kernel) ⟨Nat.le_of_ble_eq_true rfl, Nat.le_of_ble_eq_true rfl⟩) ⟨tm_blind, va_recv hK hPc (ci := 7) (q0 := 0) rfl rfl, fun U hU hW => ⟨rfl, by rw [hU], by rw [hU]; exact hPc, va_K.moved hW.alike hK, hDc.weaken (fun _ _ _ _ => trivial)⟩⟩ rfl rfl hl.1 rfl (lv_room (Nat.le_of_ble_eq_true rfl)) dX9_bargains_76 ⟨Nat.zero_le _, Nat.zero_le _⟩) hS (fun q _ h => hFc q h) hFc (fun r19 s20 t H1 locs ht hvm hw hB hz1 hk1 hS => ?_)
        obtain ⟨hP1, hK1, hD1⟩ := hB
        rw [ht] at hP1
        obtain ⟨hP, hD⟩ := va_join (wr := []) (w1 := (tm_wModel cI cZ a s20 hh)) hP hD [0, 1, 2, 3, 4, 5, 6, 7, 8, 9, 10, 11, 12, 13, 14, 15, 16, 17] [] rfl rfl (by decide) (by decide) hk1 hFc hP1 hD1
        generalize H1 = H at hP hS ⊢
        have hP : va_P (dC, dI) vwCl (tm_wModel cI cZ a s20 hh) H := hP
        have hD : va_D A (tm_wModel cI cZ a s20 hh) := hD
        refine lv_bipush (v := 6) hx hb dX9_bargains_79 (by decide) ?_
        refine lv_icmp_ne (tgt := 102) hx hb dX9_bargains_81 (by decide) (fun c21 => ?_) (fun c21 => ?_)
        · have hw := hw.1 c21
          refine lv_aload_n hx hb dX9_bargains_102 rfl (lv_at hl 1 rfl) ?_
          refine lv_iload_n hx hb dX9_bargains_103 rfl (lv_at hl 2 rfl) ?_
          have hPc := hP
          have hDc := hD
          have hFc := va_free (wc := (tm_wModel cI cZ a s20 hh)) hD hS hA [0, 1, 2, 3, 4, 5, 6, 7, 8, 9, 10, 11, 12, 13, 14, 15, 16, 17] rfl
          refine va_callv (va_runV (As := [.int v1]) (rest := []) ⟨hx, hb, hml, hown, hts⟩ (kk_X9_hearsOffer l dC dI cI cZ a s20 hh H.size v1 _ hw) (cwV 1 hts gX9_bargains_X9_hearsOffer rfl rfl rfl (by decide +kernel) ⟨Nat.le_of_ble_eq_true rfl, Nat.le_of_ble_eq_true rfl⟩) ⟨tm_blind, va_recv hK hPc (ci := 7) (q0 := 0) rfl rfl, fun U hU hW => ⟨rfl, by rw [hU], by rw [hU]; exact hPc, va_K.moved hW.alike hK, hDc.weaken (fun _ _ _ _ => trivial)⟩⟩ rfl rfl hl.1 rfl (lv_room (Nat.le_of_ble_eq_true rfl)) dX9_bargains_104 ⟨Nat.zero_le _, Nat.zero_le _⟩) hS (fun q _ h => hFc q h) hFc (fun s22 t H1 locs ht hvm hw hB hz1 hk1 hS => ?_)
          obtain ⟨hP1, hK1, hD1⟩ := hB
          rw [ht] at hP1
          obtain ⟨hP, hD⟩ := va_join (wr := []) (w1 := (tm_wModel cI cZ a s22 hh)) hP hD [0, 1, 2, 3, 4, 5, 6, 7, 8, 9, 10, 11, 12, 13, 14, 15, 16, 17] [] rfl rfl (by decide) (by decide) hk1 hFc hP1 hD1
          generalize H1 = H at hP hS ⊢
          have hP : va_P (dC, dI) vwCl (tm_wModel cI cZ a s22 hh) H := hP
          have hD : va_D A (tm_wModel cI cZ a s22 hh) := hD
          exact W.vret hx hb hr (fun t ht hW => ⟨⟨s22, rfl, hw, by rw [ht]; exact hP, va_K.moved hW.alike hK, hD⟩, hS.F ht⟩) hS.2.2 dX9_bargains_107
        · have hw := hw.2 c21
          refine lv_iload_n hx hb dX9_bargains_84 rfl (lv_at hl 0 rfl) ?_
          refine lv_if_eq (tgt := 102) hx hb dX9_bargains_85 (by decide) (fun c23 => ?_) (fun c23 => ?_)
          · have hw := hw.1 c23
            refine lv_aload_n hx hb dX9_bargains_102 rfl (lv_at hl 1 rfl) ?_
            refine lv_iload_n hx hb dX9_bargains_103 rfl (lv_at hl 2 rfl) ?_
            have hPc := hP
            have hDc := hD
            have hFc := va_free (wc := (tm_wModel cI cZ a s20 hh)) hD hS hA [0, 1, 2, 3, 4, 5, 6, 7, 8, 9, 10, 11, 12, 13, 14, 15, 16, 17] rfl
            refine va_callv (va_runV (As := [.int v1]) (rest := []) ⟨hx, hb, hml, hown, hts⟩ (kk_X9_hearsOffer l dC dI cI cZ a s20 hh H.size v1 _ hw) (cwV 1 hts gX9_bargains_X9_hearsOffer rfl rfl rfl (by decide +kernel) ⟨Nat.le_of_ble_eq_true rfl, Nat.le_of_ble_eq_true rfl⟩) ⟨tm_blind, va_recv hK hPc (ci := 7) (q0 := 0) rfl rfl, fun U hU hW => ⟨rfl, by rw [hU], by rw [hU]; exact hPc, va_K.moved hW.alike hK, hDc.weaken (fun _ _ _ _ => trivial)⟩⟩ rfl rfl hl.1 rfl (lv_room (Nat.le_of_ble_eq_true rfl)) dX9_bargains_104 ⟨Nat.zero_le _, Nat.zero_le _⟩) hS (fun q _ h => hFc q h) hFc (fun s24 t H1 locs ht hvm hw hB hz1 hk1 hS => ?_)
            obtain ⟨hP1, hK1, hD1⟩ := hB
            rw [ht] at hP1
            obtain ⟨hP, hD⟩ := va_join (wr := []) (w1 := (tm_wModel cI cZ a s24 hh)) hP hD [0, 1, 2, 3, 4, 5, 6, 7, 8, 9, 10, 11, 12, 13, 14, 15, 16, 17] [] rfl rfl (by decide) (by decide) hk1 hFc hP1 hD1
            generalize H1 = H at hP hS ⊢
            have hP : va_P (dC, dI) vwCl (tm_wModel cI cZ a s24 hh) H := hP
            have hD : va_D A (tm_wModel cI cZ a s24 hh) := hD
            exact W.vret hx hb hr (fun t ht hW => ⟨⟨s24, rfl, hw, by rw [ht]; exact hP, va_K.moved hW.alike hK, hD⟩, hS.F ht⟩) hS.2.2 dX9_bargains_107
          · have hw := hw.2 c23
            refine lv_aload_n hx hb dX9_bargains_88 rfl (lv_at hl 1 rfl) ?_
            refine lv_iload_n hx hb dX9_bargains_89 rfl (lv_at hl 2 rfl) ?_
            refine lv_aload_n hx hb dX9_bargains_90 rfl (lv_at hl 1 rfl) ?_
            refine lv_iload_n hx hb dX9_bargains_91 rfl (lv_at hl 2 rfl) ?_
            refine lv_iconst (v := 2) hx hb dX9_bargains_92 (by decide) ?_
            have hPc := hP
            have hDc := hD
            have hFc := va_free (wc := (tm_wModel cI cZ a s20 hh)) hD hS hA [0, 1, 2, 3, 4, 5, 6, 7, 8, 9, 10, 11, 12, 13, 14, 15, 16, 17] rfl
            refine va_calli (va_runV (As := [.int v1, .int 2]) (rest := [.int v1, .ref (a 0)]) ⟨hx, hb, hml, hown, hts⟩ (kk_X9_ear l dC dI cI cZ a s20 hh H.size v1 2 _ hw) (cwV 2 hts gX9_bargains_X9_ear rfl rfl rfl (by decide +kernel) ⟨Nat.le_of_ble_eq_true rfl, Nat.le_of_ble_eq_true rfl⟩) ⟨tm_blind, va_recv hK hPc (ci := 7) (q0 := 0) rfl rfl, fun U hU hW => ⟨rfl, by rw [hU], by rw [hU]; exact hPc, va_K.moved hW.alike hK, hDc.weaken (fun _ _ _ _ => trivial)⟩⟩ rfl rfl hl.1 rfl (lv_room (Nat.le_of_ble_eq_true rfl)) dX9_bargains_93 ⟨Nat.zero_le _, Nat.zero_le _⟩) hS (fun q _ h => hFc q h) hFc (fun r25 s26 t H1 locs ht hvm hw hB hz1 hk1 hS => ?_)
            obtain ⟨hP1, hK1, hD1⟩ := hB
            rw [ht] at hP1
            obtain ⟨hP, hD⟩ := va_join (wr := []) (w1 := (tm_wModel cI cZ a s26 hh)) hP hD [0, 1, 2, 3, 4, 5, 6, 7, 8, 9, 10, 11, 12, 13, 14, 15, 16, 17] [] rfl rfl (by decide) (by decide) hk1 hFc hP1 hD1
            generalize H1 = H at hP hS ⊢
            have hP : va_P (dC, dI) vwCl (tm_wModel cI cZ a s26 hh) H := hP
            have hD : va_D A (tm_wModel cI cZ a s26 hh) := hD
            have hPc := hP
            have hDc := hD
            have hFc := va_free (wc := (tm_wModel cI cZ a s26 hh)) hD hS hA [0, 1, 2, 3, 4, 5, 6, 7, 8, 9, 10, 11, 12, 13, 14, 15, 16, 17] rfl
            refine va_callv (va_runV (As := [.int v1, .int r25]) (rest := []) ⟨hx, hb, hml, hown, hts⟩ (kk_X9_agrees l dC dI cI cZ a s26 hh H.size v1 r25 _ hw) (cwV 2 hts gX9_bargains_X9_agrees rfl rfl rfl (by decide +kernel) ⟨Nat.le_of_ble_eq_true rfl, Nat.le_of_ble_eq_true rfl⟩) ⟨tm_blind, va_recv hK hPc (ci := 7) (q0 := 0) rfl rfl, fun U hU hW => ⟨rfl, by rw [hU], by rw [hU]; exact hPc, va_K.moved hW.alike hK, hDc.weaken (fun _ _ _ _ => trivial)⟩⟩ rfl rfl hl.1 rfl (lv_room (Nat.le_of_ble_eq_true rfl)) dX9_bargains_96 ⟨Nat.zero_le _, Nat.zero_le _⟩) hS (fun q _ h => hFc q h) hFc (fun s27 t H1 locs ht hvm hw hB hz1 hk1 hS => ?_)
            obtain ⟨hP1, hK1, hD1⟩ := hB
            rw [ht] at hP1
            obtain ⟨hP, hD⟩ := va_join (wr := []) (w1 := (tm_wModel cI cZ a s27 hh)) hP hD [0, 1, 2, 3, 4, 5, 6, 7, 8, 9, 10, 11, 12, 13, 14, 15, 16, 17] [] rfl rfl (by decide) (by decide) hk1 hFc hP1 hD1
            generalize H1 = H at hP hS ⊢
            have hP : va_P (dC, dI) vwCl (tm_wModel cI cZ a s27 hh) H := hP
            have hD : va_D A (tm_wModel cI cZ a s27 hh) := hD
            refine lv_goto (tgt := 107) hx hb dX9_bargains_99 (by decide) ?_
            exact W.vret hx hb hr (fun t ht hW => ⟨⟨s27, rfl, hw, by rw [ht]; exact hP, va_K.moved hW.alike hK, hD⟩, hS.F ht⟩) hS.2.2 dX9_bargains_107
      · have hw := hw.2 c18
        refine lv_aload_n hx hb dX9_bargains_35 rfl (lv_at hl 1 rfl) ?_
        refine lv_iload_n hx hb dX9_bargains_36 rfl (lv_at hl 2 rfl) ?_
        refine lv_aload_n hx hb dX9_bargains_37 rfl (lv_at hl 1 rfl) ?_
        refine lv_iload_n hx hb dX9_bargains_38 rfl (lv_at hl 2 rfl) ?_
        refine lv_iconst (v := 2) hx hb dX9_bargains_39 (by decide) ?_
        have hPc := hP
        have hDc := hD
        have hFc := va_free (wc := (tm_wModel cI cZ a s7 hh)) hD hS hA [0, 1, 2, 3, 4, 5, 6, 7, 8, 9, 10, 11, 12, 13, 14, 15, 16, 17] rfl
        refine va_calli (va_runV (As := [.int v1, .int 2]) (rest := [.int v1, .ref (a 0)]) ⟨hx, hb, hml, hown, hts⟩ (kk_X9_ear l dC dI cI cZ a s7 hh H.size v1 2 _ hw) (cwV 2 hts gX9_bargains_X9_ear rfl rfl rfl (by decide +kernel) ⟨Nat.le_of_ble_eq_true rfl, Nat.le_of_ble_eq_true rfl⟩) ⟨tm_blind, va_recv hK hPc (ci := 7) (q0 := 0) rfl rfl, fun U hU hW => ⟨rfl, by rw [hU], by rw [hU]; exact hPc, va_K.moved hW.alike hK, hDc.weaken (fun _ _ _ _ => trivial)⟩⟩ rfl rfl hl.1 rfl (lv_room (Nat.le_of_ble_eq_true rfl)) dX9_bargains_40 ⟨Nat.zero_le _, Nat.zero_le _⟩) hS (fun q _ h => hFc q h) hFc (fun r28 s29 t H1 locs ht hvm hw hB hz1 hk1 hS => ?_)
        obtain ⟨hP1, hK1, hD1⟩ := hB
        rw [ht] at hP1
        obtain ⟨hP, hD⟩ := va_join (wr := []) (w1 := (tm_wModel cI cZ a s29 hh)) hP hD [0, 1, 2, 3, 4, 5, 6, 7, 8, 9, 10, 11, 12, 13, 14, 15, 16, 17] [] rfl rfl (by decide) (by decide) hk1 hFc hP1 hD1
        generalize H1 = H at hP hS ⊢
        have hP : va_P (dC, dI) vwCl (tm_wModel cI cZ a s29 hh) H := hP
        have hD : va_D A (tm_wModel cI cZ a s29 hh) := hD
        refine lv_aload_n hx hb dX9_bargains_43 rfl (lv_at hl 1 rfl) ?_
        refine lv_iload_n hx hb dX9_bargains_44 rfl (lv_at hl 2 rfl) ?_
        refine lv_iconst (v := 3) hx hb dX9_bargains_45 (by decide) ?_
        have hPc := hP
        have hDc := hD
        have hFc := va_free (wc := (tm_wModel cI cZ a s29 hh)) hD hS hA [0, 1, 2, 3, 4, 5, 6, 7, 8, 9, 10, 11, 12, 13, 14, 15, 16, 17] rfl
        refine va_calli (va_runV (As := [.int v1, .int 3]) (rest := [.int r28, .int v1, .ref (a 0)]) ⟨hx, hb, hml, hown, hts⟩ (kk_X9_of l dC dI cI cZ a s29 hh H.size v1 3 _ hw) (cwV 2 hts gX9_bargains_X9_of rfl rfl rfl (by decide +kernel) ⟨Nat.le_of_ble_eq_true rfl, Nat.le_of_ble_eq_true rfl⟩) ⟨tm_blind, va_recv hK hPc (ci := 7) (q0 := 0) rfl rfl, fun U hU hW => ⟨rfl, by rw [hU], by rw [hU]; exact hPc, va_K.moved hW.alike hK, hDc.weaken (fun _ _ _ _ => trivial)⟩⟩ rfl rfl hl.1 rfl (lv_room (Nat.le_of_ble_eq_true rfl)) dX9_bargains_46 ⟨Nat.zero_le _, Nat.zero_le _⟩) hS (fun q _ h => hFc q h) hFc (fun r30 s31 t H1 locs ht hvm hw hB hz1 hk1 hS => ?_)
        obtain ⟨hP1, hK1, hD1⟩ := hB
        rw [ht] at hP1
        obtain ⟨hP, hD⟩ := va_join (wr := []) (w1 := (tm_wModel cI cZ a s31 hh)) hP hD [0, 1, 2, 3, 4, 5, 6, 7, 8, 9, 10, 11, 12, 13, 14, 15, 16, 17] [] rfl rfl (by decide) (by decide) hk1 hFc hP1 hD1
        generalize H1 = H at hP hS ⊢
        have hP : va_P (dC, dI) vwCl (tm_wModel cI cZ a s31 hh) H := hP
        have hD : va_D A (tm_wModel cI cZ a s31 hh) := hD
        refine lv_icmp_ge (tgt := 61) hx hb dX9_bargains_49 (by decide) (fun c32 => ?_) (fun c32 => ?_)
        · have hw := hw.1 c32
          refine lv_aload_n hx hb dX9_bargains_61 rfl (lv_at hl 1 rfl) ?_
          refine lv_iload_n hx hb dX9_bargains_62 rfl (lv_at hl 2 rfl) ?_
          refine lv_iconst (v := 3) hx hb dX9_bargains_63 (by decide) ?_
          have hPc := hP
          have hDc := hD
          have hFc := va_free (wc := (tm_wModel cI cZ a s31 hh)) hD hS hA [0, 1, 2, 3, 4, 5, 6, 7, 8, 9, 10, 11, 12, 13, 14, 15, 16, 17] rfl
          refine va_calli (va_runV (As := [.int v1, .int 3]) (rest := [.int v1, .ref (a 0)]) ⟨hx, hb, hml, hown, hts⟩ (kk_X9_of l dC dI cI cZ a s31 hh H.size v1 3 _ hw) (cwV 2 hts gX9_bargains_X9_of rfl rfl rfl (by decide +kernel) ⟨Nat.le_of_ble_eq_true rfl, Nat.le_of_ble_eq_true rfl⟩) ⟨tm_blind, va_recv hK hPc (ci := 7) (q0 := 0) rfl rfl, fun U hU hW => ⟨rfl, by rw [hU], by rw [hU]; exact hPc, va_K.moved hW.alike hK, hDc.weaken (fun _ _ _ _ => trivial)⟩⟩ rfl rfl hl.1 rfl (lv_room (Nat.le_of_ble_eq_true rfl)) dX9_bargains_64 ⟨Nat.zero_le _, Nat.zero_le _⟩) hS (fun q _ h => hFc q h) hFc (fun r33 s34 t H1 locs ht hvm hw hB hz1 hk1 hS => ?_)
          obtain ⟨hP1, hK1, hD1⟩ := hB
          rw [ht] at hP1
          obtain ⟨hP, hD⟩ := va_join (wr := []) (w1 := (tm_wModel cI cZ a s34 hh)) hP hD [0, 1, 2, 3, 4, 5, 6, 7, 8, 9, 10, 11, 12, 13, 14, 15, 16, 17] [] rfl rfl (by decide) (by decide) hk1 hFc hP1 hD1
          generalize H1 = H at hP hS ⊢
          have hP : va_P (dC, dI) vwCl (tm_wModel cI cZ a s34 hh) H := hP
          have hD : va_D A (tm_wModel cI cZ a s34 hh) := hD
          have hPc := hP
          have hDc := hD
          have hFc := va_free (wc := (tm_wModel cI cZ a s34 hh)) hD hS hA [0, 1, 2, 3, 4, 5, 6, 7, 8, 9, 10, 11, 12, 13, 14, 15, 16, 17] rfl
          refine va_callv (va_runV (As := [.int v1, .int r33]) (rest := []) ⟨hx, hb, hml, hown, hts⟩ (kk_X9_agrees l dC dI cI cZ a s34 hh H.size v1 r33 _ hw) (cwV 2 hts gX9_bargains_X9_agrees rfl rfl rfl (by decide +kernel) ⟨Nat.le_of_ble_eq_true rfl, Nat.le_of_ble_eq_true rfl⟩) ⟨tm_blind, va_recv hK hPc (ci := 7) (q0 := 0) rfl rfl, fun U hU hW => ⟨rfl, by rw [hU], by rw [hU]; exact hPc, va_K.moved hW.alike hK, hDc.weaken (fun _ _ _ _ => trivial)⟩⟩ rfl rfl hl.1 rfl (lv_room (Nat.le_of_ble_eq_true rfl)) dX9_bargains_67 ⟨Nat.zero_le _, Nat.zero_le _⟩) hS (fun q _ h => hFc q h) hFc (fun s35 t H1 locs ht hvm hw hB hz1 hk1 hS => ?_)
          obtain ⟨hP1, hK1, hD1⟩ := hB
          rw [ht] at hP1
          obtain ⟨hP, hD⟩ := va_join (wr := []) (w1 := (tm_wModel cI cZ a s35 hh)) hP hD [0, 1, 2, 3, 4, 5, 6, 7, 8, 9, 10, 11, 12, 13, 14, 15, 16, 17] [] rfl rfl (by decide) (by decide) hk1 hFc hP1 hD1
          generalize H1 = H at hP hS ⊢
          have hP : va_P (dC, dI) vwCl (tm_wModel cI cZ a s35 hh) H := hP
          have hD : va_D A (tm_wModel cI cZ a s35 hh) := hD
          refine lv_goto (tgt := 107) hx hb dX9_bargains_70 (by decide) ?_
          exact W.vret hx hb hr (fun t ht hW => ⟨⟨s35, rfl, hw, by rw [ht]; exact hP, va_K.moved hW.alike hK, hD⟩, hS.F ht⟩) hS.2.2 dX9_bargains_107
        · have hw := hw.2 c32
          refine lv_aload_n hx hb dX9_bargains_52 rfl (lv_at hl 1 rfl) ?_
          refine lv_iload_n hx hb dX9_bargains_53 rfl (lv_at hl 2 rfl) ?_
          refine lv_iconst (v := 2) hx hb dX9_bargains_54 (by decide) ?_
          have hPc := hP
          have hDc := hD
          have hFc := va_free (wc := (tm_wModel cI cZ a s31 hh)) hD hS hA [0, 1, 2, 3, 4, 5, 6, 7, 8, 9, 10, 11, 12, 13, 14, 15, 16, 17] rfl
          refine va_calli (va_runV (As := [.int v1, .int 2]) (rest := [.int v1, .ref (a 0)]) ⟨hx, hb, hml, hown, hts⟩ (kk_X9_ear l dC dI cI cZ a s31 hh H.size v1 2 _ hw) (cwV 2 hts gX9_bargains_X9_ear rfl rfl rfl (by decide +kernel) ⟨Nat.le_of_ble_eq_true rfl, Nat.le_of_ble_eq_true rfl⟩) ⟨tm_blind, va_recv hK hPc (ci := 7) (q0 := 0) rfl rfl, fun U hU hW => ⟨rfl, by rw [hU], by rw [hU]; exact hPc, va_K.moved hW.alike hK, hDc.weaken (fun _ _ _ _ => trivial)⟩⟩ rfl rfl hl.1 rfl (lv_room (Nat.le_of_ble_eq_true rfl)) dX9_bargains_55 ⟨Nat.zero_le _, Nat.zero_le _⟩) hS (fun q _ h => hFc q h) hFc (fun r36 s37 t H1 locs ht hvm hw hB hz1 hk1 hS => ?_)
          obtain ⟨hP1, hK1, hD1⟩ := hB
          rw [ht] at hP1
          obtain ⟨hP, hD⟩ := va_join (wr := []) (w1 := (tm_wModel cI cZ a s37 hh)) hP hD [0, 1, 2, 3, 4, 5, 6, 7, 8, 9, 10, 11, 12, 13, 14, 15, 16, 17] [] rfl rfl (by decide) (by decide) hk1 hFc hP1 hD1
          generalize H1 = H at hP hS ⊢
          have hP : va_P (dC, dI) vwCl (tm_wModel cI cZ a s37 hh) H := hP
          have hD : va_D A (tm_wModel cI cZ a s37 hh) := hD
          refine lv_goto (tgt := 67) hx hb dX9_bargains_58 (by decide) ?_
          have hPc := hP
          have hDc := hD
          have hFc := va_free (wc := (tm_wModel cI cZ a s37 hh)) hD hS hA [0, 1, 2, 3, 4, 5, 6, 7, 8, 9, 10, 11, 12, 13, 14, 15, 16, 17] rfl
          refine va_callv (va_runV (As := [.int v1, .int r36]) (rest := []) ⟨hx, hb, hml, hown, hts⟩ (kk_X9_agrees l dC dI cI cZ a s37 hh H.size v1 r36 _ hw) (cwV 2 hts gX9_bargains_X9_agrees rfl rfl rfl (by decide +kernel) ⟨Nat.le_of_ble_eq_true rfl, Nat.le_of_ble_eq_true rfl⟩) ⟨tm_blind, va_recv hK hPc (ci := 7) (q0 := 0) rfl rfl, fun U hU hW => ⟨rfl, by rw [hU], by rw [hU]; exact hPc, va_K.moved hW.alike hK, hDc.weaken (fun _ _ _ _ => trivial)⟩⟩ rfl rfl hl.1 rfl (lv_room (Nat.le_of_ble_eq_true rfl)) dX9_bargains_67 ⟨Nat.zero_le _, Nat.zero_le _⟩) hS (fun q _ h => hFc q h) hFc (fun s38 t H1 locs ht hvm hw hB hz1 hk1 hS => ?_)
          obtain ⟨hP1, hK1, hD1⟩ := hB
          rw [ht] at hP1
          obtain ⟨hP, hD⟩ := va_join (wr := []) (w1 := (tm_wModel cI cZ a s38 hh)) hP hD [0, 1, 2, 3, 4, 5, 6, 7, 8, 9, 10, 11, 12, 13, 14, 15, 16, 17] [] rfl rfl (by decide) (by decide) hk1 hFc hP1 hD1
          generalize H1 = H at hP hS ⊢
          have hP : va_P (dC, dI) vwCl (tm_wModel cI cZ a s38 hh) H := hP
          have hD : va_D A (tm_wModel cI cZ a s38 hh) := hD
          refine lv_goto (tgt := 107) hx hb dX9_bargains_70 (by decide) ?_
          exact W.vret hx hb hr (fun t ht hW => ⟨⟨s38, rfl, hw, by rw [ht]; exact hP, va_K.moved hW.alike hK, hD⟩, hS.F ht⟩) hS.2.2 dX9_bargains_107
  have hl := lv_entry ([.ref (a 0), .int p0]) (n := 3) (Nat.le_of_ble_eq_true rfl)
  rw [lg_entry_eq]
  generalize (lg_sl ([.ref (a 0), .int p0]) ++ List.replicate (3 - (lg_sl ([.ref (a 0), .int p0])).length) Slot.unset).toArray = ls at hl ⊢
  have hl : lv_has ls 3 [(0, .ref (a 0)), (1, .int p0)] := hl
  unfold wp_X9_bargains at hw
  refine lv_aload_n hx hb dX9_bargains_0 rfl (lv_at hl 0 rfl) ?_
  refine lv_iload_n hx hb dX9_bargains_1 rfl (lv_at hl 1 rfl) ?_
  refine lv_iconst (v := 1) hx hb dX9_bargains_2 (by decide) ?_
  have hPc := hP
  have hDc := hD
  have hFc := va_free (wc := (tm_wModel cI cZ a s0 hh)) hD hS hA [0, 1, 2, 3, 4, 5, 6, 7, 8, 9, 10, 11, 12, 13, 14, 15, 16, 17] rfl
  refine va_calli (va_runV (As := [.int p0, .int 1]) (rest := []) ⟨hx, hb, hml, hown, hts⟩ (kk_X9_ear l dC dI cI cZ a s0 hh z.heap.size p0 1 _ hw) (cwV 2 hts gX9_bargains_X9_ear rfl rfl rfl (by decide +kernel) ⟨Nat.le_of_ble_eq_true rfl, Nat.le_of_ble_eq_true rfl⟩) ⟨tm_blind, va_recv hK hPc (ci := 7) (q0 := 0) rfl rfl, fun U hU hW => ⟨rfl, by rw [hU], by rw [hU]; exact hPc, va_K.moved hW.alike hK, hDc.weaken (fun _ _ _ _ => trivial)⟩⟩ rfl rfl hl.1 rfl (lv_room (Nat.le_of_ble_eq_true rfl)) dX9_bargains_3 ⟨Nat.zero_le _, Nat.zero_le _⟩) hS (fun q _ h => hFc q h) hFc (fun r1 s2 t H1 locs ht hvm hw hB hz1 hk1 hS => ?_)
  obtain ⟨hP1, hK1, hD1⟩ := hB
  rw [ht] at hP1
  obtain ⟨hP, hD⟩ := va_join (wr := []) (w1 := (tm_wModel cI cZ a s2 hh)) hP hD [0, 1, 2, 3, 4, 5, 6, 7, 8, 9, 10, 11, 12, 13, 14, 15, 16, 17] [] rfl rfl (by decide) (by decide) hk1 hFc hP1 hD1
  generalize H1 = H at hP hS ⊢
  have hP : va_P (dC, dI) vwCl (tm_wModel cI cZ a s2 hh) H := hP
  have hD : va_D A (tm_wModel cI cZ a s2 hh) := hD
  refine lv_aload_n hx hb dX9_bargains_6 rfl (lv_at hl 0 rfl) ?_
  refine lv_iload_n hx hb dX9_bargains_7 rfl (lv_at hl 1 rfl) ?_
  refine lv_iconst (v := 2) hx hb dX9_bargains_8 (by decide) ?_
  have hPc := hP
  have hDc := hD
  have hFc := va_free (wc := (tm_wModel cI cZ a s2 hh)) hD hS hA [0, 1, 2, 3, 4, 5, 6, 7, 8, 9, 10, 11, 12, 13, 14, 15, 16, 17] rfl
  refine va_calli (va_runV (As := [.int p0, .int 2]) (rest := [.int r1]) ⟨hx, hb, hml, hown, hts⟩ (kk_X9_of l dC dI cI cZ a s2 hh H.size p0 2 _ hw) (cwV 2 hts gX9_bargains_X9_of rfl rfl rfl (by decide +kernel) ⟨Nat.le_of_ble_eq_true rfl, Nat.le_of_ble_eq_true rfl⟩) ⟨tm_blind, va_recv hK hPc (ci := 7) (q0 := 0) rfl rfl, fun U hU hW => ⟨rfl, by rw [hU], by rw [hU]; exact hPc, va_K.moved hW.alike hK, hDc.weaken (fun _ _ _ _ => trivial)⟩⟩ rfl rfl hl.1 rfl (lv_room (Nat.le_of_ble_eq_true rfl)) dX9_bargains_9 ⟨Nat.zero_le _, Nat.zero_le _⟩) hS (fun q _ h => hFc q h) hFc (fun r3 s4 t H1 locs ht hvm hw hB hz1 hk1 hS => ?_)
  obtain ⟨hP1, hK1, hD1⟩ := hB
  rw [ht] at hP1
  obtain ⟨hP, hD⟩ := va_join (wr := []) (w1 := (tm_wModel cI cZ a s4 hh)) hP hD [0, 1, 2, 3, 4, 5, 6, 7, 8, 9, 10, 11, 12, 13, 14, 15, 16, 17] [] rfl rfl (by decide) (by decide) hk1 hFc hP1 hD1
  generalize H1 = H at hP hS ⊢
  have hP : va_P (dC, dI) vwCl (tm_wModel cI cZ a s4 hh) H := hP
  have hD : va_D A (tm_wModel cI cZ a s4 hh) := hD
  refine lv_icmp_ne (tgt := 19) hx hb dX9_bargains_12 (by decide) (fun c5 => ?_) (fun c5 => ?_)
  · have hw := hw.1 c5
    refine lv_iconst (v := 0) hx hb dX9_bargains_19 (by decide) ?_
    exact b20 p0 0 s4 _ _ _ hw hP hD hS (lv_sub hl [0, 1] rfl)
  · have hw := hw.2 c5
    refine lv_iconst (v := 1) hx hb dX9_bargains_15 (by decide) ?_
    refine lv_goto (tgt := 20) hx hb dX9_bargains_16 (by decide) ?_
    exact b20 p0 1 s4 _ _ _ hw hP hD hS (lv_sub hl [0, 1] rfl)
def wp_X9_hearsInAgree (p0 : Int32) (s0 : tm_St) (K : tm_St → Prop) : Prop := (wp_X9_ear p0 0 s0 (fun r1 s2 => ((r1 = 6 → (wp_X9_ear p0 1 s2 (fun r4 s5 => (wp_X9_of p0 2 s5 (fun r6 s7 => ((¬ r4 = r6 → (wp_X9_hearsOffer p0 s7 (fun s9 => K s9))) ∧ (r4 = r6 → (wp_X9_into p0 7 s7 (fun s10 => K s10))))))))) ∧ (¬ r1 = 6 → (wp_X9_ear p0 0 s2 (fun r11 s12 => ((¬ r11 = 7 → (wp_X9_hearsOffer p0 s12 (fun s14 => K s14))) ∧ (r11 = 7 → (wp_X9_ear p0 1 s12 (fun r15 s16 => (wp_X9_of p0 2 s16 (fun r17 s18 => ((¬ r15 = r17 → (wp_X9_hearsOffer p0 s18 (fun s20 => K s20))) ∧ (r15 = r17 → (wp_X9_into p0 7 s18 (fun s21 => K s21))))))))))))))))
set_option maxRecDepth 100000 in
set_option maxHeartbeats 4000000 in
theorem kk_X9_hearsInAgree (l : Launch) (dC : Nat → ClassId) (dI : Nat → Nat → Nat) (cI cZ : ClassId) (a : Nat → Nat) (s0 : tm_St) (hh : Int64) (sz : Nat) (p0 : Int32) (K : tm_St → Prop) (hw : wp_X9_hearsInAgree p0 s0 K) : Met l yX9_hearsInAgree wsX9_hearsInAgree ({ frames := 4, cells := 0, slots := 0, locals := 89 }) (va_Pc [.ref (a 0), .int p0] (tm_Pre dC dI cI cZ (tm_wModel cI cZ a s0 hh) sz)) (va_Qv (fun (u : tm_St) => K u) (fun (u : tm_St) t => tm_At dC dI cI cZ (va_A (tm_wModel cI cZ a s0 hh) sz) (tm_wModel cI cZ a u hh) t) (va_A (tm_wModel cI cZ a s0 hh) sz)) 0 0 (va_A (tm_wModel cI cZ a s0 hh) sz) := by
  refine Met.ofW (cc := cX9_hearsInAgree) (maxL := 2) (ret := none) (by decide +kernel) rfl ?_
  intro p e z m args below meth c z₁ B hml hv
  obtain ⟨rfl, hsz, hP, hK, hD0⟩ := hv
  have hx := B.exec
  have hb := B.bytes
  have hr := B.returns
  have hts := atoms_spec (ws := wsX9_hearsInAgree) B.pre
  have hown : z.vm.findClass RX9 = some m.cls := findClass_of_methodNamed B.named
  have hlocks := B.notSynchronized
  subst hsz
  have hD := hD0.self (sz := z.heap.size)
  generalize hAe : va_A (tm_wModel cI cZ a s0 hh) z.heap.size = A at hD ⊢
  have hA : ∀ q : Nat, z.heap.size ≤ q → A q := fun q h => by rw [← hAe]; exact Or.inr h
  have hS : va_S A z.heap z.heap [] := va_S.rf
  have hl := lv_entry ([.ref (a 0), .int p0]) (n := 2) (Nat.le_of_ble_eq_true rfl)
  rw [lg_entry_eq]
  generalize (lg_sl ([.ref (a 0), .int p0]) ++ List.replicate (2 - (lg_sl ([.ref (a 0), .int p0])).length) Slot.unset).toArray = ls at hl ⊢
  have hl : lv_has ls 2 [(0, .ref (a 0)), (1, .int p0)] := hl
  unfold wp_X9_hearsInAgree at hw
  refine lv_aload_n hx hb dX9_hearsInAgree_0 rfl (lv_at hl 0 rfl) ?_
  refine lv_iload_n hx hb dX9_hearsInAgree_1 rfl (lv_at hl 1 rfl) ?_
  refine lv_iconst (v := 0) hx hb dX9_hearsInAgree_2 (by decide) ?_
  have hPc := hP
  have hDc := hD
  have hFc := va_free (wc := (tm_wModel cI cZ a s0 hh)) hD hS hA [0, 1, 2, 3, 4, 5, 6, 7, 8, 9, 10, 11, 12, 13, 14, 15, 16, 17] rfl
  refine va_calli (va_runV (As := [.int p0, .int 0]) (rest := []) ⟨hx, hb, hml, hown, hts⟩ (kk_X9_ear l dC dI cI cZ a s0 hh z.heap.size p0 0 _ hw) (cwV 2 hts gX9_hearsInAgree_X9_ear rfl rfl rfl (by decide +kernel) ⟨Nat.le_of_ble_eq_true rfl, Nat.le_of_ble_eq_true rfl⟩) ⟨tm_blind, va_recv hK hPc (ci := 7) (q0 := 0) rfl rfl, fun U hU hW => ⟨rfl, by rw [hU], by rw [hU]; exact hPc, va_K.moved hW.alike hK, hDc.weaken (fun _ _ _ _ => trivial)⟩⟩ rfl rfl hl.1 rfl (lv_room (Nat.le_of_ble_eq_true rfl)) dX9_hearsInAgree_3 ⟨Nat.zero_le _, Nat.zero_le _⟩) hS (fun q _ h => hFc q h) hFc (fun r1 s2 t H1 locs ht hvm hw hB hz1 hk1 hS => ?_)
  obtain ⟨hP1, hK1, hD1⟩ := hB
  rw [ht] at hP1
  obtain ⟨hP, hD⟩ := va_join (wr := []) (w1 := (tm_wModel cI cZ a s2 hh)) hP hD [0, 1, 2, 3, 4, 5, 6, 7, 8, 9, 10, 11, 12, 13, 14, 15, 16, 17] [] rfl rfl (by decide) (by decide) hk1 hFc hP1 hD1
  generalize H1 = H at hP hS ⊢
  have hP : va_P (dC, dI) vwCl (tm_wModel cI cZ a s2 hh) H := hP
  have hD : va_D A (tm_wModel cI cZ a s2 hh) := hD
  refine lv_bipush (v := 6) hx hb dX9_hearsInAgree_6 (by decide) ?_
  refine lv_icmp_eq (tgt := 22) hx hb dX9_hearsInAgree_8 (by decide) (fun c3 => ?_) (fun c3 => ?_)
  · have hw := hw.1 c3
    refine lv_aload_n hx hb dX9_hearsInAgree_22 rfl (lv_at hl 0 rfl) ?_
    refine lv_iload_n hx hb dX9_hearsInAgree_23 rfl (lv_at hl 1 rfl) ?_
    refine lv_iconst (v := 1) hx hb dX9_hearsInAgree_24 (by decide) ?_
    have hPc := hP
    have hDc := hD
    have hFc := va_free (wc := (tm_wModel cI cZ a s2 hh)) hD hS hA [0, 1, 2, 3, 4, 5, 6, 7, 8, 9, 10, 11, 12, 13, 14, 15, 16, 17] rfl
    refine va_calli (va_runV (As := [.int p0, .int 1]) (rest := []) ⟨hx, hb, hml, hown, hts⟩ (kk_X9_ear l dC dI cI cZ a s2 hh H.size p0 1 _ hw) (cwV 2 hts gX9_hearsInAgree_X9_ear rfl rfl rfl (by decide +kernel) ⟨Nat.le_of_ble_eq_true rfl, Nat.le_of_ble_eq_true rfl⟩) ⟨tm_blind, va_recv hK hPc (ci := 7) (q0 := 0) rfl rfl, fun U hU hW => ⟨rfl, by rw [hU], by rw [hU]; exact hPc, va_K.moved hW.alike hK, hDc.weaken (fun _ _ _ _ => trivial)⟩⟩ rfl rfl hl.1 rfl (lv_room (Nat.le_of_ble_eq_true rfl)) dX9_hearsInAgree_25 ⟨Nat.zero_le _, Nat.zero_le _⟩) hS (fun q _ h => hFc q h) hFc (fun r4 s5 t H1 locs ht hvm hw hB hz1 hk1 hS => ?_)
    obtain ⟨hP1, hK1, hD1⟩ := hB
    rw [ht] at hP1
    obtain ⟨hP, hD⟩ := va_join (wr := []) (w1 := (tm_wModel cI cZ a s5 hh)) hP hD [0, 1, 2, 3, 4, 5, 6, 7, 8, 9, 10, 11, 12, 13, 14, 15, 16, 17] [] rfl rfl (by decide) (by decide) hk1 hFc hP1 hD1
    generalize H1 = H at hP hS ⊢
    have hP : va_P (dC, dI) vwCl (tm_wModel cI cZ a s5 hh) H := hP
    have hD : va_D A (tm_wModel cI cZ a s5 hh) := hD
    refine lv_aload_n hx hb dX9_hearsInAgree_28 rfl (lv_at hl 0 rfl) ?_
    refine lv_iload_n hx hb dX9_hearsInAgree_29 rfl (lv_at hl 1 rfl) ?_
    refine lv_iconst (v := 2) hx hb dX9_hearsInAgree_30 (by decide) ?_
    have hPc := hP
    have hDc := hD
    have hFc := va_free (wc := (tm_wModel cI cZ a s5 hh)) hD hS hA [0, 1, 2, 3, 4, 5, 6, 7, 8, 9, 10, 11, 12, 13, 14, 15, 16, 17] rfl
    refine va_calli (va_runV (As := [.int p0, .int 2]) (rest := [.int r4]) ⟨hx, hb, hml, hown, hts⟩ (kk_X9_of l dC dI cI cZ a s5 hh H.size p0 2 _ hw) (cwV 2 hts gX9_hearsInAgree_X9_of rfl rfl rfl (by decide +kernel) ⟨Nat.le_of_ble_eq_true rfl, Nat.le_of_ble_eq_true rfl⟩) ⟨tm_blind, va_recv hK hPc (ci := 7) (q0 := 0) rfl rfl, fun U hU hW => ⟨rfl, by rw [hU], by rw [hU]; exact hPc, va_K.moved hW.alike hK, hDc.weaken (fun _ _ _ _ => trivial)⟩⟩ rfl rfl hl.1 rfl (lv_room (Nat.le_of_ble_eq_true rfl)) dX9_hearsInAgree_31 ⟨Nat.zero_le _, Nat.zero_le _⟩) hS (fun q _ h => hFc q h) hFc (fun r6 s7 t H1 locs ht hvm hw hB hz1 hk1 hS => ?_)
    obtain ⟨hP1, hK1, hD1⟩ := hB
    rw [ht] at hP1
    obtain ⟨hP, hD⟩ := va_join (wr := []) (w1 := (tm_wModel cI cZ a s7 hh)) hP hD [0, 1, 2, 3, 4, 5, 6, 7, 8, 9, 10, 11, 12, 13, 14, 15, 16, 17] [] rfl rfl (by decide) (by decide) hk1 hFc hP1 hD1
    generalize H1 = H at hP hS ⊢
    have hP : va_P (dC, dI) vwCl (tm_wModel cI cZ a s7 hh) H := hP
    have hD : va_D A (tm_wModel cI cZ a s7 hh) := hD
    refine lv_icmp_ne (tgt := 47) hx hb dX9_hearsInAgree_34 (by decide) (fun c8 => ?_) (fun c8 => ?_)
    · have hw := hw.1 c8
      refine lv_aload_n hx hb dX9_hearsInAgree_47 rfl (lv_at hl 0 rfl) ?_
      refine lv_iload_n hx hb dX9_hearsInAgree_48 rfl (lv_at hl 1 rfl) ?_
      have hPc := hP
      have hDc := hD
      have hFc := va_free (wc := (tm_wModel cI cZ a s7 hh)) hD hS hA [0, 1, 2, 3, 4, 5, 6, 7, 8, 9, 10, 11, 12, 13, 14, 15, 16, 17] rfl
      refine va_callv (va_runV (As := [.int p0]) (rest := []) ⟨hx, hb, hml, hown, hts⟩ (kk_X9_hearsOffer l dC dI cI cZ a s7 hh H.size p0 _ hw) (cwV 1 hts gX9_hearsInAgree_X9_hearsOffer rfl rfl rfl (by decide +kernel) ⟨Nat.le_of_ble_eq_true rfl, Nat.le_of_ble_eq_true rfl⟩) ⟨tm_blind, va_recv hK hPc (ci := 7) (q0 := 0) rfl rfl, fun U hU hW => ⟨rfl, by rw [hU], by rw [hU]; exact hPc, va_K.moved hW.alike hK, hDc.weaken (fun _ _ _ _ => trivial)⟩⟩ rfl rfl hl.1 rfl (lv_room (Nat.le_of_ble_eq_true rfl)) dX9_hearsInAgree_49 ⟨Nat.zero_le _, Nat.zero_le _⟩) hS (fun q _ h => hFc q h) hFc (fun s9 t H1 locs ht hvm hw hB hz1 hk1 hS => ?_)
      obtain ⟨hP1, hK1, hD1⟩ := hB
      rw [ht] at hP1
      obtain ⟨hP, hD⟩ := va_join (wr := []) (w1 := (tm_wModel cI cZ a s9 hh)) hP hD [0, 1, 2, 3, 4, 5, 6, 7, 8, 9, 10, 11, 12, 13, 14, 15, 16, 17] [] rfl rfl (by decide) (by decide) hk1 hFc hP1 hD1
      generalize H1 = H at hP hS ⊢
      have hP : va_P (dC, dI) vwCl (tm_wModel cI cZ a s9 hh) H := hP
      have hD : va_D A (tm_wModel cI cZ a s9 hh) := hD
      exact W.vret hx hb hr (fun t ht hW => ⟨⟨s9, rfl, hw, by rw [ht]; exact hP, va_K.moved hW.alike hK, hD⟩, hS.F ht⟩) hS.2.2 dX9_hearsInAgree_52
    · have hw := hw.2 c8
      refine lv_aload_n hx hb dX9_hearsInAgree_37 rfl (lv_at hl 0 rfl) ?_
      refine lv_iload_n hx hb dX9_hearsInAgree_38 rfl (lv_at hl 1 rfl) ?_
      refine lv_bipush (v := 7) hx hb dX9_hearsInAgree_39 (by decide) ?_
      have hPc := hP
      have hDc := hD
      have hFc := va_free (wc := (tm_wModel cI cZ a s7 hh)) hD hS hA [0, 1, 2, 3, 4, 5, 6, 7, 8, 9, 10, 11, 12, 13, 14, 15, 16, 17] rfl
      refine va_callv (va_runV (As := [.int p0, .int 7]) (rest := []) ⟨hx, hb, hml, hown, hts⟩ (kk_X9_into l dC dI cI cZ a s7 hh H.size p0 7 _ hw) (cwV 2 hts gX9_hearsInAgree_X9_into rfl rfl rfl (by decide +kernel) ⟨Nat.le_of_ble_eq_true rfl, Nat.le_of_ble_eq_true rfl⟩) ⟨tm_blind, va_recv hK hPc (ci := 7) (q0 := 0) rfl rfl, fun U hU hW => ⟨rfl, by rw [hU], by rw [hU]; exact hPc, va_K.moved hW.alike hK, hDc.weaken (fun _ _ _ _ => trivial)⟩⟩ rfl rfl hl.1 rfl (lv_room (Nat.le_of_ble_eq_true rfl)) dX9_hearsInAgree_41 ⟨Nat.zero_le _, Nat.zero_le _⟩) hS (fun q _ h => hFc q h) hFc (fun s10 t H1 locs ht hvm hw hB hz1 hk1 hS => ?_)
      obtain ⟨hP1, hK1, hD1⟩ := hB
      rw [ht] at hP1
      obtain ⟨hP, hD⟩ := va_join (wr := []) (w1 := (tm_wModel cI cZ a s10 hh)) hP hD [0, 1, 2, 3, 4, 5, 6, 7, 8, 9, 10, 11, 12, 13, 14, 15, 16, 17] [] rfl rfl (by decide) (by decide) hk1 hFc hP1 hD1
      generalize H1 = H at hP hS ⊢
      have hP : va_P (dC, dI) vwCl (tm_wModel cI cZ a s10 hh) H := hP
      have hD : va_D A (tm_wModel cI cZ a s10 hh) := hD
      refine lv_goto (tgt := 52) hx hb dX9_hearsInAgree_44 (by decide) ?_
      exact W.vret hx hb hr (fun t ht hW => ⟨⟨s10, rfl, hw, by rw [ht]; exact hP, va_K.moved hW.alike hK, hD⟩, hS.F ht⟩) hS.2.2 dX9_hearsInAgree_52
  · have hw := hw.2 c3
    refine lv_aload_n hx hb dX9_hearsInAgree_11 rfl (lv_at hl 0 rfl) ?_
    refine lv_iload_n hx hb dX9_hearsInAgree_12 rfl (lv_at hl 1 rfl) ?_
    refine lv_iconst (v := 0) hx hb dX9_hearsInAgree_13 (by decide) ?_
    have hPc := hP
    have hDc := hD
    have hFc := va_free (wc := (tm_wModel cI cZ a s2 hh)) hD hS hA [0, 1, 2, 3, 4, 5, 6, 7, 8, 9, 10, 11, 12, 13, 14, 15, 16, 17] rfl
    refine va_calli (va_runV (As := [.int p0, .int 0]) (rest := []) ⟨hx, hb, hml, hown, hts⟩ (kk_X9_ear l dC dI cI cZ a s2 hh H.size p0 0 _ hw) (cwV 2 hts gX9_hearsInAgree_X9_ear rfl rfl rfl (by decide +kernel) ⟨Nat.le_of_ble_eq_true rfl, Nat.le_of_ble_eq_true rfl⟩) ⟨tm_blind, va_recv hK hPc (ci := 7) (q0 := 0) rfl rfl, fun U hU hW => ⟨rfl, by rw [hU], by rw [hU]; exact hPc, va_K.moved hW.alike hK, hDc.weaken (fun _ _ _ _ => trivial)⟩⟩ rfl rfl hl.1 rfl (lv_room (Nat.le_of_ble_eq_true rfl)) dX9_hearsInAgree_14 ⟨Nat.zero_le _, Nat.zero_le _⟩) hS (fun q _ h => hFc q h) hFc (fun r11 s12 t H1 locs ht hvm hw hB hz1 hk1 hS => ?_)
    obtain ⟨hP1, hK1, hD1⟩ := hB
    rw [ht] at hP1
    obtain ⟨hP, hD⟩ := va_join (wr := []) (w1 := (tm_wModel cI cZ a s12 hh)) hP hD [0, 1, 2, 3, 4, 5, 6, 7, 8, 9, 10, 11, 12, 13, 14, 15, 16, 17] [] rfl rfl (by decide) (by decide) hk1 hFc hP1 hD1
    generalize H1 = H at hP hS ⊢
    have hP : va_P (dC, dI) vwCl (tm_wModel cI cZ a s12 hh) H := hP
    have hD : va_D A (tm_wModel cI cZ a s12 hh) := hD
    refine lv_bipush (v := 7) hx hb dX9_hearsInAgree_17 (by decide) ?_
    refine lv_icmp_ne (tgt := 47) hx hb dX9_hearsInAgree_19 (by decide) (fun c13 => ?_) (fun c13 => ?_)
    · have hw := hw.1 c13
      refine lv_aload_n hx hb dX9_hearsInAgree_47 rfl (lv_at hl 0 rfl) ?_
      refine lv_iload_n hx hb dX9_hearsInAgree_48 rfl (lv_at hl 1 rfl) ?_
      have hPc := hP
      have hDc := hD
      have hFc := va_free (wc := (tm_wModel cI cZ a s12 hh)) hD hS hA [0, 1, 2, 3, 4, 5, 6, 7, 8, 9, 10, 11, 12, 13, 14, 15, 16, 17] rfl
      refine va_callv (va_runV (As := [.int p0]) (rest := []) ⟨hx, hb, hml, hown, hts⟩ (kk_X9_hearsOffer l dC dI cI cZ a s12 hh H.size p0 _ hw) (cwV 1 hts gX9_hearsInAgree_X9_hearsOffer rfl rfl rfl (by decide +kernel) ⟨Nat.le_of_ble_eq_true rfl, Nat.le_of_ble_eq_true rfl⟩) ⟨tm_blind, va_recv hK hPc (ci := 7) (q0 := 0) rfl rfl, fun U hU hW => ⟨rfl, by rw [hU], by rw [hU]; exact hPc, va_K.moved hW.alike hK, hDc.weaken (fun _ _ _ _ => trivial)⟩⟩ rfl rfl hl.1 rfl (lv_room (Nat.le_of_ble_eq_true rfl)) dX9_hearsInAgree_49 ⟨Nat.zero_le _, Nat.zero_le _⟩) hS (fun q _ h => hFc q h) hFc (fun s14 t H1 locs ht hvm hw hB hz1 hk1 hS => ?_)
      obtain ⟨hP1, hK1, hD1⟩ := hB
      rw [ht] at hP1
      obtain ⟨hP, hD⟩ := va_join (wr := []) (w1 := (tm_wModel cI cZ a s14 hh)) hP hD [0, 1, 2, 3, 4, 5, 6, 7, 8, 9, 10, 11, 12, 13, 14, 15, 16, 17] [] rfl rfl (by decide) (by decide) hk1 hFc hP1 hD1
      generalize H1 = H at hP hS ⊢
      have hP : va_P (dC, dI) vwCl (tm_wModel cI cZ a s14 hh) H := hP
      have hD : va_D A (tm_wModel cI cZ a s14 hh) := hD
      exact W.vret hx hb hr (fun t ht hW => ⟨⟨s14, rfl, hw, by rw [ht]; exact hP, va_K.moved hW.alike hK, hD⟩, hS.F ht⟩) hS.2.2 dX9_hearsInAgree_52
    · have hw := hw.2 c13
      refine lv_aload_n hx hb dX9_hearsInAgree_22 rfl (lv_at hl 0 rfl) ?_
      refine lv_iload_n hx hb dX9_hearsInAgree_23 rfl (lv_at hl 1 rfl) ?_
      refine lv_iconst (v := 1) hx hb dX9_hearsInAgree_24 (by decide) ?_
      have hPc := hP
      have hDc := hD
      have hFc := va_free (wc := (tm_wModel cI cZ a s12 hh)) hD hS hA [0, 1, 2, 3, 4, 5, 6, 7, 8, 9, 10, 11, 12, 13, 14, 15, 16, 17] rfl
      refine va_calli (va_runV (As := [.int p0, .int 1]) (rest := []) ⟨hx, hb, hml, hown, hts⟩ (kk_X9_ear l dC dI cI cZ a s12 hh H.size p0 1 _ hw) (cwV 2 hts gX9_hearsInAgree_X9_ear rfl rfl rfl (by decide +kernel) ⟨Nat.le_of_ble_eq_true rfl, Nat.le_of_ble_eq_true rfl⟩) ⟨tm_blind, va_recv hK hPc (ci := 7) (q0 := 0) rfl rfl, fun U hU hW => ⟨rfl, by rw [hU], by rw [hU]; exact hPc, va_K.moved hW.alike hK, hDc.weaken (fun _ _ _ _ => trivial)⟩⟩ rfl rfl hl.1 rfl (lv_room (Nat.le_of_ble_eq_true rfl)) dX9_hearsInAgree_25 ⟨Nat.zero_le _, Nat.zero_le _⟩) hS (fun q _ h => hFc q h) hFc (fun r15 s16 t H1 locs ht hvm hw hB hz1 hk1 hS => ?_)
      obtain ⟨hP1, hK1, hD1⟩ := hB
      rw [ht] at hP1
      obtain ⟨hP, hD⟩ := va_join (wr := []) (w1 := (tm_wModel cI cZ a s16 hh)) hP hD [0, 1, 2, 3, 4, 5, 6, 7, 8, 9, 10, 11, 12, 13, 14, 15, 16, 17] [] rfl rfl (by decide) (by decide) hk1 hFc hP1 hD1
      generalize H1 = H at hP hS ⊢
      have hP : va_P (dC, dI) vwCl (tm_wModel cI cZ a s16 hh) H := hP
      have hD : va_D A (tm_wModel cI cZ a s16 hh) := hD
      refine lv_aload_n hx hb dX9_hearsInAgree_28 rfl (lv_at hl 0 rfl) ?_
      refine lv_iload_n hx hb dX9_hearsInAgree_29 rfl (lv_at hl 1 rfl) ?_
      refine lv_iconst (v := 2) hx hb dX9_hearsInAgree_30 (by decide) ?_
      have hPc := hP
      have hDc := hD
      have hFc := va_free (wc := (tm_wModel cI cZ a s16 hh)) hD hS hA [0, 1, 2, 3, 4, 5, 6, 7, 8, 9, 10, 11, 12, 13, 14, 15, 16, 17] rfl
      refine va_calli (va_runV (As := [.int p0, .int 2]) (rest := [.int r15]) ⟨hx, hb, hml, hown, hts⟩ (kk_X9_of l dC dI cI cZ a s16 hh H.size p0 2 _ hw) (cwV 2 hts gX9_hearsInAgree_X9_of rfl rfl rfl (by decide +kernel) ⟨Nat.le_of_ble_eq_true rfl, Nat.le_of_ble_eq_true rfl⟩) ⟨tm_blind, va_recv hK hPc (ci := 7) (q0 := 0) rfl rfl, fun U hU hW => ⟨rfl, by rw [hU], by rw [hU]; exact hPc, va_K.moved hW.alike hK, hDc.weaken (fun _ _ _ _ => trivial)⟩⟩ rfl rfl hl.1 rfl (lv_room (Nat.le_of_ble_eq_true rfl)) dX9_hearsInAgree_31 ⟨Nat.zero_le _, Nat.zero_le _⟩) hS (fun q _ h => hFc q h) hFc (fun r17 s18 t H1 locs ht hvm hw hB hz1 hk1 hS => ?_)
      obtain ⟨hP1, hK1, hD1⟩ := hB
      rw [ht] at hP1
      obtain ⟨hP, hD⟩ := va_join (wr := []) (w1 := (tm_wModel cI cZ a s18 hh)) hP hD [0, 1, 2, 3, 4, 5, 6, 7, 8, 9, 10, 11, 12, 13, 14, 15, 16, 17] [] rfl rfl (by decide) (by decide) hk1 hFc hP1 hD1
      generalize H1 = H at hP hS ⊢
      have hP : va_P (dC, dI) vwCl (tm_wModel cI cZ a s18 hh) H := hP
      have hD : va_D A (tm_wModel cI cZ a s18 hh) := hD
      refine lv_icmp_ne (tgt := 47) hx hb dX9_hearsInAgree_34 (by decide) (fun c19 => ?_) (fun c19 => ?_)
      · have hw := hw.1 c19
        refine lv_aload_n hx hb dX9_hearsInAgree_47 rfl (lv_at hl 0 rfl) ?_
        refine lv_iload_n hx hb dX9_hearsInAgree_48 rfl (lv_at hl 1 rfl) ?_
        have hPc := hP
        have hDc := hD
        have hFc := va_free (wc := (tm_wModel cI cZ a s18 hh)) hD hS hA [0, 1, 2, 3, 4, 5, 6, 7, 8, 9, 10, 11, 12, 13, 14, 15, 16, 17] rfl
        refine va_callv (va_runV (As := [.int p0]) (rest := []) ⟨hx, hb, hml, hown, hts⟩ (kk_X9_hearsOffer l dC dI cI cZ a s18 hh H.size p0 _ hw) (cwV 1 hts gX9_hearsInAgree_X9_hearsOffer rfl rfl rfl (by decide +kernel) ⟨Nat.le_of_ble_eq_true rfl, Nat.le_of_ble_eq_true rfl⟩) ⟨tm_blind, va_recv hK hPc (ci := 7) (q0 := 0) rfl rfl, fun U hU hW => ⟨rfl, by rw [hU], by rw [hU]; exact hPc, va_K.moved hW.alike hK, hDc.weaken (fun _ _ _ _ => trivial)⟩⟩ rfl rfl hl.1 rfl (lv_room (Nat.le_of_ble_eq_true rfl)) dX9_hearsInAgree_49 ⟨Nat.zero_le _, Nat.zero_le _⟩) hS (fun q _ h => hFc q h) hFc (fun s20 t H1 locs ht hvm hw hB hz1 hk1 hS => ?_)
        obtain ⟨hP1, hK1, hD1⟩ := hB
        rw [ht] at hP1
        obtain ⟨hP, hD⟩ := va_join (wr := []) (w1 := (tm_wModel cI cZ a s20 hh)) hP hD [0, 1, 2, 3, 4, 5, 6, 7, 8, 9, 10, 11, 12, 13, 14, 15, 16, 17] [] rfl rfl (by decide) (by decide) hk1 hFc hP1 hD1
        generalize H1 = H at hP hS ⊢
        have hP : va_P (dC, dI) vwCl (tm_wModel cI cZ a s20 hh) H := hP
        have hD : va_D A (tm_wModel cI cZ a s20 hh) := hD
        exact W.vret hx hb hr (fun t ht hW => ⟨⟨s20, rfl, hw, by rw [ht]; exact hP, va_K.moved hW.alike hK, hD⟩, hS.F ht⟩) hS.2.2 dX9_hearsInAgree_52
      · have hw := hw.2 c19
        refine lv_aload_n hx hb dX9_hearsInAgree_37 rfl (lv_at hl 0 rfl) ?_
        refine lv_iload_n hx hb dX9_hearsInAgree_38 rfl (lv_at hl 1 rfl) ?_
        refine lv_bipush (v := 7) hx hb dX9_hearsInAgree_39 (by decide) ?_
        have hPc := hP
        have hDc := hD
        have hFc := va_free (wc := (tm_wModel cI cZ a s18 hh)) hD hS hA [0, 1, 2, 3, 4, 5, 6, 7, 8, 9, 10, 11, 12, 13, 14, 15, 16, 17] rfl
        refine va_callv (va_runV (As := [.int p0, .int 7]) (rest := []) ⟨hx, hb, hml, hown, hts⟩ (kk_X9_into l dC dI cI cZ a s18 hh H.size p0 7 _ hw) (cwV 2 hts gX9_hearsInAgree_X9_into rfl rfl rfl (by decide +kernel) ⟨Nat.le_of_ble_eq_true rfl, Nat.le_of_ble_eq_true rfl⟩) ⟨tm_blind, va_recv hK hPc (ci := 7) (q0 := 0) rfl rfl, fun U hU hW => ⟨rfl, by rw [hU], by rw [hU]; exact hPc, va_K.moved hW.alike hK, hDc.weaken (fun _ _ _ _ => trivial)⟩⟩ rfl rfl hl.1 rfl (lv_room (Nat.le_of_ble_eq_true rfl)) dX9_hearsInAgree_41 ⟨Nat.zero_le _, Nat.zero_le _⟩) hS (fun q _ h => hFc q h) hFc (fun s21 t H1 locs ht hvm hw hB hz1 hk1 hS => ?_)
        obtain ⟨hP1, hK1, hD1⟩ := hB
        rw [ht] at hP1
        obtain ⟨hP, hD⟩ := va_join (wr := []) (w1 := (tm_wModel cI cZ a s21 hh)) hP hD [0, 1, 2, 3, 4, 5, 6, 7, 8, 9, 10, 11, 12, 13, 14, 15, 16, 17] [] rfl rfl (by decide) (by decide) hk1 hFc hP1 hD1
        generalize H1 = H at hP hS ⊢
        have hP : va_P (dC, dI) vwCl (tm_wModel cI cZ a s21 hh) H := hP
        have hD : va_D A (tm_wModel cI cZ a s21 hh) := hD
        refine lv_goto (tgt := 52) hx hb dX9_hearsInAgree_44 (by decide) ?_
        exact W.vret hx hb hr (fun t ht hW => ⟨⟨s21, rfl, hw, by rw [ht]; exact hP, va_K.moved hW.alike hK, hD⟩, hS.F ht⟩) hS.2.2 dX9_hearsInAgree_52
def wp_X9_takesFrame_25 (K : tm_St → Prop) : Nat → Int32 → Int32 → Int32 → tm_St → Prop
  | 0, _, _, _, _ => False
  | n + 1, v1, v2, v3, s => ((v2 ≤ v3 → (wp_X9_add v1 9 v2 s (fun s18 => (wp_X9_ear v1 4 s18 (fun r19 s20 => (wp_X9_of v1 8 s20 (fun r21 s22 => ((r19 ≤ r21 → K s22) ∧ (¬ r19 ≤ r21 → (wp_X9_ear v1 4 s22 (fun r24 s25 => (wp_X9_put v1 8 r24 s25 (fun s26 => (∀ s27 : tm_St, s27 = tm_s s26 0 (tm_u (s26 0) 27 1) → K s27)))))))))))))) ∧ (¬ v2 ≤ v3 → (wp_X9_of v1 9 s (fun r28 s29 => (vp_in ((3 * v1) + v3) 6 ∧ (vp_in (((200 * v1) + r28) + v3) 400 ∧ (∀ s32 : tm_St, s32 = tm_s s29 6 (upd (s29 6) ((((200 * v1) + r28) + v3) : Int32).toNatClampNeg (s29 17 (((3 * v1) + v3) : Int32).toNatClampNeg)) → (∀ x33 : Int32, x33 = v3 + 1 → wp_X9_takesFrame_25 K n v1 v2 x33 s32))))))))
def wp_X9_takesFrame (p0 : Int32) (s0 : tm_St) (K : tm_St → Prop) : Prop := (wp_X9_ear p0 3 s0 (fun r1 s2 => (wp_X9_ear p0 2 s2 (fun r3 s4 => (wp_X9_of p0 9 s4 (fun r5 s6 => ((¬ r3 = r5 → (wp_X9_ear p0 4 s6 (fun r8 s9 => (wp_X9_of p0 8 s9 (fun r10 s11 => ((r8 ≤ r10 → K s11) ∧ (¬ r8 ≤ r10 → (wp_X9_ear p0 4 s11 (fun r13 s14 => (wp_X9_put p0 8 r13 s14 (fun s15 => (∀ s16 : tm_St, s16 = tm_s s15 0 (tm_u (s15 0) 27 1) → K s16)))))))))))) ∧ (r3 = r5 → ∃ nf : Nat, wp_X9_takesFrame_25 K nf p0 r1 0 s6))))))))
set_option maxRecDepth 100000 in
set_option maxHeartbeats 4000000 in
theorem kk_X9_takesFrame (l : Launch) (dC : Nat → ClassId) (dI : Nat → Nat → Nat) (cI cZ : ClassId) (a : Nat → Nat) (s0 : tm_St) (hh : Int64) (sz : Nat) (p0 : Int32) (K : tm_St → Prop) (hw : wp_X9_takesFrame p0 s0 K) : Met l yX9_takesFrame wsX9_takesFrame ({ frames := 1, cells := 0, slots := 0, locals := 23 }) (va_Pc [.ref (a 0), .int p0] (tm_Pre dC dI cI cZ (tm_wModel cI cZ a s0 hh) sz)) (va_Qv (fun (u : tm_St) => K u) (fun (u : tm_St) t => tm_At dC dI cI cZ (va_A (tm_wModel cI cZ a s0 hh) sz) (tm_wModel cI cZ a u hh) t) (va_A (tm_wModel cI cZ a s0 hh) sz)) 0 0 (va_A (tm_wModel cI cZ a s0 hh) sz) := by
  refine Met.ofW (cc := cX9_takesFrame) (maxL := 4) (ret := none) (by decide +kernel) rfl ?_
  intro p e z m args below meth c z₁ B hml hv
  obtain ⟨rfl, hsz, hP, hK, hD0⟩ := hv
  have hx := B.exec
  have hb := B.bytes
  have hr := B.returns
  have hts := atoms_spec (ws := wsX9_takesFrame) B.pre
  have hown : z.vm.findClass RX9 = some m.cls := findClass_of_methodNamed B.named
  have hlocks := B.notSynchronized
  subst hsz
  have hD := hD0.self (sz := z.heap.size)
  generalize hAe : va_A (tm_wModel cI cZ a s0 hh) z.heap.size = A at hD ⊢
  have hA : ∀ q : Nat, z.heap.size ≤ q → A q := fun q h => by rw [← hAe]; exact Or.inr h
  have hS : va_S A z.heap z.heap [] := va_S.rf
  have h_f147 := hts (.fieldLink RX9 147 "TwoModemsModel" "grew" "Z") (by decide +kernel)
  have h_in9 : ∀ w ∈ u_ws RX9 TX9 30, w ∈ wsX9_takesFrame := by decide +kernel
  have h_f25 := hts (.fieldLink RX9 25 "TwoModemsModel" "gotten" "[I") (by decide +kernel)
  have h_f62 := hts (.fieldLink RX9 62 "TwoModemsModel" "letters" "[I") (by decide +kernel)
  have b25 : ∀ (n : Nat) (v1 : Int32) (v2 : Int32) (v3 : Int32) (s : tm_St) (H : Heap) (locs : List Loc) (ls : Array Slot), wp_X9_takesFrame_25 K n v1 v2 v3 s → va_P (dC, dI) vwCl (tm_wModel cI cZ a s hh) H → va_D A (tm_wModel cI cZ a s hh) → va_S A z.heap H locs → lv_has ls 4 [(0, .ref (a 0)), (1, .int v1), (2, .int v2), (3, .int v3)] → W p l e (headSpec wsX9_takesFrame ({ frames := 1, cells := 0, slots := 0, locals := 23 })).room z m (([.ref (a 0), .int p0] : List Value).toArray) below meth c H locs 0 0 (MQ below (va_Qv (fun (u : tm_St) => K u) (fun (u : tm_St) t => tm_At dC dI cI cZ A (tm_wModel cI cZ a u hh) t) A) (([.ref (a 0), .int p0] : List Value).toArray) z 0 0 A) (F0 m 25 ls []) := by
    intro n
    induction n with
    | zero => intro v1 v2 v3 s H locs ls hw hP hD hS hl; unfold wp_X9_takesFrame_25 at hw; exact hw.elim
    | succ n ih =>
      intro v1 v2 v3 s H locs ls hw hP hD hS hl
      unfold wp_X9_takesFrame_25 at hw
      refine lv_iload_n hx hb dX9_takesFrame_25 rfl (lv_at hl 3 rfl) ?_
      refine lv_iload_n hx hb dX9_takesFrame_26 rfl (lv_at hl 2 rfl) ?_
      refine lv_icmp_ge (tgt := 66) hx hb dX9_takesFrame_27 (by decide) (fun c17 => ?_) (fun c17 => ?_)
      · have hw := hw.1 c17
        refine lv_aload_n hx hb dX9_takesFrame_66 rfl (lv_at hl 0 rfl) ?_
        refine lv_iload_n hx hb dX9_takesFrame_67 rfl (lv_at hl 1 rfl) ?_
        refine lv_bipush (v := 9) hx hb dX9_takesFrame_68 (by decide) ?_
        refine lv_iload_n hx hb dX9_takesFrame_70 rfl (lv_at hl 2 rfl) ?_
        have hPc := hP
        have hDc := hD
        have hFc := va_free (wc := (tm_wModel cI cZ a s hh)) hD hS hA [0, 1, 2, 3, 4, 5, 6, 7, 8, 9, 10, 11, 12, 13, 14, 15, 16, 17] rfl
        refine va_callv (va_runV (As := [.int v1, .int 9, .int v2]) (rest := []) ⟨hx, hb, hml, hown, hts⟩ (kk_X9_add l dC dI cI cZ a s hh H.size v1 9 v2 _ hw) (cwV 3 hts gX9_takesFrame_X9_add rfl rfl rfl (by decide +kernel) ⟨Nat.le_of_ble_eq_true rfl, Nat.le_of_ble_eq_true rfl⟩) ⟨tm_blind, va_recv hK hPc (ci := 7) (q0 := 0) rfl rfl, fun U hU hW => ⟨rfl, by rw [hU], by rw [hU]; exact hPc, va_K.moved hW.alike hK, hDc.weaken (fun _ _ _ _ => trivial)⟩⟩ rfl rfl hl.1 rfl (lv_room (Nat.le_of_ble_eq_true rfl)) dX9_takesFrame_71 ⟨Nat.zero_le _, Nat.zero_le _⟩) hS (fun q _ h => hFc q h) hFc (fun s18 t H1 locs ht hvm hw hB hz1 hk1 hS => ?_)
        obtain ⟨hP1, hK1, hD1⟩ := hB
        rw [ht] at hP1
        obtain ⟨hP, hD⟩ := va_join (wr := []) (w1 := (tm_wModel cI cZ a s18 hh)) hP hD [0, 1, 2, 3, 4, 5, 6, 7, 8, 9, 10, 11, 12, 13, 14, 15, 16, 17] [] rfl rfl (by decide) (by decide) hk1 hFc hP1 hD1
        generalize H1 = H at hP hS ⊢
        have hP : va_P (dC, dI) vwCl (tm_wModel cI cZ a s18 hh) H := hP
        have hD : va_D A (tm_wModel cI cZ a s18 hh) := hD
        refine lv_aload_n hx hb dX9_takesFrame_74 rfl (lv_at hl 0 rfl) ?_
        refine lv_iload_n hx hb dX9_takesFrame_75 rfl (lv_at hl 1 rfl) ?_
        refine lv_iconst (v := 4) hx hb dX9_takesFrame_76 (by decide) ?_
        have hPc := hP
        have hDc := hD
        have hFc := va_free (wc := (tm_wModel cI cZ a s18 hh)) hD hS hA [0, 1, 2, 3, 4, 5, 6, 7, 8, 9, 10, 11, 12, 13, 14, 15, 16, 17] rfl
        refine va_calli (va_runV (As := [.int v1, .int 4]) (rest := []) ⟨hx, hb, hml, hown, hts⟩ (kk_X9_ear l dC dI cI cZ a s18 hh H.size v1 4 _ hw) (cwV 2 hts gX9_takesFrame_X9_ear rfl rfl rfl (by decide +kernel) ⟨Nat.le_of_ble_eq_true rfl, Nat.le_of_ble_eq_true rfl⟩) ⟨tm_blind, va_recv hK hPc (ci := 7) (q0 := 0) rfl rfl, fun U hU hW => ⟨rfl, by rw [hU], by rw [hU]; exact hPc, va_K.moved hW.alike hK, hDc.weaken (fun _ _ _ _ => trivial)⟩⟩ rfl rfl hl.1 rfl (lv_room (Nat.le_of_ble_eq_true rfl)) dX9_takesFrame_77 ⟨Nat.zero_le _, Nat.zero_le _⟩) hS (fun q _ h => hFc q h) hFc (fun r19 s20 t H1 locs ht hvm hw hB hz1 hk1 hS => ?_)
        obtain ⟨hP1, hK1, hD1⟩ := hB
        rw [ht] at hP1
        obtain ⟨hP, hD⟩ := va_join (wr := []) (w1 := (tm_wModel cI cZ a s20 hh)) hP hD [0, 1, 2, 3, 4, 5, 6, 7, 8, 9, 10, 11, 12, 13, 14, 15, 16, 17] [] rfl rfl (by decide) (by decide) hk1 hFc hP1 hD1
        generalize H1 = H at hP hS ⊢
        have hP : va_P (dC, dI) vwCl (tm_wModel cI cZ a s20 hh) H := hP
        have hD : va_D A (tm_wModel cI cZ a s20 hh) := hD
        refine lv_aload_n hx hb dX9_takesFrame_80 rfl (lv_at hl 0 rfl) ?_
        refine lv_iload_n hx hb dX9_takesFrame_81 rfl (lv_at hl 1 rfl) ?_
        refine lv_bipush (v := 8) hx hb dX9_takesFrame_82 (by decide) ?_
        have hPc := hP
        have hDc := hD
        have hFc := va_free (wc := (tm_wModel cI cZ a s20 hh)) hD hS hA [0, 1, 2, 3, 4, 5, 6, 7, 8, 9, 10, 11, 12, 13, 14, 15, 16, 17] rfl
        refine va_calli (va_runV (As := [.int v1, .int 8]) (rest := [.int r19]) ⟨hx, hb, hml, hown, hts⟩ (kk_X9_of l dC dI cI cZ a s20 hh H.size v1 8 _ hw) (cwV 2 hts gX9_takesFrame_X9_of rfl rfl rfl (by decide +kernel) ⟨Nat.le_of_ble_eq_true rfl, Nat.le_of_ble_eq_true rfl⟩) ⟨tm_blind, va_recv hK hPc (ci := 7) (q0 := 0) rfl rfl, fun U hU hW => ⟨rfl, by rw [hU], by rw [hU]; exact hPc, va_K.moved hW.alike hK, hDc.weaken (fun _ _ _ _ => trivial)⟩⟩ rfl rfl hl.1 rfl (lv_room (Nat.le_of_ble_eq_true rfl)) dX9_takesFrame_84 ⟨Nat.zero_le _, Nat.zero_le _⟩) hS (fun q _ h => hFc q h) hFc (fun r21 s22 t H1 locs ht hvm hw hB hz1 hk1 hS => ?_)
        obtain ⟨hP1, hK1, hD1⟩ := hB
        rw [ht] at hP1
        obtain ⟨hP, hD⟩ := va_join (wr := []) (w1 := (tm_wModel cI cZ a s22 hh)) hP hD [0, 1, 2, 3, 4, 5, 6, 7, 8, 9, 10, 11, 12, 13, 14, 15, 16, 17] [] rfl rfl (by decide) (by decide) hk1 hFc hP1 hD1
        generalize H1 = H at hP hS ⊢
        have hP : va_P (dC, dI) vwCl (tm_wModel cI cZ a s22 hh) H := hP
        have hD : va_D A (tm_wModel cI cZ a s22 hh) := hD
        refine lv_icmp_le (tgt := 108) hx hb dX9_takesFrame_87 (by decide) (fun c23 => ?_) (fun c23 => ?_)
        · have hw := hw.1 c23
          exact W.vret hx hb hr (fun t ht hW => ⟨⟨s22, rfl, hw, by rw [ht]; exact hP, va_K.moved hW.alike hK, hD⟩, hS.F ht⟩) hS.2.2 dX9_takesFrame_108
        · have hw := hw.2 c23
          refine lv_aload_n hx hb dX9_takesFrame_90 rfl (lv_at hl 0 rfl) ?_
          refine lv_iload_n hx hb dX9_takesFrame_91 rfl (lv_at hl 1 rfl) ?_
          refine lv_bipush (v := 8) hx hb dX9_takesFrame_92 (by decide) ?_
          refine lv_aload_n hx hb dX9_takesFrame_94 rfl (lv_at hl 0 rfl) ?_
          refine lv_iload_n hx hb dX9_takesFrame_95 rfl (lv_at hl 1 rfl) ?_
          refine lv_iconst (v := 4) hx hb dX9_takesFrame_96 (by decide) ?_
          have hPc := hP
          have hDc := hD
          have hFc := va_free (wc := (tm_wModel cI cZ a s22 hh)) hD hS hA [0, 1, 2, 3, 4, 5, 6, 7, 8, 9, 10, 11, 12, 13, 14, 15, 16, 17] rfl
          refine va_calli (va_runV (As := [.int v1, .int 4]) (rest := [.int 8, .int v1, .ref (a 0)]) ⟨hx, hb, hml, hown, hts⟩ (kk_X9_ear l dC dI cI cZ a s22 hh H.size v1 4 _ hw) (cwV 2 hts gX9_takesFrame_X9_ear rfl rfl rfl (by decide +kernel) ⟨Nat.le_of_ble_eq_true rfl, Nat.le_of_ble_eq_true rfl⟩) ⟨tm_blind, va_recv hK hPc (ci := 7) (q0 := 0) rfl rfl, fun U hU hW => ⟨rfl, by rw [hU], by rw [hU]; exact hPc, va_K.moved hW.alike hK, hDc.weaken (fun _ _ _ _ => trivial)⟩⟩ rfl rfl hl.1 rfl (lv_room (Nat.le_of_ble_eq_true rfl)) dX9_takesFrame_97 ⟨Nat.zero_le _, Nat.zero_le _⟩) hS (fun q _ h => hFc q h) hFc (fun r24 s25 t H1 locs ht hvm hw hB hz1 hk1 hS => ?_)
          obtain ⟨hP1, hK1, hD1⟩ := hB
          rw [ht] at hP1
          obtain ⟨hP, hD⟩ := va_join (wr := []) (w1 := (tm_wModel cI cZ a s25 hh)) hP hD [0, 1, 2, 3, 4, 5, 6, 7, 8, 9, 10, 11, 12, 13, 14, 15, 16, 17] [] rfl rfl (by decide) (by decide) hk1 hFc hP1 hD1
          generalize H1 = H at hP hS ⊢
          have hP : va_P (dC, dI) vwCl (tm_wModel cI cZ a s25 hh) H := hP
          have hD : va_D A (tm_wModel cI cZ a s25 hh) := hD
          have hPc := hP
          have hDc := hD
          have hFc := va_free (wc := (tm_wModel cI cZ a s25 hh)) hD hS hA [0, 1, 2, 3, 4, 5, 6, 7, 8, 9, 10, 11, 12, 13, 14, 15, 16, 17] rfl
          refine va_callv (va_runV (As := [.int v1, .int 8, .int r24]) (rest := []) ⟨hx, hb, hml, hown, hts⟩ (kk_X9_put l dC dI cI cZ a s25 hh H.size v1 8 r24 _ hw) (cwV 3 hts gX9_takesFrame_X9_put rfl rfl rfl (by decide +kernel) ⟨Nat.le_of_ble_eq_true rfl, Nat.le_of_ble_eq_true rfl⟩) ⟨tm_blind, va_recv hK hPc (ci := 7) (q0 := 0) rfl rfl, fun U hU hW => ⟨rfl, by rw [hU], by rw [hU]; exact hPc, va_K.moved hW.alike hK, hDc.weaken (fun _ _ _ _ => trivial)⟩⟩ rfl rfl hl.1 rfl (lv_room (Nat.le_of_ble_eq_true rfl)) dX9_takesFrame_100 ⟨Nat.zero_le _, Nat.zero_le _⟩) hS (fun q _ h => hFc q h) hFc (fun s26 t H1 locs ht hvm hw hB hz1 hk1 hS => ?_)
          obtain ⟨hP1, hK1, hD1⟩ := hB
          rw [ht] at hP1
          obtain ⟨hP, hD⟩ := va_join (wr := []) (w1 := (tm_wModel cI cZ a s26 hh)) hP hD [0, 1, 2, 3, 4, 5, 6, 7, 8, 9, 10, 11, 12, 13, 14, 15, 16, 17] [] rfl rfl (by decide) (by decide) hk1 hFc hP1 hD1
          generalize H1 = H at hP hS ⊢
          have hP : va_P (dC, dI) vwCl (tm_wModel cI cZ a s26 hh) H := hP
          have hD : va_D A (tm_wModel cI cZ a s26 hh) := hD
          refine lv_aload_n hx hb dX9_takesFrame_103 rfl (lv_at hl 0 rfl) ?_
          refine lv_iconst (v := 1) hx hb dX9_takesFrame_104 (by decide) ?_
          refine va_put (D := (dC, dI)) (ci := 7) (v := .int 1) (ty := .boolean) (C := RX9) (T := TX9) (N := 30) hx hb hts h_in9 tyX9 tyX9_ok nmX9 hown hK hP hD hS 0 rfl rfl 27 (by decide) h_f147 (fun _ h9 => h9) rfl (by decide +kernel) rfl rfl (Nat.le_of_ble_eq_true rfl) dX9_takesFrame_105 (fun H locs hP hD hS => ?_)
          obtain ⟨s27, es27⟩ : ∃ y : tm_St, y = tm_s s26 0 (tm_u (s26 0) 27 1) := ⟨_, rfl⟩
          have hw := hw s27 es27
          have hP : va_P (dC, dI) vwCl (tm_wModel cI cZ a s27 hh) H := by rw [es27]; exact hP
          have hD : va_D A (tm_wModel cI cZ a s27 hh) := by rw [es27]; exact hD
          exact W.vret hx hb hr (fun t ht hW => ⟨⟨s27, rfl, hw, by rw [ht]; exact hP, va_K.moved hW.alike hK, hD⟩, hS.F ht⟩) hS.2.2 dX9_takesFrame_108
      · have hw := hw.2 c17
        refine lv_aload_n hx hb dX9_takesFrame_30 rfl (lv_at hl 0 rfl) ?_
        refine va_get (D := (dC, dI)) (ci := 7) (v := .ref (a 6)) (C := RX9) (T := TX9) (N := 30) hx hb hts h_in9 hown hK hP 0 rfl rfl 5 (by decide) h_f25 (fun _ h9 => h9) rfl dX9_takesFrame_31 ?_
        refine lv_sipush (v := 200) hx hb dX9_takesFrame_34 (by decide) ?_
        refine lv_iload_n hx hb dX9_takesFrame_37 rfl (lv_at hl 1 rfl) ?_
        refine lv_imul hx hb dX9_takesFrame_38 ?_
        refine lv_aload_n hx hb dX9_takesFrame_39 rfl (lv_at hl 0 rfl) ?_
        refine lv_iload_n hx hb dX9_takesFrame_40 rfl (lv_at hl 1 rfl) ?_
        refine lv_bipush (v := 9) hx hb dX9_takesFrame_41 (by decide) ?_
        have hPc := hP
        have hDc := hD
        have hFc := va_free (wc := (tm_wModel cI cZ a s hh)) hD hS hA [0, 1, 2, 3, 4, 5, 6, 7, 8, 9, 10, 11, 12, 13, 14, 15, 16, 17] rfl
        refine va_calli (va_runV (As := [.int v1, .int 9]) (rest := [.int (200 * v1), .ref (a 6)]) ⟨hx, hb, hml, hown, hts⟩ (kk_X9_of l dC dI cI cZ a s hh H.size v1 9 _ hw) (cwV 2 hts gX9_takesFrame_X9_of rfl rfl rfl (by decide +kernel) ⟨Nat.le_of_ble_eq_true rfl, Nat.le_of_ble_eq_true rfl⟩) ⟨tm_blind, va_recv hK hPc (ci := 7) (q0 := 0) rfl rfl, fun U hU hW => ⟨rfl, by rw [hU], by rw [hU]; exact hPc, va_K.moved hW.alike hK, hDc.weaken (fun _ _ _ _ => trivial)⟩⟩ rfl rfl hl.1 rfl (lv_room (Nat.le_of_ble_eq_true rfl)) dX9_takesFrame_43 ⟨Nat.zero_le _, Nat.zero_le _⟩) hS (fun q _ h => hFc q h) hFc (fun r28 s29 t H1 locs ht hvm hw hB hz1 hk1 hS => ?_)
        obtain ⟨hP1, hK1, hD1⟩ := hB
        rw [ht] at hP1
        obtain ⟨hP, hD⟩ := va_join (wr := []) (w1 := (tm_wModel cI cZ a s29 hh)) hP hD [0, 1, 2, 3, 4, 5, 6, 7, 8, 9, 10, 11, 12, 13, 14, 15, 16, 17] [] rfl rfl (by decide) (by decide) hk1 hFc hP1 hD1
        generalize H1 = H at hP hS ⊢
        have hP : va_P (dC, dI) vwCl (tm_wModel cI cZ a s29 hh) H := hP
        have hD : va_D A (tm_wModel cI cZ a s29 hh) := hD
        refine lv_iadd hx hb dX9_takesFrame_46 ?_
        refine lv_iload_n hx hb dX9_takesFrame_47 rfl (lv_at hl 3 rfl) ?_
        refine lv_iadd hx hb dX9_takesFrame_48 ?_
        refine lv_aload_n hx hb dX9_takesFrame_49 rfl (lv_at hl 0 rfl) ?_
        refine va_get (D := (dC, dI)) (ci := 7) (v := .ref (a 17)) (C := RX9) (T := TX9) (N := 30) hx hb hts h_in9 hown hK hP 0 rfl rfl 25 (by decide) h_f62 (fun _ h9 => h9) rfl dX9_takesFrame_50 ?_
        refine lv_iconst (v := 3) hx hb dX9_takesFrame_53 (by decide) ?_
        refine lv_iload_n hx hb dX9_takesFrame_54 rfl (lv_at hl 1 rfl) ?_
        refine lv_imul hx hb dX9_takesFrame_55 ?_
        refine lv_iload_n hx hb dX9_takesFrame_56 rfl (lv_at hl 3 rfl) ?_
        refine lv_iadd hx hb dX9_takesFrame_57 ?_
        have c30 := hw.1
        have hw := hw.2
        refine va_iald hx hb hK hP 17 0 rfl rfl c30 dX9_takesFrame_58 ?_
        have c31 := hw.1
        have hw := hw.2
        refine va_iast hx hb hK hP hD hS 6 0 rfl rfl c31 dX9_takesFrame_59 (fun H locs hP hD hS => ?_)
        obtain ⟨s32, es32⟩ : ∃ y : tm_St, y = tm_s s29 6 (upd (s29 6) ((((200 * v1) + r28) + v3) : Int32).toNatClampNeg (s29 17 (((3 * v1) + v3) : Int32).toNatClampNeg)) := ⟨_, rfl⟩
        have hw := hw s32 es32
        have hP : va_P (dC, dI) vwCl (tm_wModel cI cZ a s32 hh) H := by rw [es32]; exact hP
        have hD : va_D A (tm_wModel cI cZ a s32 hh) := by rw [es32]; exact hD
        obtain ⟨x33, ex33⟩ : ∃ y : Int32, y = v3 + 1 := ⟨_, rfl⟩
        have hw := hw x33 ex33
        refine lv_iinc (v := x33) (lv' := [(3, .int x33), (0, .ref (a 0)), (1, .int v1), (2, .int v2)]) hx hb dX9_takesFrame_60 hl (k := 3) rfl (by rw [ex33]; rfl) (by decide) rfl (fun ls hl => ?_)
        refine lv_goto (tgt := 25) hx hb dX9_takesFrame_63 (by decide) ?_
        exact ih v1 v2 x33 s32 _ _ _ hw hP hD hS (lv_sub hl [1, 2, 3, 0] rfl)
  have hl := lv_entry ([.ref (a 0), .int p0]) (n := 4) (Nat.le_of_ble_eq_true rfl)
  rw [lg_entry_eq]
  generalize (lg_sl ([.ref (a 0), .int p0]) ++ List.replicate (4 - (lg_sl ([.ref (a 0), .int p0])).length) Slot.unset).toArray = ls at hl ⊢
  have hl : lv_has ls 4 [(0, .ref (a 0)), (1, .int p0)] := hl
  unfold wp_X9_takesFrame at hw
  refine lv_aload_n hx hb dX9_takesFrame_0 rfl (lv_at hl 0 rfl) ?_
  refine lv_iload_n hx hb dX9_takesFrame_1 rfl (lv_at hl 1 rfl) ?_
  refine lv_iconst (v := 3) hx hb dX9_takesFrame_2 (by decide) ?_
  have hPc := hP
  have hDc := hD
  have hFc := va_free (wc := (tm_wModel cI cZ a s0 hh)) hD hS hA [0, 1, 2, 3, 4, 5, 6, 7, 8, 9, 10, 11, 12, 13, 14, 15, 16, 17] rfl
  refine va_calli (va_runV (As := [.int p0, .int 3]) (rest := []) ⟨hx, hb, hml, hown, hts⟩ (kk_X9_ear l dC dI cI cZ a s0 hh z.heap.size p0 3 _ hw) (cwV 2 hts gX9_takesFrame_X9_ear rfl rfl rfl (by decide +kernel) ⟨Nat.le_of_ble_eq_true rfl, Nat.le_of_ble_eq_true rfl⟩) ⟨tm_blind, va_recv hK hPc (ci := 7) (q0 := 0) rfl rfl, fun U hU hW => ⟨rfl, by rw [hU], by rw [hU]; exact hPc, va_K.moved hW.alike hK, hDc.weaken (fun _ _ _ _ => trivial)⟩⟩ rfl rfl hl.1 rfl (lv_room (Nat.le_of_ble_eq_true rfl)) dX9_takesFrame_3 ⟨Nat.zero_le _, Nat.zero_le _⟩) hS (fun q _ h => hFc q h) hFc (fun r1 s2 t H1 locs ht hvm hw hB hz1 hk1 hS => ?_)
  obtain ⟨hP1, hK1, hD1⟩ := hB
  rw [ht] at hP1
  obtain ⟨hP, hD⟩ := va_join (wr := []) (w1 := (tm_wModel cI cZ a s2 hh)) hP hD [0, 1, 2, 3, 4, 5, 6, 7, 8, 9, 10, 11, 12, 13, 14, 15, 16, 17] [] rfl rfl (by decide) (by decide) hk1 hFc hP1 hD1
  generalize H1 = H at hP hS ⊢
  have hP : va_P (dC, dI) vwCl (tm_wModel cI cZ a s2 hh) H := hP
  have hD : va_D A (tm_wModel cI cZ a s2 hh) := hD
  refine lv_istore_n (lv' := [(2, .int r1), (0, .ref (a 0)), (1, .int p0)]) hx hb dX9_takesFrame_6 rfl hl (by decide) rfl (fun ls hl => ?_)
  refine lv_aload_n hx hb dX9_takesFrame_7 rfl (lv_at hl 1 rfl) ?_
  refine lv_iload_n hx hb dX9_takesFrame_8 rfl (lv_at hl 2 rfl) ?_
  refine lv_iconst (v := 2) hx hb dX9_takesFrame_9 (by decide) ?_
  have hPc := hP
  have hDc := hD
  have hFc := va_free (wc := (tm_wModel cI cZ a s2 hh)) hD hS hA [0, 1, 2, 3, 4, 5, 6, 7, 8, 9, 10, 11, 12, 13, 14, 15, 16, 17] rfl
  refine va_calli (va_runV (As := [.int p0, .int 2]) (rest := []) ⟨hx, hb, hml, hown, hts⟩ (kk_X9_ear l dC dI cI cZ a s2 hh H.size p0 2 _ hw) (cwV 2 hts gX9_takesFrame_X9_ear rfl rfl rfl (by decide +kernel) ⟨Nat.le_of_ble_eq_true rfl, Nat.le_of_ble_eq_true rfl⟩) ⟨tm_blind, va_recv hK hPc (ci := 7) (q0 := 0) rfl rfl, fun U hU hW => ⟨rfl, by rw [hU], by rw [hU]; exact hPc, va_K.moved hW.alike hK, hDc.weaken (fun _ _ _ _ => trivial)⟩⟩ rfl rfl hl.1 rfl (lv_room (Nat.le_of_ble_eq_true rfl)) dX9_takesFrame_10 ⟨Nat.zero_le _, Nat.zero_le _⟩) hS (fun q _ h => hFc q h) hFc (fun r3 s4 t H1 locs ht hvm hw hB hz1 hk1 hS => ?_)
  obtain ⟨hP1, hK1, hD1⟩ := hB
  rw [ht] at hP1
  obtain ⟨hP, hD⟩ := va_join (wr := []) (w1 := (tm_wModel cI cZ a s4 hh)) hP hD [0, 1, 2, 3, 4, 5, 6, 7, 8, 9, 10, 11, 12, 13, 14, 15, 16, 17] [] rfl rfl (by decide) (by decide) hk1 hFc hP1 hD1
  generalize H1 = H at hP hS ⊢
  have hP : va_P (dC, dI) vwCl (tm_wModel cI cZ a s4 hh) H := hP
  have hD : va_D A (tm_wModel cI cZ a s4 hh) := hD
  refine lv_aload_n hx hb dX9_takesFrame_13 rfl (lv_at hl 1 rfl) ?_
  refine lv_iload_n hx hb dX9_takesFrame_14 rfl (lv_at hl 2 rfl) ?_
  refine lv_bipush (v := 9) hx hb dX9_takesFrame_15 (by decide) ?_
  have hPc := hP
  have hDc := hD
  have hFc := va_free (wc := (tm_wModel cI cZ a s4 hh)) hD hS hA [0, 1, 2, 3, 4, 5, 6, 7, 8, 9, 10, 11, 12, 13, 14, 15, 16, 17] rfl
  refine va_calli (va_runV (As := [.int p0, .int 9]) (rest := [.int r3]) ⟨hx, hb, hml, hown, hts⟩ (kk_X9_of l dC dI cI cZ a s4 hh H.size p0 9 _ hw) (cwV 2 hts gX9_takesFrame_X9_of rfl rfl rfl (by decide +kernel) ⟨Nat.le_of_ble_eq_true rfl, Nat.le_of_ble_eq_true rfl⟩) ⟨tm_blind, va_recv hK hPc (ci := 7) (q0 := 0) rfl rfl, fun U hU hW => ⟨rfl, by rw [hU], by rw [hU]; exact hPc, va_K.moved hW.alike hK, hDc.weaken (fun _ _ _ _ => trivial)⟩⟩ rfl rfl hl.1 rfl (lv_room (Nat.le_of_ble_eq_true rfl)) dX9_takesFrame_17 ⟨Nat.zero_le _, Nat.zero_le _⟩) hS (fun q _ h => hFc q h) hFc (fun r5 s6 t H1 locs ht hvm hw hB hz1 hk1 hS => ?_)
  obtain ⟨hP1, hK1, hD1⟩ := hB
  rw [ht] at hP1
  obtain ⟨hP, hD⟩ := va_join (wr := []) (w1 := (tm_wModel cI cZ a s6 hh)) hP hD [0, 1, 2, 3, 4, 5, 6, 7, 8, 9, 10, 11, 12, 13, 14, 15, 16, 17] [] rfl rfl (by decide) (by decide) hk1 hFc hP1 hD1
  generalize H1 = H at hP hS ⊢
  have hP : va_P (dC, dI) vwCl (tm_wModel cI cZ a s6 hh) H := hP
  have hD : va_D A (tm_wModel cI cZ a s6 hh) := hD
  refine lv_icmp_ne (tgt := 74) hx hb dX9_takesFrame_20 (by decide) (fun c7 => ?_) (fun c7 => ?_)
  · have hw := hw.1 c7
    refine lv_aload_n hx hb dX9_takesFrame_74 rfl (lv_at hl 1 rfl) ?_
    refine lv_iload_n hx hb dX9_takesFrame_75 rfl (lv_at hl 2 rfl) ?_
    refine lv_iconst (v := 4) hx hb dX9_takesFrame_76 (by decide) ?_
    have hPc := hP
    have hDc := hD
    have hFc := va_free (wc := (tm_wModel cI cZ a s6 hh)) hD hS hA [0, 1, 2, 3, 4, 5, 6, 7, 8, 9, 10, 11, 12, 13, 14, 15, 16, 17] rfl
    refine va_calli (va_runV (As := [.int p0, .int 4]) (rest := []) ⟨hx, hb, hml, hown, hts⟩ (kk_X9_ear l dC dI cI cZ a s6 hh H.size p0 4 _ hw) (cwV 2 hts gX9_takesFrame_X9_ear rfl rfl rfl (by decide +kernel) ⟨Nat.le_of_ble_eq_true rfl, Nat.le_of_ble_eq_true rfl⟩) ⟨tm_blind, va_recv hK hPc (ci := 7) (q0 := 0) rfl rfl, fun U hU hW => ⟨rfl, by rw [hU], by rw [hU]; exact hPc, va_K.moved hW.alike hK, hDc.weaken (fun _ _ _ _ => trivial)⟩⟩ rfl rfl hl.1 rfl (lv_room (Nat.le_of_ble_eq_true rfl)) dX9_takesFrame_77 ⟨Nat.zero_le _, Nat.zero_le _⟩) hS (fun q _ h => hFc q h) hFc (fun r8 s9 t H1 locs ht hvm hw hB hz1 hk1 hS => ?_)
    obtain ⟨hP1, hK1, hD1⟩ := hB
    rw [ht] at hP1
    obtain ⟨hP, hD⟩ := va_join (wr := []) (w1 := (tm_wModel cI cZ a s9 hh)) hP hD [0, 1, 2, 3, 4, 5, 6, 7, 8, 9, 10, 11, 12, 13, 14, 15, 16, 17] [] rfl rfl (by decide) (by decide) hk1 hFc hP1 hD1
    generalize H1 = H at hP hS ⊢
    have hP : va_P (dC, dI) vwCl (tm_wModel cI cZ a s9 hh) H := hP
    have hD : va_D A (tm_wModel cI cZ a s9 hh) := hD
    refine lv_aload_n hx hb dX9_takesFrame_80 rfl (lv_at hl 1 rfl) ?_
    refine lv_iload_n hx hb dX9_takesFrame_81 rfl (lv_at hl 2 rfl) ?_
    refine lv_bipush (v := 8) hx hb dX9_takesFrame_82 (by decide) ?_
    have hPc := hP
    have hDc := hD
    have hFc := va_free (wc := (tm_wModel cI cZ a s9 hh)) hD hS hA [0, 1, 2, 3, 4, 5, 6, 7, 8, 9, 10, 11, 12, 13, 14, 15, 16, 17] rfl
    refine va_calli (va_runV (As := [.int p0, .int 8]) (rest := [.int r8]) ⟨hx, hb, hml, hown, hts⟩ (kk_X9_of l dC dI cI cZ a s9 hh H.size p0 8 _ hw) (cwV 2 hts gX9_takesFrame_X9_of rfl rfl rfl (by decide +kernel) ⟨Nat.le_of_ble_eq_true rfl, Nat.le_of_ble_eq_true rfl⟩) ⟨tm_blind, va_recv hK hPc (ci := 7) (q0 := 0) rfl rfl, fun U hU hW => ⟨rfl, by rw [hU], by rw [hU]; exact hPc, va_K.moved hW.alike hK, hDc.weaken (fun _ _ _ _ => trivial)⟩⟩ rfl rfl hl.1 rfl (lv_room (Nat.le_of_ble_eq_true rfl)) dX9_takesFrame_84 ⟨Nat.zero_le _, Nat.zero_le _⟩) hS (fun q _ h => hFc q h) hFc (fun r10 s11 t H1 locs ht hvm hw hB hz1 hk1 hS => ?_)
    obtain ⟨hP1, hK1, hD1⟩ := hB
    rw [ht] at hP1
    obtain ⟨hP, hD⟩ := va_join (wr := []) (w1 := (tm_wModel cI cZ a s11 hh)) hP hD [0, 1, 2, 3, 4, 5, 6, 7, 8, 9, 10, 11, 12, 13, 14, 15, 16, 17] [] rfl rfl (by decide) (by decide) hk1 hFc hP1 hD1
    generalize H1 = H at hP hS ⊢
    have hP : va_P (dC, dI) vwCl (tm_wModel cI cZ a s11 hh) H := hP
    have hD : va_D A (tm_wModel cI cZ a s11 hh) := hD
    refine lv_icmp_le (tgt := 108) hx hb dX9_takesFrame_87 (by decide) (fun c12 => ?_) (fun c12 => ?_)
    · have hw := hw.1 c12
      exact W.vret hx hb hr (fun t ht hW => ⟨⟨s11, rfl, hw, by rw [ht]; exact hP, va_K.moved hW.alike hK, hD⟩, hS.F ht⟩) hS.2.2 dX9_takesFrame_108
    · have hw := hw.2 c12
      refine lv_aload_n hx hb dX9_takesFrame_90 rfl (lv_at hl 1 rfl) ?_
      refine lv_iload_n hx hb dX9_takesFrame_91 rfl (lv_at hl 2 rfl) ?_
      refine lv_bipush (v := 8) hx hb dX9_takesFrame_92 (by decide) ?_
      refine lv_aload_n hx hb dX9_takesFrame_94 rfl (lv_at hl 1 rfl) ?_
      refine lv_iload_n hx hb dX9_takesFrame_95 rfl (lv_at hl 2 rfl) ?_
      refine lv_iconst (v := 4) hx hb dX9_takesFrame_96 (by decide) ?_
      have hPc := hP
      have hDc := hD
      have hFc := va_free (wc := (tm_wModel cI cZ a s11 hh)) hD hS hA [0, 1, 2, 3, 4, 5, 6, 7, 8, 9, 10, 11, 12, 13, 14, 15, 16, 17] rfl
      refine va_calli (va_runV (As := [.int p0, .int 4]) (rest := [.int 8, .int p0, .ref (a 0)]) ⟨hx, hb, hml, hown, hts⟩ (kk_X9_ear l dC dI cI cZ a s11 hh H.size p0 4 _ hw) (cwV 2 hts gX9_takesFrame_X9_ear rfl rfl rfl (by decide +kernel) ⟨Nat.le_of_ble_eq_true rfl, Nat.le_of_ble_eq_true rfl⟩) ⟨tm_blind, va_recv hK hPc (ci := 7) (q0 := 0) rfl rfl, fun U hU hW => ⟨rfl, by rw [hU], by rw [hU]; exact hPc, va_K.moved hW.alike hK, hDc.weaken (fun _ _ _ _ => trivial)⟩⟩ rfl rfl hl.1 rfl (lv_room (Nat.le_of_ble_eq_true rfl)) dX9_takesFrame_97 ⟨Nat.zero_le _, Nat.zero_le _⟩) hS (fun q _ h => hFc q h) hFc (fun r13 s14 t H1 locs ht hvm hw hB hz1 hk1 hS => ?_)
      obtain ⟨hP1, hK1, hD1⟩ := hB
      rw [ht] at hP1
      obtain ⟨hP, hD⟩ := va_join (wr := []) (w1 := (tm_wModel cI cZ a s14 hh)) hP hD [0, 1, 2, 3, 4, 5, 6, 7, 8, 9, 10, 11, 12, 13, 14, 15, 16, 17] [] rfl rfl (by decide) (by decide) hk1 hFc hP1 hD1
      generalize H1 = H at hP hS ⊢
      have hP : va_P (dC, dI) vwCl (tm_wModel cI cZ a s14 hh) H := hP
      have hD : va_D A (tm_wModel cI cZ a s14 hh) := hD
      have hPc := hP
      have hDc := hD
      have hFc := va_free (wc := (tm_wModel cI cZ a s14 hh)) hD hS hA [0, 1, 2, 3, 4, 5, 6, 7, 8, 9, 10, 11, 12, 13, 14, 15, 16, 17] rfl
      refine va_callv (va_runV (As := [.int p0, .int 8, .int r13]) (rest := []) ⟨hx, hb, hml, hown, hts⟩ (kk_X9_put l dC dI cI cZ a s14 hh H.size p0 8 r13 _ hw) (cwV 3 hts gX9_takesFrame_X9_put rfl rfl rfl (by decide +kernel) ⟨Nat.le_of_ble_eq_true rfl, Nat.le_of_ble_eq_true rfl⟩) ⟨tm_blind, va_recv hK hPc (ci := 7) (q0 := 0) rfl rfl, fun U hU hW => ⟨rfl, by rw [hU], by rw [hU]; exact hPc, va_K.moved hW.alike hK, hDc.weaken (fun _ _ _ _ => trivial)⟩⟩ rfl rfl hl.1 rfl (lv_room (Nat.le_of_ble_eq_true rfl)) dX9_takesFrame_100 ⟨Nat.zero_le _, Nat.zero_le _⟩) hS (fun q _ h => hFc q h) hFc (fun s15 t H1 locs ht hvm hw hB hz1 hk1 hS => ?_)
      obtain ⟨hP1, hK1, hD1⟩ := hB
      rw [ht] at hP1
      obtain ⟨hP, hD⟩ := va_join (wr := []) (w1 := (tm_wModel cI cZ a s15 hh)) hP hD [0, 1, 2, 3, 4, 5, 6, 7, 8, 9, 10, 11, 12, 13, 14, 15, 16, 17] [] rfl rfl (by decide) (by decide) hk1 hFc hP1 hD1
      generalize H1 = H at hP hS ⊢
      have hP : va_P (dC, dI) vwCl (tm_wModel cI cZ a s15 hh) H := hP
      have hD : va_D A (tm_wModel cI cZ a s15 hh) := hD
      refine lv_aload_n hx hb dX9_takesFrame_103 rfl (lv_at hl 1 rfl) ?_
      refine lv_iconst (v := 1) hx hb dX9_takesFrame_104 (by decide) ?_
      refine va_put (D := (dC, dI)) (ci := 7) (v := .int 1) (ty := .boolean) (C := RX9) (T := TX9) (N := 30) hx hb hts h_in9 tyX9 tyX9_ok nmX9 hown hK hP hD hS 0 rfl rfl 27 (by decide) h_f147 (fun _ h9 => h9) rfl (by decide +kernel) rfl rfl (Nat.le_of_ble_eq_true rfl) dX9_takesFrame_105 (fun H locs hP hD hS => ?_)
      obtain ⟨s16, es16⟩ : ∃ y : tm_St, y = tm_s s15 0 (tm_u (s15 0) 27 1) := ⟨_, rfl⟩
      have hw := hw s16 es16
      have hP : va_P (dC, dI) vwCl (tm_wModel cI cZ a s16 hh) H := by rw [es16]; exact hP
      have hD : va_D A (tm_wModel cI cZ a s16 hh) := by rw [es16]; exact hD
      exact W.vret hx hb hr (fun t ht hW => ⟨⟨s16, rfl, hw, by rw [ht]; exact hP, va_K.moved hW.alike hK, hD⟩, hS.F ht⟩) hS.2.2 dX9_takesFrame_108
  · have hw := hw.2 c7
    refine lv_iconst (v := 0) hx hb dX9_takesFrame_23 (by decide) ?_
    refine lv_istore_n (lv' := [(3, .int 0), (2, .int r1), (0, .ref (a 0)), (1, .int p0)]) hx hb dX9_takesFrame_24 rfl hl (by decide) rfl (fun ls hl => ?_)
    obtain ⟨nf, hw⟩ := hw
    exact b25 nf p0 r1 0 s6 _ _ _ hw hP hD hS (lv_sub hl [2, 3, 1, 0] rfl)
def wp_X9_hearsInData_61 (K : tm_St → Prop) (v1 : Int32) (t1 : Int32) (t2 : Int32) (t3 : Int32) (s : tm_St) : Prop := (wp_X9_put t1 t2 t3 s (fun s10 => (∀ s11 : tm_St, s11 = tm_s s10 0 (tm_u (s10 0) 27 0) → (wp_X9_hearsOffer v1 s11 (fun s12 => ((¬ (s12 0 26) = 0 → K s12) ∧ ((s12 0 26) = 0 → (wp_X9_ear v1 0 s12 (fun r14 s15 => ((¬ r14 = 7 → K s15) ∧ (r14 = 7 → (wp_X9_ear v1 1 s15 (fun r17 s18 => (wp_X9_of v1 2 s18 (fun r19 s20 => ((¬ r17 = r19 → K s20) ∧ (r17 = r19 → (wp_X9_takesFrame v1 s20 (fun s22 => K s22)))))))))))))))))))
def wp_X9_hearsInData (p0 : Int32) (s0 : tm_St) (K : tm_St → Prop) : Prop := (wp_X9_of p0 15 s0 (fun r1 s2 => (wp_X9_ear p0 0 s2 (fun r3 s4 => ((¬ r3 = 0 → (wp_X9_put p0 15 (((2 * r1) + 0) &&& 255) s4 (fun s6 => (wp_X9_ear p0 0 s6 (fun r7 s8 => ((¬ r7 = 0 → wp_X9_hearsInData_61 K p0 p0 16 0 s8) ∧ (r7 = 0 → (wp_X9_of p0 16 s8 (fun r23 s24 => wp_X9_hearsInData_61 K p0 p0 16 (r23 + 1) s24))))))))) ∧ (r3 = 0 → (wp_X9_put p0 15 (((2 * r1) + 1) &&& 255) s4 (fun s25 => (wp_X9_ear p0 0 s25 (fun r26 s27 => ((¬ r26 = 0 → wp_X9_hearsInData_61 K p0 p0 16 0 s27) ∧ (r26 = 0 → (wp_X9_of p0 16 s27 (fun r29 s30 => wp_X9_hearsInData_61 K p0 p0 16 (r29 + 1) s30))))))))))))))
set_option maxRecDepth 100000 in
set_option maxHeartbeats 4000000 in
theorem kk_X9_hearsInData (l : Launch) (dC : Nat → ClassId) (dI : Nat → Nat → Nat) (cI cZ : ClassId) (a : Nat → Nat) (s0 : tm_St) (hh : Int64) (sz : Nat) (p0 : Int32) (K : tm_St → Prop) (hw : wp_X9_hearsInData p0 s0 K) : Met l yX9_hearsInData wsX9_hearsInData ({ frames := 4, cells := 0, slots := 0, locals := 89 }) (va_Pc [.ref (a 0), .int p0] (tm_Pre dC dI cI cZ (tm_wModel cI cZ a s0 hh) sz)) (va_Qv (fun (u : tm_St) => K u) (fun (u : tm_St) t => tm_At dC dI cI cZ (va_A (tm_wModel cI cZ a s0 hh) sz) (tm_wModel cI cZ a u hh) t) (va_A (tm_wModel cI cZ a s0 hh) sz)) 0 0 (va_A (tm_wModel cI cZ a s0 hh) sz) := by
  refine Met.ofW (cc := cX9_hearsInData) (maxL := 2) (ret := none) (by decide +kernel) rfl ?_
  intro p e z m args below meth c z₁ B hml hv
  obtain ⟨rfl, hsz, hP, hK, hD0⟩ := hv
  have hx := B.exec
  have hb := B.bytes
  have hr := B.returns
  have hts := atoms_spec (ws := wsX9_hearsInData) B.pre
  have hown : z.vm.findClass RX9 = some m.cls := findClass_of_methodNamed B.named
  have hlocks := B.notSynchronized
  subst hsz
  have hD := hD0.self (sz := z.heap.size)
  generalize hAe : va_A (tm_wModel cI cZ a s0 hh) z.heap.size = A at hD ⊢
  have hA : ∀ q : Nat, z.heap.size ≤ q → A q := fun q h => by rw [← hAe]; exact Or.inr h
  have hS : va_S A z.heap z.heap [] := va_S.rf
  have h_f147 := hts (.fieldLink RX9 147 "TwoModemsModel" "grew" "Z") (by decide +kernel)
  have h_in9 : ∀ w ∈ u_ws RX9 TX9 30, w ∈ wsX9_hearsInData := by decide +kernel
  have h_f127 := hts (.fieldLink RX9 127 "TwoModemsModel" "isChanged" "Z") (by decide +kernel)
  have b61 : ∀ (v1 : Int32) (t1 : Int32) (t2 : Int32) (t3 : Int32) (s : tm_St) (H : Heap) (locs : List Loc) (ls : Array Slot), wp_X9_hearsInData_61 K v1 t1 t2 t3 s → va_P (dC, dI) vwCl (tm_wModel cI cZ a s hh) H → va_D A (tm_wModel cI cZ a s hh) → va_S A z.heap H locs → lv_has ls 2 [(0, .ref (a 0)), (1, .int v1)] → W p l e (headSpec wsX9_hearsInData ({ frames := 4, cells := 0, slots := 0, locals := 89 })).room z m (([.ref (a 0), .int p0] : List Value).toArray) below meth c H locs 0 0 (MQ below (va_Qv (fun (u : tm_St) => K u) (fun (u : tm_St) t => tm_At dC dI cI cZ A (tm_wModel cI cZ a u hh) t) A) (([.ref (a 0), .int p0] : List Value).toArray) z 0 0 A) (F0 m 61 ls [.int t3, .int t2, .int t1, .ref (a 0)]) := by
    intro v1 t1 t2 t3 s H locs ls hw hP hD hS hl
    unfold wp_X9_hearsInData_61 at hw
    have hPc := hP
    have hDc := hD
    have hFc := va_free (wc := (tm_wModel cI cZ a s hh)) hD hS hA [0, 1, 2, 3, 4, 5, 6, 7, 8, 9, 10, 11, 12, 13, 14, 15, 16, 17] rfl
    refine va_callv (va_runV (As := [.int t1, .int t2, .int t3]) (rest := []) ⟨hx, hb, hml, hown, hts⟩ (kk_X9_put l dC dI cI cZ a s hh H.size t1 t2 t3 _ hw) (cwV 3 hts gX9_hearsInData_X9_put rfl rfl rfl (by decide +kernel) ⟨Nat.le_of_ble_eq_true rfl, Nat.le_of_ble_eq_true rfl⟩) ⟨tm_blind, va_recv hK hPc (ci := 7) (q0 := 0) rfl rfl, fun U hU hW => ⟨rfl, by rw [hU], by rw [hU]; exact hPc, va_K.moved hW.alike hK, hDc.weaken (fun _ _ _ _ => trivial)⟩⟩ rfl rfl hl.1 rfl (lv_room (Nat.le_of_ble_eq_true rfl)) dX9_hearsInData_61 ⟨Nat.zero_le _, Nat.zero_le _⟩) hS (fun q _ h => hFc q h) hFc (fun s10 t H1 locs ht hvm hw hB hz1 hk1 hS => ?_)
    obtain ⟨hP1, hK1, hD1⟩ := hB
    rw [ht] at hP1
    obtain ⟨hP, hD⟩ := va_join (wr := []) (w1 := (tm_wModel cI cZ a s10 hh)) hP hD [0, 1, 2, 3, 4, 5, 6, 7, 8, 9, 10, 11, 12, 13, 14, 15, 16, 17] [] rfl rfl (by decide) (by decide) hk1 hFc hP1 hD1
    generalize H1 = H at hP hS ⊢
    have hP : va_P (dC, dI) vwCl (tm_wModel cI cZ a s10 hh) H := hP
    have hD : va_D A (tm_wModel cI cZ a s10 hh) := hD
    refine lv_aload_n hx hb dX9_hearsInData_64 rfl (lv_at hl 0 rfl) ?_
    refine lv_iconst (v := 0) hx hb dX9_hearsInData_65 (by decide) ?_
    refine va_put (D := (dC, dI)) (ci := 7) (v := .int 0) (ty := .boolean) (C := RX9) (T := TX9) (N := 30) hx hb hts h_in9 tyX9 tyX9_ok nmX9 hown hK hP hD hS 0 rfl rfl 27 (by decide) h_f147 (fun _ h9 => h9) rfl (by decide +kernel) rfl rfl (Nat.le_of_ble_eq_true rfl) dX9_hearsInData_66 (fun H locs hP hD hS => ?_)
    obtain ⟨s11, es11⟩ : ∃ y : tm_St, y = tm_s s10 0 (tm_u (s10 0) 27 0) := ⟨_, rfl⟩
    have hw := hw s11 es11
    have hP : va_P (dC, dI) vwCl (tm_wModel cI cZ a s11 hh) H := by rw [es11]; exact hP
    have hD : va_D A (tm_wModel cI cZ a s11 hh) := by rw [es11]; exact hD
    refine lv_aload_n hx hb dX9_hearsInData_69 rfl (lv_at hl 0 rfl) ?_
    refine lv_iload_n hx hb dX9_hearsInData_70 rfl (lv_at hl 1 rfl) ?_
    have hPc := hP
    have hDc := hD
    have hFc := va_free (wc := (tm_wModel cI cZ a s11 hh)) hD hS hA [0, 1, 2, 3, 4, 5, 6, 7, 8, 9, 10, 11, 12, 13, 14, 15, 16, 17] rfl
    refine va_callv (va_runV (As := [.int v1]) (rest := []) ⟨hx, hb, hml, hown, hts⟩ (kk_X9_hearsOffer l dC dI cI cZ a s11 hh H.size v1 _ hw) (cwV 1 hts gX9_hearsInData_X9_hearsOffer rfl rfl rfl (by decide +kernel) ⟨Nat.le_of_ble_eq_true rfl, Nat.le_of_ble_eq_true rfl⟩) ⟨tm_blind, va_recv hK hPc (ci := 7) (q0 := 0) rfl rfl, fun U hU hW => ⟨rfl, by rw [hU], by rw [hU]; exact hPc, va_K.moved hW.alike hK, hDc.weaken (fun _ _ _ _ => trivial)⟩⟩ rfl rfl hl.1 rfl (lv_room (Nat.le_of_ble_eq_true rfl)) dX9_hearsInData_71 ⟨Nat.zero_le _, Nat.zero_le _⟩) hS (fun q _ h => hFc q h) hFc (fun s12 t H1 locs ht hvm hw hB hz1 hk1 hS => ?_)
    obtain ⟨hP1, hK1, hD1⟩ := hB
    rw [ht] at hP1
    obtain ⟨hP, hD⟩ := va_join (wr := []) (w1 := (tm_wModel cI cZ a s12 hh)) hP hD [0, 1, 2, 3, 4, 5, 6, 7, 8, 9, 10, 11, 12, 13, 14, 15, 16, 17] [] rfl rfl (by decide) (by decide) hk1 hFc hP1 hD1
    generalize H1 = H at hP hS ⊢
    have hP : va_P (dC, dI) vwCl (tm_wModel cI cZ a s12 hh) H := hP
    have hD : va_D A (tm_wModel cI cZ a s12 hh) := hD
    refine lv_aload_n hx hb dX9_hearsInData_74 rfl (lv_at hl 0 rfl) ?_
    refine va_get (D := (dC, dI)) (ci := 7) (v := .int (s12 0 26)) (C := RX9) (T := TX9) (N := 30) hx hb hts h_in9 hown hK hP 0 rfl rfl 26 (by decide) h_f127 (fun _ h9 => h9) rfl dX9_hearsInData_75 ?_
    refine lv_if_ne (tgt := 112) hx hb dX9_hearsInData_78 (by decide) (fun c13 => ?_) (fun c13 => ?_)
    · have hw := hw.1 c13
      exact W.vret hx hb hr (fun t ht hW => ⟨⟨s12, rfl, hw, by rw [ht]; exact hP, va_K.moved hW.alike hK, hD⟩, hS.F ht⟩) hS.2.2 dX9_hearsInData_112
    · have hw := hw.2 c13
      refine lv_aload_n hx hb dX9_hearsInData_81 rfl (lv_at hl 0 rfl) ?_
      refine lv_iload_n hx hb dX9_hearsInData_82 rfl (lv_at hl 1 rfl) ?_
      refine lv_iconst (v := 0) hx hb dX9_hearsInData_83 (by decide) ?_
      have hPc := hP
      have hDc := hD
      have hFc := va_free (wc := (tm_wModel cI cZ a s12 hh)) hD hS hA [0, 1, 2, 3, 4, 5, 6, 7, 8, 9, 10, 11, 12, 13, 14, 15, 16, 17] rfl
      refine va_calli (va_runV (As := [.int v1, .int 0]) (rest := []) ⟨hx, hb, hml, hown, hts⟩ (kk_X9_ear l dC dI cI cZ a s12 hh H.size v1 0 _ hw) (cwV 2 hts gX9_hearsInData_X9_ear rfl rfl rfl (by decide +kernel) ⟨Nat.le_of_ble_eq_true rfl, Nat.le_of_ble_eq_true rfl⟩) ⟨tm_blind, va_recv hK hPc (ci := 7) (q0 := 0) rfl rfl, fun U hU hW => ⟨rfl, by rw [hU], by rw [hU]; exact hPc, va_K.moved hW.alike hK, hDc.weaken (fun _ _ _ _ => trivial)⟩⟩ rfl rfl hl.1 rfl (lv_room (Nat.le_of_ble_eq_true rfl)) dX9_hearsInData_84 ⟨Nat.zero_le _, Nat.zero_le _⟩) hS (fun q _ h => hFc q h) hFc (fun r14 s15 t H1 locs ht hvm hw hB hz1 hk1 hS => ?_)
      obtain ⟨hP1, hK1, hD1⟩ := hB
      rw [ht] at hP1
      obtain ⟨hP, hD⟩ := va_join (wr := []) (w1 := (tm_wModel cI cZ a s15 hh)) hP hD [0, 1, 2, 3, 4, 5, 6, 7, 8, 9, 10, 11, 12, 13, 14, 15, 16, 17] [] rfl rfl (by decide) (by decide) hk1 hFc hP1 hD1
      generalize H1 = H at hP hS ⊢
      have hP : va_P (dC, dI) vwCl (tm_wModel cI cZ a s15 hh) H := hP
      have hD : va_D A (tm_wModel cI cZ a s15 hh) := hD
      refine lv_bipush (v := 7) hx hb dX9_hearsInData_87 (by decide) ?_
      refine lv_icmp_ne (tgt := 112) hx hb dX9_hearsInData_89 (by decide) (fun c16 => ?_) (fun c16 => ?_)
      · have hw := hw.1 c16
        exact W.vret hx hb hr (fun t ht hW => ⟨⟨s15, rfl, hw, by rw [ht]; exact hP, va_K.moved hW.alike hK, hD⟩, hS.F ht⟩) hS.2.2 dX9_hearsInData_112
      · have hw := hw.2 c16
        refine lv_aload_n hx hb dX9_hearsInData_92 rfl (lv_at hl 0 rfl) ?_
        refine lv_iload_n hx hb dX9_hearsInData_93 rfl (lv_at hl 1 rfl) ?_
        refine lv_iconst (v := 1) hx hb dX9_hearsInData_94 (by decide) ?_
        have hPc := hP
        have hDc := hD
        have hFc := va_free (wc := (tm_wModel cI cZ a s15 hh)) hD hS hA [0, 1, 2, 3, 4, 5, 6, 7, 8, 9, 10, 11, 12, 13, 14, 15, 16, 17] rfl
        refine va_calli (va_runV (As := [.int v1, .int 1]) (rest := []) ⟨hx, hb, hml, hown, hts⟩ (kk_X9_ear l dC dI cI cZ a s15 hh H.size v1 1 _ hw) (cwV 2 hts gX9_hearsInData_X9_ear rfl rfl rfl (by decide +kernel) ⟨Nat.le_of_ble_eq_true rfl, Nat.le_of_ble_eq_true rfl⟩) ⟨tm_blind, va_recv hK hPc (ci := 7) (q0 := 0) rfl rfl, fun U hU hW => ⟨rfl, by rw [hU], by rw [hU]; exact hPc, va_K.moved hW.alike hK, hDc.weaken (fun _ _ _ _ => trivial)⟩⟩ rfl rfl hl.1 rfl (lv_room (Nat.le_of_ble_eq_true rfl)) dX9_hearsInData_95 ⟨Nat.zero_le _, Nat.zero_le _⟩) hS (fun q _ h => hFc q h) hFc (fun r17 s18 t H1 locs ht hvm hw hB hz1 hk1 hS => ?_)
        obtain ⟨hP1, hK1, hD1⟩ := hB
        rw [ht] at hP1
        obtain ⟨hP, hD⟩ := va_join (wr := []) (w1 := (tm_wModel cI cZ a s18 hh)) hP hD [0, 1, 2, 3, 4, 5, 6, 7, 8, 9, 10, 11, 12, 13, 14, 15, 16, 17] [] rfl rfl (by decide) (by decide) hk1 hFc hP1 hD1
        generalize H1 = H at hP hS ⊢
        have hP : va_P (dC, dI) vwCl (tm_wModel cI cZ a s18 hh) H := hP
        have hD : va_D A (tm_wModel cI cZ a s18 hh) := hD
        refine lv_aload_n hx hb dX9_hearsInData_98 rfl (lv_at hl 0 rfl) ?_
        refine lv_iload_n hx hb dX9_hearsInData_99 rfl (lv_at hl 1 rfl) ?_
        refine lv_iconst (v := 2) hx hb dX9_hearsInData_100 (by decide) ?_
        have hPc := hP
        have hDc := hD
        have hFc := va_free (wc := (tm_wModel cI cZ a s18 hh)) hD hS hA [0, 1, 2, 3, 4, 5, 6, 7, 8, 9, 10, 11, 12, 13, 14, 15, 16, 17] rfl
        refine va_calli (va_runV (As := [.int v1, .int 2]) (rest := [.int r17]) ⟨hx, hb, hml, hown, hts⟩ (kk_X9_of l dC dI cI cZ a s18 hh H.size v1 2 _ hw) (cwV 2 hts gX9_hearsInData_X9_of rfl rfl rfl (by decide +kernel) ⟨Nat.le_of_ble_eq_true rfl, Nat.le_of_ble_eq_true rfl⟩) ⟨tm_blind, va_recv hK hPc (ci := 7) (q0 := 0) rfl rfl, fun U hU hW => ⟨rfl, by rw [hU], by rw [hU]; exact hPc, va_K.moved hW.alike hK, hDc.weaken (fun _ _ _ _ => trivial)⟩⟩ rfl rfl hl.1 rfl (lv_room (Nat.le_of_ble_eq_true rfl)) dX9_hearsInData_101 ⟨Nat.zero_le _, Nat.zero_le _⟩) hS (fun q _ h => hFc q h) hFc (fun r19 s20 t H1 locs ht hvm hw hB hz1 hk1 hS => ?_)
        obtain ⟨hP1, hK1, hD1⟩ := hB
        rw [ht] at hP1
        obtain ⟨hP, hD⟩ := va_join (wr := []) (w1 := (tm_wModel cI cZ a s20 hh)) hP hD [0, 1, 2, 3, 4, 5, 6, 7, 8, 9, 10, 11, 12, 13, 14, 15, 16, 17] [] rfl rfl (by decide) (by decide) hk1 hFc hP1 hD1
        generalize H1 = H at hP hS ⊢
        have hP : va_P (dC, dI) vwCl (tm_wModel cI cZ a s20 hh) H := hP
        have hD : va_D A (tm_wModel cI cZ a s20 hh) := hD
        refine lv_icmp_ne (tgt := 112) hx hb dX9_hearsInData_104 (by decide) (fun c21 => ?_) (fun c21 => ?_)
        · have hw := hw.1 c21
          exact W.vret hx hb hr (fun t ht hW => ⟨⟨s20, rfl, hw, by rw [ht]; exact hP, va_K.moved hW.alike hK, hD⟩, hS.F ht⟩) hS.2.2 dX9_hearsInData_112
        · have hw := hw.2 c21
          refine lv_aload_n hx hb dX9_hearsInData_107 rfl (lv_at hl 0 rfl) ?_
          refine lv_iload_n hx hb dX9_hearsInData_108 rfl (lv_at hl 1 rfl) ?_
          have hPc := hP
          have hDc := hD
          have hFc := va_free (wc := (tm_wModel cI cZ a s20 hh)) hD hS hA [0, 1, 2, 3, 4, 5, 6, 7, 8, 9, 10, 11, 12, 13, 14, 15, 16, 17] rfl
          refine va_callv (va_runV (As := [.int v1]) (rest := []) ⟨hx, hb, hml, hown, hts⟩ (kk_X9_takesFrame l dC dI cI cZ a s20 hh H.size v1 _ hw) (cwV 1 hts gX9_hearsInData_X9_takesFrame rfl rfl rfl (by decide +kernel) ⟨Nat.le_of_ble_eq_true rfl, Nat.le_of_ble_eq_true rfl⟩) ⟨tm_blind, va_recv hK hPc (ci := 7) (q0 := 0) rfl rfl, fun U hU hW => ⟨rfl, by rw [hU], by rw [hU]; exact hPc, va_K.moved hW.alike hK, hDc.weaken (fun _ _ _ _ => trivial)⟩⟩ rfl rfl hl.1 rfl (lv_room (Nat.le_of_ble_eq_true rfl)) dX9_hearsInData_109 ⟨Nat.zero_le _, Nat.zero_le _⟩) hS (fun q _ h => hFc q h) hFc (fun s22 t H1 locs ht hvm hw hB hz1 hk1 hS => ?_)
          obtain ⟨hP1, hK1, hD1⟩ := hB
          rw [ht] at hP1
          obtain ⟨hP, hD⟩ := va_join (wr := []) (w1 := (tm_wModel cI cZ a s22 hh)) hP hD [0, 1, 2, 3, 4, 5, 6, 7, 8, 9, 10, 11, 12, 13, 14, 15, 16, 17] [] rfl rfl (by decide) (by decide) hk1 hFc hP1 hD1
          generalize H1 = H at hP hS ⊢
          have hP : va_P (dC, dI) vwCl (tm_wModel cI cZ a s22 hh) H := hP
          have hD : va_D A (tm_wModel cI cZ a s22 hh) := hD
          exact W.vret hx hb hr (fun t ht hW => ⟨⟨s22, rfl, hw, by rw [ht]; exact hP, va_K.moved hW.alike hK, hD⟩, hS.F ht⟩) hS.2.2 dX9_hearsInData_112
  have hl := lv_entry ([.ref (a 0), .int p0]) (n := 2) (Nat.le_of_ble_eq_true rfl)
  rw [lg_entry_eq]
  generalize (lg_sl ([.ref (a 0), .int p0]) ++ List.replicate (2 - (lg_sl ([.ref (a 0), .int p0])).length) Slot.unset).toArray = ls at hl ⊢
  have hl : lv_has ls 2 [(0, .ref (a 0)), (1, .int p0)] := hl
  unfold wp_X9_hearsInData at hw
  refine lv_aload_n hx hb dX9_hearsInData_0 rfl (lv_at hl 0 rfl) ?_
  refine lv_iload_n hx hb dX9_hearsInData_1 rfl (lv_at hl 1 rfl) ?_
  refine lv_bipush (v := 15) hx hb dX9_hearsInData_2 (by decide) ?_
  refine lv_iconst (v := 2) hx hb dX9_hearsInData_4 (by decide) ?_
  refine lv_aload_n hx hb dX9_hearsInData_5 rfl (lv_at hl 0 rfl) ?_
  refine lv_iload_n hx hb dX9_hearsInData_6 rfl (lv_at hl 1 rfl) ?_
  refine lv_bipush (v := 15) hx hb dX9_hearsInData_7 (by decide) ?_
  have hPc := hP
  have hDc := hD
  have hFc := va_free (wc := (tm_wModel cI cZ a s0 hh)) hD hS hA [0, 1, 2, 3, 4, 5, 6, 7, 8, 9, 10, 11, 12, 13, 14, 15, 16, 17] rfl
  refine va_calli (va_runV (As := [.int p0, .int 15]) (rest := [.int 2, .int 15, .int p0, .ref (a 0)]) ⟨hx, hb, hml, hown, hts⟩ (kk_X9_of l dC dI cI cZ a s0 hh z.heap.size p0 15 _ hw) (cwV 2 hts gX9_hearsInData_X9_of rfl rfl rfl (by decide +kernel) ⟨Nat.le_of_ble_eq_true rfl, Nat.le_of_ble_eq_true rfl⟩) ⟨tm_blind, va_recv hK hPc (ci := 7) (q0 := 0) rfl rfl, fun U hU hW => ⟨rfl, by rw [hU], by rw [hU]; exact hPc, va_K.moved hW.alike hK, hDc.weaken (fun _ _ _ _ => trivial)⟩⟩ rfl rfl hl.1 rfl (lv_room (Nat.le_of_ble_eq_true rfl)) dX9_hearsInData_9 ⟨Nat.zero_le _, Nat.zero_le _⟩) hS (fun q _ h => hFc q h) hFc (fun r1 s2 t H1 locs ht hvm hw hB hz1 hk1 hS => ?_)
  obtain ⟨hP1, hK1, hD1⟩ := hB
  rw [ht] at hP1
  obtain ⟨hP, hD⟩ := va_join (wr := []) (w1 := (tm_wModel cI cZ a s2 hh)) hP hD [0, 1, 2, 3, 4, 5, 6, 7, 8, 9, 10, 11, 12, 13, 14, 15, 16, 17] [] rfl rfl (by decide) (by decide) hk1 hFc hP1 hD1
  generalize H1 = H at hP hS ⊢
  have hP : va_P (dC, dI) vwCl (tm_wModel cI cZ a s2 hh) H := hP
  have hD : va_D A (tm_wModel cI cZ a s2 hh) := hD
  refine lv_imul hx hb dX9_hearsInData_12 ?_
  refine lv_aload_n hx hb dX9_hearsInData_13 rfl (lv_at hl 0 rfl) ?_
  refine lv_iload_n hx hb dX9_hearsInData_14 rfl (lv_at hl 1 rfl) ?_
  refine lv_iconst (v := 0) hx hb dX9_hearsInData_15 (by decide) ?_
  have hPc := hP
  have hDc := hD
  have hFc := va_free (wc := (tm_wModel cI cZ a s2 hh)) hD hS hA [0, 1, 2, 3, 4, 5, 6, 7, 8, 9, 10, 11, 12, 13, 14, 15, 16, 17] rfl
  refine va_calli (va_runV (As := [.int p0, .int 0]) (rest := [.int (2 * r1), .int 15, .int p0, .ref (a 0)]) ⟨hx, hb, hml, hown, hts⟩ (kk_X9_ear l dC dI cI cZ a s2 hh H.size p0 0 _ hw) (cwV 2 hts gX9_hearsInData_X9_ear rfl rfl rfl (by decide +kernel) ⟨Nat.le_of_ble_eq_true rfl, Nat.le_of_ble_eq_true rfl⟩) ⟨tm_blind, va_recv hK hPc (ci := 7) (q0 := 0) rfl rfl, fun U hU hW => ⟨rfl, by rw [hU], by rw [hU]; exact hPc, va_K.moved hW.alike hK, hDc.weaken (fun _ _ _ _ => trivial)⟩⟩ rfl rfl hl.1 rfl (lv_room (Nat.le_of_ble_eq_true rfl)) dX9_hearsInData_16 ⟨Nat.zero_le _, Nat.zero_le _⟩) hS (fun q _ h => hFc q h) hFc (fun r3 s4 t H1 locs ht hvm hw hB hz1 hk1 hS => ?_)
  obtain ⟨hP1, hK1, hD1⟩ := hB
  rw [ht] at hP1
  obtain ⟨hP, hD⟩ := va_join (wr := []) (w1 := (tm_wModel cI cZ a s4 hh)) hP hD [0, 1, 2, 3, 4, 5, 6, 7, 8, 9, 10, 11, 12, 13, 14, 15, 16, 17] [] rfl rfl (by decide) (by decide) hk1 hFc hP1 hD1
  generalize H1 = H at hP hS ⊢
  have hP : va_P (dC, dI) vwCl (tm_wModel cI cZ a s4 hh) H := hP
  have hD : va_D A (tm_wModel cI cZ a s4 hh) := hD
  refine lv_if_ne (tgt := 26) hx hb dX9_hearsInData_19 (by decide) (fun c5 => ?_) (fun c5 => ?_)
  · have hw := hw.1 c5
    refine lv_iconst (v := 0) hx hb dX9_hearsInData_26 (by decide) ?_
    refine lv_iadd hx hb dX9_hearsInData_27 ?_
    refine lv_sipush (v := 255) hx hb dX9_hearsInData_28 (by decide) ?_
    refine lv_iand hx hb dX9_hearsInData_31 ?_
    have hPc := hP
    have hDc := hD
    have hFc := va_free (wc := (tm_wModel cI cZ a s4 hh)) hD hS hA [0, 1, 2, 3, 4, 5, 6, 7, 8, 9, 10, 11, 12, 13, 14, 15, 16, 17] rfl
    refine va_callv (va_runV (As := [.int p0, .int 15, .int (((2 * r1) + 0) &&& 255)]) (rest := []) ⟨hx, hb, hml, hown, hts⟩ (kk_X9_put l dC dI cI cZ a s4 hh H.size p0 15 (((2 * r1) + 0) &&& 255) _ hw) (cwV 3 hts gX9_hearsInData_X9_put rfl rfl rfl (by decide +kernel) ⟨Nat.le_of_ble_eq_true rfl, Nat.le_of_ble_eq_true rfl⟩) ⟨tm_blind, va_recv hK hPc (ci := 7) (q0 := 0) rfl rfl, fun U hU hW => ⟨rfl, by rw [hU], by rw [hU]; exact hPc, va_K.moved hW.alike hK, hDc.weaken (fun _ _ _ _ => trivial)⟩⟩ rfl rfl hl.1 rfl (lv_room (Nat.le_of_ble_eq_true rfl)) dX9_hearsInData_32 ⟨Nat.zero_le _, Nat.zero_le _⟩) hS (fun q _ h => hFc q h) hFc (fun s6 t H1 locs ht hvm hw hB hz1 hk1 hS => ?_)
    obtain ⟨hP1, hK1, hD1⟩ := hB
    rw [ht] at hP1
    obtain ⟨hP, hD⟩ := va_join (wr := []) (w1 := (tm_wModel cI cZ a s6 hh)) hP hD [0, 1, 2, 3, 4, 5, 6, 7, 8, 9, 10, 11, 12, 13, 14, 15, 16, 17] [] rfl rfl (by decide) (by decide) hk1 hFc hP1 hD1
    generalize H1 = H at hP hS ⊢
    have hP : va_P (dC, dI) vwCl (tm_wModel cI cZ a s6 hh) H := hP
    have hD : va_D A (tm_wModel cI cZ a s6 hh) := hD
    refine lv_aload_n hx hb dX9_hearsInData_35 rfl (lv_at hl 0 rfl) ?_
    refine lv_iload_n hx hb dX9_hearsInData_36 rfl (lv_at hl 1 rfl) ?_
    refine lv_bipush (v := 16) hx hb dX9_hearsInData_37 (by decide) ?_
    refine lv_aload_n hx hb dX9_hearsInData_39 rfl (lv_at hl 0 rfl) ?_
    refine lv_iload_n hx hb dX9_hearsInData_40 rfl (lv_at hl 1 rfl) ?_
    refine lv_iconst (v := 0) hx hb dX9_hearsInData_41 (by decide) ?_
    have hPc := hP
    have hDc := hD
    have hFc := va_free (wc := (tm_wModel cI cZ a s6 hh)) hD hS hA [0, 1, 2, 3, 4, 5, 6, 7, 8, 9, 10, 11, 12, 13, 14, 15, 16, 17] rfl
    refine va_calli (va_runV (As := [.int p0, .int 0]) (rest := [.int 16, .int p0, .ref (a 0)]) ⟨hx, hb, hml, hown, hts⟩ (kk_X9_ear l dC dI cI cZ a s6 hh H.size p0 0 _ hw) (cwV 2 hts gX9_hearsInData_X9_ear rfl rfl rfl (by decide +kernel) ⟨Nat.le_of_ble_eq_true rfl, Nat.le_of_ble_eq_true rfl⟩) ⟨tm_blind, va_recv hK hPc (ci := 7) (q0 := 0) rfl rfl, fun U hU hW => ⟨rfl, by rw [hU], by rw [hU]; exact hPc, va_K.moved hW.alike hK, hDc.weaken (fun _ _ _ _ => trivial)⟩⟩ rfl rfl hl.1 rfl (lv_room (Nat.le_of_ble_eq_true rfl)) dX9_hearsInData_42 ⟨Nat.zero_le _, Nat.zero_le _⟩) hS (fun q _ h => hFc q h) hFc (fun r7 s8 t H1 locs ht hvm hw hB hz1 hk1 hS => ?_)
    obtain ⟨hP1, hK1, hD1⟩ := hB
    rw [ht] at hP1
    obtain ⟨hP, hD⟩ := va_join (wr := []) (w1 := (tm_wModel cI cZ a s8 hh)) hP hD [0, 1, 2, 3, 4, 5, 6, 7, 8, 9, 10, 11, 12, 13, 14, 15, 16, 17] [] rfl rfl (by decide) (by decide) hk1 hFc hP1 hD1
    generalize H1 = H at hP hS ⊢
    have hP : va_P (dC, dI) vwCl (tm_wModel cI cZ a s8 hh) H := hP
    have hD : va_D A (tm_wModel cI cZ a s8 hh) := hD
    refine lv_if_ne (tgt := 60) hx hb dX9_hearsInData_45 (by decide) (fun c9 => ?_) (fun c9 => ?_)
    · have hw := hw.1 c9
      refine lv_iconst (v := 0) hx hb dX9_hearsInData_60 (by decide) ?_
      exact b61 p0 p0 16 0 s8 _ _ _ hw hP hD hS (lv_sub hl [0, 1] rfl)
    · have hw := hw.2 c9
      refine lv_aload_n hx hb dX9_hearsInData_48 rfl (lv_at hl 0 rfl) ?_
      refine lv_iload_n hx hb dX9_hearsInData_49 rfl (lv_at hl 1 rfl) ?_
      refine lv_bipush (v := 16) hx hb dX9_hearsInData_50 (by decide) ?_
      have hPc := hP
      have hDc := hD
      have hFc := va_free (wc := (tm_wModel cI cZ a s8 hh)) hD hS hA [0, 1, 2, 3, 4, 5, 6, 7, 8, 9, 10, 11, 12, 13, 14, 15, 16, 17] rfl
      refine va_calli (va_runV (As := [.int p0, .int 16]) (rest := [.int 16, .int p0, .ref (a 0)]) ⟨hx, hb, hml, hown, hts⟩ (kk_X9_of l dC dI cI cZ a s8 hh H.size p0 16 _ hw) (cwV 2 hts gX9_hearsInData_X9_of rfl rfl rfl (by decide +kernel) ⟨Nat.le_of_ble_eq_true rfl, Nat.le_of_ble_eq_true rfl⟩) ⟨tm_blind, va_recv hK hPc (ci := 7) (q0 := 0) rfl rfl, fun U hU hW => ⟨rfl, by rw [hU], by rw [hU]; exact hPc, va_K.moved hW.alike hK, hDc.weaken (fun _ _ _ _ => trivial)⟩⟩ rfl rfl hl.1 rfl (lv_room (Nat.le_of_ble_eq_true rfl)) dX9_hearsInData_52 ⟨Nat.zero_le _, Nat.zero_le _⟩) hS (fun q _ h => hFc q h) hFc (fun r23 s24 t H1 locs ht hvm hw hB hz1 hk1 hS => ?_)
      obtain ⟨hP1, hK1, hD1⟩ := hB
      rw [ht] at hP1
      obtain ⟨hP, hD⟩ := va_join (wr := []) (w1 := (tm_wModel cI cZ a s24 hh)) hP hD [0, 1, 2, 3, 4, 5, 6, 7, 8, 9, 10, 11, 12, 13, 14, 15, 16, 17] [] rfl rfl (by decide) (by decide) hk1 hFc hP1 hD1
      generalize H1 = H at hP hS ⊢
      have hP : va_P (dC, dI) vwCl (tm_wModel cI cZ a s24 hh) H := hP
      have hD : va_D A (tm_wModel cI cZ a s24 hh) := hD
      refine lv_iconst (v := 1) hx hb dX9_hearsInData_55 (by decide) ?_
      refine lv_iadd hx hb dX9_hearsInData_56 ?_
      refine lv_goto (tgt := 61) hx hb dX9_hearsInData_57 (by decide) ?_
      exact b61 p0 p0 16 (r23 + 1) s24 _ _ _ hw hP hD hS (lv_sub hl [0, 1] rfl)
  · have hw := hw.2 c5
    refine lv_iconst (v := 1) hx hb dX9_hearsInData_22 (by decide) ?_
    refine lv_goto (tgt := 27) hx hb dX9_hearsInData_23 (by decide) ?_
    refine lv_iadd hx hb dX9_hearsInData_27 ?_
    refine lv_sipush (v := 255) hx hb dX9_hearsInData_28 (by decide) ?_
    refine lv_iand hx hb dX9_hearsInData_31 ?_
    have hPc := hP
    have hDc := hD
    have hFc := va_free (wc := (tm_wModel cI cZ a s4 hh)) hD hS hA [0, 1, 2, 3, 4, 5, 6, 7, 8, 9, 10, 11, 12, 13, 14, 15, 16, 17] rfl
    refine va_callv (va_runV (As := [.int p0, .int 15, .int (((2 * r1) + 1) &&& 255)]) (rest := []) ⟨hx, hb, hml, hown, hts⟩ (kk_X9_put l dC dI cI cZ a s4 hh H.size p0 15 (((2 * r1) + 1) &&& 255) _ hw) (cwV 3 hts gX9_hearsInData_X9_put rfl rfl rfl (by decide +kernel) ⟨Nat.le_of_ble_eq_true rfl, Nat.le_of_ble_eq_true rfl⟩) ⟨tm_blind, va_recv hK hPc (ci := 7) (q0 := 0) rfl rfl, fun U hU hW => ⟨rfl, by rw [hU], by rw [hU]; exact hPc, va_K.moved hW.alike hK, hDc.weaken (fun _ _ _ _ => trivial)⟩⟩ rfl rfl hl.1 rfl (lv_room (Nat.le_of_ble_eq_true rfl)) dX9_hearsInData_32 ⟨Nat.zero_le _, Nat.zero_le _⟩) hS (fun q _ h => hFc q h) hFc (fun s25 t H1 locs ht hvm hw hB hz1 hk1 hS => ?_)
    obtain ⟨hP1, hK1, hD1⟩ := hB
    rw [ht] at hP1
    obtain ⟨hP, hD⟩ := va_join (wr := []) (w1 := (tm_wModel cI cZ a s25 hh)) hP hD [0, 1, 2, 3, 4, 5, 6, 7, 8, 9, 10, 11, 12, 13, 14, 15, 16, 17] [] rfl rfl (by decide) (by decide) hk1 hFc hP1 hD1
    generalize H1 = H at hP hS ⊢
    have hP : va_P (dC, dI) vwCl (tm_wModel cI cZ a s25 hh) H := hP
    have hD : va_D A (tm_wModel cI cZ a s25 hh) := hD
    refine lv_aload_n hx hb dX9_hearsInData_35 rfl (lv_at hl 0 rfl) ?_
    refine lv_iload_n hx hb dX9_hearsInData_36 rfl (lv_at hl 1 rfl) ?_
    refine lv_bipush (v := 16) hx hb dX9_hearsInData_37 (by decide) ?_
    refine lv_aload_n hx hb dX9_hearsInData_39 rfl (lv_at hl 0 rfl) ?_
    refine lv_iload_n hx hb dX9_hearsInData_40 rfl (lv_at hl 1 rfl) ?_
    refine lv_iconst (v := 0) hx hb dX9_hearsInData_41 (by decide) ?_
    have hPc := hP
    have hDc := hD
    have hFc := va_free (wc := (tm_wModel cI cZ a s25 hh)) hD hS hA [0, 1, 2, 3, 4, 5, 6, 7, 8, 9, 10, 11, 12, 13, 14, 15, 16, 17] rfl
    refine va_calli (va_runV (As := [.int p0, .int 0]) (rest := [.int 16, .int p0, .ref (a 0)]) ⟨hx, hb, hml, hown, hts⟩ (kk_X9_ear l dC dI cI cZ a s25 hh H.size p0 0 _ hw) (cwV 2 hts gX9_hearsInData_X9_ear rfl rfl rfl (by decide +kernel) ⟨Nat.le_of_ble_eq_true rfl, Nat.le_of_ble_eq_true rfl⟩) ⟨tm_blind, va_recv hK hPc (ci := 7) (q0 := 0) rfl rfl, fun U hU hW => ⟨rfl, by rw [hU], by rw [hU]; exact hPc, va_K.moved hW.alike hK, hDc.weaken (fun _ _ _ _ => trivial)⟩⟩ rfl rfl hl.1 rfl (lv_room (Nat.le_of_ble_eq_true rfl)) dX9_hearsInData_42 ⟨Nat.zero_le _, Nat.zero_le _⟩) hS (fun q _ h => hFc q h) hFc (fun r26 s27 t H1 locs ht hvm hw hB hz1 hk1 hS => ?_)
    obtain ⟨hP1, hK1, hD1⟩ := hB
    rw [ht] at hP1
    obtain ⟨hP, hD⟩ := va_join (wr := []) (w1 := (tm_wModel cI cZ a s27 hh)) hP hD [0, 1, 2, 3, 4, 5, 6, 7, 8, 9, 10, 11, 12, 13, 14, 15, 16, 17] [] rfl rfl (by decide) (by decide) hk1 hFc hP1 hD1
    generalize H1 = H at hP hS ⊢
    have hP : va_P (dC, dI) vwCl (tm_wModel cI cZ a s27 hh) H := hP
    have hD : va_D A (tm_wModel cI cZ a s27 hh) := hD
    refine lv_if_ne (tgt := 60) hx hb dX9_hearsInData_45 (by decide) (fun c28 => ?_) (fun c28 => ?_)
    · have hw := hw.1 c28
      refine lv_iconst (v := 0) hx hb dX9_hearsInData_60 (by decide) ?_
      exact b61 p0 p0 16 0 s27 _ _ _ hw hP hD hS (lv_sub hl [0, 1] rfl)
    · have hw := hw.2 c28
      refine lv_aload_n hx hb dX9_hearsInData_48 rfl (lv_at hl 0 rfl) ?_
      refine lv_iload_n hx hb dX9_hearsInData_49 rfl (lv_at hl 1 rfl) ?_
      refine lv_bipush (v := 16) hx hb dX9_hearsInData_50 (by decide) ?_
      have hPc := hP
      have hDc := hD
      have hFc := va_free (wc := (tm_wModel cI cZ a s27 hh)) hD hS hA [0, 1, 2, 3, 4, 5, 6, 7, 8, 9, 10, 11, 12, 13, 14, 15, 16, 17] rfl
      refine va_calli (va_runV (As := [.int p0, .int 16]) (rest := [.int 16, .int p0, .ref (a 0)]) ⟨hx, hb, hml, hown, hts⟩ (kk_X9_of l dC dI cI cZ a s27 hh H.size p0 16 _ hw) (cwV 2 hts gX9_hearsInData_X9_of rfl rfl rfl (by decide +kernel) ⟨Nat.le_of_ble_eq_true rfl, Nat.le_of_ble_eq_true rfl⟩) ⟨tm_blind, va_recv hK hPc (ci := 7) (q0 := 0) rfl rfl, fun U hU hW => ⟨rfl, by rw [hU], by rw [hU]; exact hPc, va_K.moved hW.alike hK, hDc.weaken (fun _ _ _ _ => trivial)⟩⟩ rfl rfl hl.1 rfl (lv_room (Nat.le_of_ble_eq_true rfl)) dX9_hearsInData_52 ⟨Nat.zero_le _, Nat.zero_le _⟩) hS (fun q _ h => hFc q h) hFc (fun r29 s30 t H1 locs ht hvm hw hB hz1 hk1 hS => ?_)
      obtain ⟨hP1, hK1, hD1⟩ := hB
      rw [ht] at hP1
      obtain ⟨hP, hD⟩ := va_join (wr := []) (w1 := (tm_wModel cI cZ a s30 hh)) hP hD [0, 1, 2, 3, 4, 5, 6, 7, 8, 9, 10, 11, 12, 13, 14, 15, 16, 17] [] rfl rfl (by decide) (by decide) hk1 hFc hP1 hD1
      generalize H1 = H at hP hS ⊢
      have hP : va_P (dC, dI) vwCl (tm_wModel cI cZ a s30 hh) H := hP
      have hD : va_D A (tm_wModel cI cZ a s30 hh) := hD
      refine lv_iconst (v := 1) hx hb dX9_hearsInData_55 (by decide) ?_
      refine lv_iadd hx hb dX9_hearsInData_56 ?_
      refine lv_goto (tgt := 61) hx hb dX9_hearsInData_57 (by decide) ?_
      exact b61 p0 p0 16 (r29 + 1) s30 _ _ _ hw hP hD hS (lv_sub hl [0, 1] rfl)
