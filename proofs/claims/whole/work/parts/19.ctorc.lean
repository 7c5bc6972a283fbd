def wp_X8_init (K : tm_St → Prop) : Prop := (wp_X1_init (fun uq1 => (wp_X4_init (fun uq2 => (wp_X3_init (fun uq3 => (wp_X3_init (fun uq4 => K (tm_l [fun _ => 0, uq2 0, uq2 1, uq1 0, uq1 1, uq1 2, uq1 3, uq1 4, uq1 5, uq1 6, uq1 7, uq1 8, uq1 9, uq1 10, uq3 0, uq3 1, uq3 2, uq3 3, uq3 4, uq3 5, uq3 6, uq3 7, uq4 0, uq4 1, uq4 2, uq4 3, uq4 4, uq4 5, uq4 6, uq4 7])))))))))
set_option maxRecDepth 100000 in
set_option maxHeartbeats 4000000 in
theorem kk_X8_init (l : Launch) (dC : Nat → ClassId) (dI : Nat → Nat → Nat) (cI cZ : ClassId) (h0 : Nat)  (sz : Nat) (K : tm_St → Prop) (hw : wp_X8_init K) : Met l yX8_init wsX8_init ({ frames := 3, cells := 29, slots := 1264, locals := 55 }) (va_Pc [.ref h0] (fun U => tm_Pre dC dI cI cZ [(h0, .inr (6, [.null, .null, .null, .null, .int 0]))] sz U ∧ tm_nw8 U)) (va_Qv (fun (u : (Nat → Nat) × tm_St) => u.1 0 = h0 ∧ K u.2) (fun (u : (Nat → Nat) × tm_St) t => tm_At dC dI cI cZ (va_A [(h0, .inr (6, [.null, .null, .null, .null, .int 0]))] sz) (tm_wTwo cI cZ u.1 u.2) t) (va_A [(h0, .inr (6, [.null, .null, .null, .null, .int 0]))] sz)) 29 1264 (va_A [(h0, .inr (6, [.null, .null, .null, .null, .int 0]))] sz) := by
  refine Met.ofW (cc := cX8_init) (maxL := 2) (ret := none) (by decide +kernel) rfl ?_
  intro p e z m args below meth c z₁ B hml hv
  obtain ⟨rfl, ⟨hsz, hP, hK, hD0⟩, hN⟩ := hv
  have hx := B.exec
  have hb := B.bytes
  have hr := B.returns
  have hts := atoms_spec (ws := wsX8_init) B.pre
  have hown : z.vm.findClass RX8 = some m.cls := findClass_of_methodNamed B.named
  have hlocks := B.notSynchronized
  have hin : meth.name = "<init>" := (name_of_methodNamed B.named B.method).1
  subst hsz
  have hD := hD0.self (sz := z.heap.size)
  generalize hAe : va_A [(h0, .inr (6, [.null, .null, .null, .null, .int 0]))] z.heap.size = A at hD ⊢
  have hA : ∀ q : Nat, z.heap.size ≤ q → A q := fun q h => by rw [← hAe]; exact Or.inr h
  have hS : va_S A z.heap z.heap [] := va_S.rf
  have hP : va_P (dC, dI) vwCl ([(h0, .inr (6, [.null, .null, .null, .null, .int 0]))] : va_W) z.heap := hP
  have h_oi := hts (.methodLink RX8 1 objectInit) (by decide +kernel)
  have h_oi2 := hts (.instanceMethod objectInit) (by decide +kernel)
  have h_oi3 := hts (.code objectInit ⟨#[0xb1]⟩ 1 none) (by decide +kernel)
  have h_cl7 := hts (.classLink RX8 7 RX1) (by decide +kernel)
  have h_is1 := hts (.instantiable RX1 4) (by decide +kernel)
  have h_ini1 := hts (.initialized RX1) (by decide +kernel)
  have h_in1 : ∀ w ∈ u_ws RX1 TX1 4, w ∈ wsX8_init := by decide +kernel
  have h_im1 := hts (.instanceMethod yX1_init) (by decide +kernel)
  have h_cl10 := hts (.classLink RX8 10 RX4) (by decide +kernel)
  have h_is4 := hts (.instantiable RX4 2) (by decide +kernel)
  have h_ini4 := hts (.initialized RX4) (by decide +kernel)
  have h_in4 : ∀ w ∈ u_ws RX4 TX4 2, w ∈ wsX8_init := by decide +kernel
  have h_im4 := hts (.instanceMethod yX4_init) (by decide +kernel)
  have h_f13 := hts (.fieldLink RX8 13 "TwoModems" "page" "LTwoModems$Page;") (by decide +kernel)
  have h_in8 : ∀ w ∈ u_ws RX8 TX8 5, w ∈ wsX8_init := by decide +kernel
  have h_f19 := hts (.fieldLink RX8 19 "TwoModems" "line" "LTwoModems$Line;") (by decide +kernel)
  have h_cl23 := hts (.classLink RX8 23 RX3) (by decide +kernel)
  have h_is3 := hts (.instantiable RX3 20) (by decide +kernel)
  have h_ini3 := hts (.initialized RX3) (by decide +kernel)
  have h_in3 : ∀ w ∈ u_ws RX3 TX3 20, w ∈ wsX8_init := by decide +kernel
  have h_f25 := hts (.fieldLink RX8 25 "TwoModems$Line" "back" "LTwoModems$Way;") (by decide +kernel)
  have h_f29 := hts (.fieldLink RX8 29 "TwoModems$Line" "forth" "LTwoModems$Way;") (by decide +kernel)
  have h_im3 := hts (.instanceMethod yX3_init) (by decide +kernel)
  have h_ml32 := hts (.methodLink RX8 32 yX3_init) (by decide +kernel)
  have h_f35 := hts (.fieldLink RX8 35 "TwoModems" "zero" "LTwoModems$Modem;") (by decide +kernel)
  have h_f39 := hts (.fieldLink RX8 39 "TwoModems" "one" "LTwoModems$Modem;") (by decide +kernel)
  have h_f42 := hts (.fieldLink RX8 42 "TwoModems" "ticks" "I") (by decide +kernel)
  have hl := lv_entry ([.ref h0]) (n := 2) (Nat.le_of_ble_eq_true rfl)
  rw [lg_entry_eq]
  generalize (lg_sl ([.ref h0]) ++ List.replicate (2 - (lg_sl ([.ref h0])).length) Slot.unset).toArray = ls at hl ⊢
  have hl : lv_has ls 2 [(0, .ref h0)] := hl
  unfold wp_X8_init at hw
  refine lv_aload_n hx hb dX8_init_0 rfl (lv_at hl 0 rfl) ?_
  refine W.objInit hx hb hown h_oi h_oi2 h_oi3 rfl (by rw [hml]; exact hl.1) rfl dX8_init_1 (Nat.le_of_ble_eq_true rfl) (Nat.le_of_ble_eq_true rfl) ?_
  refine W.eq (g2 := F0 m 4 ls []) rfl ?_
  refine va_new (ci := 1) (fs := [.null, .null, .int 0, .int 0]) (C := RX1) (T := TX1) (N := 4) hx hb hts h_in1 tyX1 tyX1_ok hown h_cl7 h_is1 h_ini1 hK hP hD hS hA rfl (lt_s (i := 3) (lt_s (i := 2) (lt_s (i := 1) (lt_s (i := 0) lt_0 rfl) rfl) rfl) rfl) (Nat.le_of_ble_eq_true rfl) (Nat.le_of_ble_eq_true rfl) dX8_init_4 (fun q1 H hP hD hS => ?_)
  have hP : va_P (dC, dI) vwCl ([(h0, .inr (6, [.null, .null, .null, .null, .int 0])), (q1, .inr (1, [.null, .null, .int 0, .int 0]))] : va_W) H := hP
  have hD : va_D A ([(h0, .inr (6, [.null, .null, .null, .null, .int 0])), (q1, .inr (1, [.null, .null, .int 0, .int 0]))] : va_W) := hD
  refine lv_dup hx hb dX8_init_7 rfl ?_
  have hPc := hP.sub (ws' := ([(q1, .inr (1, [.null, .null, .int 0, .int 0]))] : va_W)) [1] rfl
  have hDc := hD.sub (ws' := ([(q1, .inr (1, [.null, .null, .int 0, .int 0]))] : va_W)) [1] (by decide) rfl
  have hFc := va_free (wc := ([(q1, .inr (1, [.null, .null, .int 0, .int 0]))] : va_W)) hD hS hA [1] rfl
  refine va_callv (va_runIN (As := []) (rest := [.ref q1]) ⟨hx, hb, hml, hown, hts⟩ (kk_X1_init l dC dI cI cZ q1  H.size _ hw) ⟨va_cnB 0 hts gX8_init_X1_init_n9 rfl rfl rfl hN.1.1 h_ini1 (by decide +kernel) ⟨Nat.le_of_ble_eq_true rfl, Nat.le_of_ble_eq_true rfl⟩, rfl, h_im1⟩ ⟨tm_blind, fun U hU hW => ⟨rfl, ⟨by rw [hU], by rw [hU]; exact hPc, va_K.moved hW.alike hK, hDc.weaken (fun _ _ _ _ => trivial)⟩⟩⟩ rfl rfl hl.1 rfl (lv_room (Nat.le_of_ble_eq_true rfl)) dX8_init_8 ⟨Nat.le_of_ble_eq_true rfl, Nat.le_of_ble_eq_true rfl⟩) hS (fun q _ h => hFc q h) hFc (fun u t H1 locs ht hvm hw hB hz1 hk1 hS => ?_)
  obtain ⟨hP1, hK1, hD1⟩ := hB
  rw [ht] at hP1
  obtain ⟨aq1, uq1⟩ := u
  obtain ⟨ea, hw⟩ := hw
  dsimp only at ea hw
  subst ea
  obtain ⟨hP, hD⟩ := va_join (wr := ([(h0, .inr (6, [.null, .null, .null, .null, .int 0]))] : va_W)) (w1 := (tm_wLineC cI cZ aq1 uq1)) hP hD [1] [0] rfl rfl (by decide) (by decide) hk1 hFc hP1 hD1
  generalize H1 = H at hP hS ⊢
  have hP : va_P (dC, dI) vwCl ([(h0, .inr (6, [.null, .null, .null, .null, .int 0]))] ++ (tm_wLineC cI cZ aq1 uq1) : va_W) H := hP
  have hD : va_D A ([(h0, .inr (6, [.null, .null, .null, .null, .int 0]))] ++ (tm_wLineC cI cZ aq1 uq1) : va_W) := hD
  refine lv_astore_n (lv' := [(1, .ref (aq1 0)), (0, .ref h0)]) hx hb dX8_init_11 rfl hl (by decide) rfl (fun ls hl => ?_)
  refine lv_aload_n hx hb dX8_init_12 rfl (lv_at hl 1 rfl) ?_
  refine va_new (ci := 4) (fs := [.null, .int 0]) (C := RX4) (T := TX4) (N := 2) hx hb hts h_in4 tyX4 tyX4_ok hown h_cl10 h_is4 h_ini4 hK hP hD hS hA rfl (lt_s (i := 1) (lt_s (i := 0) lt_0 rfl) rfl) (Nat.le_of_ble_eq_true rfl) (Nat.le_of_ble_eq_true rfl) dX8_init_13 (fun q2 H hP hD hS => ?_)
  have hP : va_P (dC, dI) vwCl ([(h0, .inr (6, [.null, .null, .null, .null, .int 0]))] ++ (tm_wLineC cI cZ aq1 uq1) ++ [(q2, .inr (4, [.null, .int 0]))] : va_W) H := hP
  have hD : va_D A ([(h0, .inr (6, [.null, .null, .null, .null, .int 0]))] ++ (tm_wLineC cI cZ aq1 uq1) ++ [(q2, .inr (4, [.null, .int 0]))] : va_W) := hD
  refine lv_dup hx hb dX8_init_16 rfl ?_
  have hPc := hP.sub (ws' := ([(q2, .inr (4, [.null, .int 0]))] : va_W)) [12] rfl
  have hDc := hD.sub (ws' := ([(q2, .inr (4, [.null, .int 0]))] : va_W)) [12] (by decide) rfl
  have hFc := va_free (wc := ([(q2, .inr (4, [.null, .int 0]))] : va_W)) hD hS hA [12] rfl
  refine va_callv (va_runIN (As := []) (rest := [.ref q2, .ref h0]) ⟨hx, hb, hml, hown, hts⟩ (kk_X4_init l dC dI cI cZ q2  H.size _ hw) ⟨va_cnB 0 hts gX8_init_X4_init_n12 rfl rfl rfl hN.1.2 h_ini4 (by decide +kernel) ⟨Nat.le_of_ble_eq_true rfl, Nat.le_of_ble_eq_true rfl⟩, rfl, h_im4⟩ ⟨tm_blind, fun U hU hW => ⟨rfl, ⟨by rw [hU], by rw [hU]; exact hPc, va_K.moved hW.alike hK, hDc.weaken (fun _ _ _ _ => trivial)⟩⟩⟩ rfl rfl hl.1 rfl (lv_room (Nat.le_of_ble_eq_true rfl)) dX8_init_17 ⟨Nat.le_of_ble_eq_true rfl, Nat.le_of_ble_eq_true rfl⟩) hS (fun q _ h => hFc q h) hFc (fun u t H1 locs ht hvm hw hB hz1 hk1 hS => ?_)
  obtain ⟨hP1, hK1, hD1⟩ := hB
  rw [ht] at hP1
  obtain ⟨aq2, uq2⟩ := u
  obtain ⟨ea, hw⟩ := hw
  dsimp only at ea hw
  subst ea
  obtain ⟨hP, hD⟩ := va_join (wr := ([(h0, .inr (6, [.null, .null, .null, .null, .int 0]))] ++ (tm_wLineC cI cZ aq1 uq1) : va_W)) (w1 := (tm_wPage cI cZ aq2 uq2)) hP hD [12] [0, 1, 2, 3, 4, 5, 6, 7, 8, 9, 10, 11] rfl rfl (by decide) (by decide) hk1 hFc hP1 hD1
  generalize H1 = H at hP hS ⊢
  have hP : va_P (dC, dI) vwCl ([(h0, .inr (6, [.null, .null, .null, .null, .int 0]))] ++ (tm_wLineC cI cZ aq1 uq1) ++ (tm_wPage cI cZ aq2 uq2) : va_W) H := hP
  have hD : va_D A ([(h0, .inr (6, [.null, .null, .null, .null, .int 0]))] ++ (tm_wLineC cI cZ aq1 uq1) ++ (tm_wPage cI cZ aq2 uq2) : va_W) := hD
  refine va_putF (D := (dC, dI)) (ci := 6) (v := .ref (aq2 0)) (ty := (.object "TwoModems$Page")) (C := RX8) (T := TX8) (N := 5) hx hb hts h_in8 tyX8 tyX8_ok nmX8 hown hK hP hD hS 0 rfl rfl 0 (by decide) h_f13 (fun _ h9 => h9) rfl hin rfl (by decide +kernel) rfl rfl (Nat.le_of_ble_eq_true rfl) dX8_init_20 (fun H locs hP hD hS => ?_)
  have hP : va_P (dC, dI) vwCl ([(h0, .inr (6, [.ref (aq2 0), .null, .null, .null, .int 0]))] ++ (tm_wLineC cI cZ aq1 uq1) ++ (tm_wPage cI cZ aq2 uq2) : va_W) H := hP
  have hD : va_D A ([(h0, .inr (6, [.ref (aq2 0), .null, .null, .null, .int 0]))] ++ (tm_wLineC cI cZ aq1 uq1) ++ (tm_wPage cI cZ aq2 uq2) : va_W) := hD
  refine lv_aload_n hx hb dX8_init_23 rfl (lv_at hl 1 rfl) ?_
  refine lv_aload_n hx hb dX8_init_24 rfl (lv_at hl 0 rfl) ?_
  refine va_putF (D := (dC, dI)) (ci := 6) (v := .ref (aq1 0)) (ty := (.object "TwoModems$Line")) (C := RX8) (T := TX8) (N := 5) hx hb hts h_in8 tyX8 tyX8_ok nmX8 hown hK hP hD hS 0 rfl rfl 1 (by decide) h_f19 (fun _ h9 => h9) rfl hin rfl (by decide +kernel) rfl rfl (Nat.le_of_ble_eq_true rfl) dX8_init_25 (fun H locs hP hD hS => ?_)
  have hP : va_P (dC, dI) vwCl ([(h0, .inr (6, [.ref (aq2 0), .ref (aq1 0), .null, .null, .int 0]))] ++ (tm_wLineC cI cZ aq1 uq1) ++ (tm_wPage cI cZ aq2 uq2) : va_W) H := hP
  have hD : va_D A ([(h0, .inr (6, [.ref (aq2 0), .ref (aq1 0), .null, .null, .int 0]))] ++ (tm_wLineC cI cZ aq1 uq1) ++ (tm_wPage cI cZ aq2 uq2) : va_W) := hD
  refine lv_aload_n hx hb dX8_init_28 rfl (lv_at hl 1 rfl) ?_
  refine va_new (ci := 3) (fs := [.null, .null, .null, .null, .null, .null, .int 0, .int 0, .int 0, .int 0, .int 0, .int 0, .int 0, .int 0, .int 0, .int 0, .int 0, .int 0, .int 0, .int 0]) (C := RX3) (T := TX3) (N := 20) hx hb hts h_in3 tyX3 tyX3_ok hown h_cl23 h_is3 h_ini3 hK hP hD hS hA rfl (lt_s (i := 19) (lt_s (i := 18) (lt_s (i := 17) (lt_s (i := 16) (lt_s (i := 15) (lt_s (i := 14) (lt_s (i := 13) (lt_s (i := 12) (lt_s (i := 11) (lt_s (i := 10) (lt_s (i := 9) (lt_s (i := 8) (lt_s (i := 7) (lt_s (i := 6) (lt_s (i := 5) (lt_s (i := 4) (lt_s (i := 3) (lt_s (i := 2) (lt_s (i := 1) (lt_s (i := 0) lt_0 rfl) rfl) rfl) rfl) rfl) rfl) rfl) rfl) rfl) rfl) rfl) rfl) rfl) rfl) rfl) rfl) rfl) rfl) rfl) rfl) (Nat.le_of_ble_eq_true rfl) (Nat.le_of_ble_eq_true rfl) dX8_init_29 (fun q3 H hP hD hS => ?_)
  have hP : va_P (dC, dI) vwCl ([(h0, .inr (6, [.ref (aq2 0), .ref (aq1 0), .null, .null, .int 0]))] ++ (tm_wLineC cI cZ aq1 uq1) ++ (tm_wPage cI cZ aq2 uq2) ++ [(q3, .inr (3, [.null, .null, .null, .null, .null, .null, .int 0, .int 0, .int 0, .int 0, .int 0, .int 0, .int 0, .int 0, .int 0, .int 0, .int 0, .int 0, .int 0, .int 0]))] : va_W) H := hP
  have hD : va_D A ([(h0, .inr (6, [.ref (aq2 0), .ref (aq1 0), .null, .null, .int 0]))] ++ (tm_wLineC cI cZ aq1 uq1) ++ (tm_wPage cI cZ aq2 uq2) ++ [(q3, .inr (3, [.null, .null, .null, .null, .null, .null, .int 0, .int 0, .int 0, .int 0, .int 0, .int 0, .int 0, .int 0, .int 0, .int 0, .int 0, .int 0, .int 0, .int 0]))] : va_W) := hD
  refine lv_dup hx hb dX8_init_32 rfl ?_
  refine lv_aload_n hx hb dX8_init_33 rfl (lv_at hl 0 rfl) ?_
  refine lv_aload_n hx hb dX8_init_34 rfl (lv_at hl 0 rfl) ?_
  refine va_get (D := (dC, dI)) (ci := 1) (v := .ref (aq1 6)) (C := RX1) (T := TX1) (N := 4) hx hb hts h_in1 hown hK hP 1 rfl rfl 1 (by decide) h_f25 (fun _ h9 => h9) rfl dX8_init_35 ?_
  refine lv_aload_n hx hb dX8_init_38 rfl (lv_at hl 0 rfl) ?_
  refine va_get (D := (dC, dI)) (ci := 1) (v := .ref (aq1 1)) (C := RX1) (T := TX1) (N := 4) hx hb hts h_in1 hown hK hP 1 rfl rfl 0 (by decide) h_f29 (fun _ h9 => h9) rfl dX8_init_39 ?_
  have hPc := hP.sub (ws' := ([(q3, .inr (3, [.null, .null, .null, .null, .null, .null, .int 0, .int 0, .int 0, .int 0, .int 0, .int 0, .int 0, .int 0, .int 0, .int 0, .int 0, .int 0, .int 0, .int 0]))] : va_W)) [14] rfl
  have hDc := hD.sub (ws' := ([(q3, .inr (3, [.null, .null, .null, .null, .null, .null, .int 0, .int 0, .int 0, .int 0, .int 0, .int 0, .int 0, .int 0, .int 0, .int 0, .int 0, .int 0, .int 0, .int 0]))] : va_W)) [14] (by decide) rfl
  have hFc := va_free (wc := ([(q3, .inr (3, [.null, .null, .null, .null, .null, .null, .int 0, .int 0, .int 0, .int 0, .int 0, .int 0, .int 0, .int 0, .int 0, .int 0, .int 0, .int 0, .int 0, .int 0]))] : va_W)) hD hS hA [14] rfl
  refine va_callv (va_runI (As := [.ref (aq1 0), .ref (aq1 6), .ref (aq1 1)]) (rest := [.ref q3, .ref h0]) ⟨hx, hb, hml, hown, hts⟩ (kk_X3_init l dC dI cI cZ q3 (aq1 0) (aq1 6) (aq1 1) H.size _ hw) (cwI 3 hts gX8_init_X3_init rfl rfl rfl h_ini3 h_ml32 h_im3 rfl (by decide +kernel) ⟨Nat.le_of_ble_eq_true rfl, Nat.le_of_ble_eq_true rfl⟩) ⟨tm_blind3, fun U hU hW => ⟨rfl, ⟨⟨by rw [hU], by rw [hU]; exact hPc, va_K.moved hW.alike hK, hDc.weaken (fun _ _ _ _ => trivial)⟩, tm_nw3_w hW hN.2⟩⟩⟩ rfl rfl hl.1 rfl (lv_room (Nat.le_of_ble_eq_true rfl)) dX8_init_42 ⟨Nat.le_of_ble_eq_true rfl, Nat.le_of_ble_eq_true rfl⟩) hS (fun q _ h => hFc q h) hFc (fun u t H1 locs ht hvm hw hB hz1 hk1 hS => ?_)
  obtain ⟨hP1, hK1, hD1⟩ := hB
  rw [ht] at hP1
  obtain ⟨aq3, uq3⟩ := u
  obtain ⟨ea, hw⟩ := hw
  dsimp only at ea hw
  subst ea
  obtain ⟨hP, hD⟩ := va_join (wr := ([(h0, .inr (6, [.ref (aq2 0), .ref (aq1 0), .null, .null, .int 0]))] ++ (tm_wLineC cI cZ aq1 uq1) ++ (tm_wPage cI cZ aq2 uq2) : va_W)) (w1 := (tm_wModemC cI cZ (aq1 0) (aq1 6) (aq1 1) aq3 uq3)) hP hD [14] [0, 1, 2, 3, 4, 5, 6, 7, 8, 9, 10, 11, 12, 13] rfl rfl (by decide) (by decide) hk1 hFc hP1 hD1
  generalize H1 = H at hP hS ⊢
  have hP : va_P (dC, dI) vwCl ([(h0, .inr (6, [.ref (aq2 0), .ref (aq1 0), .null, .null, .int 0]))] ++ (tm_wLineC cI cZ aq1 uq1) ++ (tm_wPage cI cZ aq2 uq2) ++ (tm_wModemC cI cZ (aq1 0) (aq1 6) (aq1 1) aq3 uq3) : va_W) H := hP
  have hD : va_D A ([(h0, .inr (6, [.ref (aq2 0), .ref (aq1 0), .null, .null, .int 0]))] ++ (tm_wLineC cI cZ aq1 uq1) ++ (tm_wPage cI cZ aq2 uq2) ++ (tm_wModemC cI cZ (aq1 0) (aq1 6) (aq1 1) aq3 uq3) : va_W) := hD
  refine va_putF (D := (dC, dI)) (ci := 6) (v := .ref (aq3 0)) (ty := (.object "TwoModems$Modem")) (C := RX8) (T := TX8) (N := 5) hx hb hts h_in8 tyX8 tyX8_ok nmX8 hown hK hP hD hS 0 rfl rfl 2 (by decide) h_f35 (fun _ h9 => h9) rfl hin rfl (by decide +kernel) rfl rfl (Nat.le_of_ble_eq_true rfl) dX8_init_45 (fun H locs hP hD hS => ?_)
  have hP : va_P (dC, dI) vwCl ([(h0, .inr (6, [.ref (aq2 0), .ref (aq1 0), .ref (aq3 0), .null, .int 0]))] ++ (tm_wLineC cI cZ aq1 uq1) ++ (tm_wPage cI cZ aq2 uq2) ++ (tm_wModemC cI cZ (aq1 0) (aq1 6) (aq1 1) aq3 uq3) : va_W) H := hP
  have hD : va_D A ([(h0, .inr (6, [.ref (aq2 0), .ref (aq1 0), .ref (aq3 0), .null, .int 0]))] ++ (tm_wLineC cI cZ aq1 uq1) ++ (tm_wPage cI cZ aq2 uq2) ++ (tm_wModemC cI cZ (aq1 0) (aq1 6) (aq1 1) aq3 uq3) : va_W) := hD
  refine lv_aload_n hx hb dX8_init_48 rfl (lv_at hl 1 rfl) ?_
  refine va_new (ci := 3) (fs := [.null, .null, .null, .null, .null, .null, .int 0, .int 0, .int 0, .int 0, .int 0, .int 0, .int 0, .int 0, .int 0, .int 0, .int 0, .int 0, .int 0, .int 0]) (C := RX3) (T := TX3) (N := 20) hx hb hts h_in3 tyX3 tyX3_ok hown h_cl23 h_is3 h_ini3 hK hP hD hS hA rfl (lt_s (i := 19) (lt_s (i := 18) (lt_s (i := 17) (lt_s (i := 16) (lt_s (i := 15) (lt_s (i := 14) (lt_s (i := 13) (lt_s (i := 12) (lt_s (i := 11) (lt_s (i := 10) (lt_s (i := 9) (lt_s (i := 8) (lt_s (i := 7) (lt_s (i := 6) (lt_s (i := 5) (lt_s (i := 4) (lt_s (i := 3) (lt_s (i := 2) (lt_s (i := 1) (lt_s (i := 0) lt_0 rfl) rfl) rfl) rfl) rfl) rfl) rfl) rfl) rfl) rfl) rfl) rfl) rfl) rfl) rfl) rfl) rfl) rfl) rfl) rfl) (Nat.le_of_ble_eq_true rfl) (Nat.le_of_ble_eq_true rfl) dX8_init_49 (fun q4 H hP hD hS => ?_)
  have hP : va_P (dC, dI) vwCl ([(h0, .inr (6, [.ref (aq2 0), .ref (aq1 0), .ref (aq3 0), .null, .int 0]))] ++ (tm_wLineC cI cZ aq1 uq1) ++ (tm_wPage cI cZ aq2 uq2) ++ (tm_wModemC cI cZ (aq1 0) (aq1 6) (aq1 1) aq3 uq3) ++ [(q4, .inr (3, [.null, .null, .null, .null, .null, .null, .int 0, .int 0, .int 0, .int 0, .int 0, .int 0, .int 0, .int 0, .int 0, .int 0, .int 0, .int 0, .int 0, .int 0]))] : va_W) H := hP
  have hD : va_D A ([(h0, .inr (6, [.ref (aq2 0), .ref (aq1 0), .ref (aq3 0), .null, .int 0]))] ++ (tm_wLineC cI cZ aq1 uq1) ++ (tm_wPage cI cZ aq2 uq2) ++ (tm_wModemC cI cZ (aq1 0) (aq1 6) (aq1 1) aq3 uq3) ++ [(q4, .inr (3, [.null, .null, .null, .null, .null, .null, .int 0, .int 0, .int 0, .int 0, .int 0, .int 0, .int 0, .int 0, .int 0, .int 0, .int 0, .int 0, .int 0, .int 0]))] : va_W) := hD
  refine lv_dup hx hb dX8_init_52 rfl ?_
  refine lv_aload_n hx hb dX8_init_53 rfl (lv_at hl 0 rfl) ?_
  refine lv_aload_n hx hb dX8_init_54 rfl (lv_at hl 0 rfl) ?_
  refine va_get (D := (dC, dI)) (ci := 1) (v := .ref (aq1 1)) (C := RX1) (T := TX1) (N := 4) hx hb hts h_in1 hown hK hP 1 rfl rfl 0 (by decide) h_f29 (fun _ h9 => h9) rfl dX8_init_55 ?_
  refine lv_aload_n hx hb dX8_init_58 rfl (lv_at hl 0 rfl) ?_
  refine va_get (D := (dC, dI)) (ci := 1) (v := .ref (aq1 6)) (C := RX1) (T := TX1) (N := 4) hx hb hts h_in1 hown hK hP 1 rfl rfl 1 (by decide) h_f25 (fun _ h9 => h9) rfl dX8_init_59 ?_
  have hPc := hP.sub (ws' := ([(q4, .inr (3, [.null, .null, .null, .null, .null, .null, .int 0, .int 0, .int 0, .int 0, .int 0, .int 0, .int 0, .int 0, .int 0, .int 0, .int 0, .int 0, .int 0, .int 0]))] : va_W)) [22] rfl
  have hDc := hD.sub (ws' := ([(q4, .inr (3, [.null, .null, .null, .null, .null, .null, .int 0, .int 0, .int 0, .int 0, .int 0, .int 0, .int 0, .int 0, .int 0, .int 0, .int 0, .int 0, .int 0, .int 0]))] : va_W)) [22] (by decide) rfl
  have hFc := va_free (wc := ([(q4, .inr (3, [.null, .null, .null, .null, .null, .null, .int 0, .int 0, .int 0, .int 0, .int 0, .int 0, .int 0, .int 0, .int 0, .int 0, .int 0, .int 0, .int 0, .int 0]))] : va_W)) hD hS hA [22] rfl
  refine va_callv (va_runI (As := [.ref (aq1 0), .ref (aq1 1), .ref (aq1 6)]) (rest := [.ref q4, .ref h0]) ⟨hx, hb, hml, hown, hts⟩ (kk_X3_init l dC dI cI cZ q4 (aq1 0) (aq1 1) (aq1 6) H.size _ hw) (cwI 3 hts gX8_init_X3_init rfl rfl rfl h_ini3 h_ml32 h_im3 rfl (by decide +kernel) ⟨Nat.le_of_ble_eq_true rfl, Nat.le_of_ble_eq_true rfl⟩) ⟨tm_blind3, fun U hU hW => ⟨rfl, ⟨⟨by rw [hU], by rw [hU]; exact hPc, va_K.moved hW.alike hK, hDc.weaken (fun _ _ _ _ => trivial)⟩, tm_nw3_w hW hN.2⟩⟩⟩ rfl rfl hl.1 rfl (lv_room (Nat.le_of_ble_eq_true rfl)) dX8_init_62 ⟨Nat.le_of_ble_eq_true rfl, Nat.le_of_ble_eq_true rfl⟩) hS (fun q _ h => hFc q h) hFc (fun u t H1 locs ht hvm hw hB hz1 hk1 hS => ?_)
  obtain ⟨hP1, hK1, hD1⟩ := hB
  rw [ht] at hP1
  obtain ⟨aq4, uq4⟩ := u
  obtain ⟨ea, hw⟩ := hw
  dsimp only at ea hw
  subst ea
  obtain ⟨hP, hD⟩ := va_join (wr := ([(h0, .inr (6, [.ref (aq2 0), .ref (aq1 0), .ref (aq3 0), .null, .int 0]))] ++ (tm_wLineC cI cZ aq1 uq1) ++ (tm_wPage cI cZ aq2 uq2) ++ (tm_wModemC cI cZ (aq1 0) (aq1 6) (aq1 1) aq3 uq3) : va_W)) (w1 := (tm_wModemC cI cZ (aq1 0) (aq1 1) (aq1 6) aq4 uq4)) hP hD [22] [0, 1, 2, 3, 4, 5, 6, 7, 8, 9, 10, 11, 12, 13, 14, 15, 16, 17, 18, 19, 20, 21] rfl rfl (by decide) (by decide) hk1 hFc hP1 hD1
  generalize H1 = H at hP hS ⊢
  have hP : va_P (dC, dI) vwCl ([(h0, .inr (6, [.ref (aq2 0), .ref (aq1 0), .ref (aq3 0), .null, .int 0]))] ++ (tm_wLineC cI cZ aq1 uq1) ++ (tm_wPage cI cZ aq2 uq2) ++ (tm_wModemC cI cZ (aq1 0) (aq1 6) (aq1 1) aq3 uq3) ++ (tm_wModemC cI cZ (aq1 0) (aq1 1) (aq1 6) aq4 uq4) : va_W) H := hP
  have hD : va_D A ([(h0, .inr (6, [.ref (aq2 0), .ref (aq1 0), .ref (aq3 0), .null, .int 0]))] ++ (tm_wLineC cI cZ aq1 uq1) ++ (tm_wPage cI cZ aq2 uq2) ++ (tm_wModemC cI cZ (aq1 0) (aq1 6) (aq1 1) aq3 uq3) ++ (tm_wModemC cI cZ (aq1 0) (aq1 1) (aq1 6) aq4 uq4) : va_W) := hD
  refine va_putF (D := (dC, dI)) (ci := 6) (v := .ref (aq4 0)) (ty := (.object "TwoModems$Modem")) (C := RX8) (T := TX8) (N := 5) hx hb hts h_in8 tyX8 tyX8_ok nmX8 hown hK hP hD hS 0 rfl rfl 3 (by decide) h_f39 (fun _ h9 => h9) rfl hin rfl (by decide +kernel) rfl rfl (Nat.le_of_ble_eq_true rfl) dX8_init_65 (fun H locs hP hD hS => ?_)
  have hP : va_P (dC, dI) vwCl ([(h0, .inr (6, [.ref (aq2 0), .ref (aq1 0), .ref (aq3 0), .ref (aq4 0), .int 0]))] ++ (tm_wLineC cI cZ aq1 uq1) ++ (tm_wPage cI cZ aq2 uq2) ++ (tm_wModemC cI cZ (aq1 0) (aq1 6) (aq1 1) aq3 uq3) ++ (tm_wModemC cI cZ (aq1 0) (aq1 1) (aq1 6) aq4 uq4) : va_W) H := hP
  have hD : va_D A ([(h0, .inr (6, [.ref (aq2 0), .ref (aq1 0), .ref (aq3 0), .ref (aq4 0), .int 0]))] ++ (tm_wLineC cI cZ aq1 uq1) ++ (tm_wPage cI cZ aq2 uq2) ++ (tm_wModemC cI cZ (aq1 0) (aq1 6) (aq1 1) aq3 uq3) ++ (tm_wModemC cI cZ (aq1 0) (aq1 1) (aq1 6) aq4 uq4) : va_W) := hD
  refine lv_aload_n hx hb dX8_init_68 rfl (lv_at hl 1 rfl) ?_
  refine lv_iconst (v := 0) hx hb dX8_init_69 (by decide) ?_
  refine va_put (D := (dC, dI)) (ci := 6) (v := .int 0) (ty := .int) (C := RX8) (T := TX8) (N := 5) hx hb hts h_in8 tyX8 tyX8_ok nmX8 hown hK hP hD hS 0 rfl rfl 4 (by decide) h_f42 (fun _ h9 => h9) rfl (by decide +kernel) rfl rfl (Nat.le_of_ble_eq_true rfl) dX8_init_70 (fun H locs hP hD hS => ?_)
  have hP : va_P (dC, dI) vwCl ([(h0, .inr (6, [.ref (aq2 0), .ref (aq1 0), .ref (aq3 0), .ref (aq4 0), .int 0]))] ++ (tm_wLineC cI cZ aq1 uq1) ++ (tm_wPage cI cZ aq2 uq2) ++ (tm_wModemC cI cZ (aq1 0) (aq1 6) (aq1 1) aq3 uq3) ++ (tm_wModemC cI cZ (aq1 0) (aq1 1) (aq1 6) aq4 uq4) : va_W) H := hP
  have hD : va_D A ([(h0, .inr (6, [.ref (aq2 0), .ref (aq1 0), .ref (aq3 0), .ref (aq4 0), .int 0]))] ++ (tm_wLineC cI cZ aq1 uq1) ++ (tm_wPage cI cZ aq2 uq2) ++ (tm_wModemC cI cZ (aq1 0) (aq1 6) (aq1 1) aq3 uq3) ++ (tm_wModemC cI cZ (aq1 0) (aq1 1) (aq1 6) aq4 uq4) : va_W) := hD
  obtain ⟨fa, efa⟩ : ∃ f : Nat → Nat, f = tm_al [h0, aq2 0, aq2 1, aq1 0, aq1 1, aq1 2, aq1 3, aq1 4, aq1 5, aq1 6, aq1 7, aq1 8, aq1 9, aq1 10, aq3 0, aq3 1, aq3 2, aq3 3, aq3 4, aq3 5, aq3 6, aq3 7, aq4 0, aq4 1, aq4 2, aq4 3, aq4 4, aq4 5, aq4 6, aq4 7] := ⟨_, rfl⟩
  have ea0 : fa 0 = h0 := by rw [efa]; rfl
  have ea1 : fa 1 = aq2 0 := by rw [efa]; rfl
  have ea2 : fa 2 = aq2 1 := by rw [efa]; rfl
  have ea3 : fa 3 = aq1 0 := by rw [efa]; rfl
  have ea4 : fa 4 = aq1 1 := by rw [efa]; rfl
  have ea5 : fa 5 = aq1 2 := by rw [efa]; rfl
  have ea6 : fa 6 = aq1 3 := by rw [efa]; rfl
  have ea7 : fa 7 = aq1 4 := by rw [efa]; rfl
  have ea8 : fa 8 = aq1 5 := by rw [efa]; rfl
  have ea9 : fa 9 = aq1 6 := by rw [efa]; rfl
  have ea10 : fa 10 = aq1 7 := by rw [efa]; rfl
  have ea11 : fa 11 = aq1 8 := by rw [efa]; rfl
  have ea12 : fa 12 = aq1 9 := by rw [efa]; rfl
  have ea13 : fa 13 = aq1 10 := by rw [efa]; rfl
  have ea14 : fa 14 = aq3 0 := by rw [efa]; rfl
  have ea15 : fa 15 = aq3 1 := by rw [efa]; rfl
  have ea16 : fa 16 = aq3 2 := by rw [efa]; rfl
  have ea17 : fa 17 = aq3 3 := by rw [efa]; rfl
  have ea18 : fa 18 = aq3 4 := by rw [efa]; rfl
  have ea19 : fa 19 = aq3 5 := by rw [efa]; rfl
  have ea20 : fa 20 = aq3 6 := by rw [efa]; rfl
  have ea21 : fa 21 = aq3 7 := by rw [efa]; rfl
  have ea22 : fa 22 = aq4 0 := by rw [efa]; rfl
  have ea23 : fa 23 = aq4 1 := by rw [efa]; rfl
  have ea24 : fa 24 = aq4 2 := by rw [efa]; rfl
  have ea25 : fa 25 = aq4 3 := by rw [efa]; rfl
  have ea26 : fa 26 = aq4 4 := by rw [efa]; rfl
  have ea27 : fa 27 = aq4 5 := by rw [efa]; rfl
  have ea28 : fa 28 = aq4 6 := by rw [efa]; rfl
  have ea29 : fa 29 = aq4 7 := by rw [efa]; rfl
  obtain ⟨fs, efs⟩ : ∃ f : tm_St, f = tm_l [fun _ => 0, uq2 0, uq2 1, uq1 0, uq1 1, uq1 2, uq1 3, uq1 4, uq1 5, uq1 6, uq1 7, uq1 8, uq1 9, uq1 10, uq3 0, uq3 1, uq3 2, uq3 3, uq3 4, uq3 5, uq3 6, uq3 7, uq4 0, uq4 1, uq4 2, uq4 3, uq4 4, uq4 5, uq4 6, uq4 7] := ⟨_, rfl⟩
  have es0 : fs 0 = fun _ => 0 := by rw [efs]; rfl
  have es1 : fs 1 = uq2 0 := by rw [efs]; rfl
  have es2 : fs 2 = uq2 1 := by rw [efs]; rfl
  have es3 : fs 3 = uq1 0 := by rw [efs]; rfl
  have es4 : fs 4 = uq1 1 := by rw [efs]; rfl
  have es5 : fs 5 = uq1 2 := by rw [efs]; rfl
  have es6 : fs 6 = uq1 3 := by rw [efs]; rfl
  have es7 : fs 7 = uq1 4 := by rw [efs]; rfl
  have es8 : fs 8 = uq1 5 := by rw [efs]; rfl
  have es9 : fs 9 = uq1 6 := by rw [efs]; rfl
  have es10 : fs 10 = uq1 7 := by rw [efs]; rfl
  have es11 : fs 11 = uq1 8 := by rw [efs]; rfl
  have es12 : fs 12 = uq1 9 := by rw [efs]; rfl
  have es13 : fs 13 = uq1 10 := by rw [efs]; rfl
  have es14 : fs 14 = uq3 0 := by rw [efs]; rfl
  have es15 : fs 15 = uq3 1 := by rw [efs]; rfl
  have es16 : fs 16 = uq3 2 := by rw [efs]; rfl
  have es17 : fs 17 = uq3 3 := by rw [efs]; rfl
  have es18 : fs 18 = uq3 4 := by rw [efs]; rfl
  have es19 : fs 19 = uq3 5 := by rw [efs]; rfl
  have es20 : fs 20 = uq3 6 := by rw [efs]; rfl
  have es21 : fs 21 = uq3 7 := by rw [efs]; rfl
  have es22 : fs 22 = uq4 0 := by rw [efs]; rfl
  have es23 : fs 23 = uq4 1 := by rw [efs]; rfl
  have es24 : fs 24 = uq4 2 := by rw [efs]; rfl
  have es25 : fs 25 = uq4 3 := by rw [efs]; rfl
  have es26 : fs 26 = uq4 4 := by rw [efs]; rfl
  have es27 : fs 27 = uq4 5 := by rw [efs]; rfl
  have es28 : fs 28 = uq4 6 := by rw [efs]; rfl
  have es29 : fs 29 = uq4 7 := by rw [efs]; rfl
  have hP9 : va_P (dC, dI) vwCl (tm_wTwo cI cZ fa fs) H := by unfold tm_wTwo; simp only [ea0, ea1, ea2, ea3, ea4, ea5, ea6, ea7, ea8, ea9, ea10, ea11, ea12, ea13, ea14, ea15, ea16, ea17, ea18, ea19, ea20, ea21, ea22, ea23, ea24, ea25, ea26, ea27, ea28, ea29, es0, es1, es2, es3, es4, es5, es6, es7, es8, es9, es10, es11, es12, es13, es14, es15, es16, es17, es18, es19, es20, es21, es22, es23, es24, es25, es26, es27, es28, es29]; exact hP.sub [0, 12, 13, 1, 2, 3, 4, 5, 6, 7, 8, 9, 10, 11, 14, 15, 16, 17, 18, 19, 20, 21, 22, 23, 24, 25, 26, 27, 28, 29] rfl
  have hD9 : va_D A (tm_wTwo cI cZ fa fs) := by unfold tm_wTwo; simp only [ea0, ea1, ea2, ea3, ea4, ea5, ea6, ea7, ea8, ea9, ea10, ea11, ea12, ea13, ea14, ea15, ea16, ea17, ea18, ea19, ea20, ea21, ea22, ea23, ea24, ea25, ea26, ea27, ea28, ea29, es0, es1, es2, es3, es4, es5, es6, es7, es8, es9, es10, es11, es12, es13, es14, es15, es16, es17, es18, es19, es20, es21, es22, es23, es24, es25, es26, es27, es28, es29]; exact hD.sub [0, 12, 13, 1, 2, 3, 4, 5, 6, 7, 8, 9, 10, 11, 14, 15, 16, 17, 18, 19, 20, 21, 22, 23, 24, 25, 26, 27, 28, 29] (by decide) rfl
  rw [← efs] at hw
  refine W.widen (k := 29) (n := 1264) (Nat.le_of_ble_eq_true rfl) (Nat.le_of_ble_eq_true rfl) ?_
  exact W.vret hx hb hr (fun t ht hW => ⟨⟨(fa, fs), rfl, ⟨ea0, hw⟩, by rw [ht]; exact hP9, va_K.moved hW.alike hK, hD9⟩, hS.F ht⟩) hS.2.2 dX8_init_73
