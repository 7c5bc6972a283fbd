def wp_X3_init (K : tm_St → Prop) : Prop := (wp_X0_init (fun uq1 => (wp_X2_init (fun uq2 => K (tm_l [fun _ => 0, uq1 0, uq1 1, uq1 2, uq2 0, uq2 1, uq2 2, fun _ => 0])))))
set_option maxRecDepth 100000 in
set_option maxHeartbeats 4000000 in
theorem kk_X3_init (l : Launch) (dC : Nat → ClassId) (dI : Nat → Nat → Nat) (cI cZ : ClassId) (h0 : Nat) (p0 : Nat) (p1 : Nat) (p2 : Nat) (sz : Nat) (K : tm_St → Prop) (hw : wp_X3_init K) : Met l yX3_init wsX3_init ({ frames := 2, cells := 7, slots := 426, locals := 32 }) (va_Pc [.ref h0, .ref p0, .ref p1, .ref p2] (fun U => tm_Pre dC dI cI cZ [(h0, .inr (3, [.null, .null, .null, .null, .null, .null, .int 0, .int 0, .int 0, .int 0, .int 0, .int 0, .int 0, .int 0, .int 0, .int 0, .int 0, .int 0, .int 0, .int 0]))] sz U ∧ tm_nw3 U)) (va_Qv (fun (u : (Nat → Nat) × tm_St) => u.1 0 = h0 ∧ K u.2) (fun (u : (Nat → Nat) × tm_St) t => tm_At dC dI cI cZ (va_A [(h0, .inr (3, [.null, .null, .null, .null, .null, .null, .int 0, .int 0, .int 0, .int 0, .int 0, .int 0, .int 0, .int 0, .int 0, .int 0, .int 0, .int 0, .int 0, .int 0]))] sz) (tm_wModemC cI cZ p0 p1 p2 u.1 u.2) t) (va_A [(h0, .inr (3, [.null, .null, .null, .null, .null, .null, .int 0, .int 0, .int 0, .int 0, .int 0, .int 0, .int 0, .int 0, .int 0, .int 0, .int 0, .int 0, .int 0, .int 0]))] sz)) 7 426 (va_A [(h0, .inr (3, [.null, .null, .null, .null, .null, .null, .int 0, .int 0, .int 0, .int 0, .int 0, .int 0, .int 0, .int 0, .int 0, .int 0, .int 0, .int 0, .int 0, .int 0]))] sz) := by
  refine Met.ofW (cc := cX3_init) (maxL := 4) (ret := none) (by decide +kernel) rfl ?_
  intro p e z m args below meth c z₁ B hml hv
  obtain ⟨rfl, ⟨hsz, hP, hK, hD0⟩, hN⟩ := hv
  have hx := B.exec
  have hb := B.bytes
  have hr := B.returns
  have hts := atoms_spec (ws := wsX3_init) B.pre
  have hown : z.vm.findClass RX3 = some m.cls := findClass_of_methodNamed B.named
  have hlocks := B.notSynchronized
  have hin : meth.name = "<init>" := (name_of_methodNamed B.named B.method).1
  subst hsz
  have hD := hD0.self (sz := z.heap.size)
  generalize hAe : va_A [(h0, .inr (3, [.null, .null, .null, .null, .null, .null, .int 0, .int 0, .int 0, .int 0, .int 0, .int 0, .int 0, .int 0, .int 0, .int 0, .int 0, .int 0, .int 0, .int 0]))] z.heap.size = A at hD ⊢
  have hA : ∀ q : Nat, z.heap.size ≤ q → A q := fun q h => by rw [← hAe]; exact Or.inr h
  have hS : va_S A z.heap z.heap [] := va_S.rf
  have hP : va_P (dC, dI) vwCl ([(h0, .inr (3, [.null, .null, .null, .null, .null, .null, .int 0, .int 0, .int 0, .int 0, .int 0, .int 0, .int 0, .int 0, .int 0, .int 0, .int 0, .int 0, .int 0, .int 0]))] : va_W) z.heap := hP
  have h_oi := hts (.methodLink RX3 3 objectInit) (by decide +kernel)
  have h_oi2 := hts (.instanceMethod objectInit) (by decide +kernel)
  have h_oi3 := hts (.code objectInit ⟨#[0xb1]⟩ 1 none) (by decide +kernel)
  have h_cl9 := hts (.classLink RX3 9 RX0) (by decide +kernel)
  have h_is0 := hts (.instantiable RX0 2) (by decide +kernel)
  have h_ini0 := hts (.initialized RX0) (by decide +kernel)
  have h_in0 : ∀ w ∈ u_ws RX0 TX0 2, w ∈ wsX3_init := by decide +kernel
  have h_im0 := hts (.instanceMethod yX0_init) (by decide +kernel)
  have h_f12 := hts (.fieldLink RX3 12 "TwoModems$Modem" "echo" "LTwoModems$Echo;") (by decide +kernel)
  have h_in3 : ∀ w ∈ u_ws RX3 TX3 20, w ∈ wsX3_init := by decide +kernel
  have h_cl18 := hts (.classLink RX3 18 RX2) (by decide +kernel)
  have h_is2 := hts (.instantiable RX2 8) (by decide +kernel)
  have h_ini2 := hts (.initialized RX2) (by decide +kernel)
  have h_in2 : ∀ w ∈ u_ws RX2 TX2 8, w ∈ wsX3_init := by decide +kernel
  have h_im2 := hts (.instanceMethod yX2_init) (by decide +kernel)
  have h_f21 := hts (.fieldLink RX3 21 "TwoModems$Modem" "mail" "LTwoModems$Mail;") (by decide +kernel)
  have h_acI := hts (.arrayClass .int) (by decide +kernel)
  have h_f25 := hts (.fieldLink RX3 25 "TwoModems$Modem" "noted" "[I") (by decide +kernel)
  have h_f31 := hts (.fieldLink RX3 31 "TwoModems$Modem" "phase" "I") (by decide +kernel)
  have h_f35 := hts (.fieldLink RX3 35 "TwoModems$Modem" "changes" "I") (by decide +kernel)
  have h_f38 := hts (.fieldLink RX3 38 "TwoModems$Modem" "lasted" "I") (by decide +kernel)
  have h_f41 := hts (.fieldLink RX3 41 "TwoModems$Modem" "silences" "I") (by decide +kernel)
  have h_f44 := hts (.fieldLink RX3 44 "TwoModems$Modem" "round" "I") (by decide +kernel)
  have h_f47 := hts (.fieldLink RX3 47 "TwoModems$Modem" "offer" "I") (by decide +kernel)
  have h_f50 := hts (.fieldLink RX3 50 "TwoModems$Modem" "rate" "I") (by decide +kernel)
  have h_f53 := hts (.fieldLink RX3 53 "TwoModems$Modem" "credit" "I") (by decide +kernel)
  have h_f56 := hts (.fieldLink RX3 56 "TwoModems$Modem" "waited" "I") (by decide +kernel)
  have h_f59 := hts (.fieldLink RX3 59 "TwoModems$Modem" "remains" "I") (by decide +kernel)
  have h_f62 := hts (.fieldLink RX3 62 "TwoModems$Modem" "losses" "I") (by decide +kernel)
  have h_f65 := hts (.fieldLink RX3 65 "TwoModems$Modem" "surrenders" "I") (by decide +kernel)
  have h_f68 := hts (.fieldLink RX3 68 "TwoModems$Modem" "agains" "I") (by decide +kernel)
  have h_f71 := hts (.fieldLink RX3 71 "TwoModems$Modem" "datas" "I") (by decide +kernel)
  have h_f74 := hts (.fieldLink RX3 74 "TwoModems$Modem" "line" "LTwoModems$Line;") (by decide +kernel)
  have h_f78 := hts (.fieldLink RX3 78 "TwoModems$Modem" "in" "LTwoModems$Way;") (by decide +kernel)
  have h_f82 := hts (.fieldLink RX3 82 "TwoModems$Modem" "out" "LTwoModems$Way;") (by decide +kernel)
  have hl := lv_entry ([.ref h0, .ref p0, .ref p1, .ref p2]) (n := 4) (Nat.le_of_ble_eq_true rfl)
  rw [lg_entry_eq]
  generalize (lg_sl ([.ref h0, .ref p0, .ref p1, .ref p2]) ++ List.replicate (4 - (lg_sl ([.ref h0, .ref p0, .ref p1, .ref p2])).length) Slot.unset).toArray = ls at hl ⊢
  have hl : lv_has ls 4 [(0, .ref h0), (1, .ref p0), (2, .ref p1), (3, .ref p2)] := hl
  unfold wp_X3_init at hw
  refine lv_aload_n hx hb dX3_init_0 rfl (lv_at hl 0 rfl) ?_
  refine W.objInit hx hb hown h_oi h_oi2 h_oi3 rfl (by rw [hml]; exact hl.1) rfl dX3_init_1 (Nat.le_of_ble_eq_true rfl) (Nat.le_of_ble_eq_true rfl) ?_
  refine W.eq (g2 := F0 m 4 ls []) rfl ?_
  refine lv_aload_n hx hb dX3_init_4 rfl (lv_at hl 0 rfl) ?_
  refine va_new (ci := 0) (fs := [.null, .null]) (C := RX0) (T := TX0) (N := 2) hx hb hts h_in0 tyX0 tyX0_ok hown h_cl9 h_is0 h_ini0 hK hP hD hS hA rfl (lt_s (i := 1) (lt_s (i := 0) lt_0 rfl) rfl) (Nat.le_of_ble_eq_true rfl) (Nat.le_of_ble_eq_true rfl) dX3_init_5 (fun q1 H hP hD hS => ?_)
  have hP : va_P (dC, dI) vwCl ([(h0, .inr (3, [.null, .null, .null, .null, .null, .null, .int 0, .int 0, .int 0, .int 0, .int 0, .int 0, .int 0, .int 0, .int 0, .int 0, .int 0, .int 0, .int 0, .int 0])), (q1, .inr (0, [.null, .null]))] : va_W) H := hP
  have hD : va_D A ([(h0, .inr (3, [.null, .null, .null, .null, .null, .null, .int 0, .int 0, .int 0, .int 0, .int 0, .int 0, .int 0, .int 0, .int 0, .int 0, .int 0, .int 0, .int 0, .int 0])), (q1, .inr (0, [.null, .null]))] : va_W) := hD
  refine lv_dup hx hb dX3_init_8 rfl ?_
  have hPc := hP.sub (ws' := ([(q1, .inr (0, [.null, .null]))] : va_W)) [1] rfl
  have hDc := hD.sub (ws' := ([(q1, .inr (0, [.null, .null]))] : va_W)) [1] (by decide) rfl
  have hFc := va_free (wc := ([(q1, .inr (0, [.null, .null]))] : va_W)) hD hS hA [1] rfl
  refine va_callv (va_runIN (As := []) (rest := [.ref q1, .ref h0]) ⟨hx, hb, hml, hown, hts⟩ (kk_X0_init l dC dI cI cZ q1  H.size _ hw) ⟨va_cnB 0 hts gX3_init_X0_init_n11 rfl rfl rfl hN.1 h_ini0 (by decide +kernel) ⟨Nat.le_of_ble_eq_true rfl, Nat.le_of_ble_eq_true rfl⟩, rfl, h_im0⟩ ⟨tm_blind, fun U hU hW => ⟨rfl, ⟨by rw [hU], by rw [hU]; exact hPc, va_K.moved hW.alike hK, hDc.weaken (fun _ _ _ _ => trivial)⟩⟩⟩ rfl rfl hl.1 rfl (lv_room (Nat.le_of_ble_eq_true rfl)) dX3_init_9 ⟨Nat.le_of_ble_eq_true rfl, Nat.le_of_ble_eq_true rfl⟩) hS (fun q _ h => hFc q h) hFc (fun u t H1 locs ht hvm hw hB hz1 hk1 hS => ?_)
  obtain ⟨hP1, hK1, hD1⟩ := hB
  rw [ht] at hP1
  obtain ⟨aq1, uq1⟩ := u
  obtain ⟨ea, hw⟩ := hw
  dsimp only at ea hw
  subst ea
  obtain ⟨hP, hD⟩ := va_join (wr := ([(h0, .inr (3, [.null, .null, .null, .null, .null, .null, .int 0, .int 0, .int 0, .int 0, .int 0, .int 0, .int 0, .int 0, .int 0, .int 0, .int 0, .int 0, .int 0, .int 0]))] : va_W)) (w1 := (tm_wEcho cI cZ aq1 uq1)) hP hD [1] [0] rfl rfl (by decide) (by decide) hk1 hFc hP1 hD1
  generalize H1 = H at hP hS ⊢
  have hP : va_P (dC, dI) vwCl ([(h0, .inr (3, [.null, .null, .null, .null, .null, .null, .int 0, .int 0, .int 0, .int 0, .int 0, .int 0, .int 0, .int 0, .int 0, .int 0, .int 0, .int 0, .int 0, .int 0]))] ++ (tm_wEcho cI cZ aq1 uq1) : va_W) H := hP
  have hD : va_D A ([(h0, .inr (3, [.null, .null, .null, .null, .null, .null, .int 0, .int 0, .int 0, .int 0, .int 0, .int 0, .int 0, .int 0, .int 0, .int 0, .int 0, .int 0, .int 0, .int 0]))] ++ (tm_wEcho cI cZ aq1 uq1) : va_W) := hD
  refine va_putF (D := (dC, dI)) (ci := 3) (v := .ref (aq1 0)) (ty := (.object "TwoModems$Echo")) (C := RX3) (T := TX3) (N := 20) hx hb hts h_in3 tyX3 tyX3_ok nmX3 hown hK hP hD hS 0 rfl rfl 3 (by decide) h_f12 (fun _ h9 => h9) rfl hin rfl (by decide +kernel) rfl rfl (Nat.le_of_ble_eq_true rfl) dX3_init_12 (fun H locs hP hD hS => ?_)
  have hP : va_P (dC, dI) vwCl ([(h0, .inr (3, [.null, .null, .null, .ref (aq1 0), .null, .null, .int 0, .int 0, .int 0, .int 0, .int 0, .int 0, .int 0, .int 0, .int 0, .int 0, .int 0, .int 0, .int 0, .int 0]))] ++ (tm_wEcho cI cZ aq1 uq1) : va_W) H := hP
  have hD : va_D A ([(h0, .inr (3, [.null, .null, .null, .ref (aq1 0), .null, .null, .int 0, .int 0, .int 0, .int 0, .int 0, .int 0, .int 0, .int 0, .int 0, .int 0, .int 0, .int 0, .int 0, .int 0]))] ++ (tm_wEcho cI cZ aq1 uq1) : va_W) := hD
  refine lv_aload_n hx hb dX3_init_15 rfl (lv_at hl 0 rfl) ?_
  refine va_new (ci := 2) (fs := [.null, .null, .int 0, .int 0, .int 0, .int 0, .int 0, .int 0]) (C := RX2) (T := TX2) (N := 8) hx hb hts h_in2 tyX2 tyX2_ok hown h_cl18 h_is2 h_ini2 hK hP hD hS hA rfl (lt_s (i := 7) (lt_s (i := 6) (lt_s (i := 5) (lt_s (i := 4) (lt_s (i := 3) (lt_s (i := 2) (lt_s (i := 1) (lt_s (i := 0) lt_0 rfl) rfl) rfl) rfl) rfl) rfl) rfl) rfl) (Nat.le_of_ble_eq_true rfl) (Nat.le_of_ble_eq_true rfl) dX3_init_16 (fun q2 H hP hD hS => ?_)
  have hP : va_P (dC, dI) vwCl ([(h0, .inr (3, [.null, .null, .null, .ref (aq1 0), .null, .null, .int 0, .int 0, .int 0, .int 0, .int 0, .int 0, .int 0, .int 0, .int 0, .int 0, .int 0, .int 0, .int 0, .int 0]))] ++ (tm_wEcho cI cZ aq1 uq1) ++ [(q2, .inr (2, [.null, .null, .int 0, .int 0, .int 0, .int 0, .int 0, .int 0]))] : va_W) H := hP
  have hD : va_D A ([(h0, .inr (3, [.null, .null, .null, .ref (aq1 0), .null, .null, .int 0, .int 0, .int 0, .int 0, .int 0, .int 0, .int 0, .int 0, .int 0, .int 0, .int 0, .int 0, .int 0, .int 0]))] ++ (tm_wEcho cI cZ aq1 uq1) ++ [(q2, .inr (2, [.null, .null, .int 0, .int 0, .int 0, .int 0, .int 0, .int 0]))] : va_W) := hD
  refine lv_dup hx hb dX3_init_19 rfl ?_
  have hPc := hP.sub (ws' := ([(q2, .inr (2, [.null, .null, .int 0, .int 0, .int 0, .int 0, .int 0, .int 0]))] : va_W)) [4] rfl
  have hDc := hD.sub (ws' := ([(q2, .inr (2, [.null, .null, .int 0, .int 0, .int 0, .int 0, .int 0, .int 0]))] : va_W)) [4] (by decide) rfl
  have hFc := va_free (wc := ([(q2, .inr (2, [.null, .null, .int 0, .int 0, .int 0, .int 0, .int 0, .int 0]))] : va_W)) hD hS hA [4] rfl
  refine va_callv (va_runIN (As := []) (rest := [.ref q2, .ref h0]) ⟨hx, hb, hml, hown, hts⟩ (kk_X2_init l dC dI cI cZ q2  H.size _ hw) ⟨va_cnB 0 hts gX3_init_X2_init_n20 rfl rfl rfl hN.2 h_ini2 (by decide +kernel) ⟨Nat.le_of_ble_eq_true rfl, Nat.le_of_ble_eq_true rfl⟩, rfl, h_im2⟩ ⟨tm_blind, fun U hU hW => ⟨rfl, ⟨by rw [hU], by rw [hU]; exact hPc, va_K.moved hW.alike hK, hDc.weaken (fun _ _ _ _ => trivial)⟩⟩⟩ rfl rfl hl.1 rfl (lv_room (Nat.le_of_ble_eq_true rfl)) dX3_init_20 ⟨Nat.le_of_ble_eq_true rfl, Nat.le_of_ble_eq_true rfl⟩) hS (fun q _ h => hFc q h) hFc (fun u t H1 locs ht hvm hw hB hz1 hk1 hS => ?_)
  obtain ⟨hP1, hK1, hD1⟩ := hB
  rw [ht] at hP1
  obtain ⟨aq2, uq2⟩ := u
  obtain ⟨ea, hw⟩ := hw
  dsimp only at ea hw
  subst ea
  obtain ⟨hP, hD⟩ := va_join (wr := ([(h0, .inr (3, [.null, .null, .null, .ref (aq1 0), .null, .null, .int 0, .int 0, .int 0, .int 0, .int 0, .int 0, .int 0, .int 0, .int 0, .int 0, .int 0, .int 0, .int 0, .int 0]))] ++ (tm_wEcho cI cZ aq1 uq1) : va_W)) (w1 := (tm_wMail cI cZ aq2 uq2)) hP hD [4] [0, 1, 2, 3] rfl rfl (by decide) (by decide) hk1 hFc hP1 hD1
  generalize H1 = H at hP hS ⊢
  have hP : va_P (dC, dI) vwCl ([(h0, .inr (3, [.null, .null, .null, .ref (aq1 0), .null, .null, .int 0, .int 0, .int 0, .int 0, .int 0, .int 0, .int 0, .int 0, .int 0, .int 0, .int 0, .int 0, .int 0, .int 0]))] ++ (tm_wEcho cI cZ aq1 uq1) ++ (tm_wMail cI cZ aq2 uq2) : va_W) H := hP
  have hD : va_D A ([(h0, .inr (3, [.null, .null, .null, .ref (aq1 0), .null, .null, .int 0, .int 0, .int 0, .int 0, .int 0, .int 0, .int 0, .int 0, .int 0, .int 0, .int 0, .int 0, .int 0, .int 0]))] ++ (tm_wEcho cI cZ aq1 uq1) ++ (tm_wMail cI cZ aq2 uq2) : va_W) := hD
  refine va_putF (D := (dC, dI)) (ci := 3) (v := .ref (aq2 0)) (ty := (.object "TwoModems$Mail")) (C := RX3) (T := TX3) (N := 20) hx hb hts h_in3 tyX3 tyX3_ok nmX3 hown hK hP hD hS 0 rfl rfl 4 (by decide) h_f21 (fun _ h9 => h9) rfl hin rfl (by decide +kernel) rfl rfl (Nat.le_of_ble_eq_true rfl) dX3_init_23 (fun H locs hP hD hS => ?_)
  have hP : va_P (dC, dI) vwCl ([(h0, .inr (3, [.null, .null, .null, .ref (aq1 0), .ref (aq2 0), .null, .int 0, .int 0, .int 0, .int 0, .int 0, .int 0, .int 0, .int 0, .int 0, .int 0, .int 0, .int 0, .int 0, .int 0]))] ++ (tm_wEcho cI cZ aq1 uq1) ++ (tm_wMail cI cZ aq2 uq2) : va_W) H := hP
  have hD : va_D A ([(h0, .inr (3, [.null, .null, .null, .ref (aq1 0), .ref (aq2 0), .null, .int 0, .int 0, .int 0, .int 0, .int 0, .int 0, .int 0, .int 0, .int 0, .int 0, .int 0, .int 0, .int 0, .int 0]))] ++ (tm_wEcho cI cZ aq1 uq1) ++ (tm_wMail cI cZ aq2 uq2) : va_W) := hD
  refine lv_aload_n hx hb dX3_init_26 rfl (lv_at hl 0 rfl) ?_
  refine lv_bipush (v := 8) hx hb dX3_init_27 (by decide) ?_
  refine va_newa (atype := .int) (ty := .int) (a0 := (8, .inl (fun _ => 0))) (N' := 8) hx hb h_acI rfl hK hP hD hS hA (fun _ => rfl) (by decide) (by decide) (Nat.le_of_ble_eq_true rfl) (Nat.le_of_ble_eq_true rfl) (Nat.le_of_ble_eq_true rfl) dX3_init_29 (fun q3 cA H hK hP hD hS => ?_)
  obtain ⟨ecA, hK2⟩ := tm_cI hK
  clear hK
  have hK := hK2
  clear hK2
  subst ecA
  have hP : va_P (dC, dI) vwCl ([(h0, .inr (3, [.null, .null, .null, .ref (aq1 0), .ref (aq2 0), .null, .int 0, .int 0, .int 0, .int 0, .int 0, .int 0, .int 0, .int 0, .int 0, .int 0, .int 0, .int 0, .int 0, .int 0]))] ++ (tm_wEcho cI cZ aq1 uq1) ++ (tm_wMail cI cZ aq2 uq2) ++ [(q3, .inl (cI, 8, .inl (fun _ => 0)))] : va_W) H := hP
  have hD : va_D A ([(h0, .inr (3, [.null, .null, .null, .ref (aq1 0), .ref (aq2 0), .null, .int 0, .int 0, .int 0, .int 0, .int 0, .int 0, .int 0, .int 0, .int 0, .int 0, .int 0, .int 0, .int 0, .int 0]))] ++ (tm_wEcho cI cZ aq1 uq1) ++ (tm_wMail cI cZ aq2 uq2) ++ [(q3, .inl (cI, 8, .inl (fun _ => 0)))] : va_W) := hD
  refine va_putF (D := (dC, dI)) (ci := 3) (v := .ref q3) (ty := (.array .int)) (C := RX3) (T := TX3) (N := 20) hx hb hts h_in3 tyX3 tyX3_ok nmX3 hown hK hP hD hS 0 rfl rfl 5 (by decide) h_f25 (fun _ h9 => h9) rfl hin rfl (by decide +kernel) rfl rfl (Nat.le_of_ble_eq_true rfl) dX3_init_31 (fun H locs hP hD hS => ?_)
  have hP : va_P (dC, dI) vwCl ([(h0, .inr (3, [.null, .null, .null, .ref (aq1 0), .ref (aq2 0), .ref q3, .int 0, .int 0, .int 0, .int 0, .int 0, .int 0, .int 0, .int 0, .int 0, .int 0, .int 0, .int 0, .int 0, .int 0]))] ++ (tm_wEcho cI cZ aq1 uq1) ++ (tm_wMail cI cZ aq2 uq2) ++ [(q3, .inl (cI, 8, .inl (fun _ => 0)))] : va_W) H := hP
  have hD : va_D A ([(h0, .inr (3, [.null, .null, .null, .ref (aq1 0), .ref (aq2 0), .ref q3, .int 0, .int 0, .int 0, .int 0, .int 0, .int 0, .int 0, .int 0, .int 0, .int 0, .int 0, .int 0, .int 0, .int 0]))] ++ (tm_wEcho cI cZ aq1 uq1) ++ (tm_wMail cI cZ aq2 uq2) ++ [(q3, .inl (cI, 8, .inl (fun _ => 0)))] : va_W) := hD
  refine lv_aload_n hx hb dX3_init_34 rfl (lv_at hl 0 rfl) ?_
  refine lv_iconst (v := 0) hx hb dX3_init_35 (by decide) ?_
  refine va_put (D := (dC, dI)) (ci := 3) (v := .int 0) (ty := .int) (C := RX3) (T := TX3) (N := 20) hx hb hts h_in3 tyX3 tyX3_ok nmX3 hown hK hP hD hS 0 rfl rfl 6 (by decide) h_f31 (fun _ h9 => h9) rfl (by decide +kernel) rfl rfl (Nat.le_of_ble_eq_true rfl) dX3_init_36 (fun H locs hP hD hS => ?_)
  have hP : va_P (dC, dI) vwCl ([(h0, .inr (3, [.null, .null, .null, .ref (aq1 0), .ref (aq2 0), .ref q3, .int 0, .int 0, .int 0, .int 0, .int 0, .int 0, .int 0, .int 0, .int 0, .int 0, .int 0, .int 0, .int 0, .int 0]))] ++ (tm_wEcho cI cZ aq1 uq1) ++ (tm_wMail cI cZ aq2 uq2) ++ [(q3, .inl (cI, 8, .inl (fun _ => 0)))] : va_W) H := hP
  have hD : va_D A ([(h0, .inr (3, [.null, .null, .null, .ref (aq1 0), .ref (aq2 0), .ref q3, .int 0, .int 0, .int 0, .int 0, .int 0, .int 0, .int 0, .int 0, .int 0, .int 0, .int 0, .int 0, .int 0, .int 0]))] ++ (tm_wEcho cI cZ aq1 uq1) ++ (tm_wMail cI cZ aq2 uq2) ++ [(q3, .inl (cI, 8, .inl (fun _ => 0)))] : va_W) := hD
  refine lv_aload_n hx hb dX3_init_39 rfl (lv_at hl 0 rfl) ?_
  refine lv_iconst (v := 0) hx hb dX3_init_40 (by decide) ?_
  refine va_put (D := (dC, dI)) (ci := 3) (v := .int 0) (ty := .int) (C := RX3) (T := TX3) (N := 20) hx hb hts h_in3 tyX3 tyX3_ok nmX3 hown hK hP hD hS 0 rfl rfl 7 (by decide) h_f35 (fun _ h9 => h9) rfl (by decide +kernel) rfl rfl (Nat.le_of_ble_eq_true rfl) dX3_init_41 (fun H locs hP hD hS => ?_)
  have hP : va_P (dC, dI) vwCl ([(h0, .inr (3, [.null, .null, .null, .ref (aq1 0), .ref (aq2 0), .ref q3, .int 0, .int 0, .int 0, .int 0, .int 0, .int 0, .int 0, .int 0, .int 0, .int 0, .int 0, .int 0, .int 0, .int 0]))] ++ (tm_wEcho cI cZ aq1 uq1) ++ (tm_wMail cI cZ aq2 uq2) ++ [(q3, .inl (cI, 8, .inl (fun _ => 0)))] : va_W) H := hP
  have hD : va_D A ([(h0, .inr (3, [.null, .null, .null, .ref (aq1 0), .ref (aq2 0), .ref q3, .int 0, .int 0, .int 0, .int 0, .int 0, .int 0, .int 0, .int 0, .int 0, .int 0, .int 0, .int 0, .int 0, .int 0]))] ++ (tm_wEcho cI cZ aq1 uq1) ++ (tm_wMail cI cZ aq2 uq2) ++ [(q3, .inl (cI, 8, .inl (fun _ => 0)))] : va_W) := hD
  refine lv_aload_n hx hb dX3_init_44 rfl (lv_at hl 0 rfl) ?_
  refine lv_iconst (v := 0) hx hb dX3_init_45 (by decide) ?_
  refine va_put (D := (dC, dI)) (ci := 3) (v := .int 0) (ty := .int) (C := RX3) (T := TX3) (N := 20) hx hb hts h_in3 tyX3 tyX3_ok nmX3 hown hK hP hD hS 0 rfl rfl 8 (by decide) h_f38 (fun _ h9 => h9) rfl (by decide +kernel) rfl rfl (Nat.le_of_ble_eq_true rfl) dX3_init_46 (fun H locs hP hD hS => ?_)
  have hP : va_P (dC, dI) vwCl ([(h0, .inr (3, [.null, .null, .null, .ref (aq1 0), .ref (aq2 0), .ref q3, .int 0, .int 0, .int 0, .int 0, .int 0, .int 0, .int 0, .int 0, .int 0, .int 0, .int 0, .int 0, .int 0, .int 0]))] ++ (tm_wEcho cI cZ aq1 uq1) ++ (tm_wMail cI cZ aq2 uq2) ++ [(q3, .inl (cI, 8, .inl (fun _ => 0)))] : va_W) H := hP
  have hD : va_D A ([(h0, .inr (3, [.null, .null, .null, .ref (aq1 0), .ref (aq2 0), .ref q3, .int 0, .int 0, .int 0, .int 0, .int 0, .int 0, .int 0, .int 0, .int 0, .int 0, .int 0, .int 0, .int 0, .int 0]))] ++ (tm_wEcho cI cZ aq1 uq1) ++ (tm_wMail cI cZ aq2 uq2) ++ [(q3, .inl (cI, 8, .inl (fun _ => 0)))] : va_W) := hD
  refine lv_aload_n hx hb dX3_init_49 rfl (lv_at hl 0 rfl) ?_
  refine lv_iconst (v := 0) hx hb dX3_init_50 (by decide) ?_
  refine va_put (D := (dC, dI)) (ci := 3) (v := .int 0) (ty := .int) (C := RX3) (T := TX3) (N := 20) hx hb hts h_in3 tyX3 tyX3_ok nmX3 hown hK hP hD hS 0 rfl rfl 9 (by decide) h_f41 (fun _ h9 => h9) rfl (by decide +kernel) rfl rfl (Nat.le_of_ble_eq_true rfl) dX3_init_51 (fun H locs hP hD hS => ?_)
  have hP : va_P (dC, dI) vwCl ([(h0, .inr (3, [.null, .null, .null, .ref (aq1 0), .ref (aq2 0), .ref q3, .int 0, .int 0, .int 0, .int 0, .int 0, .int 0, .int 0, .int 0, .int 0, .int 0, .int 0, .int 0, .int 0, .int 0]))] ++ (tm_wEcho cI cZ aq1 uq1) ++ (tm_wMail cI cZ aq2 uq2) ++ [(q3, .inl (cI, 8, .inl (fun _ => 0)))] : va_W) H := hP
  have hD : va_D A ([(h0, .inr (3, [.null, .null, .null, .ref (aq1 0), .ref (aq2 0), .ref q3, .int 0, .int 0, .int 0, .int 0, .int 0, .int 0, .int 0, .int 0, .int 0, .int 0, .int 0, .int 0, .int 0, .int 0]))] ++ (tm_wEcho cI cZ aq1 uq1) ++ (tm_wMail cI cZ aq2 uq2) ++ [(q3, .inl (cI, 8, .inl (fun _ => 0)))] : va_W) := hD
  refine lv_aload_n hx hb dX3_init_54 rfl (lv_at hl 0 rfl) ?_
  refine lv_iconst (v := 0) hx hb dX3_init_55 (by decide) ?_
  refine va_put (D := (dC, dI)) (ci := 3) (v := .int 0) (ty := .int) (C := RX3) (T := TX3) (N := 20) hx hb hts h_in3 tyX3 tyX3_ok nmX3 hown hK hP hD hS 0 rfl rfl 10 (by decide) h_f44 (fun _ h9 => h9) rfl (by decide +kernel) rfl rfl (Nat.le_of_ble_eq_true rfl) dX3_init_56 (fun H locs hP hD hS => ?_)
  have hP : va_P (dC, dI) vwCl ([(h0, .inr (3, [.null, .null, .null, .ref (aq1 0), .ref (aq2 0), .ref q3, .int 0, .int 0, .int 0, .int 0, .int 0, .int 0, .int 0, .int 0, .int 0, .int 0, .int 0, .int 0, .int 0, .int 0]))] ++ (tm_wEcho cI cZ aq1 uq1) ++ (tm_wMail cI cZ aq2 uq2) ++ [(q3, .inl (cI, 8, .inl (fun _ => 0)))] : va_W) H := hP
  have hD : va_D A ([(h0, .inr (3, [.null, .null, .null, .ref (aq1 0), .ref (aq2 0), .ref q3, .int 0, .int 0, .int 0, .int 0, .int 0, .int 0, .int 0, .int 0, .int 0, .int 0, .int 0, .int 0, .int 0, .int 0]))] ++ (tm_wEcho cI cZ aq1 uq1) ++ (tm_wMail cI cZ aq2 uq2) ++ [(q3, .inl (cI, 8, .inl (fun _ => 0)))] : va_W) := hD
  refine lv_aload_n hx hb dX3_init_59 rfl (lv_at hl 0 rfl) ?_
  refine lv_iconst (v := 0) hx hb dX3_init_60 (by decide) ?_
  refine va_put (D := (dC, dI)) (ci := 3) (v := .int 0) (ty := .int) (C := RX3) (T := TX3) (N := 20) hx hb hts h_in3 tyX3 tyX3_ok nmX3 hown hK hP hD hS 0 rfl rfl 11 (by decide) h_f47 (fun _ h9 => h9) rfl (by decide +kernel) rfl rfl (Nat.le_of_ble_eq_true rfl) dX3_init_61 (fun H locs hP hD hS => ?_)
  have hP : va_P (dC, dI) vwCl ([(h0, .inr (3, [.null, .null, .null, .ref (aq1 0), .ref (aq2 0), .ref q3, .int 0, .int 0, .int 0, .int 0, .int 0, .int 0, .int 0, .int 0, .int 0, .int 0, .int 0, .int 0, .int 0, .int 0]))] ++ (tm_wEcho cI cZ aq1 uq1) ++ (tm_wMail cI cZ aq2 uq2) ++ [(q3, .inl (cI, 8, .inl (fun _ => 0)))] : va_W) H := hP
  have hD : va_D A ([(h0, .inr (3, [.null, .null, .null, .ref (aq1 0), .ref (aq2 0), .ref q3, .int 0, .int 0, .int 0, .int 0, .int 0, .int 0, .int 0, .int 0, .int 0, .int 0, .int 0, .int 0, .int 0, .int 0]))] ++ (tm_wEcho cI cZ aq1 uq1) ++ (tm_wMail cI cZ aq2 uq2) ++ [(q3, .inl (cI, 8, .inl (fun _ => 0)))] : va_W) := hD
  refine lv_aload_n hx hb dX3_init_64 rfl (lv_at hl 0 rfl) ?_
  refine lv_iconst (v := 0) hx hb dX3_init_65 (by decide) ?_
  refine va_put (D := (dC, dI)) (ci := 3) (v := .int 0) (ty := .int) (C := RX3) (T := TX3) (N := 20) hx hb hts h_in3 tyX3 tyX3_ok nmX3 hown hK hP hD hS 0 rfl rfl 12 (by decide) h_f50 (fun _ h9 => h9) rfl (by decide +kernel) rfl rfl (Nat.le_of_ble_eq_true rfl) dX3_init_66 (fun H locs hP hD hS => ?_)
  have hP : va_P (dC, dI) vwCl ([(h0, .inr (3, [.null, .null, .null, .ref (aq1 0), .ref (aq2 0), .ref q3, .int 0, .int 0, .int 0, .int 0, .int 0, .int 0, .int 0, .int 0, .int 0, .int 0, .int 0, .int 0, .int 0, .int 0]))] ++ (tm_wEcho cI cZ aq1 uq1) ++ (tm_wMail cI cZ aq2 uq2) ++ [(q3, .inl (cI, 8, .inl (fun _ => 0)))] : va_W) H := hP
  have hD : va_D A ([(h0, .inr (3, [.null, .null, .null, .ref (aq1 0), .ref (aq2 0), .ref q3, .int 0, .int 0, .int 0, .int 0, .int 0, .int 0, .int 0, .int 0, .int 0, .int 0, .int 0, .int 0, .int 0, .int 0]))] ++ (tm_wEcho cI cZ aq1 uq1) ++ (tm_wMail cI cZ aq2 uq2) ++ [(q3, .inl (cI, 8, .inl (fun _ => 0)))] : va_W) := hD
  refine lv_aload_n hx hb dX3_init_69 rfl (lv_at hl 0 rfl) ?_
  refine lv_iconst (v := 0) hx hb dX3_init_70 (by decide) ?_
  refine va_put (D := (dC, dI)) (ci := 3) (v := .int 0) (ty := .int) (C := RX3) (T := TX3) (N := 20) hx hb hts h_in3 tyX3 tyX3_ok nmX3 hown hK hP hD hS 0 rfl rfl 13 (by decide) h_f53 (fun _ h9 => h9) rfl (by decide +kernel) rfl rfl (Nat.le_of_ble_eq_true rfl) dX3_init_71 (fun H locs hP hD hS => ?_)
  have hP : va_P (dC, dI) vwCl ([(h0, .inr (3, [.null, .null, .null, .ref (aq1 0), .ref (aq2 0), .ref q3, .int 0, .int 0, .int 0, .int 0, .int 0, .int 0, .int 0, .int 0, .int 0, .int 0, .int 0, .int 0, .int 0, .int 0]))] ++ (tm_wEcho cI cZ aq1 uq1) ++ (tm_wMail cI cZ aq2 uq2) ++ [(q3, .inl (cI, 8, .inl (fun _ => 0)))] : va_W) H := hP
  have hD : va_D A ([(h0, .inr (3, [.null, .null, .null, .ref (aq1 0), .ref (aq2 0), .ref q3, .int 0, .int 0, .int 0, .int 0, .int 0, .int 0, .int 0, .int 0, .int 0, .int 0, .int 0, .int 0, .int 0, .int 0]))] ++ (tm_wEcho cI cZ aq1 uq1) ++ (tm_wMail cI cZ aq2 uq2) ++ [(q3, .inl (cI, 8, .inl (fun _ => 0)))] : va_W) := hD
  refine lv_aload_n hx hb dX3_init_74 rfl (lv_at hl 0 rfl) ?_
  refine lv_iconst (v := 0) hx hb dX3_init_75 (by decide) ?_
  refine va_put (D := (dC, dI)) (ci := 3) (v := .int 0) (ty := .int) (C := RX3) (T := TX3) (N := 20) hx hb hts h_in3 tyX3 tyX3_ok nmX3 hown hK hP hD hS 0 rfl rfl 14 (by decide) h_f56 (fun _ h9 => h9) rfl (by decide +kernel) rfl rfl (Nat.le_of_ble_eq_true rfl) dX3_init_76 (fun H locs hP hD hS => ?_)
  have hP : va_P (dC, dI) vwCl ([(h0, .inr (3, [.null, .null, .null, .ref (aq1 0), .ref (aq2 0), .ref q3, .int 0, .int 0, .int 0, .int 0, .int 0, .int 0, .int 0, .int 0, .int 0, .int 0, .int 0, .int 0, .int 0, .int 0]))] ++ (tm_wEcho cI cZ aq1 uq1) ++ (tm_wMail cI cZ aq2 uq2) ++ [(q3, .inl (cI, 8, .inl (fun _ => 0)))] : va_W) H := hP
  have hD : va_D A ([(h0, .inr (3, [.null, .null, .null, .ref (aq1 0), .ref (aq2 0), .ref q3, .int 0, .int 0, .int 0, .int 0, .int 0, .int 0, .int 0, .int 0, .int 0, .int 0, .int 0, .int 0, .int 0, .int 0]))] ++ (tm_wEcho cI cZ aq1 uq1) ++ (tm_wMail cI cZ aq2 uq2) ++ [(q3, .inl (cI, 8, .inl (fun _ => 0)))] : va_W) := hD
  refine lv_aload_n hx hb dX3_init_79 rfl (lv_at hl 0 rfl) ?_
  refine lv_iconst (v := 0) hx hb dX3_init_80 (by decide) ?_
  refine va_put (D := (dC, dI)) (ci := 3) (v := .int 0) (ty := .int) (C := RX3) (T := TX3) (N := 20) hx hb hts h_in3 tyX3 tyX3_ok nmX3 hown hK hP hD hS 0 rfl rfl 15 (by decide) h_f59 (fun _ h9 => h9) rfl (by decide +kernel) rfl rfl (Nat.le_of_ble_eq_true rfl) dX3_init_81 (fun H locs hP hD hS => ?_)
  have hP : va_P (dC, dI) vwCl ([(h0, .inr (3, [.null, .null, .null, .ref (aq1 0), .ref (aq2 0), .ref q3, .int 0, .int 0, .int 0, .int 0, .int 0, .int 0, .int 0, .int 0, .int 0, .int 0, .int 0, .int 0, .int 0, .int 0]))] ++ (tm_wEcho cI cZ aq1 uq1) ++ (tm_wMail cI cZ aq2 uq2) ++ [(q3, .inl (cI, 8, .inl (fun _ => 0)))] : va_W) H := hP
  have hD : va_D A ([(h0, .inr (3, [.null, .null, .null, .ref (aq1 0), .ref (aq2 0), .ref q3, .int 0, .int 0, .int 0, .int 0, .int 0, .int 0, .int 0, .int 0, .int 0, .int 0, .int 0, .int 0, .int 0, .int 0]))] ++ (tm_wEcho cI cZ aq1 uq1) ++ (tm_wMail cI cZ aq2 uq2) ++ [(q3, .inl (cI, 8, .inl (fun _ => 0)))] : va_W) := hD
  refine lv_aload_n hx hb dX3_init_84 rfl (lv_at hl 0 rfl) ?_
  refine lv_iconst (v := 0) hx hb dX3_init_85 (by decide) ?_
  refine va_put (D := (dC, dI)) (ci := 3) (v := .int 0) (ty := .int) (C := RX3) (T := TX3) (N := 20) hx hb hts h_in3 tyX3 tyX3_ok nmX3 hown hK hP hD hS 0 rfl rfl 16 (by decide) h_f62 (fun _ h9 => h9) rfl (by decide +kernel) rfl rfl (Nat.le_of_ble_eq_true rfl) dX3_init_86 (fun H locs hP hD hS => ?_)
  have hP : va_P (dC, dI) vwCl ([(h0, .inr (3, [.null, .null, .null, .ref (aq1 0), .ref (aq2 0), .ref q3, .int 0, .int 0, .int 0, .int 0, .int 0, .int 0, .int 0, .int 0, .int 0, .int 0, .int 0, .int 0, .int 0, .int 0]))] ++ (tm_wEcho cI cZ aq1 uq1) ++ (tm_wMail cI cZ aq2 uq2) ++ [(q3, .inl (cI, 8, .inl (fun _ => 0)))] : va_W) H := hP
  have hD : va_D A ([(h0, .inr (3, [.null, .null, .null, .ref (aq1 0), .ref (aq2 0), .ref q3, .int 0, .int 0, .int 0, .int 0, .int 0, .int 0, .int 0, .int 0, .int 0, .int 0, .int 0, .int 0, .int 0, .int 0]))] ++ (tm_wEcho cI cZ aq1 uq1) ++ (tm_wMail cI cZ aq2 uq2) ++ [(q3, .inl (cI, 8, .inl (fun _ => 0)))] : va_W) := hD
  refine lv_aload_n hx hb dX3_init_89 rfl (lv_at hl 0 rfl) ?_
  refine lv_iconst (v := 0) hx hb dX3_init_90 (by decide) ?_
  refine va_put (D := (dC, dI)) (ci := 3) (v := .int 0) (ty := .int) (C := RX3) (T := TX3) (N := 20) hx hb hts h_in3 tyX3 tyX3_ok nmX3 hown hK hP hD hS 0 rfl rfl 17 (by decide) h_f65 (fun _ h9 => h9) rfl (by decide +kernel) rfl rfl (Nat.le_of_ble_eq_true rfl) dX3_init_91 (fun H locs hP hD hS => ?_)
  have hP : va_P (dC, dI) vwCl ([(h0, .inr (3, [.null, .null, .null, .ref (aq1 0), .ref (aq2 0), .ref q3, .int 0, .int 0, .int 0, .int 0, .int 0, .int 0, .int 0, .int 0, .int 0, .int 0, .int 0, .int 0, .int 0, .int 0]))] ++ (tm_wEcho cI cZ aq1 uq1) ++ (tm_wMail cI cZ aq2 uq2) ++ [(q3, .inl (cI, 8, .inl (fun _ => 0)))] : va_W) H := hP
  have hD : va_D A ([(h0, .inr (3, [.null, .null, .null, .ref (aq1 0), .ref (aq2 0), .ref q3, .int 0, .int 0, .int 0, .int 0, .int 0, .int 0, .int 0, .int 0, .int 0, .int 0, .int 0, .int 0, .int 0, .int 0]))] ++ (tm_wEcho cI cZ aq1 uq1) ++ (tm_wMail cI cZ aq2 uq2) ++ [(q3, .inl (cI, 8, .inl (fun _ => 0)))] : va_W) := hD
  refine lv_aload_n hx hb dX3_init_94 rfl (lv_at hl 0 rfl) ?_
  refine lv_iconst (v := 0) hx hb dX3_init_95 (by decide) ?_
  refine va_put (D := (dC, dI)) (ci := 3) (v := .int 0) (ty := .int) (C := RX3) (T := TX3) (N := 20) hx hb hts h_in3 tyX3 tyX3_ok nmX3 hown hK hP hD hS 0 rfl rfl 18 (by decide) h_f68 (fun _ h9 => h9) rfl (by decide +kernel) rfl rfl (Nat.le_of_ble_eq_true rfl) dX3_init_96 (fun H locs hP hD hS => ?_)
  have hP : va_P (dC, dI) vwCl ([(h0, .inr (3, [.null, .null, .null, .ref (aq1 0), .ref (aq2 0), .ref q3, .int 0, .int 0, .int 0, .int 0, .int 0, .int 0, .int 0, .int 0, .int 0, .int 0, .int 0, .int 0, .int 0, .int 0]))] ++ (tm_wEcho cI cZ aq1 uq1) ++ (tm_wMail cI cZ aq2 uq2) ++ [(q3, .inl (cI, 8, .inl (fun _ => 0)))] : va_W) H := hP
  have hD : va_D A ([(h0, .inr (3, [.null, .null, .null, .ref (aq1 0), .ref (aq2 0), .ref q3, .int 0, .int 0, .int 0, .int 0, .int 0, .int 0, .int 0, .int 0, .int 0, .int 0, .int 0, .int 0, .int 0, .int 0]))] ++ (tm_wEcho cI cZ aq1 uq1) ++ (tm_wMail cI cZ aq2 uq2) ++ [(q3, .inl (cI, 8, .inl (fun _ => 0)))] : va_W) := hD
  refine lv_aload_n hx hb dX3_init_99 rfl (lv_at hl 0 rfl) ?_
  refine lv_iconst (v := 0) hx hb dX3_init_100 (by decide) ?_
  refine va_put (D := (dC, dI)) (ci := 3) (v := .int 0) (ty := .int) (C := RX3) (T := TX3) (N := 20) hx hb hts h_in3 tyX3 tyX3_ok nmX3 hown hK hP hD hS 0 rfl rfl 19 (by decide) h_f71 (fun _ h9 => h9) rfl (by decide +kernel) rfl rfl (Nat.le_of_ble_eq_true rfl) dX3_init_101 (fun H locs hP hD hS => ?_)
  have hP : va_P (dC, dI) vwCl ([(h0, .inr (3, [.null, .null, .null, .ref (aq1 0), .ref (aq2 0), .ref q3, .int 0, .int 0, .int 0, .int 0, .int 0, .int 0, .int 0, .int 0, .int 0, .int 0, .int 0, .int 0, .int 0, .int 0]))] ++ (tm_wEcho cI cZ aq1 uq1) ++ (tm_wMail cI cZ aq2 uq2) ++ [(q3, .inl (cI, 8, .inl (fun _ => 0)))] : va_W) H := hP
  have hD : va_D A ([(h0, .inr (3, [.null, .null, .null, .ref (aq1 0), .ref (aq2 0), .ref q3, .int 0, .int 0, .int 0, .int 0, .int 0, .int 0, .int 0, .int 0, .int 0, .int 0, .int 0, .int 0, .int 0, .int 0]))] ++ (tm_wEcho cI cZ aq1 uq1) ++ (tm_wMail cI cZ aq2 uq2) ++ [(q3, .inl (cI, 8, .inl (fun _ => 0)))] : va_W) := hD
  refine lv_aload_n hx hb dX3_init_104 rfl (lv_at hl 0 rfl) ?_
  refine lv_aload_n hx hb dX3_init_105 rfl (lv_at hl 1 rfl) ?_
  refine va_putF (D := (dC, dI)) (ci := 3) (v := .ref p0) (ty := (.object "TwoModems$Line")) (C := RX3) (T := TX3) (N := 20) hx hb hts h_in3 tyX3 tyX3_ok nmX3 hown hK hP hD hS 0 rfl rfl 0 (by decide) h_f74 (fun _ h9 => h9) rfl hin rfl (by decide +kernel) rfl rfl (Nat.le_of_ble_eq_true rfl) dX3_init_106 (fun H locs hP hD hS => ?_)
  have hP : va_P (dC, dI) vwCl ([(h0, .inr (3, [.ref p0, .null, .null, .ref (aq1 0), .ref (aq2 0), .ref q3, .int 0, .int 0, .int 0, .int 0, .int 0, .int 0, .int 0, .int 0, .int 0, .int 0, .int 0, .int 0, .int 0, .int 0]))] ++ (tm_wEcho cI cZ aq1 uq1) ++ (tm_wMail cI cZ aq2 uq2) ++ [(q3, .inl (cI, 8, .inl (fun _ => 0)))] : va_W) H := hP
  have hD : va_D A ([(h0, .inr (3, [.ref p0, .null, .null, .ref (aq1 0), .ref (aq2 0), .ref q3, .int 0, .int 0, .int 0, .int 0, .int 0, .int 0, .int 0, .int 0, .int 0, .int 0, .int 0, .int 0, .int 0, .int 0]))] ++ (tm_wEcho cI cZ aq1 uq1) ++ (tm_wMail cI cZ aq2 uq2) ++ [(q3, .inl (cI, 8, .inl (fun _ => 0)))] : va_W) := hD
  refine lv_aload_n hx hb dX3_init_109 rfl (lv_at hl 0 rfl) ?_
  refine lv_aload_n hx hb dX3_init_110 rfl (lv_at hl 2 rfl) ?_
  refine va_putF (D := (dC, dI)) (ci := 3) (v := .ref p1) (ty := (.object "TwoModems$Way")) (C := RX3) (T := TX3) (N := 20) hx hb hts h_in3 tyX3 tyX3_ok nmX3 hown hK hP hD hS 0 rfl rfl 1 (by decide) h_f78 (fun _ h9 => h9) rfl hin rfl (by decide +kernel) rfl rfl (Nat.le_of_ble_eq_true rfl) dX3_init_111 (fun H locs hP hD hS => ?_)
  have hP : va_P (dC, dI) vwCl ([(h0, .inr (3, [.ref p0, .ref p1, .null, .ref (aq1 0), .ref (aq2 0), .ref q3, .int 0, .int 0, .int 0, .int 0, .int 0, .int 0, .int 0, .int 0, .int 0, .int 0, .int 0, .int 0, .int 0, .int 0]))] ++ (tm_wEcho cI cZ aq1 uq1) ++ (tm_wMail cI cZ aq2 uq2) ++ [(q3, .inl (cI, 8, .inl (fun _ => 0)))] : va_W) H := hP
  have hD : va_D A ([(h0, .inr (3, [.ref p0, .ref p1, .null, .ref (aq1 0), .ref (aq2 0), .ref q3, .int 0, .int 0, .int 0, .int 0, .int 0, .int 0, .int 0, .int 0, .int 0, .int 0, .int 0, .int 0, .int 0, .int 0]))] ++ (tm_wEcho cI cZ aq1 uq1) ++ (tm_wMail cI cZ aq2 uq2) ++ [(q3, .inl (cI, 8, .inl (fun _ => 0)))] : va_W) := hD
  refine lv_aload_n hx hb dX3_init_114 rfl (lv_at hl 0 rfl) ?_
  refine lv_aload_n hx hb dX3_init_115 rfl (lv_at hl 3 rfl) ?_
  refine va_putF (D := (dC, dI)) (ci := 3) (v := .ref p2) (ty := (.object "TwoModems$Way")) (C := RX3) (T := TX3) (N := 20) hx hb hts h_in3 tyX3 tyX3_ok nmX3 hown hK hP hD hS 0 rfl rfl 2 (by decide) h_f82 (fun _ h9 => h9) rfl hin rfl (by decide +kernel) rfl rfl (Nat.le_of_ble_eq_true rfl) dX3_init_116 (fun H locs hP hD hS => ?_)
  have hP : va_P (dC, dI) vwCl ([(h0, .inr (3, [.ref p0, .ref p1, .ref p2, .ref (aq1 0), .ref (aq2 0), .ref q3, .int 0, .int 0, .int 0, .int 0, .int 0, .int 0, .int 0, .int 0, .int 0, .int 0, .int 0, .int 0, .int 0, .int 0]))] ++ (tm_wEcho cI cZ aq1 uq1) ++ (tm_wMail cI cZ aq2 uq2) ++ [(q3, .inl (cI, 8, .inl (fun _ => 0)))] : va_W) H := hP
  have hD : va_D A ([(h0, .inr (3, [.ref p0, .ref p1, .ref p2, .ref (aq1 0), .ref (aq2 0), .ref q3, .int 0, .int 0, .int 0, .int 0, .int 0, .int 0, .int 0, .int 0, .int 0, .int 0, .int 0, .int 0, .int 0, .int 0]))] ++ (tm_wEcho cI cZ aq1 uq1) ++ (tm_wMail cI cZ aq2 uq2) ++ [(q3, .inl (cI, 8, .inl (fun _ => 0)))] : va_W) := hD
  obtain ⟨fa, efa⟩ : ∃ f : Nat → Nat, f = tm_al [h0, aq1 0, aq1 1, aq1 2, aq2 0, aq2 1, aq2 2, q3] := ⟨_, rfl⟩
  have ea0 : fa 0 = h0 := by rw [efa]; rfl
  have ea1 : fa 1 = aq1 0 := by rw [efa]; rfl
  have ea2 : fa 2 = aq1 1 := by rw [efa]; rfl
  have ea3 : fa 3 = aq1 2 := by rw [efa]; rfl
  have ea4 : fa 4 = aq2 0 := by rw [efa]; rfl
  have ea5 : fa 5 = aq2 1 := by rw [efa]; rfl
  have ea6 : fa 6 = aq2 2 := by rw [efa]; rfl
  have ea7 : fa 7 = q3 := by rw [efa]; rfl
  obtain ⟨fs, efs⟩ : ∃ f : tm_St, f = tm_l [fun _ => 0, uq1 0, uq1 1, uq1 2, uq2 0, uq2 1, uq2 2, fun _ => 0] := ⟨_, rfl⟩
  have es0 : fs 0 = fun _ => 0 := by rw [efs]; rfl
  have es1 : fs 1 = uq1 0 := by rw [efs]; rfl
  have es2 : fs 2 = uq1 1 := by rw [efs]; rfl
  have es3 : fs 3 = uq1 2 := by rw [efs]; rfl
  have es4 : fs 4 = uq2 0 := by rw [efs]; rfl
  have es5 : fs 5 = uq2 1 := by rw [efs]; rfl
  have es6 : fs 6 = uq2 2 := by rw [efs]; rfl
  have es7 : fs 7 = fun _ => 0 := by rw [efs]; rfl
  have hP9 : va_P (dC, dI) vwCl (tm_wModemC cI cZ p0 p1 p2 fa fs) H := by unfold tm_wModemC; simp only [ea0, ea1, ea2, ea3, ea4, ea5, ea6, ea7, es0, es1, es2, es3, es4, es5, es6, es7]; exact hP.sub [0, 1, 2, 3, 4, 5, 6, 7] rfl
  have hD9 : va_D A (tm_wModemC cI cZ p0 p1 p2 fa fs) := by unfold tm_wModemC; simp only [ea0, ea1, ea2, ea3, ea4, ea5, ea6, ea7, es0, es1, es2, es3, es4, es5, es6, es7]; exact hD.sub [0, 1, 2, 3, 4, 5, 6, 7] (by decide) rfl
  rw [← efs] at hw
  refine W.widen (k := 7) (n := 426) (Nat.le_of_ble_eq_true rfl) (Nat.le_of_ble_eq_true rfl) ?_
  exact W.vret hx hb hr (fun t ht hW => ⟨⟨(fa, fs), rfl, ⟨ea0, hw⟩, by rw [ht]; exact hP9, va_K.moved hW.alike hK, hD9⟩, hS.F ht⟩) hS.2.2 dX3_init_119
