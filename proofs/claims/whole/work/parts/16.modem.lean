def wp_X3_force (p0 : Int32) (s0 : tm_St) (K : tm_St → Prop) : Prop := (∀ s1 : tm_St, s1 = tm_s s0 0 (tm_u (s0 0) 6 p0) → (∀ s2 : tm_St, s2 = tm_s s1 0 (tm_u (s1 0) 8 0) → K s2))
set_option maxRecDepth 100000 in
set_option maxHeartbeats 4000000 in
theorem kk_X3_force (l : Launch) (dC : Nat → ClassId) (dI : Nat → Nat → Nat) (cI cZ : ClassId) (a : Nat → Nat) (s0 : tm_St) (sz : Nat) (p0 : Int32) (K : tm_St → Prop) (hw : wp_X3_force p0 s0 K) : Met l yX3_force wsX3_force ({ frames := 0, cells := 0, slots := 0, locals := 0 }) (va_Pc [.ref (a 0), .int p0] (tm_Pre dC dI cI cZ (tm_wModem cI cZ a s0) sz)) (va_Qv (fun (u : tm_St) => K u) (fun (u : tm_St) t => tm_At dC dI cI cZ (va_A (tm_wModem cI cZ a s0) sz) (tm_wModem cI cZ a u) t) (va_A (tm_wModem cI cZ a s0) sz)) 0 0 (va_A (tm_wModem cI cZ a s0) sz) := by
  refine Met.ofW (cc := cX3_force) (maxL := 2) (ret := none) (by decide +kernel) rfl ?_
  intro p e z m args below meth c z₁ B hml hv
  obtain ⟨rfl, hsz, hP, hK, hD0⟩ := hv
  have hx := B.exec
  have hb := B.bytes
  have hr := B.returns
  have hts := atoms_spec (ws := wsX3_force) B.pre
  have hown : z.vm.findClass RX3 = some m.cls := findClass_of_methodNamed B.named
  have hlocks := B.notSynchronized
  subst hsz
  have hD := hD0.self (sz := z.heap.size)
  generalize hAe : va_A (tm_wModem cI cZ a s0) z.heap.size = A at hD ⊢
  have hA : ∀ q : Nat, z.heap.size ≤ q → A q := fun q h => by rw [← hAe]; exact Or.inr h
  have hS : va_S A z.heap z.heap [] := va_S.rf
  have h_f31 := hts (.fieldLink RX3 31 "TwoModems$Modem" "phase" "I") (by decide +kernel)
  have h_in3 : ∀ w ∈ u_ws RX3 TX3 20, w ∈ wsX3_force := by decide +kernel
  have h_f38 := hts (.fieldLink RX3 38 "TwoModems$Modem" "lasted" "I") (by decide +kernel)
  have hl := lv_entry ([.ref (a 0), .int p0]) (n := 2) (Nat.le_of_ble_eq_true rfl)
  rw [lg_entry_eq]
  generalize (lg_sl ([.ref (a 0), .int p0]) ++ List.replicate (2 - (lg_sl ([.ref (a 0), .int p0])).length) Slot.unset).toArray = ls at hl ⊢
  have hl : lv_has ls 2 [(0, .ref (a 0)), (1, .int p0)] := hl
  unfold wp_X3_force at hw
  refine lv_aload_n hx hb dX3_force_0 rfl (lv_at hl 0 rfl) ?_
  refine lv_iload_n hx hb dX3_force_1 rfl (lv_at hl 1 rfl) ?_
  refine va_put (D := (dC, dI)) (ci := 3) (v := .int p0) (ty := .int) (C := RX3) (T := TX3) (N := 20) hx hb hts h_in3 tyX3 tyX3_ok nmX3 hown hK hP hD hS 0 rfl rfl 6 (by decide) h_f31 (fun _ h9 => h9) rfl (by decide +kernel) rfl rfl (Nat.le_of_ble_eq_true rfl) dX3_force_2 (fun H locs hP hD hS => ?_)
  obtain ⟨s1, es1⟩ : ∃ y : tm_St, y = tm_s s0 0 (tm_u (s0 0) 6 p0) := ⟨_, rfl⟩
  have hw := hw s1 es1
  have hP : va_P (dC, dI) vwCl (tm_wModem cI cZ a s1) H := by rw [es1]; exact hP
  have hD : va_D A (tm_wModem cI cZ a s1) := by rw [es1]; exact hD
  refine lv_aload_n hx hb dX3_force_5 rfl (lv_at hl 0 rfl) ?_
  refine lv_iconst (v := 0) hx hb dX3_force_6 (by decide) ?_
  refine va_put (D := (dC, dI)) (ci := 3) (v := .int 0) (ty := .int) (C := RX3) (T := TX3) (N := 20) hx hb hts h_in3 tyX3 tyX3_ok nmX3 hown hK hP hD hS 0 rfl rfl 8 (by decide) h_f38 (fun _ h9 => h9) rfl (by decide +kernel) rfl rfl (Nat.le_of_ble_eq_true rfl) dX3_force_7 (fun H locs hP hD hS => ?_)
  obtain ⟨s2, es2⟩ : ∃ y : tm_St, y = tm_s s1 0 (tm_u (s1 0) 8 0) := ⟨_, rfl⟩
  have hw := hw s2 es2
  have hP : va_P (dC, dI) vwCl (tm_wModem cI cZ a s2) H := by rw [es2]; exact hP
  have hD : va_D A (tm_wModem cI cZ a s2) := by rw [es2]; exact hD
  exact W.vret hx hb hr (fun t ht hW => ⟨⟨s2, rfl, hw, by rw [ht]; exact hP, va_K.moved hW.alike hK, hD⟩, hS.F ht⟩) hS.2.2 dX3_force_10
def wp_X3_come_27 (K : tm_St → Prop) : Nat → Int32 → tm_St → Prop
  | 0, _, _ => False
  | n + 1, v2, s => (((8 : Int32) ≤ v2 → K s) ∧ (¬ (8 : Int32) ≤ v2 → (vp_in v2 8 ∧ (∀ s16 : tm_St, s16 = tm_s s 7 (upd (s 7) (v2 : Int32).toNatClampNeg 0) → (∀ x17 : Int32, x17 = v2 + 1 → wp_X3_come_27 K n x17 s16)))))
def wp_X3_come (p0 : Int32) (s0 : tm_St) (K : tm_St → Prop) : Prop := (∀ s1 : tm_St, s1 = tm_s s0 0 (tm_u (s0 0) 6 p0) → (∀ s2 : tm_St, s2 = tm_s s1 0 (tm_u (s1 0) 8 0) → (∀ s3 : tm_St, s3 = tm_s s2 0 (tm_u (s2 0) 7 ((s2 0 7) + 1)) → ((¬ p0 = 3 → ((¬ p0 = 4 → ((¬ p0 = 7 → K s3) ∧ (p0 = 7 → (∀ s7 : tm_St, s7 = tm_s s3 0 (tm_u (s3 0) 13 0) → (∀ s8 : tm_St, s8 = tm_s s7 0 (tm_u (s7 0) 14 0) → (∀ s9 : tm_St, s9 = tm_s s8 0 (tm_u (s8 0) 16 0) → (∀ s10 : tm_St, s10 = tm_s s9 4 (tm_u (s9 4) 5 (s9 4 4)) → (∀ s11 : tm_St, s11 = tm_s s10 0 (tm_u (s10 0) 19 ((s10 0 19) + 1)) → K s11)))))))) ∧ (p0 = 4 → (wp_X0_forget  (tm_pj [1, 2, 3] s3) (fun u13 => ∀ s12 : tm_St, s12 = tm_pk [1, 2, 3] s3 u13 → K s12))))) ∧ (p0 = 3 → ∃ nf : Nat, wp_X3_come_27 K nf 0 s3)))))
set_option maxRecDepth 100000 in
set_option maxHeartbeats 4000000 in
theorem kk_X3_come (l : Launch) (dC : Nat → ClassId) (dI : Nat → Nat → Nat) (cI cZ : ClassId) (a : Nat → Nat) (s0 : tm_St) (sz : Nat) (p0 : Int32) (K : tm_St → Prop) (hw : wp_X3_come p0 s0 K) : Met l yX3_come wsX3_come ({ frames := 1, cells := 0, slots := 0, locals := 21 }) (va_Pc [.ref (a 0), .int p0] (tm_Pre dC dI cI cZ (tm_wModem cI cZ a s0) sz)) (va_Qv (fun (u : tm_St) => K u) (fun (u : tm_St) t => tm_At dC dI cI cZ (va_A (tm_wModem cI cZ a s0) sz) (tm_wModem cI cZ a u) t) (va_A (tm_wModem cI cZ a s0) sz)) 0 0 (va_A (tm_wModem cI cZ a s0) sz) := by
  refine Met.ofW (cc := cX3_come) (maxL := 3) (ret := none) (by decide +kernel) rfl ?_
  intro p e z m args below meth c z₁ B hml hv
  obtain ⟨rfl, hsz, hP, hK, hD0⟩ := hv
  have hx := B.exec
  have hb := B.bytes
  have hr := B.returns
  have hts := atoms_spec (ws := wsX3_come) B.pre
  have hown : z.vm.findClass RX3 = some m.cls := findClass_of_methodNamed B.named
  have hlocks := B.notSynchronized
  subst hsz
  have hD := hD0.self (sz := z.heap.size)
  generalize hAe : va_A (tm_wModem cI cZ a s0) z.heap.size = A at hD ⊢
  have hA : ∀ q : Nat, z.heap.size ≤ q → A q := fun q h => by rw [← hAe]; exact Or.inr h
  have hS : va_S A z.heap z.heap [] := va_S.rf
  have h_f31 := hts (.fieldLink RX3 31 "TwoModems$Modem" "phase" "I") (by decide +kernel)
  have h_in3 : ∀ w ∈ u_ws RX3 TX3 20, w ∈ wsX3_come := by decide +kernel
  have h_f38 := hts (.fieldLink RX3 38 "TwoModems$Modem" "lasted" "I") (by decide +kernel)
  have h_f35 := hts (.fieldLink RX3 35 "TwoModems$Modem" "changes" "I") (by decide +kernel)
  have h_f53 := hts (.fieldLink RX3 53 "TwoModems$Modem" "credit" "I") (by decide +kernel)
  have h_f56 := hts (.fieldLink RX3 56 "TwoModems$Modem" "waited" "I") (by decide +kernel)
  have h_f62 := hts (.fieldLink RX3 62 "TwoModems$Modem" "losses" "I") (by decide +kernel)
  have h_f21 := hts (.fieldLink RX3 21 "TwoModems$Modem" "mail" "LTwoModems$Mail;") (by decide +kernel)
  have h_f91 := hts (.fieldLink RX3 91 "TwoModems$Mail" "told" "I") (by decide +kernel)
  have h_in2 : ∀ w ∈ u_ws RX2 TX2 8, w ∈ wsX3_come := by decide +kernel
  have h_f88 := hts (.fieldLink RX3 88 "TwoModems$Mail" "next" "I") (by decide +kernel)
  have h_f71 := hts (.fieldLink RX3 71 "TwoModems$Modem" "datas" "I") (by decide +kernel)
  have h_f12 := hts (.fieldLink RX3 12 "TwoModems$Modem" "echo" "LTwoModems$Echo;") (by decide +kernel)
  have h_f25 := hts (.fieldLink RX3 25 "TwoModems$Modem" "noted" "[I") (by decide +kernel)
  have b27 : ∀ (n : Nat) (v2 : Int32) (s : tm_St) (H : Heap) (locs : List Loc) (ls : Array Slot), wp_X3_come_27 K n v2 s → va_P (dC, dI) vwCl (tm_wModem cI cZ a s) H → va_D A (tm_wModem cI cZ a s) → va_S A z.heap H locs → lv_has ls 3 [(0, .ref (a 0)), (2, .int v2)] → W p l e (headSpec wsX3_come ({ frames := 1, cells := 0, slots := 0, locals := 21 })).room z m (([.ref (a 0), .int p0] : List Value).toArray) below meth c H locs 0 0 (MQ below (va_Qv (fun (u : tm_St) => K u) (fun (u : tm_St) t => tm_At dC dI cI cZ A (tm_wModem cI cZ a u) t) A) (([.ref (a 0), .int p0] : List Value).toArray) z 0 0 A) (F0 m 27 ls []) := by
    intro n
    induction n with
    | zero => intro v2 s H locs ls hw hP hD hS hl; unfold wp_X3_come_27 at hw; exact hw.elim
    | succ n ih =>
      intro v2 s H locs ls hw hP hD hS hl
      unfold wp_X3_come_27 at hw
      refine lv_iload_n hx hb dX3_come_27 rfl (lv_at hl 1 rfl) ?_
      refine lv_bipush (v := 8) hx hb dX3_come_28 (by decide) ?_
      refine lv_icmp_ge (tgt := 46) hx hb dX3_come_30 (by decide) (fun c14 => ?_) (fun c14 => ?_)
      · have hw := hw.1 c14
        refine lv_goto (tgt := 109) hx hb dX3_come_46 (by decide) ?_
        exact W.vret hx hb hr (fun t ht hW => ⟨⟨s, rfl, hw, by rw [ht]; exact hP, va_K.moved hW.alike hK, hD⟩, hS.F ht⟩) hS.2.2 dX3_come_109
      · have hw := hw.2 c14
        refine lv_aload_n hx hb dX3_come_33 rfl (lv_at hl 0 rfl) ?_
        refine va_get (D := (dC, dI)) (ci := 3) (v := .ref (a 7)) (C := RX3) (T := TX3) (N := 20) hx hb hts h_in3 hown hK hP 0 rfl rfl 5 (by decide) h_f25 (fun _ h9 => h9) rfl dX3_come_34 ?_
        refine lv_iload_n hx hb dX3_come_37 rfl (lv_at hl 1 rfl) ?_
        refine lv_iconst (v := 0) hx hb dX3_come_38 (by decide) ?_
        have c15 := hw.1
        have hw := hw.2
        refine va_iast hx hb hK hP hD hS 7 0 rfl rfl c15 dX3_come_39 (fun H locs hP hD hS => ?_)
        obtain ⟨s16, es16⟩ : ∃ y : tm_St, y = tm_s s 7 (upd (s 7) (v2 : Int32).toNatClampNeg 0) := ⟨_, rfl⟩
        have hw := hw s16 es16
        have hP : va_P (dC, dI) vwCl (tm_wModem cI cZ a s16) H := by rw [es16]; exact hP
        have hD : va_D A (tm_wModem cI cZ a s16) := by rw [es16]; exact hD
        obtain ⟨x17, ex17⟩ : ∃ y : Int32, y = v2 + 1 := ⟨_, rfl⟩
        have hw := hw x17 ex17
        refine lv_iinc (v := x17) (lv' := [(2, .int x17), (0, .ref (a 0))]) hx hb dX3_come_40 hl (k := 1) rfl (by rw [ex17]; rfl) (by decide) rfl (fun ls hl => ?_)
        refine lv_goto (tgt := 27) hx hb dX3_come_43 (by decide) ?_
        exact ih x17 s16 _ _ _ hw hP hD hS (lv_sub hl [1, 0] rfl)
  have hl := lv_entry ([.ref (a 0), .int p0]) (n := 3) (Nat.le_of_ble_eq_true rfl)
  rw [lg_entry_eq]
  generalize (lg_sl ([.ref (a 0), .int p0]) ++ List.replicate (3 - (lg_sl ([.ref (a 0), .int p0])).length) Slot.unset).toArray = ls at hl ⊢
  have hl : lv_has ls 3 [(0, .ref (a 0)), (1, .int p0)] := hl
  unfold wp_X3_come at hw
  refine lv_aload_n hx hb dX3_come_0 rfl (lv_at hl 0 rfl) ?_
  refine lv_iload_n hx hb dX3_come_1 rfl (lv_at hl 1 rfl) ?_
  refine va_put (D := (dC, dI)) (ci := 3) (v := .int p0) (ty := .int) (C := RX3) (T := TX3) (N := 20) hx hb hts h_in3 tyX3 tyX3_ok nmX3 hown hK hP hD hS 0 rfl rfl 6 (by decide) h_f31 (fun _ h9 => h9) rfl (by decide +kernel) rfl rfl (Nat.le_of_ble_eq_true rfl) dX3_come_2 (fun H locs hP hD hS => ?_)
  obtain ⟨s1, es1⟩ : ∃ y : tm_St, y = tm_s s0 0 (tm_u (s0 0) 6 p0) := ⟨_, rfl⟩
  have hw := hw s1 es1
  have hP : va_P (dC, dI) vwCl (tm_wModem cI cZ a s1) H := by rw [es1]; exact hP
  have hD : va_D A (tm_wModem cI cZ a s1) := by rw [es1]; exact hD
  refine lv_aload_n hx hb dX3_come_5 rfl (lv_at hl 0 rfl) ?_
  refine lv_iconst (v := 0) hx hb dX3_come_6 (by decide) ?_
  refine va_put (D := (dC, dI)) (ci := 3) (v := .int 0) (ty := .int) (C := RX3) (T := TX3) (N := 20) hx hb hts h_in3 tyX3 tyX3_ok nmX3 hown hK hP hD hS 0 rfl rfl 8 (by decide) h_f38 (fun _ h9 => h9) rfl (by decide +kernel) rfl rfl (Nat.le_of_ble_eq_true rfl) dX3_come_7 (fun H locs hP hD hS => ?_)
  obtain ⟨s2, es2⟩ : ∃ y : tm_St, y = tm_s s1 0 (tm_u (s1 0) 8 0) := ⟨_, rfl⟩
  have hw := hw s2 es2
  have hP : va_P (dC, dI) vwCl (tm_wModem cI cZ a s2) H := by rw [es2]; exact hP
  have hD : va_D A (tm_wModem cI cZ a s2) := by rw [es2]; exact hD
  refine lv_aload_n hx hb dX3_come_10 rfl (lv_at hl 0 rfl) ?_
  refine lv_dup hx hb dX3_come_11 rfl ?_
  refine va_get (D := (dC, dI)) (ci := 3) (v := .int (s2 0 7)) (C := RX3) (T := TX3) (N := 20) hx hb hts h_in3 hown hK hP 0 rfl rfl 7 (by decide) h_f35 (fun _ h9 => h9) rfl dX3_come_12 ?_
  refine lv_iconst (v := 1) hx hb dX3_come_15 (by decide) ?_
  refine lv_iadd hx hb dX3_come_16 ?_
  refine va_put (D := (dC, dI)) (ci := 3) (v := .int ((s2 0 7) + 1)) (ty := .int) (C := RX3) (T := TX3) (N := 20) hx hb hts h_in3 tyX3 tyX3_ok nmX3 hown hK hP hD hS 0 rfl rfl 7 (by decide) h_f35 (fun _ h9 => h9) rfl (by decide +kernel) rfl rfl (Nat.le_of_ble_eq_true rfl) dX3_come_17 (fun H locs hP hD hS => ?_)
  obtain ⟨s3, es3⟩ : ∃ y : tm_St, y = tm_s s2 0 (tm_u (s2 0) 7 ((s2 0 7) + 1)) := ⟨_, rfl⟩
  have hw := hw s3 es3
  have hP : va_P (dC, dI) vwCl (tm_wModem cI cZ a s3) H := by rw [es3]; exact hP
  have hD : va_D A (tm_wModem cI cZ a s3) := by rw [es3]; exact hD
  refine lv_iload_n hx hb dX3_come_20 rfl (lv_at hl 1 rfl) ?_
  refine lv_iconst (v := 3) hx hb dX3_come_21 (by decide) ?_
  refine lv_icmp_ne (tgt := 49) hx hb dX3_come_22 (by decide) (fun c4 => ?_) (fun c4 => ?_)
  · have hw := hw.1 c4
    refine lv_iload_n hx hb dX3_come_49 rfl (lv_at hl 1 rfl) ?_
    refine lv_iconst (v := 4) hx hb dX3_come_50 (by decide) ?_
    refine lv_icmp_ne (tgt := 64) hx hb dX3_come_51 (by decide) (fun c5 => ?_) (fun c5 => ?_)
    · have hw := hw.1 c5
      refine lv_iload_n hx hb dX3_come_64 rfl (lv_at hl 1 rfl) ?_
      refine lv_bipush (v := 7) hx hb dX3_come_65 (by decide) ?_
      refine lv_icmp_ne (tgt := 109) hx hb dX3_come_67 (by decide) (fun c6 => ?_) (fun c6 => ?_)
      · have hw := hw.1 c6
        exact W.vret hx hb hr (fun t ht hW => ⟨⟨s3, rfl, hw, by rw [ht]; exact hP, va_K.moved hW.alike hK, hD⟩, hS.F ht⟩) hS.2.2 dX3_come_109
      · have hw := hw.2 c6
        refine lv_aload_n hx hb dX3_come_70 rfl (lv_at hl 0 rfl) ?_
        refine lv_iconst (v := 0) hx hb dX3_come_71 (by decide) ?_
        refine va_put (D := (dC, dI)) (ci := 3) (v := .int 0) (ty := .int) (C := RX3) (T := TX3) (N := 20) hx hb hts h_in3 tyX3 tyX3_ok nmX3 hown hK hP hD hS 0 rfl rfl 13 (by decide) h_f53 (fun _ h9 => h9) rfl (by decide +kernel) rfl rfl (Nat.le_of_ble_eq_true rfl) dX3_come_72 (fun H locs hP hD hS => ?_)
        obtain ⟨s7, es7⟩ : ∃ y : tm_St, y = tm_s s3 0 (tm_u (s3 0) 13 0) := ⟨_, rfl⟩
        have hw := hw s7 es7
        have hP : va_P (dC, dI) vwCl (tm_wModem cI cZ a s7) H := by rw [es7]; exact hP
        have hD : va_D A (tm_wModem cI cZ a s7) := by rw [es7]; exact hD
        refine lv_aload_n hx hb dX3_come_75 rfl (lv_at hl 0 rfl) ?_
        refine lv_iconst (v := 0) hx hb dX3_come_76 (by decide) ?_
        refine va_put (D := (dC, dI)) (ci := 3) (v := .int 0) (ty := .int) (C := RX3) (T := TX3) (N := 20) hx hb hts h_in3 tyX3 tyX3_ok nmX3 hown hK hP hD hS 0 rfl rfl 14 (by decide) h_f56 (fun _ h9 => h9) rfl (by decide +kernel) rfl rfl (Nat.le_of_ble_eq_true rfl) dX3_come_77 (fun H locs hP hD hS => ?_)
        obtain ⟨s8, es8⟩ : ∃ y : tm_St, y = tm_s s7 0 (tm_u (s7 0) 14 0) := ⟨_, rfl⟩
        have hw := hw s8 es8
        have hP : va_P (dC, dI) vwCl (tm_wModem cI cZ a s8) H := by rw [es8]; exact hP
        have hD : va_D A (tm_wModem cI cZ a s8) := by rw [es8]; exact hD
        refine lv_aload_n hx hb dX3_come_80 rfl (lv_at hl 0 rfl) ?_
        refine lv_iconst (v := 0) hx hb dX3_come_81 (by decide) ?_
        refine va_put (D := (dC, dI)) (ci := 3) (v := .int 0) (ty := .int) (C := RX3) (T := TX3) (N := 20) hx hb hts h_in3 tyX3 tyX3_ok nmX3 hown hK hP hD hS 0 rfl rfl 16 (by decide) h_f62 (fun _ h9 => h9) rfl (by decide +kernel) rfl rfl (Nat.le_of_ble_eq_true rfl) dX3_come_82 (fun H locs hP hD hS => ?_)
        obtain ⟨s9, es9⟩ : ∃ y : tm_St, y = tm_s s8 0 (tm_u (s8 0) 16 0) := ⟨_, rfl⟩
        have hw := hw s9 es9
        have hP : va_P (dC, dI) vwCl (tm_wModem cI cZ a s9) H := by rw [es9]; exact hP
        have hD : va_D A (tm_wModem cI cZ a s9) := by rw [es9]; exact hD
        refine lv_aload_n hx hb dX3_come_85 rfl (lv_at hl 0 rfl) ?_
        refine va_get (D := (dC, dI)) (ci := 3) (v := .ref (a 4)) (C := RX3) (T := TX3) (N := 20) hx hb hts h_in3 hown hK hP 0 rfl rfl 4 (by decide) h_f21 (fun _ h9 => h9) rfl dX3_come_86 ?_
        refine lv_aload_n hx hb dX3_come_89 rfl (lv_at hl 0 rfl) ?_
        refine va_get (D := (dC, dI)) (ci := 3) (v := .ref (a 4)) (C := RX3) (T := TX3) (N := 20) hx hb hts h_in3 hown hK hP 0 rfl rfl 4 (by decide) h_f21 (fun _ h9 => h9) rfl dX3_come_90 ?_
        refine va_get (D := (dC, dI)) (ci := 2) (v := .int (s9 4 4)) (C := RX2) (T := TX2) (N := 8) hx hb hts h_in2 hown hK hP 4 rfl rfl 4 (by decide) h_f91 (fun _ h9 => h9) rfl dX3_come_93 ?_
        refine va_put (D := (dC, dI)) (ci := 2) (v := .int (s9 4 4)) (ty := .int) (C := RX2) (T := TX2) (N := 8) hx hb hts h_in2 tyX2 tyX2_ok nmX2 hown hK hP hD hS 4 rfl rfl 5 (by decide) h_f88 (fun _ h9 => h9) rfl (by decide +kernel) rfl rfl (Nat.le_of_ble_eq_true rfl) dX3_come_96 (fun H locs hP hD hS => ?_)
        obtain ⟨s10, es10⟩ : ∃ y : tm_St, y = tm_s s9 4 (tm_u (s9 4) 5 (s9 4 4)) := ⟨_, rfl⟩
        have hw := hw s10 es10
        have hP : va_P (dC, dI) vwCl (tm_wModem cI cZ a s10) H := by rw [es10]; exact hP
        have hD : va_D A (tm_wModem cI cZ a s10) := by rw [es10]; exact hD
        refine lv_aload_n hx hb dX3_come_99 rfl (lv_at hl 0 rfl) ?_
        refine lv_dup hx hb dX3_come_100 rfl ?_
        refine va_get (D := (dC, dI)) (ci := 3) (v := .int (s10 0 19)) (C := RX3) (T := TX3) (N := 20) hx hb hts h_in3 hown hK hP 0 rfl rfl 19 (by decide) h_f71 (fun _ h9 => h9) rfl dX3_come_101 ?_
        refine lv_iconst (v := 1) hx hb dX3_come_104 (by decide) ?_
        refine lv_iadd hx hb dX3_come_105 ?_
        refine va_put (D := (dC, dI)) (ci := 3) (v := .int ((s10 0 19) + 1)) (ty := .int) (C := RX3) (T := TX3) (N := 20) hx hb hts h_in3 tyX3 tyX3_ok nmX3 hown hK hP hD hS 0 rfl rfl 19 (by decide) h_f71 (fun _ h9 => h9) rfl (by decide +kernel) rfl rfl (Nat.le_of_ble_eq_true rfl) dX3_come_106 (fun H locs hP hD hS => ?_)
        obtain ⟨s11, es11⟩ : ∃ y : tm_St, y = tm_s s10 0 (tm_u (s10 0) 19 ((s10 0 19) + 1)) := ⟨_, rfl⟩
        have hw := hw s11 es11
        have hP : va_P (dC, dI) vwCl (tm_wModem cI cZ a s11) H := by rw [es11]; exact hP
        have hD : va_D A (tm_wModem cI cZ a s11) := by rw [es11]; exact hD
        exact W.vret hx hb hr (fun t ht hW => ⟨⟨s11, rfl, hw, by rw [ht]; exact hP, va_K.moved hW.alike hK, hD⟩, hS.F ht⟩) hS.2.2 dX3_come_109
    · have hw := hw.2 c5
      refine lv_aload_n hx hb dX3_come_54 rfl (lv_at hl 0 rfl) ?_
      refine va_get (D := (dC, dI)) (ci := 3) (v := .ref (a 1)) (C := RX3) (T := TX3) (N := 20) hx hb hts h_in3 hown hK hP 0 rfl rfl 3 (by decide) h_f12 (fun _ h9 => h9) rfl dX3_come_55 ?_
      have hPc := hP.sub (ws' := (tm_wEcho cI cZ (tm_pj [1, 2, 3] a) (tm_pj [1, 2, 3] s3))) [1, 2, 3] rfl
      have hDc := hD.sub (ws' := (tm_wEcho cI cZ (tm_pj [1, 2, 3] a) (tm_pj [1, 2, 3] s3))) [1, 2, 3] (by decide) rfl
      have hFc := va_free (wc := (tm_wEcho cI cZ (tm_pj [1, 2, 3] a) (tm_pj [1, 2, 3] s3))) hD hS hA [1, 2, 3] rfl
      refine va_callv (va_runV (As := []) (rest := []) ⟨hx, hb, hml, hown, hts⟩ (kk_X0_forget l dC dI cI cZ (tm_pj [1, 2, 3] a) (tm_pj [1, 2, 3] s3) H.size  _ hw) (cwV 0 hts gX3_come_X0_forget rfl rfl rfl (by decide +kernel) ⟨Nat.le_of_ble_eq_true rfl, Nat.le_of_ble_eq_true rfl⟩) ⟨tm_blind, va_recv hK hPc (ci := 0) (q0 := 0) rfl rfl, fun U hU hW => ⟨rfl, by rw [hU], by rw [hU]; exact hPc, va_K.moved hW.alike hK, hDc.weaken (fun _ _ _ _ => trivial)⟩⟩ rfl rfl hl.1 rfl (lv_room (Nat.le_of_ble_eq_true rfl)) dX3_come_58 ⟨Nat.zero_le _, Nat.zero_le _⟩) hS (fun q _ h => hFc q h) hFc (fun u t H1 locs ht hvm hw hB hz1 hk1 hS => ?_)
      obtain ⟨hP1, hK1, hD1⟩ := hB
      rw [ht] at hP1
      obtain ⟨hP, hD⟩ := va_join (wr := ([0, 4, 5, 6, 7, 8, 9, 10, 11, 12, 13, 14, 15, 16, 17, 18] : List Nat).filterMap (fun i => (tm_wModem cI cZ a s3)[i]?)) (w1 := (tm_wEcho cI cZ (tm_pj [1, 2, 3] a) u)) hP hD [1, 2, 3] [0, 4, 5, 6, 7, 8, 9, 10, 11, 12, 13, 14, 15, 16, 17, 18] rfl rfl (by decide) (by decide) hk1 hFc hP1 hD1
      generalize H1 = H at hP hS ⊢
      obtain ⟨s12, es12⟩ : ∃ y : tm_St, y = tm_pk [1, 2, 3] s3 u := ⟨_, rfl⟩
      have hw := hw s12 es12
      have hP : va_P (dC, dI) vwCl (tm_wModem cI cZ a s12) H := by rw [es12]; exact hP.sub [0, 16, 17, 18, 1, 2, 3, 4, 5, 6, 7, 8, 9, 10, 11, 12, 13, 14, 15] rfl
      have hD : va_D A (tm_wModem cI cZ a s12) := by rw [es12]; exact hD.sub [0, 16, 17, 18, 1, 2, 3, 4, 5, 6, 7, 8, 9, 10, 11, 12, 13, 14, 15] (by decide) rfl
      refine lv_goto (tgt := 109) hx hb dX3_come_61 (by decide) ?_
      exact W.vret hx hb hr (fun t ht hW => ⟨⟨s12, rfl, hw, by rw [ht]; exact hP, va_K.moved hW.alike hK, hD⟩, hS.F ht⟩) hS.2.2 dX3_come_109
  · have hw := hw.2 c4
    refine lv_iconst (v := 0) hx hb dX3_come_25 (by decide) ?_
    refine lv_istore_n (lv' := [(2, .int 0), (0, .ref (a 0)), (1, .int p0)]) hx hb dX3_come_26 rfl hl (by decide) rfl (fun ls hl => ?_)
    obtain ⟨nf, hw⟩ := hw
    exact b27 nf 0 s3 _ _ _ hw hP hD hS (lv_sub hl [1, 0] rfl)
def wp_X3_surrender_40 (K : tm_St → Prop) (v1 : Int32) (t0 : Int32) (s : tm_St) : Prop := ((¬ t0 = 0 → (∀ s4 : tm_St, s4 = tm_s s 0 (tm_u (s 0) 17 ((s 0 17) + 1)) → (wp_X3_come 0 s4 (fun s5 => K s5)))) ∧ (t0 = 0 → ((v1 = 0 → K s) ∧ (¬ v1 = 0 → (((s 0 9) < 16 → K s) ∧ (¬ (s 0 9) < 16 → (∀ s8 : tm_St, s8 = tm_s s 0 (tm_u (s 0) 17 ((s 0 17) + 1)) → (wp_X3_come 0 s8 (fun s9 => K s9)))))))))
def wp_X3_surrender  (s0 : tm_St) (K : tm_St → Prop) : Prop := ((¬ (s0 0 6) = 7 → (((s0 0 6) = 0 → wp_X3_surrender_40 K 0 0 s0) ∧ (¬ (s0 0 6) = 0 → (((s0 0 8) < 60 → wp_X3_surrender_40 K 0 0 s0) ∧ (¬ (s0 0 8) < 60 → wp_X3_surrender_40 K 0 1 s0))))) ∧ ((s0 0 6) = 7 → (((s0 0 6) = 0 → wp_X3_surrender_40 K 1 0 s0) ∧ (¬ (s0 0 6) = 0 → wp_X3_surrender_40 K 1 0 s0))))
set_option maxRecDepth 100000 in
set_option maxHeartbeats 4000000 in
theorem kk_X3_surrender (l : Launch) (dC : Nat → ClassId) (dI : Nat → Nat → Nat) (cI cZ : ClassId) (a : Nat → Nat) (s0 : tm_St) (sz : Nat)  (K : tm_St → Prop) (hw : wp_X3_surrender s0 K) : Met l yX3_surrender wsX3_surrender ({ frames := 2, cells := 0, slots := 0, locals := 43 }) (va_Pc [.ref (a 0)] (tm_Pre dC dI cI cZ (tm_wModem cI cZ a s0) sz)) (va_Qv (fun (u : tm_St) => K u) (fun (u : tm_St) t => tm_At dC dI cI cZ (va_A (tm_wModem cI cZ a s0) sz) (tm_wModem cI cZ a u) t) (va_A (tm_wModem cI cZ a s0) sz)) 0 0 (va_A (tm_wModem cI cZ a s0) sz) := by
  refine Met.ofW (cc := cX3_surrender) (maxL := 3) (ret := none) (by decide +kernel) rfl ?_
  intro p e z m args below meth c z₁ B hml hv
  obtain ⟨rfl, hsz, hP, hK, hD0⟩ := hv
  have hx := B.exec
  have hb := B.bytes
  have hr := B.returns
  have hts := atoms_spec (ws := wsX3_surrender) B.pre
  have hown : z.vm.findClass RX3 = some m.cls := findClass_of_methodNamed B.named
  have hlocks := B.notSynchronized
  subst hsz
  have hD := hD0.self (sz := z.heap.size)
  generalize hAe : va_A (tm_wModem cI cZ a s0) z.heap.size = A at hD ⊢
  have hA : ∀ q : Nat, z.heap.size ≤ q → A q := fun q h => by rw [← hAe]; exact Or.inr h
  have hS : va_S A z.heap z.heap [] := va_S.rf
  have h_f31 := hts (.fieldLink RX3 31 "TwoModems$Modem" "phase" "I") (by decide +kernel)
  have h_in3 : ∀ w ∈ u_ws RX3 TX3 20, w ∈ wsX3_surrender := by decide +kernel
  have h_f65 := hts (.fieldLink RX3 65 "TwoModems$Modem" "surrenders" "I") (by decide +kernel)
  have h_f41 := hts (.fieldLink RX3 41 "TwoModems$Modem" "silences" "I") (by decide +kernel)
  have h_f38 := hts (.fieldLink RX3 38 "TwoModems$Modem" "lasted" "I") (by decide +kernel)
  have b40 : ∀ (v1 : Int32) (t0 : Int32) (s : tm_St) (H : Heap) (locs : List Loc) (ls : Array Slot), wp_X3_surrender_40 K v1 t0 s → va_P (dC, dI) vwCl (tm_wModem cI cZ a s) H → va_D A (tm_wModem cI cZ a s) → va_S A z.heap H locs → lv_has ls 3 [(0, .ref (a 0)), (1, .int v1)] → W p l e (headSpec wsX3_surrender ({ frames := 2, cells := 0, slots := 0, locals := 43 })).room z m (([.ref (a 0)] : List Value).toArray) below meth c H locs 0 0 (MQ below (va_Qv (fun (u : tm_St) => K u) (fun (u : tm_St) t => tm_At dC dI cI cZ A (tm_wModem cI cZ a u) t) A) (([.ref (a 0)] : List Value).toArray) z 0 0 A) (F0 m 40 ls [.int t0]) := by
    intro v1 t0 s H locs ls hw hP hD hS hl
    unfold wp_X3_surrender_40 at hw
    refine lv_istore_n (lv' := [(2, .int t0), (0, .ref (a 0)), (1, .int v1)]) hx hb dX3_surrender_40 rfl hl (by decide) rfl (fun ls hl => ?_)
    refine lv_iload_n hx hb dX3_surrender_41 rfl (lv_at hl 0 rfl) ?_
    refine lv_if_ne (tgt := 58) hx hb dX3_surrender_42 (by decide) (fun c3 => ?_) (fun c3 => ?_)
    · have hw := hw.1 c3
      refine lv_aload_n hx hb dX3_surrender_58 rfl (lv_at hl 1 rfl) ?_
      refine lv_dup hx hb dX3_surrender_59 rfl ?_
      refine va_get (D := (dC, dI)) (ci := 3) (v := .int (s 0 17)) (C := RX3) (T := TX3) (N := 20) hx hb hts h_in3 hown hK hP 0 rfl rfl 17 (by decide) h_f65 (fun _ h9 => h9) rfl dX3_surrender_60 ?_
      refine lv_iconst (v := 1) hx hb dX3_surrender_63 (by decide) ?_
      refine lv_iadd hx hb dX3_surrender_64 ?_
      refine va_put (D := (dC, dI)) (ci := 3) (v := .int ((s 0 17) + 1)) (ty := .int) (C := RX3) (T := TX3) (N := 20) hx hb hts h_in3 tyX3 tyX3_ok nmX3 hown hK hP hD hS 0 rfl rfl 17 (by decide) h_f65 (fun _ h9 => h9) rfl (by decide +kernel) rfl rfl (Nat.le_of_ble_eq_true rfl) dX3_surrender_65 (fun H locs hP hD hS => ?_)
      obtain ⟨s4, es4⟩ : ∃ y : tm_St, y = tm_s s 0 (tm_u (s 0) 17 ((s 0 17) + 1)) := ⟨_, rfl⟩
      have hw := hw s4 es4
      have hP : va_P (dC, dI) vwCl (tm_wModem cI cZ a s4) H := by rw [es4]; exact hP
      have hD : va_D A (tm_wModem cI cZ a s4) := by rw [es4]; exact hD
      refine lv_aload_n hx hb dX3_surrender_68 rfl (lv_at hl 1 rfl) ?_
      refine lv_iconst (v := 0) hx hb dX3_surrender_69 (by decide) ?_
      have hPc := hP
      have hDc := hD
      have hFc := va_free (wc := (tm_wModem cI cZ a s4)) hD hS hA [0, 1, 2, 3, 4, 5, 6, 7, 8, 9, 10, 11, 12, 13, 14, 15, 16, 17, 18] rfl
      refine va_callv (va_runV (As := [.int 0]) (rest := []) ⟨hx, hb, hml, hown, hts⟩ (kk_X3_come l dC dI cI cZ a s4 H.size 0 _ hw) (cwV 1 hts gX3_surrender_X3_come rfl rfl rfl (by decide +kernel) ⟨Nat.le_of_ble_eq_true rfl, Nat.le_of_ble_eq_true rfl⟩) ⟨tm_blind, va_recv hK hPc (ci := 3) (q0 := 0) rfl rfl, fun U hU hW => ⟨rfl, by rw [hU], by rw [hU]; exact hPc, va_K.moved hW.alike hK, hDc.weaken (fun _ _ _ _ => trivial)⟩⟩ rfl rfl hl.1 rfl (lv_room (Nat.le_of_ble_eq_true rfl)) dX3_surrender_70 ⟨Nat.zero_le _, Nat.zero_le _⟩) hS (fun q _ h => hFc q h) hFc (fun s5 t H1 locs ht hvm hw hB hz1 hk1 hS => ?_)
      obtain ⟨hP1, hK1, hD1⟩ := hB
      rw [ht] at hP1
      obtain ⟨hP, hD⟩ := va_join (wr := []) (w1 := (tm_wModem cI cZ a s5)) hP hD [0, 1, 2, 3, 4, 5, 6, 7, 8, 9, 10, 11, 12, 13, 14, 15, 16, 17, 18] [] rfl rfl (by decide) (by decide) hk1 hFc hP1 hD1
      generalize H1 = H at hP hS ⊢
      have hP : va_P (dC, dI) vwCl (tm_wModem cI cZ a s5) H := hP
      have hD : va_D A (tm_wModem cI cZ a s5) := hD
      exact W.vret hx hb hr (fun t ht hW => ⟨⟨s5, rfl, hw, by rw [ht]; exact hP, va_K.moved hW.alike hK, hD⟩, hS.F ht⟩) hS.2.2 dX3_surrender_73
    · have hw := hw.2 c3
      refine lv_iload_n hx hb dX3_surrender_45 rfl (lv_at hl 2 rfl) ?_
      refine lv_if_eq (tgt := 73) hx hb dX3_surrender_46 (by decide) (fun c6 => ?_) (fun c6 => ?_)
      · have hw := hw.1 c6
        exact W.vret hx hb hr (fun t ht hW => ⟨⟨s, rfl, hw, by rw [ht]; exact hP, va_K.moved hW.alike hK, hD⟩, hS.F ht⟩) hS.2.2 dX3_surrender_73
      · have hw := hw.2 c6
        refine lv_aload_n hx hb dX3_surrender_49 rfl (lv_at hl 1 rfl) ?_
        refine va_get (D := (dC, dI)) (ci := 3) (v := .int (s 0 9)) (C := RX3) (T := TX3) (N := 20) hx hb hts h_in3 hown hK hP 0 rfl rfl 9 (by decide) h_f41 (fun _ h9 => h9) rfl dX3_surrender_50 ?_
        refine lv_bipush (v := 16) hx hb dX3_surrender_53 (by decide) ?_
        refine lv_icmp_lt (tgt := 73) hx hb dX3_surrender_55 (by decide) (fun c7 => ?_) (fun c7 => ?_)
        · have hw := hw.1 c7
          exact W.vret hx hb hr (fun t ht hW => ⟨⟨s, rfl, hw, by rw [ht]; exact hP, va_K.moved hW.alike hK, hD⟩, hS.F ht⟩) hS.2.2 dX3_surrender_73
        · have hw := hw.2 c7
          refine lv_aload_n hx hb dX3_surrender_58 rfl (lv_at hl 1 rfl) ?_
          refine lv_dup hx hb dX3_surrender_59 rfl ?_
          refine va_get (D := (dC, dI)) (ci := 3) (v := .int (s 0 17)) (C := RX3) (T := TX3) (N := 20) hx hb hts h_in3 hown hK hP 0 rfl rfl 17 (by decide) h_f65 (fun _ h9 => h9) rfl dX3_surrender_60 ?_
          refine lv_iconst (v := 1) hx hb dX3_surrender_63 (by decide) ?_
          refine lv_iadd hx hb dX3_surrender_64 ?_
          refine va_put (D := (dC, dI)) (ci := 3) (v := .int ((s 0 17) + 1)) (ty := .int) (C := RX3) (T := TX3) (N := 20) hx hb hts h_in3 tyX3 tyX3_ok nmX3 hown hK hP hD hS 0 rfl rfl 17 (by decide) h_f65 (fun _ h9 => h9) rfl (by decide +kernel) rfl rfl (Nat.le_of_ble_eq_true rfl) dX3_surrender_65 (fun H locs hP hD hS => ?_)
          obtain ⟨s8, es8⟩ : ∃ y : tm_St, y = tm_s s 0 (tm_u (s 0) 17 ((s 0 17) + 1)) := ⟨_, rfl⟩
          have hw := hw s8 es8
          have hP : va_P (dC, dI) vwCl (tm_wModem cI cZ a s8) H := by rw [es8]; exact hP
          have hD : va_D A (tm_wModem cI cZ a s8) := by rw [es8]; exact hD
          refine lv_aload_n hx hb dX3_surrender_68 rfl (lv_at hl 1 rfl) ?_
          refine lv_iconst (v := 0) hx hb dX3_surrender_69 (by decide) ?_
          have hPc := hP
          have hDc := hD
          have hFc := va_free (wc := (tm_wModem cI cZ a s8)) hD hS hA [0, 1, 2, 3, 4, 5, 6, 7, 8, 9, 10, 11, 12, 13, 14, 15, 16, 17, 18] rfl
          refine va_callv (va_runV (As := [.int 0]) (rest := []) ⟨hx, hb, hml, hown, hts⟩ (kk_X3_come l dC dI cI cZ a s8 H.size 0 _ hw) (cwV 1 hts gX3_surrender_X3_come rfl rfl rfl (by decide +kernel) ⟨Nat.le_of_ble_eq_true rfl, Nat.le_of_ble_eq_true rfl⟩) ⟨tm_blind, va_recv hK hPc (ci := 3) (q0 := 0) rfl rfl, fun U hU hW => ⟨rfl, by rw [hU], by rw [hU]; exact hPc, va_K.moved hW.alike hK, hDc.weaken (fun _ _ _ _ => trivial)⟩⟩ rfl rfl hl.1 rfl (lv_room (Nat.le_of_ble_eq_true rfl)) dX3_surrender_70 ⟨Nat.zero_le _, Nat.zero_le _⟩) hS (fun q _ h => hFc q h) hFc (fun s9 t H1 locs ht hvm hw hB hz1 hk1 hS => ?_)
          obtain ⟨hP1, hK1, hD1⟩ := hB
          rw [ht] at hP1
          obtain ⟨hP, hD⟩ := va_join (wr := []) (w1 := (tm_wModem cI cZ a s9)) hP hD [0, 1, 2, 3, 4, 5, 6, 7, 8, 9, 10, 11, 12, 13, 14, 15, 16, 17, 18] [] rfl rfl (by decide) (by decide) hk1 hFc hP1 hD1
          generalize H1 = H at hP hS ⊢
          have hP : va_P (dC, dI) vwCl (tm_wModem cI cZ a s9) H := hP
          have hD : va_D A (tm_wModem cI cZ a s9) := hD
          exact W.vret hx hb hr (fun t ht hW => ⟨⟨s9, rfl, hw, by rw [ht]; exact hP, va_K.moved hW.alike hK, hD⟩, hS.F ht⟩) hS.2.2 dX3_surrender_73
  have hl := lv_entry ([.ref (a 0)]) (n := 3) (Nat.le_of_ble_eq_true rfl)
  rw [lg_entry_eq]
  generalize (lg_sl ([.ref (a 0)]) ++ List.replicate (3 - (lg_sl ([.ref (a 0)])).length) Slot.unset).toArray = ls at hl ⊢
  have hl : lv_has ls 3 [(0, .ref (a 0))] := hl
  unfold wp_X3_surrender at hw
  refine lv_aload_n hx hb dX3_surrender_0 rfl (lv_at hl 0 rfl) ?_
  refine va_get (D := (dC, dI)) (ci := 3) (v := .int (s0 0 6)) (C := RX3) (T := TX3) (N := 20) hx hb hts h_in3 hown hK hP 0 rfl rfl 6 (by decide) h_f31 (fun _ h9 => h9) rfl dX3_surrender_1 ?_
  refine lv_bipush (v := 7) hx hb dX3_surrender_4 (by decide) ?_
  refine lv_icmp_ne (tgt := 13) hx hb dX3_surrender_6 (by decide) (fun c1 => ?_) (fun c1 => ?_)
  · have hw := hw.1 c1
    refine lv_iconst (v := 0) hx hb dX3_surrender_13 (by decide) ?_
    refine lv_istore_n (lv' := [(1, .int 0), (0, .ref (a 0))]) hx hb dX3_surrender_14 rfl hl (by decide) rfl (fun ls hl => ?_)
    refine lv_aload_n hx hb dX3_surrender_15 rfl (lv_at hl 1 rfl) ?_
    refine va_get (D := (dC, dI)) (ci := 3) (v := .int (s0 0 6)) (C := RX3) (T := TX3) (N := 20) hx hb hts h_in3 hown hK hP 0 rfl rfl 6 (by decide) h_f31 (fun _ h9 => h9) rfl dX3_surrender_16 ?_
    refine lv_if_eq (tgt := 39) hx hb dX3_surrender_19 (by decide) (fun c2 => ?_) (fun c2 => ?_)
    · have hw := hw.1 c2
      refine lv_iconst (v := 0) hx hb dX3_surrender_39 (by decide) ?_
      exact b40 0 0 s0 _ _ _ hw hP hD hS (lv_sub hl [1, 0] rfl)
    · have hw := hw.2 c2
      refine lv_iload_n hx hb dX3_surrender_22 rfl (lv_at hl 0 rfl) ?_
      refine lv_if_ne (tgt := 39) hx hb dX3_surrender_23 (by decide) (fun c9 => absurd (by decide) c9) (fun _ => ?_)
      refine lv_aload_n hx hb dX3_surrender_26 rfl (lv_at hl 1 rfl) ?_
      refine va_get (D := (dC, dI)) (ci := 3) (v := .int (s0 0 8)) (C := RX3) (T := TX3) (N := 20) hx hb hts h_in3 hown hK hP 0 rfl rfl 8 (by decide) h_f38 (fun _ h9 => h9) rfl dX3_surrender_27 ?_
      refine lv_bipush (v := 60) hx hb dX3_surrender_30 (by decide) ?_
      refine lv_icmp_lt (tgt := 39) hx hb dX3_surrender_32 (by decide) (fun c10 => ?_) (fun c10 => ?_)
      · have hw := hw.1 c10
        refine lv_iconst (v := 0) hx hb dX3_surrender_39 (by decide) ?_
        exact b40 0 0 s0 _ _ _ hw hP hD hS (lv_sub hl [1, 0] rfl)
      · have hw := hw.2 c10
        refine lv_iconst (v := 1) hx hb dX3_surrender_35 (by decide) ?_
        refine lv_goto (tgt := 40) hx hb dX3_surrender_36 (by decide) ?_
        exact b40 0 1 s0 _ _ _ hw hP hD hS (lv_sub hl [1, 0] rfl)
  · have hw := hw.2 c1
    refine lv_iconst (v := 1) hx hb dX3_surrender_9 (by decide) ?_
    refine lv_goto (tgt := 14) hx hb dX3_surrender_10 (by decide) ?_
    refine lv_istore_n (lv' := [(1, .int 1), (0, .ref (a 0))]) hx hb dX3_surrender_14 rfl hl (by decide) rfl (fun ls hl => ?_)
    refine lv_aload_n hx hb dX3_surrender_15 rfl (lv_at hl 1 rfl) ?_
    refine va_get (D := (dC, dI)) (ci := 3) (v := .int (s0 0 6)) (C := RX3) (T := TX3) (N := 20) hx hb hts h_in3 hown hK hP 0 rfl rfl 6 (by decide) h_f31 (fun _ h9 => h9) rfl dX3_surrender_16 ?_
    refine lv_if_eq (tgt := 39) hx hb dX3_surrender_19 (by decide) (fun c11 => ?_) (fun c11 => ?_)
    · have hw := hw.1 c11
      refine lv_iconst (v := 0) hx hb dX3_surrender_39 (by decide) ?_
      exact b40 1 0 s0 _ _ _ hw hP hD hS (lv_sub hl [1, 0] rfl)
    · have hw := hw.2 c11
      refine lv_iload_n hx hb dX3_surrender_22 rfl (lv_at hl 0 rfl) ?_
      refine lv_if_ne (tgt := 39) hx hb dX3_surrender_23 (by decide) (fun _ => ?_) (fun c9 => absurd c9 (by decide))
      refine lv_iconst (v := 0) hx hb dX3_surrender_39 (by decide) ?_
      exact b40 1 0 s0 _ _ _ hw hP hD hS (lv_sub hl [1, 0] rfl)
def wp_X3_speakProbe (p0 : Int32) (s0 : tm_St) (K : tm_St → Prop) : Prop := (((8 : Int32) ≤ (s0 0 8) → (wp_X7_send p0 0 0 0 0 0 (tm_pj [14, 15, 16, 17, 18] s0) (fun u3 => ∀ s2 : tm_St, s2 = tm_pk [14, 15, 16, 17, 18] s0 u3 → K s2))) ∧ (¬ (8 : Int32) ≤ (s0 0 8) → (wp_X7_send p0 3 (s0 0 8) 0 0 0 (tm_pj [14, 15, 16, 17, 18] s0) (fun u5 => ∀ s4 : tm_St, s4 = tm_pk [14, 15, 16, 17, 18] s0 u5 → K s4))))
set_option maxRecDepth 100000 in
set_option maxHeartbeats 4000000 in
theorem kk_X3_speakProbe (l : Launch) (dC : Nat → ClassId) (dI : Nat → Nat → Nat) (cI cZ : ClassId) (a : Nat → Nat) (s0 : tm_St) (sz : Nat) (p0 : Int32) (K : tm_St → Prop) (hw : wp_X3_speakProbe p0 s0 K) : Met l yX3_speakProbe wsX3_speakProbe ({ frames := 1, cells := 0, slots := 0, locals := 28 }) (va_Pc [.ref (a 0), .int p0] (tm_Pre dC dI cI cZ (tm_wModem cI cZ a s0) sz)) (va_Qv (fun (u : tm_St) => K u) (fun (u : tm_St) t => tm_At dC dI cI cZ (va_A (tm_wModem cI cZ a s0) sz) (tm_wModem cI cZ a u) t) (va_A (tm_wModem cI cZ a s0) sz)) 0 0 (va_A (tm_wModem cI cZ a s0) sz) := by
  refine Met.ofW (cc := cX3_speakProbe) (maxL := 2) (ret := none) (by decide +kernel) rfl ?_
  intro p e z m args below meth c z₁ B hml hv
  obtain ⟨rfl, hsz, hP, hK, hD0⟩ := hv
  have hx := B.exec
  have hb := B.bytes
  have hr := B.returns
  have hts := atoms_spec (ws := wsX3_speakProbe) B.pre
  have hown : z.vm.findClass RX3 = some m.cls := findClass_of_methodNamed B.named
  have hlocks := B.notSynchronized
  subst hsz
  have hD := hD0.self (sz := z.heap.size)
  generalize hAe : va_A (tm_wModem cI cZ a s0) z.heap.size = A at hD ⊢
  have hA : ∀ q : Nat, z.heap.size ≤ q → A q := fun q h => by rw [← hAe]; exact Or.inr h
  have hS : va_S A z.heap z.heap [] := va_S.rf
  have h_f38 := hts (.fieldLink RX3 38 "TwoModems$Modem" "lasted" "I") (by decide +kernel)
  have h_in3 : ∀ w ∈ u_ws RX3 TX3 20, w ∈ wsX3_speakProbe := by decide +kernel
  have h_f82 := hts (.fieldLink RX3 82 "TwoModems$Modem" "out" "LTwoModems$Way;") (by decide +kernel)
  have hl := lv_entry ([.ref (a 0), .int p0]) (n := 2) (Nat.le_of_ble_eq_true rfl)
  rw [lg_entry_eq]
  generalize (lg_sl ([.ref (a 0), .int p0]) ++ List.replicate (2 - (lg_sl ([.ref (a 0), .int p0])).length) Slot.unset).toArray = ls at hl ⊢
  have hl : lv_has ls 2 [(0, .ref (a 0)), (1, .int p0)] := hl
  unfold wp_X3_speakProbe at hw
  refine lv_aload_n hx hb dX3_speakProbe_0 rfl (lv_at hl 0 rfl) ?_
  refine va_get (D := (dC, dI)) (ci := 3) (v := .int (s0 0 8)) (C := RX3) (T := TX3) (N := 20) hx hb hts h_in3 hown hK hP 0 rfl rfl 8 (by decide) h_f38 (fun _ h9 => h9) rfl dX3_speakProbe_1 ?_
  refine lv_bipush (v := 8) hx hb dX3_speakProbe_4 (by decide) ?_
  refine lv_icmp_ge (tgt := 28) hx hb dX3_speakProbe_6 (by decide) (fun c1 => ?_) (fun c1 => ?_)
  · have hw := hw.1 c1
    refine lv_aload_n hx hb dX3_speakProbe_28 rfl (lv_at hl 0 rfl) ?_
    refine va_get (D := (dC, dI)) (ci := 3) (v := .ref (a 14)) (C := RX3) (T := TX3) (N := 20) hx hb hts h_in3 hown hK hP 0 rfl rfl 2 (by decide) h_f82 (fun _ h9 => h9) rfl dX3_speakProbe_29 ?_
    refine lv_iload_n hx hb dX3_speakProbe_32 rfl (lv_at hl 1 rfl) ?_
    refine lv_iconst (v := 0) hx hb dX3_speakProbe_33 (by decide) ?_
    refine lv_iconst (v := 0) hx hb dX3_speakProbe_34 (by decide) ?_
    refine lv_iconst (v := 0) hx hb dX3_speakProbe_35 (by decide) ?_
    refine lv_iconst (v := 0) hx hb dX3_speakProbe_36 (by decide) ?_
    refine lv_iconst (v := 0) hx hb dX3_speakProbe_37 (by decide) ?_
    have hPc := hP.sub (ws' := (tm_wWay cI cZ (tm_pj [14, 15, 16, 17, 18] a) (tm_pj [14, 15, 16, 17, 18] s0))) [14, 15, 16, 17, 18] rfl
    have hDc := hD.sub (ws' := (tm_wWay cI cZ (tm_pj [14, 15, 16, 17, 18] a) (tm_pj [14, 15, 16, 17, 18] s0))) [14, 15, 16, 17, 18] (by decide) rfl
    have hFc := va_free (wc := (tm_wWay cI cZ (tm_pj [14, 15, 16, 17, 18] a) (tm_pj [14, 15, 16, 17, 18] s0))) hD hS hA [14, 15, 16, 17, 18] rfl
    refine va_callv (va_runV (As := [.int p0, .int 0, .int 0, .int 0, .int 0, .int 0]) (rest := []) ⟨hx, hb, hml, hown, hts⟩ (kk_X7_send l dC dI cI cZ (tm_pj [14, 15, 16, 17, 18] a) (tm_pj [14, 15, 16, 17, 18] s0) z.heap.size p0 0 0 0 0 0 _ hw) (cwV 6 hts gX3_speakProbe_X7_send rfl rfl rfl (by decide +kernel) ⟨Nat.le_of_ble_eq_true rfl, Nat.le_of_ble_eq_true rfl⟩) ⟨tm_blind, va_recv hK hPc (ci := 5) (q0 := 0) rfl rfl, fun U hU hW => ⟨rfl, by rw [hU], by rw [hU]; exact hPc, va_K.moved hW.alike hK, hDc.weaken (fun _ _ _ _ => trivial)⟩⟩ rfl rfl hl.1 rfl (lv_room (Nat.le_of_ble_eq_true rfl)) dX3_speakProbe_38 ⟨Nat.zero_le _, Nat.zero_le _⟩) hS (fun q _ h => hFc q h) hFc (fun u t H1 locs ht hvm hw hB hz1 hk1 hS => ?_)
    obtain ⟨hP1, hK1, hD1⟩ := hB
    rw [ht] at hP1
    obtain ⟨hP, hD⟩ := va_join (wr := ([0, 1, 2, 3, 4, 5, 6, 7, 8, 9, 10, 11, 12, 13] : List Nat).filterMap (fun i => (tm_wModem cI cZ a s0)[i]?)) (w1 := (tm_wWay cI cZ (tm_pj [14, 15, 16, 17, 18] a) u)) hP hD [14, 15, 16, 17, 18] [0, 1, 2, 3, 4, 5, 6, 7, 8, 9, 10, 11, 12, 13] rfl rfl (by decide) (by decide) hk1 hFc hP1 hD1
    generalize H1 = H at hP hS ⊢
    obtain ⟨s2, es2⟩ : ∃ y : tm_St, y = tm_pk [14, 15, 16, 17, 18] s0 u := ⟨_, rfl⟩
    have hw := hw s2 es2
    have hP : va_P (dC, dI) vwCl (tm_wModem cI cZ a s2) H := by rw [es2]; exact hP.sub [0, 1, 2, 3, 4, 5, 6, 7, 8, 9, 10, 11, 12, 13, 14, 15, 16, 17, 18] rfl
    have hD : va_D A (tm_wModem cI cZ a s2) := by rw [es2]; exact hD.sub [0, 1, 2, 3, 4, 5, 6, 7, 8, 9, 10, 11, 12, 13, 14, 15, 16, 17, 18] (by decide) rfl
    exact W.vret hx hb hr (fun t ht hW => ⟨⟨s2, rfl, hw, by rw [ht]; exact hP, va_K.moved hW.alike hK, hD⟩, hS.F ht⟩) hS.2.2 dX3_speakProbe_41
  · have hw := hw.2 c1
    refine lv_aload_n hx hb dX3_speakProbe_9 rfl (lv_at hl 0 rfl) ?_
    refine va_get (D := (dC, dI)) (ci := 3) (v := .ref (a 14)) (C := RX3) (T := TX3) (N := 20) hx hb hts h_in3 hown hK hP 0 rfl rfl 2 (by decide) h_f82 (fun _ h9 => h9) rfl dX3_speakProbe_10 ?_
    refine lv_iload_n hx hb dX3_speakProbe_13 rfl (lv_at hl 1 rfl) ?_
    refine lv_iconst (v := 3) hx hb dX3_speakProbe_14 (by decide) ?_
    refine lv_aload_n hx hb dX3_speakProbe_15 rfl (lv_at hl 0 rfl) ?_
    refine va_get (D := (dC, dI)) (ci := 3) (v := .int (s0 0 8)) (C := RX3) (T := TX3) (N := 20) hx hb hts h_in3 hown hK hP 0 rfl rfl 8 (by decide) h_f38 (fun _ h9 => h9) rfl dX3_speakProbe_16 ?_
    refine lv_iconst (v := 0) hx hb dX3_speakProbe_19 (by decide) ?_
    refine lv_iconst (v := 0) hx hb dX3_speakProbe_20 (by decide) ?_
    refine lv_iconst (v := 0) hx hb dX3_speakProbe_21 (by decide) ?_
    have hPc := hP.sub (ws' := (tm_wWay cI cZ (tm_pj [14, 15, 16, 17, 18] a) (tm_pj [14, 15, 16, 17, 18] s0))) [14, 15, 16, 17, 18] rfl
    have hDc := hD.sub (ws' := (tm_wWay cI cZ (tm_pj [14, 15, 16, 17, 18] a) (tm_pj [14, 15, 16, 17, 18] s0))) [14, 15, 16, 17, 18] (by decide) rfl
    have hFc := va_free (wc := (tm_wWay cI cZ (tm_pj [14, 15, 16, 17, 18] a) (tm_pj [14, 15, 16, 17, 18] s0))) hD hS hA [14, 15, 16, 17, 18] rfl
    refine va_callv (va_runV (As := [.int p0, .int 3, .int (s0 0 8), .int 0, .int 0, .int 0]) (rest := []) ⟨hx, hb, hml, hown, hts⟩ (kk_X7_send l dC dI cI cZ (tm_pj [14, 15, 16, 17, 18] a) (tm_pj [14, 15, 16, 17, 18] s0) z.heap.size p0 3 (s0 0 8) 0 0 0 _ hw) (cwV 6 hts gX3_speakProbe_X7_send rfl rfl rfl (by decide +kernel) ⟨Nat.le_of_ble_eq_true rfl, Nat.le_of_ble_eq_true rfl⟩) ⟨tm_blind, va_recv hK hPc (ci := 5) (q0 := 0) rfl rfl, fun U hU hW => ⟨rfl, by rw [hU], by rw [hU]; exact hPc, va_K.moved hW.alike hK, hDc.weaken (fun _ _ _ _ => trivial)⟩⟩ rfl rfl hl.1 rfl (lv_room (Nat.le_of_ble_eq_true rfl)) dX3_speakProbe_22 ⟨Nat.zero_le _, Nat.zero_le _⟩) hS (fun q _ h => hFc q h) hFc (fun u t H1 locs ht hvm hw hB hz1 hk1 hS => ?_)
    obtain ⟨hP1, hK1, hD1⟩ := hB
    rw [ht] at hP1
    obtain ⟨hP, hD⟩ := va_join (wr := ([0, 1, 2, 3, 4, 5, 6, 7, 8, 9, 10, 11, 12, 13] : List Nat).filterMap (fun i => (tm_wModem cI cZ a s0)[i]?)) (w1 := (tm_wWay cI cZ (tm_pj [14, 15, 16, 17, 18] a) u)) hP hD [14, 15, 16, 17, 18] [0, 1, 2, 3, 4, 5, 6, 7, 8, 9, 10, 11, 12, 13] rfl rfl (by decide) (by decide) hk1 hFc hP1 hD1
    generalize H1 = H at hP hS ⊢
    obtain ⟨s4, es4⟩ : ∃ y : tm_St, y = tm_pk [14, 15, 16, 17, 18] s0 u := ⟨_, rfl⟩
    have hw := hw s4 es4
    have hP : va_P (dC, dI) vwCl (tm_wModem cI cZ a s4) H := by rw [es4]; exact hP.sub [0, 1, 2, 3, 4, 5, 6, 7, 8, 9, 10, 11, 12, 13, 14, 15, 16, 17, 18] rfl
    have hD : va_D A (tm_wModem cI cZ a s4) := by rw [es4]; exact hD.sub [0, 1, 2, 3, 4, 5, 6, 7, 8, 9, 10, 11, 12, 13, 14, 15, 16, 17, 18] (by decide) rfl
    refine lv_goto (tgt := 41) hx hb dX3_speakProbe_25 (by decide) ?_
    exact W.vret hx hb hr (fun t ht hW => ⟨⟨s4, rfl, hw, by rw [ht]; exact hP, va_K.moved hW.alike hK, hD⟩, hS.F ht⟩) hS.2.2 dX3_speakProbe_41
def wp_X3_speakFrame_64 (K : tm_St → Prop) : Nat → Int32 → Int32 → Int32 → tm_St → Prop
  | 0, _, _, _, _ => False
  | n + 1, v1, v2, v3, s => ((v2 ≤ v3 → (∀ s9 : tm_St, s9 = tm_s s 0 (tm_u (s 0) 13 ((s 0 13) - (8 * v2))) → K s9)) ∧ (¬ v2 ≤ v3 → (wp_X2_pass  (tm_pj [4, 5, 6] s) (fun r10 u12 => ∀ s11 : tm_St, s11 = tm_pk [4, 5, 6] s u12 → (wp_X7_enclose v1 v3 r10 (tm_pj [14, 15, 16, 17, 18] s11) (fun u14 => ∀ s13 : tm_St, s13 = tm_pk [14, 15, 16, 17, 18] s11 u14 → (∀ x15 : Int32, x15 = v3 + 1 → wp_X3_speakFrame_64 K n v1 v2 x15 s13)))))))
def wp_X3_speakFrame (p0 : Int32) (s0 : tm_St) (K : tm_St → Prop) : Prop := (∀ x1 : Int32, x1 = (if ((s0 0 13) + (s0 0 12)) < 24 then ((s0 0 13) + (s0 0 12)) else 24) → (∀ s2 : tm_St, s2 = tm_s s0 0 (tm_u (s0 0) 13 x1) → (wp_X2_ready ((s2 0 13) / 8) (tm_pj [4, 5, 6] s2) (fun r3 u5 => ∀ s4 : tm_St, s4 = tm_pk [4, 5, 6] s2 u5 → (wp_X7_send p0 7 (s4 0 10) (s4 4 5) r3 (s4 4 3) (tm_pj [14, 15, 16, 17, 18] s4) (fun u7 => ∀ s6 : tm_St, s6 = tm_pk [14, 15, 16, 17, 18] s4 u7 → ∃ nf : Nat, wp_X3_speakFrame_64 K nf p0 r3 0 s6))))))
set_option maxRecDepth 100000 in
set_option maxHeartbeats 4000000 in
theorem kk_X3_speakFrame (l : Launch) (dC : Nat → ClassId) (dI : Nat → Nat → Nat) (cI cZ : ClassId) (a : Nat → Nat) (s0 : tm_St) (sz : Nat) (p0 : Int32) (K : tm_St → Prop) (hw : wp_X3_speakFrame p0 s0 K) : Met l yX3_speakFrame wsX3_speakFrame ({ frames := 2, cells := 0, slots := 0, locals := 35 }) (va_Pc [.ref (a 0), .int p0] (tm_Pre dC dI cI cZ (tm_wModem cI cZ a s0) sz)) (va_Qv (fun (u : tm_St) => K u) (fun (u : tm_St) t => tm_At dC dI cI cZ (va_A (tm_wModem cI cZ a s0) sz) (tm_wModem cI cZ a u) t) (va_A (tm_wModem cI cZ a s0) sz)) 0 0 (va_A (tm_wModem cI cZ a s0) sz) := by
  refine Met.ofW (cc := cX3_speakFrame) (maxL := 4) (ret := none) (by decide +kernel) rfl ?_
  intro p e z m args below meth c z₁ B hml hv
  obtain ⟨rfl, hsz, hP, hK, hD0⟩ := hv
  have hx := B.exec
  have hb := B.bytes
  have hr := B.returns
  have hts := atoms_spec (ws := wsX3_speakFrame) B.pre
  have hown : z.vm.findClass RX3 = some m.cls := findClass_of_methodNamed B.named
  have hlocks := B.notSynchronized
  subst hsz
  have hD := hD0.self (sz := z.heap.size)
  generalize hAe : va_A (tm_wModem cI cZ a s0) z.heap.size = A at hD ⊢
  have hA : ∀ q : Nat, z.heap.size ≤ q → A q := fun q h => by rw [← hAe]; exact Or.inr h
  have hS : va_S A z.heap z.heap [] := va_S.rf
  have h_f53 := hts (.fieldLink RX3 53 "TwoModems$Modem" "credit" "I") (by decide +kernel)
  have h_in3 : ∀ w ∈ u_ws RX3 TX3 20, w ∈ wsX3_speakFrame := by decide +kernel
  have h_f50 := hts (.fieldLink RX3 50 "TwoModems$Modem" "rate" "I") (by decide +kernel)
  have h_m158 := hts (.methodLink RX3 158 Lib.Math.min.name) (by decide +kernel)
  have h_ms_min := hts (.static Lib.Math.min.name) (by decide +kernel)
  have h_mi := hts (.initialized "java/lang/Math") (by decide +kernel)
  have h_mc_min := hts (.code Lib.Math.min.name Lib.Math.min.code 2 (some .int)) (by decide +kernel)
  have h_f21 := hts (.fieldLink RX3 21 "TwoModems$Modem" "mail" "LTwoModems$Mail;") (by decide +kernel)
  have h_f82 := hts (.fieldLink RX3 82 "TwoModems$Modem" "out" "LTwoModems$Way;") (by decide +kernel)
  have h_f44 := hts (.fieldLink RX3 44 "TwoModems$Modem" "round" "I") (by decide +kernel)
  have h_f88 := hts (.fieldLink RX3 88 "TwoModems$Mail" "next" "I") (by decide +kernel)
  have h_in2 : ∀ w ∈ u_ws RX2 TX2 8, w ∈ wsX3_speakFrame := by decide +kernel
  have h_f94 := hts (.fieldLink RX3 94 "TwoModems$Mail" "taken" "I") (by decide +kernel)
  have b64 : ∀ (n : Nat) (v1 : Int32) (v2 : Int32) (v3 : Int32) (s : tm_St) (H : Heap) (locs : List Loc) (ls : Array Slot), wp_X3_speakFrame_64 K n v1 v2 v3 s → va_P (dC, dI) vwCl (tm_wModem cI cZ a s) H → va_D A (tm_wModem cI cZ a s) → va_S A z.heap H locs → lv_has ls 4 [(0, .ref (a 0)), (1, .int v1), (2, .int v2), (3, .int v3)] → W p l e (headSpec wsX3_speakFrame ({ frames := 2, cells := 0, slots := 0, locals := 35 })).room z m (([.ref (a 0), .int p0] : List Value).toArray) below meth c H locs 0 0 (MQ below (va_Qv (fun (u : tm_St) => K u) (fun (u : tm_St) t => tm_At dC dI cI cZ A (tm_wModem cI cZ a u) t) A) (([.ref (a 0), .int p0] : List Value).toArray) z 0 0 A) (F0 m 64 ls []) := by
    intro n
    induction n with
    | zero => intro v1 v2 v3 s H locs ls hw hP hD hS hl; unfold wp_X3_speakFrame_64 at hw; exact hw.elim
    | succ n ih =>
      intro v1 v2 v3 s H locs ls hw hP hD hS hl
      unfold wp_X3_speakFrame_64 at hw
      refine lv_iload_n hx hb dX3_speakFrame_64 rfl (lv_at hl 3 rfl) ?_
      refine lv_iload_n hx hb dX3_speakFrame_65 rfl (lv_at hl 2 rfl) ?_
      refine lv_icmp_ge (tgt := 91) hx hb dX3_speakFrame_66 (by decide) (fun c8 => ?_) (fun c8 => ?_)
      · have hw := hw.1 c8
        refine lv_aload_n hx hb dX3_speakFrame_91 rfl (lv_at hl 0 rfl) ?_
        refine lv_dup hx hb dX3_speakFrame_92 rfl ?_
        refine va_get (D := (dC, dI)) (ci := 3) (v := .int (s 0 13)) (C := RX3) (T := TX3) (N := 20) hx hb hts h_in3 hown hK hP 0 rfl rfl 13 (by decide) h_f53 (fun _ h9 => h9) rfl dX3_speakFrame_93 ?_
        refine lv_bipush (v := 8) hx hb dX3_speakFrame_96 (by decide) ?_
        refine lv_iload_n hx hb dX3_speakFrame_98 rfl (lv_at hl 2 rfl) ?_
        refine lv_imul hx hb dX3_speakFrame_99 ?_
        refine lv_isub hx hb dX3_speakFrame_100 ?_
        refine va_put (D := (dC, dI)) (ci := 3) (v := .int ((s 0 13) - (8 * v2))) (ty := .int) (C := RX3) (T := TX3) (N := 20) hx hb hts h_in3 tyX3 tyX3_ok nmX3 hown hK hP hD hS 0 rfl rfl 13 (by decide) h_f53 (fun _ h9 => h9) rfl (by decide +kernel) rfl rfl (Nat.le_of_ble_eq_true rfl) dX3_speakFrame_101 (fun H locs hP hD hS => ?_)
        obtain ⟨s9, es9⟩ : ∃ y : tm_St, y = tm_s s 0 (tm_u (s 0) 13 ((s 0 13) - (8 * v2))) := ⟨_, rfl⟩
        have hw := hw s9 es9
        have hP : va_P (dC, dI) vwCl (tm_wModem cI cZ a s9) H := by rw [es9]; exact hP
        have hD : va_D A (tm_wModem cI cZ a s9) := by rw [es9]; exact hD
        exact W.vret hx hb hr (fun t ht hW => ⟨⟨s9, rfl, hw, by rw [ht]; exact hP, va_K.moved hW.alike hK, hD⟩, hS.F ht⟩) hS.2.2 dX3_speakFrame_104
      · have hw := hw.2 c8
        refine lv_aload_n hx hb dX3_speakFrame_69 rfl (lv_at hl 0 rfl) ?_
        refine va_get (D := (dC, dI)) (ci := 3) (v := .ref (a 14)) (C := RX3) (T := TX3) (N := 20) hx hb hts h_in3 hown hK hP 0 rfl rfl 2 (by decide) h_f82 (fun _ h9 => h9) rfl dX3_speakFrame_70 ?_
        refine lv_iload_n hx hb dX3_speakFrame_73 rfl (lv_at hl 1 rfl) ?_
        refine lv_iload_n hx hb dX3_speakFrame_74 rfl (lv_at hl 3 rfl) ?_
        refine lv_aload_n hx hb dX3_speakFrame_75 rfl (lv_at hl 0 rfl) ?_
        refine va_get (D := (dC, dI)) (ci := 3) (v := .ref (a 4)) (C := RX3) (T := TX3) (N := 20) hx hb hts h_in3 hown hK hP 0 rfl rfl 4 (by decide) h_f21 (fun _ h9 => h9) rfl dX3_speakFrame_76 ?_
        have hPc := hP.sub (ws' := (tm_wMail cI cZ (tm_pj [4, 5, 6] a) (tm_pj [4, 5, 6] s))) [4, 5, 6] rfl
        have hDc := hD.sub (ws' := (tm_wMail cI cZ (tm_pj [4, 5, 6] a) (tm_pj [4, 5, 6] s))) [4, 5, 6] (by decide) rfl
        have hFc := va_free (wc := (tm_wMail cI cZ (tm_pj [4, 5, 6] a) (tm_pj [4, 5, 6] s))) hD hS hA [4, 5, 6] rfl
        refine va_calli (va_runV (As := []) (rest := [.int v3, .int v1, .ref (a 14)]) ⟨hx, hb, hml, hown, hts⟩ (kk_X2_pass l dC dI cI cZ (tm_pj [4, 5, 6] a) (tm_pj [4, 5, 6] s) H.size  _ hw) (cwV 0 hts gX3_speakFrame_X2_pass rfl rfl rfl (by decide +kernel) ⟨Nat.le_of_ble_eq_true rfl, Nat.le_of_ble_eq_true rfl⟩) ⟨tm_blind, va_recv hK hPc (ci := 2) (q0 := 0) rfl rfl, fun U hU hW => ⟨rfl, by rw [hU], by rw [hU]; exact hPc, va_K.moved hW.alike hK, hDc.weaken (fun _ _ _ _ => trivial)⟩⟩ rfl rfl hl.1 rfl (lv_room (Nat.le_of_ble_eq_true rfl)) dX3_speakFrame_79 ⟨Nat.zero_le _, Nat.zero_le _⟩) hS (fun q _ h => hFc q h) hFc (fun r10 u t H1 locs ht hvm hw hB hz1 hk1 hS => ?_)
        obtain ⟨hP1, hK1, hD1⟩ := hB
        rw [ht] at hP1
        obtain ⟨hP, hD⟩ := va_join (wr := ([0, 1, 2, 3, 7, 8, 9, 10, 11, 12, 13, 14, 15, 16, 17, 18] : List Nat).filterMap (fun i => (tm_wModem cI cZ a s)[i]?)) (w1 := (tm_wMail cI cZ (tm_pj [4, 5, 6] a) u)) hP hD [4, 5, 6] [0, 1, 2, 3, 7, 8, 9, 10, 11, 12, 13, 14, 15, 16, 17, 18] rfl rfl (by decide) (by decide) hk1 hFc hP1 hD1
        generalize H1 = H at hP hS ⊢
        obtain ⟨s11, es11⟩ : ∃ y : tm_St, y = tm_pk [4, 5, 6] s u := ⟨_, rfl⟩
        have hw := hw s11 es11
        have hP : va_P (dC, dI) vwCl (tm_wModem cI cZ a s11) H := by rw [es11]; exact hP.sub [0, 1, 2, 3, 16, 17, 18, 4, 5, 6, 7, 8, 9, 10, 11, 12, 13, 14, 15] rfl
        have hD : va_D A (tm_wModem cI cZ a s11) := by rw [es11]; exact hD.sub [0, 1, 2, 3, 16, 17, 18, 4, 5, 6, 7, 8, 9, 10, 11, 12, 13, 14, 15] (by decide) rfl
        have hPc := hP.sub (ws' := (tm_wWay cI cZ (tm_pj [14, 15, 16, 17, 18] a) (tm_pj [14, 15, 16, 17, 18] s11))) [14, 15, 16, 17, 18] rfl
        have hDc := hD.sub (ws' := (tm_wWay cI cZ (tm_pj [14, 15, 16, 17, 18] a) (tm_pj [14, 15, 16, 17, 18] s11))) [14, 15, 16, 17, 18] (by decide) rfl
        have hFc := va_free (wc := (tm_wWay cI cZ (tm_pj [14, 15, 16, 17, 18] a) (tm_pj [14, 15, 16, 17, 18] s11))) hD hS hA [14, 15, 16, 17, 18] rfl
        refine va_callv (va_runV (As := [.int v1, .int v3, .int r10]) (rest := []) ⟨hx, hb, hml, hown, hts⟩ (kk_X7_enclose l dC dI cI cZ (tm_pj [14, 15, 16, 17, 18] a) (tm_pj [14, 15, 16, 17, 18] s11) H.size v1 v3 r10 _ hw) (cwV 3 hts gX3_speakFrame_X7_enclose rfl rfl rfl (by decide +kernel) ⟨Nat.le_of_ble_eq_true rfl, Nat.le_of_ble_eq_true rfl⟩) ⟨tm_blind, va_recv hK hPc (ci := 5) (q0 := 0) rfl rfl, fun U hU hW => ⟨rfl, by rw [hU], by rw [hU]; exact hPc, va_K.moved hW.alike hK, hDc.weaken (fun _ _ _ _ => trivial)⟩⟩ rfl rfl hl.1 rfl (lv_room (Nat.le_of_ble_eq_true rfl)) dX3_speakFrame_82 ⟨Nat.zero_le _, Nat.zero_le _⟩) hS (fun q _ h => hFc q h) hFc (fun u t H1 locs ht hvm hw hB hz1 hk1 hS => ?_)
        obtain ⟨hP1, hK1, hD1⟩ := hB
        rw [ht] at hP1
        obtain ⟨hP, hD⟩ := va_join (wr := ([0, 1, 2, 3, 4, 5, 6, 7, 8, 9, 10, 11, 12, 13] : List Nat).filterMap (fun i => (tm_wModem cI cZ a s11)[i]?)) (w1 := (tm_wWay cI cZ (tm_pj [14, 15, 16, 17, 18] a) u)) hP hD [14, 15, 16, 17, 18] [0, 1, 2, 3, 4, 5, 6, 7, 8, 9, 10, 11, 12, 13] rfl rfl (by decide) (by decide) hk1 hFc hP1 hD1
        generalize H1 = H at hP hS ⊢
        obtain ⟨s13, es13⟩ : ∃ y : tm_St, y = tm_pk [14, 15, 16, 17, 18] s11 u := ⟨_, rfl⟩
        have hw := hw s13 es13
        have hP : va_P (dC, dI) vwCl (tm_wModem cI cZ a s13) H := by rw [es13]; exact hP.sub [0, 1, 2, 3, 4, 5, 6, 7, 8, 9, 10, 11, 12, 13, 14, 15, 16, 17, 18] rfl
        have hD : va_D A (tm_wModem cI cZ a s13) := by rw [es13]; exact hD.sub [0, 1, 2, 3, 4, 5, 6, 7, 8, 9, 10, 11, 12, 13, 14, 15, 16, 17, 18] (by decide) rfl
        obtain ⟨x15, ex15⟩ : ∃ y : Int32, y = v3 + 1 := ⟨_, rfl⟩
        have hw := hw x15 ex15
        refine lv_iinc (v := x15) (lv' := [(3, .int x15), (0, .ref (a 0)), (1, .int v1), (2, .int v2)]) hx hb dX3_speakFrame_85 hl (k := 3) rfl (by rw [ex15]; rfl) (by decide) rfl (fun ls hl => ?_)
        refine lv_goto (tgt := 64) hx hb dX3_speakFrame_88 (by decide) ?_
        exact ih v1 v2 x15 s13 _ _ _ hw hP hD hS (lv_sub hl [1, 2, 3, 0] rfl)
  have hl := lv_entry ([.ref (a 0), .int p0]) (n := 4) (Nat.le_of_ble_eq_true rfl)
  rw [lg_entry_eq]
  generalize (lg_sl ([.ref (a 0), .int p0]) ++ List.replicate (4 - (lg_sl ([.ref (a 0), .int p0])).length) Slot.unset).toArray = ls at hl ⊢
  have hl : lv_has ls 4 [(0, .ref (a 0)), (1, .int p0)] := hl
  unfold wp_X3_speakFrame at hw
  refine lv_aload_n hx hb dX3_speakFrame_0 rfl (lv_at hl 0 rfl) ?_
  refine lv_bipush (v := 24) hx hb dX3_speakFrame_1 (by decide) ?_
  refine lv_aload_n hx hb dX3_speakFrame_3 rfl (lv_at hl 0 rfl) ?_
  refine va_get (D := (dC, dI)) (ci := 3) (v := .int (s0 0 13)) (C := RX3) (T := TX3) (N := 20) hx hb hts h_in3 hown hK hP 0 rfl rfl 13 (by decide) h_f53 (fun _ h9 => h9) rfl dX3_speakFrame_4 ?_
  refine lv_aload_n hx hb dX3_speakFrame_7 rfl (lv_at hl 0 rfl) ?_
  refine va_get (D := (dC, dI)) (ci := 3) (v := .int (s0 0 12)) (C := RX3) (T := TX3) (N := 20) hx hb hts h_in3 hown hK hP 0 rfl rfl 12 (by decide) h_f50 (fun _ h9 => h9) rfl dX3_speakFrame_8 ?_
  refine lv_iadd hx hb dX3_speakFrame_11 ?_
  refine va_mmin hx hb (hml.trans hl.1.symm) hown h_m158 h_ms_min h_mi h_mc_min (Nat.le_of_ble_eq_true rfl) (Nat.le_of_ble_eq_true rfl) (Nat.zero_le _) (Nat.zero_le _) dX3_speakFrame_12 ?_
  refine lv_topi (fun x1 ex1 => ?_)
  have hw := hw x1 ex1
  refine va_put (D := (dC, dI)) (ci := 3) (v := .int x1) (ty := .int) (C := RX3) (T := TX3) (N := 20) hx hb hts h_in3 tyX3 tyX3_ok nmX3 hown hK hP hD hS 0 rfl rfl 13 (by decide) h_f53 (fun _ h9 => h9) rfl (by decide +kernel) rfl rfl (Nat.le_of_ble_eq_true rfl) dX3_speakFrame_15 (fun H locs hP hD hS => ?_)
  obtain ⟨s2, es2⟩ : ∃ y : tm_St, y = tm_s s0 0 (tm_u (s0 0) 13 x1) := ⟨_, rfl⟩
  have hw := hw s2 es2
  have hP : va_P (dC, dI) vwCl (tm_wModem cI cZ a s2) H := by rw [es2]; exact hP
  have hD : va_D A (tm_wModem cI cZ a s2) := by rw [es2]; exact hD
  refine lv_aload_n hx hb dX3_speakFrame_18 rfl (lv_at hl 0 rfl) ?_
  refine va_get (D := (dC, dI)) (ci := 3) (v := .ref (a 4)) (C := RX3) (T := TX3) (N := 20) hx hb hts h_in3 hown hK hP 0 rfl rfl 4 (by decide) h_f21 (fun _ h9 => h9) rfl dX3_speakFrame_19 ?_
  refine lv_aload_n hx hb dX3_speakFrame_22 rfl (lv_at hl 0 rfl) ?_
  refine va_get (D := (dC, dI)) (ci := 3) (v := .int (s2 0 13)) (C := RX3) (T := TX3) (N := 20) hx hb hts h_in3 hown hK hP 0 rfl rfl 13 (by decide) h_f53 (fun _ h9 => h9) rfl dX3_speakFrame_23 ?_
  refine lv_bipush (v := 8) hx hb dX3_speakFrame_26 (by decide) ?_
  refine lv_idiv hx hb dX3_speakFrame_28 (by decide) ?_
  have hPc := hP.sub (ws' := (tm_wMail cI cZ (tm_pj [4, 5, 6] a) (tm_pj [4, 5, 6] s2))) [4, 5, 6] rfl
  have hDc := hD.sub (ws' := (tm_wMail cI cZ (tm_pj [4, 5, 6] a) (tm_pj [4, 5, 6] s2))) [4, 5, 6] (by decide) rfl
  have hFc := va_free (wc := (tm_wMail cI cZ (tm_pj [4, 5, 6] a) (tm_pj [4, 5, 6] s2))) hD hS hA [4, 5, 6] rfl
  refine va_calli (va_runV (As := [.int ((s2 0 13) / 8)]) (rest := []) ⟨hx, hb, hml, hown, hts⟩ (kk_X2_ready l dC dI cI cZ (tm_pj [4, 5, 6] a) (tm_pj [4, 5, 6] s2) H.size ((s2 0 13) / 8) _ hw) (cwV 1 hts gX3_speakFrame_X2_ready rfl rfl rfl (by decide +kernel) ⟨Nat.le_of_ble_eq_true rfl, Nat.le_of_ble_eq_true rfl⟩) ⟨tm_blind, va_recv hK hPc (ci := 2) (q0 := 0) rfl rfl, fun U hU hW => ⟨rfl, by rw [hU], by rw [hU]; exact hPc, va_K.moved hW.alike hK, hDc.weaken (fun _ _ _ _ => trivial)⟩⟩ rfl rfl hl.1 rfl (lv_room (Nat.le_of_ble_eq_true rfl)) dX3_speakFrame_29 ⟨Nat.zero_le _, Nat.zero_le _⟩) hS (fun q _ h => hFc q h) hFc (fun r3 u t H1 locs ht hvm hw hB hz1 hk1 hS => ?_)
  obtain ⟨hP1, hK1, hD1⟩ := hB
  rw [ht] at hP1
  obtain ⟨hP, hD⟩ := va_join (wr := ([0, 1, 2, 3, 7, 8, 9, 10, 11, 12, 13, 14, 15, 16, 17, 18] : List Nat).filterMap (fun i => (tm_wModem cI cZ a s2)[i]?)) (w1 := (tm_wMail cI cZ (tm_pj [4, 5, 6] a) u)) hP hD [4, 5, 6] [0, 1, 2, 3, 7, 8, 9, 10, 11, 12, 13, 14, 15, 16, 17, 18] rfl rfl (by decide) (by decide) hk1 hFc hP1 hD1
  generalize H1 = H at hP hS ⊢
  obtain ⟨s4, es4⟩ : ∃ y : tm_St, y = tm_pk [4, 5, 6] s2 u := ⟨_, rfl⟩
  have hw := hw s4 es4
  have hP : va_P (dC, dI) vwCl (tm_wModem cI cZ a s4) H := by rw [es4]; exact hP.sub [0, 1, 2, 3, 16, 17, 18, 4, 5, 6, 7, 8, 9, 10, 11, 12, 13, 14, 15] rfl
  have hD : va_D A (tm_wModem cI cZ a s4) := by rw [es4]; exact hD.sub [0, 1, 2, 3, 16, 17, 18, 4, 5, 6, 7, 8, 9, 10, 11, 12, 13, 14, 15] (by decide) rfl
  refine lv_istore_n (lv' := [(2, .int r3), (0, .ref (a 0)), (1, .int p0)]) hx hb dX3_speakFrame_32 rfl hl (by decide) rfl (fun ls hl => ?_)
  refine lv_aload_n hx hb dX3_speakFrame_33 rfl (lv_at hl 1 rfl) ?_
  refine va_get (D := (dC, dI)) (ci := 3) (v := .ref (a 14)) (C := RX3) (T := TX3) (N := 20) hx hb hts h_in3 hown hK hP 0 rfl rfl 2 (by decide) h_f82 (fun _ h9 => h9) rfl dX3_speakFrame_34 ?_
  refine lv_iload_n hx hb dX3_speakFrame_37 rfl (lv_at hl 2 rfl) ?_
  refine lv_bipush (v := 7) hx hb dX3_speakFrame_38 (by decide) ?_
  refine lv_aload_n hx hb dX3_speakFrame_40 rfl (lv_at hl 1 rfl) ?_
  refine va_get (D := (dC, dI)) (ci := 3) (v := .int (s4 0 10)) (C := RX3) (T := TX3) (N := 20) hx hb hts h_in3 hown hK hP 0 rfl rfl 10 (by decide) h_f44 (fun _ h9 => h9) rfl dX3_speakFrame_41 ?_
  refine lv_aload_n hx hb dX3_speakFrame_44 rfl (lv_at hl 1 rfl) ?_
  refine va_get (D := (dC, dI)) (ci := 3) (v := .ref (a 4)) (C := RX3) (T := TX3) (N := 20) hx hb hts h_in3 hown hK hP 0 rfl rfl 4 (by decide) h_f21 (fun _ h9 => h9) rfl dX3_speakFrame_45 ?_
  refine va_get (D := (dC, dI)) (ci := 2) (v := .int (s4 4 5)) (C := RX2) (T := TX2) (N := 8) hx hb hts h_in2 hown hK hP 4 rfl rfl 5 (by decide) h_f88 (fun _ h9 => h9) rfl dX3_speakFrame_48 ?_
  refine lv_iload_n hx hb dX3_speakFrame_51 rfl (lv_at hl 0 rfl) ?_
  refine lv_aload_n hx hb dX3_speakFrame_52 rfl (lv_at hl 1 rfl) ?_
  refine va_get (D := (dC, dI)) (ci := 3) (v := .ref (a 4)) (C := RX3) (T := TX3) (N := 20) hx hb hts h_in3 hown hK hP 0 rfl rfl 4 (by decide) h_f21 (fun _ h9 => h9) rfl dX3_speakFrame_53 ?_
  refine va_get (D := (dC, dI)) (ci := 2) (v := .int (s4 4 3)) (C := RX2) (T := TX2) (N := 8) hx hb hts h_in2 hown hK hP 4 rfl rfl 3 (by decide) h_f94 (fun _ h9 => h9) rfl dX3_speakFrame_56 ?_
  have hPc := hP.sub (ws' := (tm_wWay cI cZ (tm_pj [14, 15, 16, 17, 18] a) (tm_pj [14, 15, 16, 17, 18] s4))) [14, 15, 16, 17, 18] rfl
  have hDc := hD.sub (ws' := (tm_wWay cI cZ (tm_pj [14, 15, 16, 17, 18] a) (tm_pj [14, 15, 16, 17, 18] s4))) [14, 15, 16, 17, 18] (by decide) rfl
  have hFc := va_free (wc := (tm_wWay cI cZ (tm_pj [14, 15, 16, 17, 18] a) (tm_pj [14, 15, 16, 17, 18] s4))) hD hS hA [14, 15, 16, 17, 18] rfl
  refine va_callv (va_runV (As := [.int p0, .int 7, .int (s4 0 10), .int (s4 4 5), .int r3, .int (s4 4 3)]) (rest := []) ⟨hx, hb, hml, hown, hts⟩ (kk_X7_send l dC dI cI cZ (tm_pj [14, 15, 16, 17, 18] a) (tm_pj [14, 15, 16, 17, 18] s4) H.size p0 7 (s4 0 10) (s4 4 5) r3 (s4 4 3) _ hw) (cwV 6 hts gX3_speakFrame_X7_send rfl rfl rfl (by decide +kernel) ⟨Nat.le_of_ble_eq_true rfl, Nat.le_of_ble_eq_true rfl⟩) ⟨tm_blind, va_recv hK hPc (ci := 5) (q0 := 0) rfl rfl, fun U hU hW => ⟨rfl, by rw [hU], by rw [hU]; exact hPc, va_K.moved hW.alike hK, hDc.weaken (fun _ _ _ _ => trivial)⟩⟩ rfl rfl hl.1 rfl (lv_room (Nat.le_of_ble_eq_true rfl)) dX3_speakFrame_59 ⟨Nat.zero_le _, Nat.zero_le _⟩) hS (fun q _ h => hFc q h) hFc (fun u t H1 locs ht hvm hw hB hz1 hk1 hS => ?_)
  obtain ⟨hP1, hK1, hD1⟩ := hB
  rw [ht] at hP1
  obtain ⟨hP, hD⟩ := va_join (wr := ([0, 1, 2, 3, 4, 5, 6, 7, 8, 9, 10, 11, 12, 13] : List Nat).filterMap (fun i => (tm_wModem cI cZ a s4)[i]?)) (w1 := (tm_wWay cI cZ (tm_pj [14, 15, 16, 17, 18] a) u)) hP hD [14, 15, 16, 17, 18] [0, 1, 2, 3, 4, 5, 6, 7, 8, 9, 10, 11, 12, 13] rfl rfl (by decide) (by decide) hk1 hFc hP1 hD1
  generalize H1 = H at hP hS ⊢
  obtain ⟨s6, es6⟩ : ∃ y : tm_St, y = tm_pk [14, 15, 16, 17, 18] s4 u := ⟨_, rfl⟩
  have hw := hw s6 es6
  have hP : va_P (dC, dI) vwCl (tm_wModem cI cZ a s6) H := by rw [es6]; exact hP.sub [0, 1, 2, 3, 4, 5, 6, 7, 8, 9, 10, 11, 12, 13, 14, 15, 16, 17, 18] rfl
  have hD : va_D A (tm_wModem cI cZ a s6) := by rw [es6]; exact hD.sub [0, 1, 2, 3, 4, 5, 6, 7, 8, 9, 10, 11, 12, 13, 14, 15, 16, 17, 18] (by decide) rfl
  refine lv_iconst (v := 0) hx hb dX3_speakFrame_62 (by decide) ?_
  refine lv_istore_n (lv' := [(3, .int 0), (2, .int r3), (0, .ref (a 0)), (1, .int p0)]) hx hb dX3_speakFrame_63 rfl hl (by decide) rfl (fun ls hl => ?_)
  obtain ⟨nf, hw⟩ := hw
  exact b64 nf p0 r3 0 s6 _ _ _ hw hP hD hS (lv_sub hl [2, 3, 1, 0] rfl)
def wp_X3_speak (p0 : Int32) (s0 : tm_St) (K : tm_St → Prop) : Prop := (((s0 0 6) = 1 → (wp_X7_send p0 1 0 0 0 0 (tm_pj [14, 15, 16, 17, 18] s0) (fun u3 => ∀ s2 : tm_St, s2 = tm_pk [14, 15, 16, 17, 18] s0 u3 → K s2))) ∧ (¬ (s0 0 6) = 1 → (((s0 0 6) = 2 → (wp_X7_send p0 2 0 0 0 0 (tm_pj [14, 15, 16, 17, 18] s0) (fun u6 => ∀ s5 : tm_St, s5 = tm_pk [14, 15, 16, 17, 18] s0 u6 → K s5))) ∧ (¬ (s0 0 6) = 2 → (((s0 0 6) = 3 → (wp_X3_speakProbe p0 s0 (fun s8 => K s8))) ∧ (¬ (s0 0 6) = 3 → (((s0 0 6) = 4 → (wp_X7_send p0 4 0 0 0 0 (tm_pj [14, 15, 16, 17, 18] s0) (fun u11 => ∀ s10 : tm_St, s10 = tm_pk [14, 15, 16, 17, 18] s0 u11 → (wp_X0_follow (s10 0 8) (tm_pj [1, 2, 3] s10) (fun u13 => ∀ s12 : tm_St, s12 = tm_pk [1, 2, 3] s10 u13 → K s12))))) ∧ (¬ (s0 0 6) = 4 → (((s0 0 6) = 5 → (wp_X7_send p0 5 (s0 0 10) (s0 0 11) 0 0 (tm_pj [14, 15, 16, 17, 18] s0) (fun u16 => ∀ s15 : tm_St, s15 = tm_pk [14, 15, 16, 17, 18] s0 u16 → K s15))) ∧ (¬ (s0 0 6) = 5 → (((s0 0 6) = 6 → (wp_X7_send p0 6 (s0 0 10) (s0 0 12) 0 0 (tm_pj [14, 15, 16, 17, 18] s0) (fun u19 => ∀ s18 : tm_St, s18 = tm_pk [14, 15, 16, 17, 18] s0 u19 → K s18))) ∧ (¬ (s0 0 6) = 6 → (((s0 0 6) = 7 → (wp_X3_speakFrame p0 s0 (fun s21 => K s21))) ∧ (¬ (s0 0 6) = 7 → (wp_X7_send p0 0 0 0 0 0 (tm_pj [14, 15, 16, 17, 18] s0) (fun u23 => ∀ s22 : tm_St, s22 = tm_pk [14, 15, 16, 17, 18] s0 u23 → K s22))))))))))))))))
set_option maxRecDepth 100000 in
set_option maxHeartbeats 4000000 in
theorem kk_X3_speak (l : Launch) (dC : Nat → ClassId) (dI : Nat → Nat → Nat) (cI cZ : ClassId) (a : Nat → Nat) (s0 : tm_St) (sz : Nat) (p0 : Int32) (K : tm_St → Prop) (hw : wp_X3_speak p0 s0 K) : Met l yX3_speak wsX3_speak ({ frames := 3, cells := 0, slots := 0, locals := 58 }) (va_Pc [.ref (a 0), .int p0] (tm_Pre dC dI cI cZ (tm_wModem cI cZ a s0) sz)) (va_Qv (fun (u : tm_St) => K u) (fun (u : tm_St) t => tm_At dC dI cI cZ (va_A (tm_wModem cI cZ a s0) sz) (tm_wModem cI cZ a u) t) (va_A (tm_wModem cI cZ a s0) sz)) 0 0 (va_A (tm_wModem cI cZ a s0) sz) := by
  refine Met.ofW (cc := cX3_speak) (maxL := 2) (ret := none) (by decide +kernel) rfl ?_
  intro p e z m args below meth c z₁ B hml hv
  obtain ⟨rfl, hsz, hP, hK, hD0⟩ := hv
  have hx := B.exec
  have hb := B.bytes
  have hr := B.returns
  have hts := atoms_spec (ws := wsX3_speak) B.pre
  have hown : z.vm.findClass RX3 = some m.cls := findClass_of_methodNamed B.named
  have hlocks := B.notSynchronized
  subst hsz
  have hD := hD0.self (sz := z.heap.size)
  generalize hAe : va_A (tm_wModem cI cZ a s0) z.heap.size = A at hD ⊢
  have hA : ∀ q : Nat, z.heap.size ≤ q → A q := fun q h => by rw [← hAe]; exact Or.inr h
  have hS : va_S A z.heap z.heap [] := va_S.rf
  have h_f31 := hts (.fieldLink RX3 31 "TwoModems$Modem" "phase" "I") (by decide +kernel)
  have h_in3 : ∀ w ∈ u_ws RX3 TX3 20, w ∈ wsX3_speak := by decide +kernel
  have h_f82 := hts (.fieldLink RX3 82 "TwoModems$Modem" "out" "LTwoModems$Way;") (by decide +kernel)
  have h_f12 := hts (.fieldLink RX3 12 "TwoModems$Modem" "echo" "LTwoModems$Echo;") (by decide +kernel)
  have h_f38 := hts (.fieldLink RX3 38 "TwoModems$Modem" "lasted" "I") (by decide +kernel)
  have h_f44 := hts (.fieldLink RX3 44 "TwoModems$Modem" "round" "I") (by decide +kernel)
  have h_f47 := hts (.fieldLink RX3 47 "TwoModems$Modem" "offer" "I") (by decide +kernel)
  have h_f50 := hts (.fieldLink RX3 50 "TwoModems$Modem" "rate" "I") (by decide +kernel)
  have hl := lv_entry ([.ref (a 0), .int p0]) (n := 2) (Nat.le_of_ble_eq_true rfl)
  rw [lg_entry_eq]
  generalize (lg_sl ([.ref (a 0), .int p0]) ++ List.replicate (2 - (lg_sl ([.ref (a 0), .int p0])).length) Slot.unset).toArray = ls at hl ⊢
  have hl : lv_has ls 2 [(0, .ref (a 0)), (1, .int p0)] := hl
  unfold wp_X3_speak at hw
  refine lv_aload_n hx hb dX3_speak_0 rfl (lv_at hl 0 rfl) ?_
  refine va_get (D := (dC, dI)) (ci := 3) (v := .int (s0 0 6)) (C := RX3) (T := TX3) (N := 20) hx hb hts h_in3 hown hK hP 0 rfl rfl 6 (by decide) h_f31 (fun _ h9 => h9) rfl dX3_speak_1 ?_
  refine (Classical.em ((s0 0 6) = 1)).elim (fun c1 => ?_) (fun c1 => ?_)
  · have hw := hw.1 c1
    refine lv_tableIn (tgt := 48) hx hb dX3_speak_4 (by rw [c1]; decide) (by rw [c1]; decide) (by rw [c1]; rfl) (by decide) ?_
    refine lv_aload_n hx hb dX3_speak_48 rfl (lv_at hl 0 rfl) ?_
    refine va_get (D := (dC, dI)) (ci := 3) (v := .ref (a 14)) (C := RX3) (T := TX3) (N := 20) hx hb hts h_in3 hown hK hP 0 rfl rfl 2 (by decide) h_f82 (fun _ h9 => h9) rfl dX3_speak_49 ?_
    refine lv_iload_n hx hb dX3_speak_52 rfl (lv_at hl 1 rfl) ?_
    refine lv_iconst (v := 1) hx hb dX3_speak_53 (by decide) ?_
    refine lv_iconst (v := 0) hx hb dX3_speak_54 (by decide) ?_
    refine lv_iconst (v := 0) hx hb dX3_speak_55 (by decide) ?_
    refine lv_iconst (v := 0) hx hb dX3_speak_56 (by decide) ?_
    refine lv_iconst (v := 0) hx hb dX3_speak_57 (by decide) ?_
    have hPc := hP.sub (ws' := (tm_wWay cI cZ (tm_pj [14, 15, 16, 17, 18] a) (tm_pj [14, 15, 16, 17, 18] s0))) [14, 15, 16, 17, 18] rfl
    have hDc := hD.sub (ws' := (tm_wWay cI cZ (tm_pj [14, 15, 16, 17, 18] a) (tm_pj [14, 15, 16, 17, 18] s0))) [14, 15, 16, 17, 18] (by decide) rfl
    have hFc := va_free (wc := (tm_wWay cI cZ (tm_pj [14, 15, 16, 17, 18] a) (tm_pj [14, 15, 16, 17, 18] s0))) hD hS hA [14, 15, 16, 17, 18] rfl
    refine va_callv (va_runV (As := [.int p0, .int 1, .int 0, .int 0, .int 0, .int 0]) (rest := []) ⟨hx, hb, hml, hown, hts⟩ (kk_X7_send l dC dI cI cZ (tm_pj [14, 15, 16, 17, 18] a) (tm_pj [14, 15, 16, 17, 18] s0) z.heap.size p0 1 0 0 0 0 _ hw) (cwV 6 hts gX3_speak_X7_send rfl rfl rfl (by decide +kernel) ⟨Nat.le_of_ble_eq_true rfl, Nat.le_of_ble_eq_true rfl⟩) ⟨tm_blind, va_recv hK hPc (ci := 5) (q0 := 0) rfl rfl, fun U hU hW => ⟨rfl, by rw [hU], by rw [hU]; exact hPc, va_K.moved hW.alike hK, hDc.weaken (fun _ _ _ _ => trivial)⟩⟩ rfl rfl hl.1 rfl (lv_room (Nat.le_of_ble_eq_true rfl)) dX3_speak_58 ⟨Nat.zero_le _, Nat.zero_le _⟩) hS (fun q _ h => hFc q h) hFc (fun u t H1 locs ht hvm hw hB hz1 hk1 hS => ?_)
    obtain ⟨hP1, hK1, hD1⟩ := hB
    rw [ht] at hP1
    obtain ⟨hP, hD⟩ := va_join (wr := ([0, 1, 2, 3, 4, 5, 6, 7, 8, 9, 10, 11, 12, 13] : List Nat).filterMap (fun i => (tm_wModem cI cZ a s0)[i]?)) (w1 := (tm_wWay cI cZ (tm_pj [14, 15, 16, 17, 18] a) u)) hP hD [14, 15, 16, 17, 18] [0, 1, 2, 3, 4, 5, 6, 7, 8, 9, 10, 11, 12, 13] rfl rfl (by decide) (by decide) hk1 hFc hP1 hD1
    generalize H1 = H at hP hS ⊢
    obtain ⟨s2, es2⟩ : ∃ y : tm_St, y = tm_pk [14, 15, 16, 17, 18] s0 u := ⟨_, rfl⟩
    have hw := hw s2 es2
    have hP : va_P (dC, dI) vwCl (tm_wModem cI cZ a s2) H := by rw [es2]; exact hP.sub [0, 1, 2, 3, 4, 5, 6, 7, 8, 9, 10, 11, 12, 13, 14, 15, 16, 17, 18] rfl
    have hD : va_D A (tm_wModem cI cZ a s2) := by rw [es2]; exact hD.sub [0, 1, 2, 3, 4, 5, 6, 7, 8, 9, 10, 11, 12, 13, 14, 15, 16, 17, 18] (by decide) rfl
    refine lv_goto (tgt := 181) hx hb dX3_speak_61 (by decide) ?_
    exact W.vret hx hb hr (fun t ht hW => ⟨⟨s2, rfl, hw, by rw [ht]; exact hP, va_K.moved hW.alike hK, hD⟩, hS.F ht⟩) hS.2.2 dX3_speak_181
  have hw := hw.2 c1
  refine (Classical.em ((s0 0 6) = 2)).elim (fun c4 => ?_) (fun c4 => ?_)
  · have hw := hw.1 c4
    refine lv_tableIn (tgt := 64) hx hb dX3_speak_4 (by rw [c4]; decide) (by rw [c4]; decide) (by rw [c4]; rfl) (by decide) ?_
    refine lv_aload_n hx hb dX3_speak_64 rfl (lv_at hl 0 rfl) ?_
    refine va_get (D := (dC, dI)) (ci := 3) (v := .ref (a 14)) (C := RX3) (T := TX3) (N := 20) hx hb hts h_in3 hown hK hP 0 rfl rfl 2 (by decide) h_f82 (fun _ h9 => h9) rfl dX3_speak_65 ?_
    refine lv_iload_n hx hb dX3_speak_68 rfl (lv_at hl 1 rfl) ?_
    refine lv_iconst (v := 2) hx hb dX3_speak_69 (by decide) ?_
    refine lv_iconst (v := 0) hx hb dX3_speak_70 (by decide) ?_
    refine lv_iconst (v := 0) hx hb dX3_speak_71 (by decide) ?_
    refine lv_iconst (v := 0) hx hb dX3_speak_72 (by decide) ?_
    refine lv_iconst (v := 0) hx hb dX3_speak_73 (by decide) ?_
    have hPc := hP.sub (ws' := (tm_wWay cI cZ (tm_pj [14, 15, 16, 17, 18] a) (tm_pj [14, 15, 16, 17, 18] s0))) [14, 15, 16, 17, 18] rfl
    have hDc := hD.sub (ws' := (tm_wWay cI cZ (tm_pj [14, 15, 16, 17, 18] a) (tm_pj [14, 15, 16, 17, 18] s0))) [14, 15, 16, 17, 18] (by decide) rfl
    have hFc := va_free (wc := (tm_wWay cI cZ (tm_pj [14, 15, 16, 17, 18] a) (tm_pj [14, 15, 16, 17, 18] s0))) hD hS hA [14, 15, 16, 17, 18] rfl
    refine va_callv (va_runV (As := [.int p0, .int 2, .int 0, .int 0, .int 0, .int 0]) (rest := []) ⟨hx, hb, hml, hown, hts⟩ (kk_X7_send l dC dI cI cZ (tm_pj [14, 15, 16, 17, 18] a) (tm_pj [14, 15, 16, 17, 18] s0) z.heap.size p0 2 0 0 0 0 _ hw) (cwV 6 hts gX3_speak_X7_send rfl rfl rfl (by decide +kernel) ⟨Nat.le_of_ble_eq_true rfl, Nat.le_of_ble_eq_true rfl⟩) ⟨tm_blind, va_recv hK hPc (ci := 5) (q0 := 0) rfl rfl, fun U hU hW => ⟨rfl, by rw [hU], by rw [hU]; exact hPc, va_K.moved hW.alike hK, hDc.weaken (fun _ _ _ _ => trivial)⟩⟩ rfl rfl hl.1 rfl (lv_room (Nat.le_of_ble_eq_true rfl)) dX3_speak_74 ⟨Nat.zero_le _, Nat.zero_le _⟩) hS (fun q _ h => hFc q h) hFc (fun u t H1 locs ht hvm hw hB hz1 hk1 hS => ?_)
    obtain ⟨hP1, hK1, hD1⟩ := hB
    rw [ht] at hP1
    obtain ⟨hP, hD⟩ := va_join (wr := ([0, 1, 2, 3, 4, 5, 6, 7, 8, 9, 10, 11, 12, 13] : List Nat).filterMap (fun i => (tm_wModem cI cZ a s0)[i]?)) (w1 := (tm_wWay cI cZ (tm_pj [14, 15, 16, 17, 18] a) u)) hP hD [14, 15, 16, 17, 18] [0, 1, 2, 3, 4, 5, 6, 7, 8, 9, 10, 11, 12, 13] rfl rfl (by decide) (by decide) hk1 hFc hP1 hD1
    generalize H1 = H at hP hS ⊢
    obtain ⟨s5, es5⟩ : ∃ y : tm_St, y = tm_pk [14, 15, 16, 17, 18] s0 u := ⟨_, rfl⟩
    have hw := hw s5 es5
    have hP : va_P (dC, dI) vwCl (tm_wModem cI cZ a s5) H := by rw [es5]; exact hP.sub [0, 1, 2, 3, 4, 5, 6, 7, 8, 9, 10, 11, 12, 13, 14, 15, 16, 17, 18] rfl
    have hD : va_D A (tm_wModem cI cZ a s5) := by rw [es5]; exact hD.sub [0, 1, 2, 3, 4, 5, 6, 7, 8, 9, 10, 11, 12, 13, 14, 15, 16, 17, 18] (by decide) rfl
    refine lv_goto (tgt := 181) hx hb dX3_speak_77 (by decide) ?_
    exact W.vret hx hb hr (fun t ht hW => ⟨⟨s5, rfl, hw, by rw [ht]; exact hP, va_K.moved hW.alike hK, hD⟩, hS.F ht⟩) hS.2.2 dX3_speak_181
  have hw := hw.2 c4
  refine (Classical.em ((s0 0 6) = 3)).elim (fun c7 => ?_) (fun c7 => ?_)
  · have hw := hw.1 c7
    refine lv_tableIn (tgt := 80) hx hb dX3_speak_4 (by rw [c7]; decide) (by rw [c7]; decide) (by rw [c7]; rfl) (by decide) ?_
    refine lv_aload_n hx hb dX3_speak_80 rfl (lv_at hl 0 rfl) ?_
    refine lv_iload_n hx hb dX3_speak_81 rfl (lv_at hl 1 rfl) ?_
    have hPc := hP
    have hDc := hD
    have hFc := va_free (wc := (tm_wModem cI cZ a s0)) hD hS hA [0, 1, 2, 3, 4, 5, 6, 7, 8, 9, 10, 11, 12, 13, 14, 15, 16, 17, 18] rfl
    refine va_callv (va_runV (As := [.int p0]) (rest := []) ⟨hx, hb, hml, hown, hts⟩ (kk_X3_speakProbe l dC dI cI cZ a s0 z.heap.size p0 _ hw) (cwV 1 hts gX3_speak_X3_speakProbe rfl rfl rfl (by decide +kernel) ⟨Nat.le_of_ble_eq_true rfl, Nat.le_of_ble_eq_true rfl⟩) ⟨tm_blind, va_recv hK hPc (ci := 3) (q0 := 0) rfl rfl, fun U hU hW => ⟨rfl, by rw [hU], by rw [hU]; exact hPc, va_K.moved hW.alike hK, hDc.weaken (fun _ _ _ _ => trivial)⟩⟩ rfl rfl hl.1 rfl (lv_room (Nat.le_of_ble_eq_true rfl)) dX3_speak_82 ⟨Nat.zero_le _, Nat.zero_le _⟩) hS (fun q _ h => hFc q h) hFc (fun s8 t H1 locs ht hvm hw hB hz1 hk1 hS => ?_)
    obtain ⟨hP1, hK1, hD1⟩ := hB
    rw [ht] at hP1
    obtain ⟨hP, hD⟩ := va_join (wr := []) (w1 := (tm_wModem cI cZ a s8)) hP hD [0, 1, 2, 3, 4, 5, 6, 7, 8, 9, 10, 11, 12, 13, 14, 15, 16, 17, 18] [] rfl rfl (by decide) (by decide) hk1 hFc hP1 hD1
    generalize H1 = H at hP hS ⊢
    have hP : va_P (dC, dI) vwCl (tm_wModem cI cZ a s8) H := hP
    have hD : va_D A (tm_wModem cI cZ a s8) := hD
    refine lv_goto (tgt := 181) hx hb dX3_speak_85 (by decide) ?_
    exact W.vret hx hb hr (fun t ht hW => ⟨⟨s8, rfl, hw, by rw [ht]; exact hP, va_K.moved hW.alike hK, hD⟩, hS.F ht⟩) hS.2.2 dX3_speak_181
  have hw := hw.2 c7
  refine (Classical.em ((s0 0 6) = 4)).elim (fun c9 => ?_) (fun c9 => ?_)
  · have hw := hw.1 c9
    refine lv_tableIn (tgt := 88) hx hb dX3_speak_4 (by rw [c9]; decide) (by rw [c9]; decide) (by rw [c9]; rfl) (by decide) ?_
    refine lv_aload_n hx hb dX3_speak_88 rfl (lv_at hl 0 rfl) ?_
    refine va_get (D := (dC, dI)) (ci := 3) (v := .ref (a 14)) (C := RX3) (T := TX3) (N := 20) hx hb hts h_in3 hown hK hP 0 rfl rfl 2 (by decide) h_f82 (fun _ h9 => h9) rfl dX3_speak_89 ?_
    refine lv_iload_n hx hb dX3_speak_92 rfl (lv_at hl 1 rfl) ?_
    refine lv_iconst (v := 4) hx hb dX3_speak_93 (by decide) ?_
    refine lv_iconst (v := 0) hx hb dX3_speak_94 (by decide) ?_
    refine lv_iconst (v := 0) hx hb dX3_speak_95 (by decide) ?_
    refine lv_iconst (v := 0) hx hb dX3_speak_96 (by decide) ?_
    refine lv_iconst (v := 0) hx hb dX3_speak_97 (by decide) ?_
    have hPc := hP.sub (ws' := (tm_wWay cI cZ (tm_pj [14, 15, 16, 17, 18] a) (tm_pj [14, 15, 16, 17, 18] s0))) [14, 15, 16, 17, 18] rfl
    have hDc := hD.sub (ws' := (tm_wWay cI cZ (tm_pj [14, 15, 16, 17, 18] a) (tm_pj [14, 15, 16, 17, 18] s0))) [14, 15, 16, 17, 18] (by decide) rfl
    have hFc := va_free (wc := (tm_wWay cI cZ (tm_pj [14, 15, 16, 17, 18] a) (tm_pj [14, 15, 16, 17, 18] s0))) hD hS hA [14, 15, 16, 17, 18] rfl
    refine va_callv (va_runV (As := [.int p0, .int 4, .int 0, .int 0, .int 0, .int 0]) (rest := []) ⟨hx, hb, hml, hown, hts⟩ (kk_X7_send l dC dI cI cZ (tm_pj [14, 15, 16, 17, 18] a) (tm_pj [14, 15, 16, 17, 18] s0) z.heap.size p0 4 0 0 0 0 _ hw) (cwV 6 hts gX3_speak_X7_send rfl rfl rfl (by decide +kernel) ⟨Nat.le_of_ble_eq_true rfl, Nat.le_of_ble_eq_true rfl⟩) ⟨tm_blind, va_recv hK hPc (ci := 5) (q0 := 0) rfl rfl, fun U hU hW => ⟨rfl, by rw [hU], by rw [hU]; exact hPc, va_K.moved hW.alike hK, hDc.weaken (fun _ _ _ _ => trivial)⟩⟩ rfl rfl hl.1 rfl (lv_room (Nat.le_of_ble_eq_true rfl)) dX3_speak_98 ⟨Nat.zero_le _, Nat.zero_le _⟩) hS (fun q _ h => hFc q h) hFc (fun u t H1 locs ht hvm hw hB hz1 hk1 hS => ?_)
    obtain ⟨hP1, hK1, hD1⟩ := hB
    rw [ht] at hP1
    obtain ⟨hP, hD⟩ := va_join (wr := ([0, 1, 2, 3, 4, 5, 6, 7, 8, 9, 10, 11, 12, 13] : List Nat).filterMap (fun i => (tm_wModem cI cZ a s0)[i]?)) (w1 := (tm_wWay cI cZ (tm_pj [14, 15, 16, 17, 18] a) u)) hP hD [14, 15, 16, 17, 18] [0, 1, 2, 3, 4, 5, 6, 7, 8, 9, 10, 11, 12, 13] rfl rfl (by decide) (by decide) hk1 hFc hP1 hD1
    generalize H1 = H at hP hS ⊢
    obtain ⟨s10, es10⟩ : ∃ y : tm_St, y = tm_pk [14, 15, 16, 17, 18] s0 u := ⟨_, rfl⟩
    have hw := hw s10 es10
    have hP : va_P (dC, dI) vwCl (tm_wModem cI cZ a s10) H := by rw [es10]; exact hP.sub [0, 1, 2, 3, 4, 5, 6, 7, 8, 9, 10, 11, 12, 13, 14, 15, 16, 17, 18] rfl
    have hD : va_D A (tm_wModem cI cZ a s10) := by rw [es10]; exact hD.sub [0, 1, 2, 3, 4, 5, 6, 7, 8, 9, 10, 11, 12, 13, 14, 15, 16, 17, 18] (by decide) rfl
    refine lv_aload_n hx hb dX3_speak_101 rfl (lv_at hl 0 rfl) ?_
    refine va_get (D := (dC, dI)) (ci := 3) (v := .ref (a 1)) (C := RX3) (T := TX3) (N := 20) hx hb hts h_in3 hown hK hP 0 rfl rfl 3 (by decide) h_f12 (fun _ h9 => h9) rfl dX3_speak_102 ?_
    refine lv_aload_n hx hb dX3_speak_105 rfl (lv_at hl 0 rfl) ?_
    refine va_get (D := (dC, dI)) (ci := 3) (v := .int (s10 0 8)) (C := RX3) (T := TX3) (N := 20) hx hb hts h_in3 hown hK hP 0 rfl rfl 8 (by decide) h_f38 (fun _ h9 => h9) rfl dX3_speak_106 ?_
    have hPc := hP.sub (ws' := (tm_wEcho cI cZ (tm_pj [1, 2, 3] a) (tm_pj [1, 2, 3] s10))) [1, 2, 3] rfl
    have hDc := hD.sub (ws' := (tm_wEcho cI cZ (tm_pj [1, 2, 3] a) (tm_pj [1, 2, 3] s10))) [1, 2, 3] (by decide) rfl
    have hFc := va_free (wc := (tm_wEcho cI cZ (tm_pj [1, 2, 3] a) (tm_pj [1, 2, 3] s10))) hD hS hA [1, 2, 3] rfl
    refine va_callv (va_runV (As := [.int (s10 0 8)]) (rest := []) ⟨hx, hb, hml, hown, hts⟩ (kk_X0_follow l dC dI cI cZ (tm_pj [1, 2, 3] a) (tm_pj [1, 2, 3] s10) H.size (s10 0 8) _ hw) (cwV 1 hts gX3_speak_X0_follow rfl rfl rfl (by decide +kernel) ⟨Nat.le_of_ble_eq_true rfl, Nat.le_of_ble_eq_true rfl⟩) ⟨tm_blind, va_recv hK hPc (ci := 0) (q0 := 0) rfl rfl, fun U hU hW => ⟨rfl, by rw [hU], by rw [hU]; exact hPc, va_K.moved hW.alike hK, hDc.weaken (fun _ _ _ _ => trivial)⟩⟩ rfl rfl hl.1 rfl (lv_room (Nat.le_of_ble_eq_true rfl)) dX3_speak_109 ⟨Nat.zero_le _, Nat.zero_le _⟩) hS (fun q _ h => hFc q h) hFc (fun u t H1 locs ht hvm hw hB hz1 hk1 hS => ?_)
    obtain ⟨hP1, hK1, hD1⟩ := hB
    rw [ht] at hP1
    obtain ⟨hP, hD⟩ := va_join (wr := ([0, 4, 5, 6, 7, 8, 9, 10, 11, 12, 13, 14, 15, 16, 17, 18] : List Nat).filterMap (fun i => (tm_wModem cI cZ a s10)[i]?)) (w1 := (tm_wEcho cI cZ (tm_pj [1, 2, 3] a) u)) hP hD [1, 2, 3] [0, 4, 5, 6, 7, 8, 9, 10, 11, 12, 13, 14, 15, 16, 17, 18] rfl rfl (by decide) (by decide) hk1 hFc hP1 hD1
    generalize H1 = H at hP hS ⊢
    obtain ⟨s12, es12⟩ : ∃ y : tm_St, y = tm_pk [1, 2, 3] s10 u := ⟨_, rfl⟩
    have hw := hw s12 es12
    have hP : va_P (dC, dI) vwCl (tm_wModem cI cZ a s12) H := by rw [es12]; exact hP.sub [0, 16, 17, 18, 1, 2, 3, 4, 5, 6, 7, 8, 9, 10, 11, 12, 13, 14, 15] rfl
    have hD : va_D A (tm_wModem cI cZ a s12) := by rw [es12]; exact hD.sub [0, 16, 17, 18, 1, 2, 3, 4, 5, 6, 7, 8, 9, 10, 11, 12, 13, 14, 15] (by decide) rfl
    refine lv_goto (tgt := 181) hx hb dX3_speak_112 (by decide) ?_
    exact W.vret hx hb hr (fun t ht hW => ⟨⟨s12, rfl, hw, by rw [ht]; exact hP, va_K.moved hW.alike hK, hD⟩, hS.F ht⟩) hS.2.2 dX3_speak_181
  have hw := hw.2 c9
  refine (Classical.em ((s0 0 6) = 5)).elim (fun c14 => ?_) (fun c14 => ?_)
  · have hw := hw.1 c14
    refine lv_tableIn (tgt := 115) hx hb dX3_speak_4 (by rw [c14]; decide) (by rw [c14]; decide) (by rw [c14]; rfl) (by decide) ?_
    refine lv_aload_n hx hb dX3_speak_115 rfl (lv_at hl 0 rfl) ?_
    refine va_get (D := (dC, dI)) (ci := 3) (v := .ref (a 14)) (C := RX3) (T := TX3) (N := 20) hx hb hts h_in3 hown hK hP 0 rfl rfl 2 (by decide) h_f82 (fun _ h9 => h9) rfl dX3_speak_116 ?_
    refine lv_iload_n hx hb dX3_speak_119 rfl (lv_at hl 1 rfl) ?_
    refine lv_iconst (v := 5) hx hb dX3_speak_120 (by decide) ?_
    refine lv_aload_n hx hb dX3_speak_121 rfl (lv_at hl 0 rfl) ?_
    refine va_get (D := (dC, dI)) (ci := 3) (v := .int (s0 0 10)) (C := RX3) (T := TX3) (N := 20) hx hb hts h_in3 hown hK hP 0 rfl rfl 10 (by decide) h_f44 (fun _ h9 => h9) rfl dX3_speak_122 ?_
    refine lv_aload_n hx hb dX3_speak_125 rfl (lv_at hl 0 rfl) ?_
    refine va_get (D := (dC, dI)) (ci := 3) (v := .int (s0 0 11)) (C := RX3) (T := TX3) (N := 20) hx hb hts h_in3 hown hK hP 0 rfl rfl 11 (by decide) h_f47 (fun _ h9 => h9) rfl dX3_speak_126 ?_
    refine lv_iconst (v := 0) hx hb dX3_speak_129 (by decide) ?_
    refine lv_iconst (v := 0) hx hb dX3_speak_130 (by decide) ?_
    have hPc := hP.sub (ws' := (tm_wWay cI cZ (tm_pj [14, 15, 16, 17, 18] a) (tm_pj [14, 15, 16, 17, 18] s0))) [14, 15, 16, 17, 18] rfl
    have hDc := hD.sub (ws' := (tm_wWay cI cZ (tm_pj [14, 15, 16, 17, 18] a) (tm_pj [14, 15, 16, 17, 18] s0))) [14, 15, 16, 17, 18] (by decide) rfl
    have hFc := va_free (wc := (tm_wWay cI cZ (tm_pj [14, 15, 16, 17, 18] a) (tm_pj [14, 15, 16, 17, 18] s0))) hD hS hA [14, 15, 16, 17, 18] rfl
    refine va_callv (va_runV (As := [.int p0, .int 5, .int (s0 0 10), .int (s0 0 11), .int 0, .int 0]) (rest := []) ⟨hx, hb, hml, hown, hts⟩ (kk_X7_send l dC dI cI cZ (tm_pj [14, 15, 16, 17, 18] a) (tm_pj [14, 15, 16, 17, 18] s0) z.heap.size p0 5 (s0 0 10) (s0 0 11) 0 0 _ hw) (cwV 6 hts gX3_speak_X7_send rfl rfl rfl (by decide +kernel) ⟨Nat.le_of_ble_eq_true rfl, Nat.le_of_ble_eq_true rfl⟩) ⟨tm_blind, va_recv hK hPc (ci := 5) (q0 := 0) rfl rfl, fun U hU hW => ⟨rfl, by rw [hU], by rw [hU]; exact hPc, va_K.moved hW.alike hK, hDc.weaken (fun _ _ _ _ => trivial)⟩⟩ rfl rfl hl.1 rfl (lv_room (Nat.le_of_ble_eq_true rfl)) dX3_speak_131 ⟨Nat.zero_le _, Nat.zero_le _⟩) hS (fun q _ h => hFc q h) hFc (fun u t H1 locs ht hvm hw hB hz1 hk1 hS => ?_)
    obtain ⟨hP1, hK1, hD1⟩ := hB
    rw [ht] at hP1
    obtain ⟨hP, hD⟩ := va_join (wr := ([0, 1, 2, 3, 4, 5, 6, 7, 8, 9, 10, 11, 12, 13] : List Nat).filterMap (fun i => (tm_wModem cI cZ a s0)[i]?)) (w1 := (tm_wWay cI cZ (tm_pj [14, 15, 16, 17, 18] a) u)) hP hD [14, 15, 16, 17, 18] [0, 1, 2, 3, 4, 5, 6, 7, 8, 9, 10, 11, 12, 13] rfl rfl (by decide) (by decide) hk1 hFc hP1 hD1
    generalize H1 = H at hP hS ⊢
    obtain ⟨s15, es15⟩ : ∃ y : tm_St, y = tm_pk [14, 15, 16, 17, 18] s0 u := ⟨_, rfl⟩
    have hw := hw s15 es15
    have hP : va_P (dC, dI) vwCl (tm_wModem cI cZ a s15) H := by rw [es15]; exact hP.sub [0, 1, 2, 3, 4, 5, 6, 7, 8, 9, 10, 11, 12, 13, 14, 15, 16, 17, 18] rfl
    have hD : va_D A (tm_wModem cI cZ a s15) := by rw [es15]; exact hD.sub [0, 1, 2, 3, 4, 5, 6, 7, 8, 9, 10, 11, 12, 13, 14, 15, 16, 17, 18] (by decide) rfl
    refine lv_goto (tgt := 181) hx hb dX3_speak_134 (by decide) ?_
    exact W.vret hx hb hr (fun t ht hW => ⟨⟨s15, rfl, hw, by rw [ht]; exact hP, va_K.moved hW.alike hK, hD⟩, hS.F ht⟩) hS.2.2 dX3_speak_181
  have hw := hw.2 c14
  refine (Classical.em ((s0 0 6) = 6)).elim (fun c17 => ?_) (fun c17 => ?_)
  · have hw := hw.1 c17
    refine lv_tableIn (tgt := 137) hx hb dX3_speak_4 (by rw [c17]; decide) (by rw [c17]; decide) (by rw [c17]; rfl) (by decide) ?_
    refine lv_aload_n hx hb dX3_speak_137 rfl (lv_at hl 0 rfl) ?_
    refine va_get (D := (dC, dI)) (ci := 3) (v := .ref (a 14)) (C := RX3) (T := TX3) (N := 20) hx hb hts h_in3 hown hK hP 0 rfl rfl 2 (by decide) h_f82 (fun _ h9 => h9) rfl dX3_speak_138 ?_
    refine lv_iload_n hx hb dX3_speak_141 rfl (lv_at hl 1 rfl) ?_
    refine lv_bipush (v := 6) hx hb dX3_speak_142 (by decide) ?_
    refine lv_aload_n hx hb dX3_speak_144 rfl (lv_at hl 0 rfl) ?_
    refine va_get (D := (dC, dI)) (ci := 3) (v := .int (s0 0 10)) (C := RX3) (T := TX3) (N := 20) hx hb hts h_in3 hown hK hP 0 rfl rfl 10 (by decide) h_f44 (fun _ h9 => h9) rfl dX3_speak_145 ?_
    refine lv_aload_n hx hb dX3_speak_148 rfl (lv_at hl 0 rfl) ?_
    refine va_get (D := (dC, dI)) (ci := 3) (v := .int (s0 0 12)) (C := RX3) (T := TX3) (N := 20) hx hb hts h_in3 hown hK hP 0 rfl rfl 12 (by decide) h_f50 (fun _ h9 => h9) rfl dX3_speak_149 ?_
    refine lv_iconst (v := 0) hx hb dX3_speak_152 (by decide) ?_
    refine lv_iconst (v := 0) hx hb dX3_speak_153 (by decide) ?_
    have hPc := hP.sub (ws' := (tm_wWay cI cZ (tm_pj [14, 15, 16, 17, 18] a) (tm_pj [14, 15, 16, 17, 18] s0))) [14, 15, 16, 17, 18] rfl
    have hDc := hD.sub (ws' := (tm_wWay cI cZ (tm_pj [14, 15, 16, 17, 18] a) (tm_pj [14, 15, 16, 17, 18] s0))) [14, 15, 16, 17, 18] (by decide) rfl
    have hFc := va_free (wc := (tm_wWay cI cZ (tm_pj [14, 15, 16, 17, 18] a) (tm_pj [14, 15, 16, 17, 18] s0))) hD hS hA [14, 15, 16, 17, 18] rfl
    refine va_callv (va_runV (As := [.int p0, .int 6, .int (s0 0 10), .int (s0 0 12), .int 0, .int 0]) (rest := []) ⟨hx, hb, hml, hown, hts⟩ (kk_X7_send l dC dI cI cZ (tm_pj [14, 15, 16, 17, 18] a) (tm_pj [14, 15, 16, 17, 18] s0) z.heap.size p0 6 (s0 0 10) (s0 0 12) 0 0 _ hw) (cwV 6 hts gX3_speak_X7_send rfl rfl rfl (by decide +kernel) ⟨Nat.le_of_ble_eq_true rfl, Nat.le_of_ble_eq_true rfl⟩) ⟨tm_blind, va_recv hK hPc (ci := 5) (q0 := 0) rfl rfl, fun U hU hW => ⟨rfl, by rw [hU], by rw [hU]; exact hPc, va_K.moved hW.alike hK, hDc.weaken (fun _ _ _ _ => trivial)⟩⟩ rfl rfl hl.1 rfl (lv_room (Nat.le_of_ble_eq_true rfl)) dX3_speak_154 ⟨Nat.zero_le _, Nat.zero_le _⟩) hS (fun q _ h => hFc q h) hFc (fun u t H1 locs ht hvm hw hB hz1 hk1 hS => ?_)
    obtain ⟨hP1, hK1, hD1⟩ := hB
    rw [ht] at hP1
    obtain ⟨hP, hD⟩ := va_join (wr := ([0, 1, 2, 3, 4, 5, 6, 7, 8, 9, 10, 11, 12, 13] : List Nat).filterMap (fun i => (tm_wModem cI cZ a s0)[i]?)) (w1 := (tm_wWay cI cZ (tm_pj [14, 15, 16, 17, 18] a) u)) hP hD [14, 15, 16, 17, 18] [0, 1, 2, 3, 4, 5, 6, 7, 8, 9, 10, 11, 12, 13] rfl rfl (by decide) (by decide) hk1 hFc hP1 hD1
    generalize H1 = H at hP hS ⊢
    obtain ⟨s18, es18⟩ : ∃ y : tm_St, y = tm_pk [14, 15, 16, 17, 18] s0 u := ⟨_, rfl⟩
    have hw := hw s18 es18
    have hP : va_P (dC, dI) vwCl (tm_wModem cI cZ a s18) H := by rw [es18]; exact hP.sub [0, 1, 2, 3, 4, 5, 6, 7, 8, 9, 10, 11, 12, 13, 14, 15, 16, 17, 18] rfl
    have hD : va_D A (tm_wModem cI cZ a s18) := by rw [es18]; exact hD.sub [0, 1, 2, 3, 4, 5, 6, 7, 8, 9, 10, 11, 12, 13, 14, 15, 16, 17, 18] (by decide) rfl
    refine lv_goto (tgt := 181) hx hb dX3_speak_157 (by decide) ?_
    exact W.vret hx hb hr (fun t ht hW => ⟨⟨s18, rfl, hw, by rw [ht]; exact hP, va_K.moved hW.alike hK, hD⟩, hS.F ht⟩) hS.2.2 dX3_speak_181
  have hw := hw.2 c17
  refine (Classical.em ((s0 0 6) = 7)).elim (fun c20 => ?_) (fun c20 => ?_)
  · have hw := hw.1 c20
    refine lv_tableIn (tgt := 160) hx hb dX3_speak_4 (by rw [c20]; decide) (by rw [c20]; decide) (by rw [c20]; rfl) (by decide) ?_
    refine lv_aload_n hx hb dX3_speak_160 rfl (lv_at hl 0 rfl) ?_
    refine lv_iload_n hx hb dX3_speak_161 rfl (lv_at hl 1 rfl) ?_
    have hPc := hP
    have hDc := hD
    have hFc := va_free (wc := (tm_wModem cI cZ a s0)) hD hS hA [0, 1, 2, 3, 4, 5, 6, 7, 8, 9, 10, 11, 12, 13, 14, 15, 16, 17, 18] rfl
    refine va_callv (va_runV (As := [.int p0]) (rest := []) ⟨hx, hb, hml, hown, hts⟩ (kk_X3_speakFrame l dC dI cI cZ a s0 z.heap.size p0 _ hw) (cwV 1 hts gX3_speak_X3_speakFrame rfl rfl rfl (by decide +kernel) ⟨Nat.le_of_ble_eq_true rfl, Nat.le_of_ble_eq_true rfl⟩) ⟨tm_blind, va_recv hK hPc (ci := 3) (q0 := 0) rfl rfl, fun U hU hW => ⟨rfl, by rw [hU], by rw [hU]; exact hPc, va_K.moved hW.alike hK, hDc.weaken (fun _ _ _ _ => trivial)⟩⟩ rfl rfl hl.1 rfl (lv_room (Nat.le_of_ble_eq_true rfl)) dX3_speak_162 ⟨Nat.zero_le _, Nat.zero_le _⟩) hS (fun q _ h => hFc q h) hFc (fun s21 t H1 locs ht hvm hw hB hz1 hk1 hS => ?_)
    obtain ⟨hP1, hK1, hD1⟩ := hB
    rw [ht] at hP1
    obtain ⟨hP, hD⟩ := va_join (wr := []) (w1 := (tm_wModem cI cZ a s21)) hP hD [0, 1, 2, 3, 4, 5, 6, 7, 8, 9, 10, 11, 12, 13, 14, 15, 16, 17, 18] [] rfl rfl (by decide) (by decide) hk1 hFc hP1 hD1
    generalize H1 = H at hP hS ⊢
    have hP : va_P (dC, dI) vwCl (tm_wModem cI cZ a s21) H := hP
    have hD : va_D A (tm_wModem cI cZ a s21) := hD
    refine lv_goto (tgt := 181) hx hb dX3_speak_165 (by decide) ?_
    exact W.vret hx hb hr (fun t ht hW => ⟨⟨s21, rfl, hw, by rw [ht]; exact hP, va_K.moved hW.alike hK, hD⟩, hS.F ht⟩) hS.2.2 dX3_speak_181
  have hw := hw.2 c20
  have nc1 := lv_neT (a := 1) c1 rfl
  have nc4 := lv_neT (a := 2) c4 rfl
  have nc7 := lv_neT (a := 3) c7 rfl
  have nc9 := lv_neT (a := 4) c9 rfl
  have nc14 := lv_neT (a := 5) c14 rfl
  have nc17 := lv_neT (a := 6) c17 rfl
  have nc20 := lv_neT (a := 7) c20 rfl
  refine lv_tableOut (tgt := 168) hx hb dX3_speak_4 (by omega) (by decide) ?_
  refine lv_aload_n hx hb dX3_speak_168 rfl (lv_at hl 0 rfl) ?_
  refine va_get (D := (dC, dI)) (ci := 3) (v := .ref (a 14)) (C := RX3) (T := TX3) (N := 20) hx hb hts h_in3 hown hK hP 0 rfl rfl 2 (by decide) h_f82 (fun _ h9 => h9) rfl dX3_speak_169 ?_
  refine lv_iload_n hx hb dX3_speak_172 rfl (lv_at hl 1 rfl) ?_
  refine lv_iconst (v := 0) hx hb dX3_speak_173 (by decide) ?_
  refine lv_iconst (v := 0) hx hb dX3_speak_174 (by decide) ?_
  refine lv_iconst (v := 0) hx hb dX3_speak_175 (by decide) ?_
  refine lv_iconst (v := 0) hx hb dX3_speak_176 (by decide) ?_
  refine lv_iconst (v := 0) hx hb dX3_speak_177 (by decide) ?_
  have hPc := hP.sub (ws' := (tm_wWay cI cZ (tm_pj [14, 15, 16, 17, 18] a) (tm_pj [14, 15, 16, 17, 18] s0))) [14, 15, 16, 17, 18] rfl
  have hDc := hD.sub (ws' := (tm_wWay cI cZ (tm_pj [14, 15, 16, 17, 18] a) (tm_pj [14, 15, 16, 17, 18] s0))) [14, 15, 16, 17, 18] (by decide) rfl
  have hFc := va_free (wc := (tm_wWay cI cZ (tm_pj [14, 15, 16, 17, 18] a) (tm_pj [14, 15, 16, 17, 18] s0))) hD hS hA [14, 15, 16, 17, 18] rfl
  refine va_callv (va_runV (As := [.int p0, .int 0, .int 0, .int 0, .int 0, .int 0]) (rest := []) ⟨hx, hb, hml, hown, hts⟩ (kk_X7_send l dC dI cI cZ (tm_pj [14, 15, 16, 17, 18] a) (tm_pj [14, 15, 16, 17, 18] s0) z.heap.size p0 0 0 0 0 0 _ hw) (cwV 6 hts gX3_speak_X7_send rfl rfl rfl (by decide +kernel) ⟨Nat.le_of_ble_eq_true rfl, Nat.le_of_ble_eq_true rfl⟩) ⟨tm_blind, va_recv hK hPc (ci := 5) (q0 := 0) rfl rfl, fun U hU hW => ⟨rfl, by rw [hU], by rw [hU]; exact hPc, va_K.moved hW.alike hK, hDc.weaken (fun _ _ _ _ => trivial)⟩⟩ rfl rfl hl.1 rfl (lv_room (Nat.le_of_ble_eq_true rfl)) dX3_speak_178 ⟨Nat.zero_le _, Nat.zero_le _⟩) hS (fun q _ h => hFc q h) hFc (fun u t H1 locs ht hvm hw hB hz1 hk1 hS => ?_)
  obtain ⟨hP1, hK1, hD1⟩ := hB
  rw [ht] at hP1
  obtain ⟨hP, hD⟩ := va_join (wr := ([0, 1, 2, 3, 4, 5, 6, 7, 8, 9, 10, 11, 12, 13] : List Nat).filterMap (fun i => (tm_wModem cI cZ a s0)[i]?)) (w1 := (tm_wWay cI cZ (tm_pj [14, 15, 16, 17, 18] a) u)) hP hD [14, 15, 16, 17, 18] [0, 1, 2, 3, 4, 5, 6, 7, 8, 9, 10, 11, 12, 13] rfl rfl (by decide) (by decide) hk1 hFc hP1 hD1
  generalize H1 = H at hP hS ⊢
  obtain ⟨s22, es22⟩ : ∃ y : tm_St, y = tm_pk [14, 15, 16, 17, 18] s0 u := ⟨_, rfl⟩
  have hw := hw s22 es22
  have hP : va_P (dC, dI) vwCl (tm_wModem cI cZ a s22) H := by rw [es22]; exact hP.sub [0, 1, 2, 3, 4, 5, 6, 7, 8, 9, 10, 11, 12, 13, 14, 15, 16, 17, 18] rfl
  have hD : va_D A (tm_wModem cI cZ a s22) := by rw [es22]; exact hD.sub [0, 1, 2, 3, 4, 5, 6, 7, 8, 9, 10, 11, 12, 13, 14, 15, 16, 17, 18] (by decide) rfl
  exact W.vret hx hb hr (fun t ht hW => ⟨⟨s22, rfl, hw, by rw [ht]; exact hP, va_K.moved hW.alike hK, hD⟩, hS.F ht⟩) hS.2.2 dX3_speak_181
def wp_X3_lookAtWaiting (p0 : Int32) (s0 : tm_St) (K : tm_St → Prop) : Prop := (((s0 4 5) ≤ (s0 4 4) → (∀ s2 : tm_St, s2 = tm_s s0 0 (tm_u (s0 0) 14 0) → (((s2 0 14) < ((2 * (s2 8 2)) + 4) → K s2) ∧ (¬ (s2 0 14) < ((2 * (s2 8 2)) + 4) → (∀ s4 : tm_St, s4 = tm_s s2 0 (tm_u (s2 0) 14 0) → (∀ s5 : tm_St, s5 = tm_s s4 4 (tm_u (s4 4) 5 (s4 4 4)) → K s5)))))) ∧ (¬ (s0 4 5) ≤ (s0 4 4) → ((¬ p0 = 0 → (∀ s7 : tm_St, s7 = tm_s s0 0 (tm_u (s0 0) 14 0) → (((s7 0 14) < ((2 * (s7 8 2)) + 4) → K s7) ∧ (¬ (s7 0 14) < ((2 * (s7 8 2)) + 4) → (∀ s9 : tm_St, s9 = tm_s s7 0 (tm_u (s7 0) 14 0) → (∀ s10 : tm_St, s10 = tm_s s9 4 (tm_u (s9 4) 5 (s9 4 4)) → K s10)))))) ∧ (p0 = 0 → (∀ s11 : tm_St, s11 = tm_s s0 0 (tm_u (s0 0) 14 ((s0 0 14) + 1)) → (((s11 0 14) < ((2 * (s11 8 2)) + 4) → K s11) ∧ (¬ (s11 0 14) < ((2 * (s11 8 2)) + 4) → (∀ s13 : tm_St, s13 = tm_s s11 0 (tm_u (s11 0) 14 0) → (∀ s14 : tm_St, s14 = tm_s s13 4 (tm_u (s13 4) 5 (s13 4 4)) → K s14)))))))))
set_option maxRecDepth 100000 in
set_option maxHeartbeats 4000000 in
theorem kk_X3_lookAtWaiting (l : Launch) (dC : Nat → ClassId) (dI : Nat → Nat → Nat) (cI cZ : ClassId) (a : Nat → Nat) (s0 : tm_St) (sz : Nat) (p0 : Int32) (K : tm_St → Prop) (hw : wp_X3_lookAtWaiting p0 s0 K) : Met l yX3_lookAtWaiting wsX3_lookAtWaiting ({ frames := 0, cells := 0, slots := 0, locals := 0 }) (va_Pc [.ref (a 0), .int p0] (tm_Pre dC dI cI cZ (tm_wModem cI cZ a s0) sz)) (va_Qv (fun (u : tm_St) => K u) (fun (u : tm_St) t => tm_At dC dI cI cZ (va_A (tm_wModem cI cZ a s0) sz) (tm_wModem cI cZ a u) t) (va_A (tm_wModem cI cZ a s0) sz)) 0 0 (va_A (tm_wModem cI cZ a s0) sz) := by
  refine Met.ofW (cc := cX3_lookAtWaiting) (maxL := 2) (ret := none) (by decide +kernel) rfl ?_
  intro p e z m args below meth c z₁ B hml hv
  obtain ⟨rfl, hsz, hP, hK, hD0⟩ := hv
  have hx := B.exec
  have hb := B.bytes
  have hr := B.returns
  have hts := atoms_spec (ws := wsX3_lookAtWaiting) B.pre
  have hown : z.vm.findClass RX3 = some m.cls := findClass_of_methodNamed B.named
  have hlocks := B.notSynchronized
  subst hsz
  have hD := hD0.self (sz := z.heap.size)
  generalize hAe : va_A (tm_wModem cI cZ a s0) z.heap.size = A at hD ⊢
  have hA : ∀ q : Nat, z.heap.size ≤ q → A q := fun q h => by rw [← hAe]; exact Or.inr h
  have hS : va_S A z.heap z.heap [] := va_S.rf
  have h_f21 := hts (.fieldLink RX3 21 "TwoModems$Modem" "mail" "LTwoModems$Mail;") (by decide +kernel)
  have h_in3 : ∀ w ∈ u_ws RX3 TX3 20, w ∈ wsX3_lookAtWaiting := by decide +kernel
  have h_f91 := hts (.fieldLink RX3 91 "TwoModems$Mail" "told" "I") (by decide +kernel)
  have h_in2 : ∀ w ∈ u_ws RX2 TX2 8, w ∈ wsX3_lookAtWaiting := by decide +kernel
  have h_f88 := hts (.fieldLink RX3 88 "TwoModems$Mail" "next" "I") (by decide +kernel)
  have h_f56 := hts (.fieldLink RX3 56 "TwoModems$Modem" "waited" "I") (by decide +kernel)
  have h_f74 := hts (.fieldLink RX3 74 "TwoModems$Modem" "line" "LTwoModems$Line;") (by decide +kernel)
  have h_f117 := hts (.fieldLink RX3 117 "TwoModems$Line" "delay" "I") (by decide +kernel)
  have h_in1 : ∀ w ∈ u_ws RX1 TX1 4, w ∈ wsX3_lookAtWaiting := by decide +kernel
  have hl := lv_entry ([.ref (a 0), .int p0]) (n := 2) (Nat.le_of_ble_eq_true rfl)
  rw [lg_entry_eq]
  generalize (lg_sl ([.ref (a 0), .int p0]) ++ List.replicate (2 - (lg_sl ([.ref (a 0), .int p0])).length) Slot.unset).toArray = ls at hl ⊢
  have hl : lv_has ls 2 [(0, .ref (a 0)), (1, .int p0)] := hl
  unfold wp_X3_lookAtWaiting at hw
  refine lv_aload_n hx hb dX3_lookAtWaiting_0 rfl (lv_at hl 0 rfl) ?_
  refine lv_aload_n hx hb dX3_lookAtWaiting_1 rfl (lv_at hl 0 rfl) ?_
  refine va_get (D := (dC, dI)) (ci := 3) (v := .ref (a 4)) (C := RX3) (T := TX3) (N := 20) hx hb hts h_in3 hown hK hP 0 rfl rfl 4 (by decide) h_f21 (fun _ h9 => h9) rfl dX3_lookAtWaiting_2 ?_
  refine va_get (D := (dC, dI)) (ci := 2) (v := .int (s0 4 4)) (C := RX2) (T := TX2) (N := 8) hx hb hts h_in2 hown hK hP 4 rfl rfl 4 (by decide) h_f91 (fun _ h9 => h9) rfl dX3_lookAtWaiting_5 ?_
  refine lv_aload_n hx hb dX3_lookAtWaiting_8 rfl (lv_at hl 0 rfl) ?_
  refine va_get (D := (dC, dI)) (ci := 3) (v := .ref (a 4)) (C := RX3) (T := TX3) (N := 20) hx hb hts h_in3 hown hK hP 0 rfl rfl 4 (by decide) h_f21 (fun _ h9 => h9) rfl dX3_lookAtWaiting_9 ?_
  refine va_get (D := (dC, dI)) (ci := 2) (v := .int (s0 4 5)) (C := RX2) (T := TX2) (N := 8) hx hb hts h_in2 hown hK hP 4 rfl rfl 5 (by decide) h_f88 (fun _ h9 => h9) rfl dX3_lookAtWaiting_12 ?_
  refine lv_icmp_ge (tgt := 31) hx hb dX3_lookAtWaiting_15 (by decide) (fun c1 => ?_) (fun c1 => ?_)
  · have hw := hw.1 c1
    refine lv_iconst (v := 0) hx hb dX3_lookAtWaiting_31 (by decide) ?_
    refine va_put (D := (dC, dI)) (ci := 3) (v := .int 0) (ty := .int) (C := RX3) (T := TX3) (N := 20) hx hb hts h_in3 tyX3 tyX3_ok nmX3 hown hK hP hD hS 0 rfl rfl 14 (by decide) h_f56 (fun _ h9 => h9) rfl (by decide +kernel) rfl rfl (Nat.le_of_ble_eq_true rfl) dX3_lookAtWaiting_32 (fun H locs hP hD hS => ?_)
    obtain ⟨s2, es2⟩ : ∃ y : tm_St, y = tm_s s0 0 (tm_u (s0 0) 14 0) := ⟨_, rfl⟩
    have hw := hw s2 es2
    have hP : va_P (dC, dI) vwCl (tm_wModem cI cZ a s2) H := by rw [es2]; exact hP
    have hD : va_D A (tm_wModem cI cZ a s2) := by rw [es2]; exact hD
    refine lv_aload_n hx hb dX3_lookAtWaiting_35 rfl (lv_at hl 0 rfl) ?_
    refine va_get (D := (dC, dI)) (ci := 3) (v := .int (s2 0 14)) (C := RX3) (T := TX3) (N := 20) hx hb hts h_in3 hown hK hP 0 rfl rfl 14 (by decide) h_f56 (fun _ h9 => h9) rfl dX3_lookAtWaiting_36 ?_
    refine lv_iconst (v := 2) hx hb dX3_lookAtWaiting_39 (by decide) ?_
    refine lv_aload_n hx hb dX3_lookAtWaiting_40 rfl (lv_at hl 0 rfl) ?_
    refine va_get (D := (dC, dI)) (ci := 3) (v := .ref (a 8)) (C := RX3) (T := TX3) (N := 20) hx hb hts h_in3 hown hK hP 0 rfl rfl 0 (by decide) h_f74 (fun _ h9 => h9) rfl dX3_lookAtWaiting_41 ?_
    refine va_get (D := (dC, dI)) (ci := 1) (v := .int (s2 8 2)) (C := RX1) (T := TX1) (N := 4) hx hb hts h_in1 hown hK hP 8 rfl rfl 2 (by decide) h_f117 (fun _ h9 => h9) rfl dX3_lookAtWaiting_44 ?_
    refine lv_imul hx hb dX3_lookAtWaiting_47 ?_
    refine lv_iconst (v := 4) hx hb dX3_lookAtWaiting_48 (by decide) ?_
    refine lv_iadd hx hb dX3_lookAtWaiting_49 ?_
    refine lv_icmp_lt (tgt := 72) hx hb dX3_lookAtWaiting_50 (by decide) (fun c3 => ?_) (fun c3 => ?_)
    · have hw := hw.1 c3
      exact W.vret hx hb hr (fun t ht hW => ⟨⟨s2, rfl, hw, by rw [ht]; exact hP, va_K.moved hW.alike hK, hD⟩, hS.F ht⟩) hS.2.2 dX3_lookAtWaiting_72
    · have hw := hw.2 c3
      refine lv_aload_n hx hb dX3_lookAtWaiting_53 rfl (lv_at hl 0 rfl) ?_
      refine lv_iconst (v := 0) hx hb dX3_lookAtWaiting_54 (by decide) ?_
      refine va_put (D := (dC, dI)) (ci := 3) (v := .int 0) (ty := .int) (C := RX3) (T := TX3) (N := 20) hx hb hts h_in3 tyX3 tyX3_ok nmX3 hown hK hP hD hS 0 rfl rfl 14 (by decide) h_f56 (fun _ h9 => h9) rfl (by decide +kernel) rfl rfl (Nat.le_of_ble_eq_true rfl) dX3_lookAtWaiting_55 (fun H locs hP hD hS => ?_)
      obtain ⟨s4, es4⟩ : ∃ y : tm_St, y = tm_s s2 0 (tm_u (s2 0) 14 0) := ⟨_, rfl⟩
      have hw := hw s4 es4
      have hP : va_P (dC, dI) vwCl (tm_wModem cI cZ a s4) H := by rw [es4]; exact hP
      have hD : va_D A (tm_wModem cI cZ a s4) := by rw [es4]; exact hD
      refine lv_aload_n hx hb dX3_lookAtWaiting_58 rfl (lv_at hl 0 rfl) ?_
      refine va_get (D := (dC, dI)) (ci := 3) (v := .ref (a 4)) (C := RX3) (T := TX3) (N := 20) hx hb hts h_in3 hown hK hP 0 rfl rfl 4 (by decide) h_f21 (fun _ h9 => h9) rfl dX3_lookAtWaiting_59 ?_
      refine lv_aload_n hx hb dX3_lookAtWaiting_62 rfl (lv_at hl 0 rfl) ?_
      refine va_get (D := (dC, dI)) (ci := 3) (v := .ref (a 4)) (C := RX3) (T := TX3) (N := 20) hx hb hts h_in3 hown hK hP 0 rfl rfl 4 (by decide) h_f21 (fun _ h9 => h9) rfl dX3_lookAtWaiting_63 ?_
      refine va_get (D := (dC, dI)) (ci := 2) (v := .int (s4 4 4)) (C := RX2) (T := TX2) (N := 8) hx hb hts h_in2 hown hK hP 4 rfl rfl 4 (by decide) h_f91 (fun _ h9 => h9) rfl dX3_lookAtWaiting_66 ?_
      refine va_put (D := (dC, dI)) (ci := 2) (v := .int (s4 4 4)) (ty := .int) (C := RX2) (T := TX2) (N := 8) hx hb hts h_in2 tyX2 tyX2_ok nmX2 hown hK hP hD hS 4 rfl rfl 5 (by decide) h_f88 (fun _ h9 => h9) rfl (by decide +kernel) rfl rfl (Nat.le_of_ble_eq_true rfl) dX3_lookAtWaiting_69 (fun H locs hP hD hS => ?_)
      obtain ⟨s5, es5⟩ : ∃ y : tm_St, y = tm_s s4 4 (tm_u (s4 4) 5 (s4 4 4)) := ⟨_, rfl⟩
      have hw := hw s5 es5
      have hP : va_P (dC, dI) vwCl (tm_wModem cI cZ a s5) H := by rw [es5]; exact hP
      have hD : va_D A (tm_wModem cI cZ a s5) := by rw [es5]; exact hD
      exact W.vret hx hb hr (fun t ht hW => ⟨⟨s5, rfl, hw, by rw [ht]; exact hP, va_K.moved hW.alike hK, hD⟩, hS.F ht⟩) hS.2.2 dX3_lookAtWaiting_72
  · have hw := hw.2 c1
    refine lv_iload_n hx hb dX3_lookAtWaiting_18 rfl (lv_at hl 1 rfl) ?_
    refine lv_if_ne (tgt := 31) hx hb dX3_lookAtWaiting_19 (by decide) (fun c6 => ?_) (fun c6 => ?_)
    · have hw := hw.1 c6
      refine lv_iconst (v := 0) hx hb dX3_lookAtWaiting_31 (by decide) ?_
      refine va_put (D := (dC, dI)) (ci := 3) (v := .int 0) (ty := .int) (C := RX3) (T := TX3) (N := 20) hx hb hts h_in3 tyX3 tyX3_ok nmX3 hown hK hP hD hS 0 rfl rfl 14 (by decide) h_f56 (fun _ h9 => h9) rfl (by decide +kernel) rfl rfl (Nat.le_of_ble_eq_true rfl) dX3_lookAtWaiting_32 (fun H locs hP hD hS => ?_)
      obtain ⟨s7, es7⟩ : ∃ y : tm_St, y = tm_s s0 0 (tm_u (s0 0) 14 0) := ⟨_, rfl⟩
      have hw := hw s7 es7
      have hP : va_P (dC, dI) vwCl (tm_wModem cI cZ a s7) H := by rw [es7]; exact hP
      have hD : va_D A (tm_wModem cI cZ a s7) := by rw [es7]; exact hD
      refine lv_aload_n hx hb dX3_lookAtWaiting_35 rfl (lv_at hl 0 rfl) ?_
      refine va_get (D := (dC, dI)) (ci := 3) (v := .int (s7 0 14)) (C := RX3) (T := TX3) (N := 20) hx hb hts h_in3 hown hK hP 0 rfl rfl 14 (by decide) h_f56 (fun _ h9 => h9) rfl dX3_lookAtWaiting_36 ?_
      refine lv_iconst (v := 2) hx hb dX3_lookAtWaiting_39 (by decide) ?_
      refine lv_aload_n hx hb dX3_lookAtWaiting_40 rfl (lv_at hl 0 rfl) ?_
      refine va_get (D := (dC, dI)) (ci := 3) (v := .ref (a 8)) (C := RX3) (T := TX3) (N := 20) hx hb hts h_in3 hown hK hP 0 rfl rfl 0 (by decide) h_f74 (fun _ h9 => h9) rfl dX3_lookAtWaiting_41 ?_
      refine va_get (D := (dC, dI)) (ci := 1) (v := .int (s7 8 2)) (C := RX1) (T := TX1) (N := 4) hx hb hts h_in1 hown hK hP 8 rfl rfl 2 (by decide) h_f117 (fun _ h9 => h9) rfl dX3_lookAtWaiting_44 ?_
      refine lv_imul hx hb dX3_lookAtWaiting_47 ?_
      refine lv_iconst (v := 4) hx hb dX3_lookAtWaiting_48 (by decide) ?_
      refine lv_iadd hx hb dX3_lookAtWaiting_49 ?_
      refine lv_icmp_lt (tgt := 72) hx hb dX3_lookAtWaiting_50 (by decide) (fun c8 => ?_) (fun c8 => ?_)
      · have hw := hw.1 c8
        exact W.vret hx hb hr (fun t ht hW => ⟨⟨s7, rfl, hw, by rw [ht]; exact hP, va_K.moved hW.alike hK, hD⟩, hS.F ht⟩) hS.2.2 dX3_lookAtWaiting_72
      · have hw := hw.2 c8
        refine lv_aload_n hx hb dX3_lookAtWaiting_53 rfl (lv_at hl 0 rfl) ?_
        refine lv_iconst (v := 0) hx hb dX3_lookAtWaiting_54 (by decide) ?_
        refine va_put (D := (dC, dI)) (ci := 3) (v := .int 0) (ty := .int) (C := RX3) (T := TX3) (N := 20) hx hb hts h_in3 tyX3 tyX3_ok nmX3 hown hK hP hD hS 0 rfl rfl 14 (by decide) h_f56 (fun _ h9 => h9) rfl (by decide +kernel) rfl rfl (Nat.le_of_ble_eq_true rfl) dX3_lookAtWaiting_55 (fun H locs hP hD hS => ?_)
        obtain ⟨s9, es9⟩ : ∃ y : tm_St, y = tm_s s7 0 (tm_u (s7 0) 14 0) := ⟨_, rfl⟩
        have hw := hw s9 es9
        have hP : va_P (dC, dI) vwCl (tm_wModem cI cZ a s9) H := by rw [es9]; exact hP
        have hD : va_D A (tm_wModem cI cZ a s9) := by rw [es9]; exact hD
        refine lv_aload_n hx hb dX3_lookAtWaiting_58 rfl (lv_at hl 0 rfl) ?_
        refine va_get (D := (dC, dI)) (ci := 3) (v := .ref (a 4)) (C := RX3) (T := TX3) (N := 20) hx hb hts h_in3 hown hK hP 0 rfl rfl 4 (by decide) h_f21 (fun _ h9 => h9) rfl dX3_lookAtWaiting_59 ?_
        refine lv_aload_n hx hb dX3_lookAtWaiting_62 rfl (lv_at hl 0 rfl) ?_
        refine va_get (D := (dC, dI)) (ci := 3) (v := .ref (a 4)) (C := RX3) (T := TX3) (N := 20) hx hb hts h_in3 hown hK hP 0 rfl rfl 4 (by decide) h_f21 (fun _ h9 => h9) rfl dX3_lookAtWaiting_63 ?_
        refine va_get (D := (dC, dI)) (ci := 2) (v := .int (s9 4 4)) (C := RX2) (T := TX2) (N := 8) hx hb hts h_in2 hown hK hP 4 rfl rfl 4 (by decide) h_f91 (fun _ h9 => h9) rfl dX3_lookAtWaiting_66 ?_
        refine va_put (D := (dC, dI)) (ci := 2) (v := .int (s9 4 4)) (ty := .int) (C := RX2) (T := TX2) (N := 8) hx hb hts h_in2 tyX2 tyX2_ok nmX2 hown hK hP hD hS 4 rfl rfl 5 (by decide) h_f88 (fun _ h9 => h9) rfl (by decide +kernel) rfl rfl (Nat.le_of_ble_eq_true rfl) dX3_lookAtWaiting_69 (fun H locs hP hD hS => ?_)
        obtain ⟨s10, es10⟩ : ∃ y : tm_St, y = tm_s s9 4 (tm_u (s9 4) 5 (s9 4 4)) := ⟨_, rfl⟩
        have hw := hw s10 es10
        have hP : va_P (dC, dI) vwCl (tm_wModem cI cZ a s10) H := by rw [es10]; exact hP
        have hD : va_D A (tm_wModem cI cZ a s10) := by rw [es10]; exact hD
        exact W.vret hx hb hr (fun t ht hW => ⟨⟨s10, rfl, hw, by rw [ht]; exact hP, va_K.moved hW.alike hK, hD⟩, hS.F ht⟩) hS.2.2 dX3_lookAtWaiting_72
    · have hw := hw.2 c6
      refine lv_aload_n hx hb dX3_lookAtWaiting_22 rfl (lv_at hl 0 rfl) ?_
      refine va_get (D := (dC, dI)) (ci := 3) (v := .int (s0 0 14)) (C := RX3) (T := TX3) (N := 20) hx hb hts h_in3 hown hK hP 0 rfl rfl 14 (by decide) h_f56 (fun _ h9 => h9) rfl dX3_lookAtWaiting_23 ?_
      refine lv_iconst (v := 1) hx hb dX3_lookAtWaiting_26 (by decide) ?_
      refine lv_iadd hx hb dX3_lookAtWaiting_27 ?_
      refine lv_goto (tgt := 32) hx hb dX3_lookAtWaiting_28 (by decide) ?_
      refine va_put (D := (dC, dI)) (ci := 3) (v := .int ((s0 0 14) + 1)) (ty := .int) (C := RX3) (T := TX3) (N := 20) hx hb hts h_in3 tyX3 tyX3_ok nmX3 hown hK hP hD hS 0 rfl rfl 14 (by decide) h_f56 (fun _ h9 => h9) rfl (by decide +kernel) rfl rfl (Nat.le_of_ble_eq_true rfl) dX3_lookAtWaiting_32 (fun H locs hP hD hS => ?_)
      obtain ⟨s11, es11⟩ : ∃ y : tm_St, y = tm_s s0 0 (tm_u (s0 0) 14 ((s0 0 14) + 1)) := ⟨_, rfl⟩
      have hw := hw s11 es11
      have hP : va_P (dC, dI) vwCl (tm_wModem cI cZ a s11) H := by rw [es11]; exact hP
      have hD : va_D A (tm_wModem cI cZ a s11) := by rw [es11]; exact hD
      refine lv_aload_n hx hb dX3_lookAtWaiting_35 rfl (lv_at hl 0 rfl) ?_
      refine va_get (D := (dC, dI)) (ci := 3) (v := .int (s11 0 14)) (C := RX3) (T := TX3) (N := 20) hx hb hts h_in3 hown hK hP 0 rfl rfl 14 (by decide) h_f56 (fun _ h9 => h9) rfl dX3_lookAtWaiting_36 ?_
      refine lv_iconst (v := 2) hx hb dX3_lookAtWaiting_39 (by decide) ?_
      refine lv_aload_n hx hb dX3_lookAtWaiting_40 rfl (lv_at hl 0 rfl) ?_
      refine va_get (D := (dC, dI)) (ci := 3) (v := .ref (a 8)) (C := RX3) (T := TX3) (N := 20) hx hb hts h_in3 hown hK hP 0 rfl rfl 0 (by decide) h_f74 (fun _ h9 => h9) rfl dX3_lookAtWaiting_41 ?_
      refine va_get (D := (dC, dI)) (ci := 1) (v := .int (s11 8 2)) (C := RX1) (T := TX1) (N := 4) hx hb hts h_in1 hown hK hP 8 rfl rfl 2 (by decide) h_f117 (fun _ h9 => h9) rfl dX3_lookAtWaiting_44 ?_
      refine lv_imul hx hb dX3_lookAtWaiting_47 ?_
      refine lv_iconst (v := 4) hx hb dX3_lookAtWaiting_48 (by decide) ?_
      refine lv_iadd hx hb dX3_lookAtWaiting_49 ?_
      refine lv_icmp_lt (tgt := 72) hx hb dX3_lookAtWaiting_50 (by decide) (fun c12 => ?_) (fun c12 => ?_)
      · have hw := hw.1 c12
        exact W.vret hx hb hr (fun t ht hW => ⟨⟨s11, rfl, hw, by rw [ht]; exact hP, va_K.moved hW.alike hK, hD⟩, hS.F ht⟩) hS.2.2 dX3_lookAtWaiting_72
      · have hw := hw.2 c12
        refine lv_aload_n hx hb dX3_lookAtWaiting_53 rfl (lv_at hl 0 rfl) ?_
        refine lv_iconst (v := 0) hx hb dX3_lookAtWaiting_54 (by decide) ?_
        refine va_put (D := (dC, dI)) (ci := 3) (v := .int 0) (ty := .int) (C := RX3) (T := TX3) (N := 20) hx hb hts h_in3 tyX3 tyX3_ok nmX3 hown hK hP hD hS 0 rfl rfl 14 (by decide) h_f56 (fun _ h9 => h9) rfl (by decide +kernel) rfl rfl (Nat.le_of_ble_eq_true rfl) dX3_lookAtWaiting_55 (fun H locs hP hD hS => ?_)
        obtain ⟨s13, es13⟩ : ∃ y : tm_St, y = tm_s s11 0 (tm_u (s11 0) 14 0) := ⟨_, rfl⟩
        have hw := hw s13 es13
        have hP : va_P (dC, dI) vwCl (tm_wModem cI cZ a s13) H := by rw [es13]; exact hP
        have hD : va_D A (tm_wModem cI cZ a s13) := by rw [es13]; exact hD
        refine lv_aload_n hx hb dX3_lookAtWaiting_58 rfl (lv_at hl 0 rfl) ?_
        refine va_get (D := (dC, dI)) (ci := 3) (v := .ref (a 4)) (C := RX3) (T := TX3) (N := 20) hx hb hts h_in3 hown hK hP 0 rfl rfl 4 (by decide) h_f21 (fun _ h9 => h9) rfl dX3_lookAtWaiting_59 ?_
        refine lv_aload_n hx hb dX3_lookAtWaiting_62 rfl (lv_at hl 0 rfl) ?_
        refine va_get (D := (dC, dI)) (ci := 3) (v := .ref (a 4)) (C := RX3) (T := TX3) (N := 20) hx hb hts h_in3 hown hK hP 0 rfl rfl 4 (by decide) h_f21 (fun _ h9 => h9) rfl dX3_lookAtWaiting_63 ?_
        refine va_get (D := (dC, dI)) (ci := 2) (v := .int (s13 4 4)) (C := RX2) (T := TX2) (N := 8) hx hb hts h_in2 hown hK hP 4 rfl rfl 4 (by decide) h_f91 (fun _ h9 => h9) rfl dX3_lookAtWaiting_66 ?_
        refine va_put (D := (dC, dI)) (ci := 2) (v := .int (s13 4 4)) (ty := .int) (C := RX2) (T := TX2) (N := 8) hx hb hts h_in2 tyX2 tyX2_ok nmX2 hown hK hP hD hS 4 rfl rfl 5 (by decide) h_f88 (fun _ h9 => h9) rfl (by decide +kernel) rfl rfl (Nat.le_of_ble_eq_true rfl) dX3_lookAtWaiting_69 (fun H locs hP hD hS => ?_)
        obtain ⟨s14, es14⟩ : ∃ y : tm_St, y = tm_s s13 4 (tm_u (s13 4) 5 (s13 4 4)) := ⟨_, rfl⟩
        have hw := hw s14 es14
        have hP : va_P (dC, dI) vwCl (tm_wModem cI cZ a s14) H := by rw [es14]; exact hP
        have hD : va_D A (tm_wModem cI cZ a s14) := by rw [es14]; exact hD
        exact W.vret hx hb hr (fun t ht hW => ⟨⟨s14, rfl, hw, by rw [ht]; exact hP, va_K.moved hW.alike hK, hD⟩, hS.F ht⟩) hS.2.2 dX3_lookAtWaiting_72
def wp_X3_lookAtLosses  (s0 : tm_St) (K : tm_St → Prop) : Prop := (wp_J6_bitCount_0f7a4 (s0 0 16) (fun r1 => ((r1 < 3 → K s0) ∧ (¬ r1 < 3 → (((s0 0 11) ≤ 1 → K s0) ∧ (¬ (s0 0 11) ≤ 1 → (((s0 0 8) < 8 → K s0) ∧ (¬ (s0 0 8) < 8 → (∀ s6 : tm_St, s6 = tm_s s0 0 (tm_u (s0 0) 18 ((s0 0 18) + 1)) → (∀ s7 : tm_St, s7 = tm_s s6 0 (tm_u (s6 0) 10 ((s6 0 10) + 1)) → (∀ s8 : tm_St, s8 = tm_s s7 0 (tm_u (s7 0) 11 ((s7 0 11) - 1)) → (wp_X3_come 5 s8 (fun s9 => K s9)))))))))))))
set_option maxRecDepth 100000 in
set_option maxHeartbeats 4000000 in
theorem kk_X3_lookAtLosses (l : Launch) (dC : Nat → ClassId) (dI : Nat → Nat → Nat) (cI cZ : ClassId) (a : Nat → Nat) (s0 : tm_St) (sz : Nat)  (K : tm_St → Prop) (hw : wp_X3_lookAtLosses s0 K) : Met l yX3_lookAtLosses wsX3_lookAtLosses ({ frames := 2, cells := 0, slots := 0, locals := 43 }) (va_Pc [.ref (a 0)] (tm_Pre dC dI cI cZ (tm_wModem cI cZ a s0) sz)) (va_Qv (fun (u : tm_St) => K u) (fun (u : tm_St) t => tm_At dC dI cI cZ (va_A (tm_wModem cI cZ a s0) sz) (tm_wModem cI cZ a u) t) (va_A (tm_wModem cI cZ a s0) sz)) 0 0 (va_A (tm_wModem cI cZ a s0) sz) := by
  refine Met.ofW (cc := cX3_lookAtLosses) (maxL := 1) (ret := none) (by decide +kernel) rfl ?_
  intro p e z m args below meth c z₁ B hml hv
  obtain ⟨rfl, hsz, hP, hK, hD0⟩ := hv
  have hx := B.exec
  have hb := B.bytes
  have hr := B.returns
  have hts := atoms_spec (ws := wsX3_lookAtLosses) B.pre
  have hown : z.vm.findClass RX3 = some m.cls := findClass_of_methodNamed B.named
  have hlocks := B.notSynchronized
  subst hsz
  have hD := hD0.self (sz := z.heap.size)
  generalize hAe : va_A (tm_wModem cI cZ a s0) z.heap.size = A at hD ⊢
  have hA : ∀ q : Nat, z.heap.size ≤ q → A q := fun q h => by rw [← hAe]; exact Or.inr h
  have hS : va_S A z.heap z.heap [] := va_S.rf
  have h_f62 := hts (.fieldLink RX3 62 "TwoModems$Modem" "losses" "I") (by decide +kernel)
  have h_in3 : ∀ w ∈ u_ws RX3 TX3 20, w ∈ wsX3_lookAtLosses := by decide +kernel
  have h_f47 := hts (.fieldLink RX3 47 "TwoModems$Modem" "offer" "I") (by decide +kernel)
  have h_f38 := hts (.fieldLink RX3 38 "TwoModems$Modem" "lasted" "I") (by decide +kernel)
  have h_f68 := hts (.fieldLink RX3 68 "TwoModems$Modem" "agains" "I") (by decide +kernel)
  have h_f44 := hts (.fieldLink RX3 44 "TwoModems$Modem" "round" "I") (by decide +kernel)
  have hl := lv_entry ([.ref (a 0)]) (n := 1) (Nat.le_of_ble_eq_true rfl)
  rw [lg_entry_eq]
  generalize (lg_sl ([.ref (a 0)]) ++ List.replicate (1 - (lg_sl ([.ref (a 0)])).length) Slot.unset).toArray = ls at hl ⊢
  have hl : lv_has ls 1 [(0, .ref (a 0))] := hl
  unfold wp_X3_lookAtLosses at hw
  refine lv_aload_n hx hb dX3_lookAtLosses_0 rfl (lv_at hl 0 rfl) ?_
  refine va_get (D := (dC, dI)) (ci := 3) (v := .int (s0 0 16)) (C := RX3) (T := TX3) (N := 20) hx hb hts h_in3 hown hK hP 0 rfl rfl 16 (by decide) h_f62 (fun _ h9 => h9) rfl dX3_lookAtLosses_1 ?_
  have hPc := hP.sub (ws' := ([] : va_W)) [] rfl
  have hDc := hD.sub (ws' := ([] : va_W)) [] (by decide) rfl
  have hFc := va_free (wc := ([] : va_W)) hD hS hA [] rfl
  refine va_calli (va_runS (As := [.int (s0 0 16)]) (rest := []) ⟨hx, hb, hml, hown, hts⟩ (kk_J6_bitCount_0f7a4 l dC dI cI cZ z.heap.size (s0 0 16) _ hw) (va_cwS 1 hts gX3_lookAtLosses_J6_bitCount_0f7a4 rfl rfl rfl (by decide +kernel) ⟨Nat.le_of_ble_eq_true rfl, Nat.le_of_ble_eq_true rfl⟩) ⟨tm_blind, fun U hU hW => ⟨rfl, by rw [hU], by rw [hU]; exact hPc, va_K.moved hW.alike hK, hDc.weaken (fun _ _ _ _ => trivial)⟩⟩ rfl rfl hl.1 rfl (lv_room (Nat.le_of_ble_eq_true rfl)) dX3_lookAtLosses_4 ⟨Nat.zero_le _, Nat.zero_le _⟩) hS (fun q _ h => hFc q h) hFc (fun r1 u t H1 locs ht hvm hw hB hz1 hk1 hS => ?_)
  obtain ⟨hP1, hK1, hD1⟩ := hB
  rw [ht] at hP1
  obtain ⟨hP, hD⟩ := va_join (wr := (tm_wModem cI cZ a s0)) (w1 := ([] : va_W)) hP hD [] [0, 1, 2, 3, 4, 5, 6, 7, 8, 9, 10, 11, 12, 13, 14, 15, 16, 17, 18] rfl rfl (by decide) (by decide) hk1 hFc hP1 hD1
  rw [List.append_nil] at hP hD
  generalize H1 = H at hP hS ⊢
  refine lv_iconst (v := 3) hx hb dX3_lookAtLosses_7 (by decide) ?_
  refine lv_icmp_lt (tgt := 63) hx hb dX3_lookAtLosses_8 (by decide) (fun c3 => ?_) (fun c3 => ?_)
  · have hw := hw.1 c3
    exact W.vret hx hb hr (fun t ht hW => ⟨⟨s0, rfl, hw, by rw [ht]; exact hP, va_K.moved hW.alike hK, hD⟩, hS.F ht⟩) hS.2.2 dX3_lookAtLosses_63
  · have hw := hw.2 c3
    refine lv_aload_n hx hb dX3_lookAtLosses_11 rfl (lv_at hl 0 rfl) ?_
    refine va_get (D := (dC, dI)) (ci := 3) (v := .int (s0 0 11)) (C := RX3) (T := TX3) (N := 20) hx hb hts h_in3 hown hK hP 0 rfl rfl 11 (by decide) h_f47 (fun _ h9 => h9) rfl dX3_lookAtLosses_12 ?_
    refine lv_iconst (v := 1) hx hb dX3_lookAtLosses_15 (by decide) ?_
    refine lv_icmp_le (tgt := 63) hx hb dX3_lookAtLosses_16 (by decide) (fun c4 => ?_) (fun c4 => ?_)
    · have hw := hw.1 c4
      exact W.vret hx hb hr (fun t ht hW => ⟨⟨s0, rfl, hw, by rw [ht]; exact hP, va_K.moved hW.alike hK, hD⟩, hS.F ht⟩) hS.2.2 dX3_lookAtLosses_63
    · have hw := hw.2 c4
      refine lv_aload_n hx hb dX3_lookAtLosses_19 rfl (lv_at hl 0 rfl) ?_
      refine va_get (D := (dC, dI)) (ci := 3) (v := .int (s0 0 8)) (C := RX3) (T := TX3) (N := 20) hx hb hts h_in3 hown hK hP 0 rfl rfl 8 (by decide) h_f38 (fun _ h9 => h9) rfl dX3_lookAtLosses_20 ?_
      refine lv_bipush (v := 8) hx hb dX3_lookAtLosses_23 (by decide) ?_
      refine lv_icmp_lt (tgt := 63) hx hb dX3_lookAtLosses_25 (by decide) (fun c5 => ?_) (fun c5 => ?_)
      · have hw := hw.1 c5
        exact W.vret hx hb hr (fun t ht hW => ⟨⟨s0, rfl, hw, by rw [ht]; exact hP, va_K.moved hW.alike hK, hD⟩, hS.F ht⟩) hS.2.2 dX3_lookAtLosses_63
      · have hw := hw.2 c5
        refine lv_aload_n hx hb dX3_lookAtLosses_28 rfl (lv_at hl 0 rfl) ?_
        refine lv_dup hx hb dX3_lookAtLosses_29 rfl ?_
        refine va_get (D := (dC, dI)) (ci := 3) (v := .int (s0 0 18)) (C := RX3) (T := TX3) (N := 20) hx hb hts h_in3 hown hK hP 0 rfl rfl 18 (by decide) h_f68 (fun _ h9 => h9) rfl dX3_lookAtLosses_30 ?_
        refine lv_iconst (v := 1) hx hb dX3_lookAtLosses_33 (by decide) ?_
        refine lv_iadd hx hb dX3_lookAtLosses_34 ?_
        refine va_put (D := (dC, dI)) (ci := 3) (v := .int ((s0 0 18) + 1)) (ty := .int) (C := RX3) (T := TX3) (N := 20) hx hb hts h_in3 tyX3 tyX3_ok nmX3 hown hK hP hD hS 0 rfl rfl 18 (by decide) h_f68 (fun _ h9 => h9) rfl (by decide +kernel) rfl rfl (Nat.le_of_ble_eq_true rfl) dX3_lookAtLosses_35 (fun H locs hP hD hS => ?_)
        obtain ⟨s6, es6⟩ : ∃ y : tm_St, y = tm_s s0 0 (tm_u (s0 0) 18 ((s0 0 18) + 1)) := ⟨_, rfl⟩
        have hw := hw s6 es6
        have hP : va_P (dC, dI) vwCl (tm_wModem cI cZ a s6) H := by rw [es6]; exact hP
        have hD : va_D A (tm_wModem cI cZ a s6) := by rw [es6]; exact hD
        refine lv_aload_n hx hb dX3_lookAtLosses_38 rfl (lv_at hl 0 rfl) ?_
        refine lv_dup hx hb dX3_lookAtLosses_39 rfl ?_
        refine va_get (D := (dC, dI)) (ci := 3) (v := .int (s6 0 10)) (C := RX3) (T := TX3) (N := 20) hx hb hts h_in3 hown hK hP 0 rfl rfl 10 (by decide) h_f44 (fun _ h9 => h9) rfl dX3_lookAtLosses_40 ?_
        refine lv_iconst (v := 1) hx hb dX3_lookAtLosses_43 (by decide) ?_
        refine lv_iadd hx hb dX3_lookAtLosses_44 ?_
        refine va_put (D := (dC, dI)) (ci := 3) (v := .int ((s6 0 10) + 1)) (ty := .int) (C := RX3) (T := TX3) (N := 20) hx hb hts h_in3 tyX3 tyX3_ok nmX3 hown hK hP hD hS 0 rfl rfl 10 (by decide) h_f44 (fun _ h9 => h9) rfl (by decide +kernel) rfl rfl (Nat.le_of_ble_eq_true rfl) dX3_lookAtLosses_45 (fun H locs hP hD hS => ?_)
        obtain ⟨s7, es7⟩ : ∃ y : tm_St, y = tm_s s6 0 (tm_u (s6 0) 10 ((s6 0 10) + 1)) := ⟨_, rfl⟩
        have hw := hw s7 es7
        have hP : va_P (dC, dI) vwCl (tm_wModem cI cZ a s7) H := by rw [es7]; exact hP
        have hD : va_D A (tm_wModem cI cZ a s7) := by rw [es7]; exact hD
        refine lv_aload_n hx hb dX3_lookAtLosses_48 rfl (lv_at hl 0 rfl) ?_
        refine lv_dup hx hb dX3_lookAtLosses_49 rfl ?_
        refine va_get (D := (dC, dI)) (ci := 3) (v := .int (s7 0 11)) (C := RX3) (T := TX3) (N := 20) hx hb hts h_in3 hown hK hP 0 rfl rfl 11 (by decide) h_f47 (fun _ h9 => h9) rfl dX3_lookAtLosses_50 ?_
        refine lv_iconst (v := 1) hx hb dX3_lookAtLosses_53 (by decide) ?_
        refine lv_isub hx hb dX3_lookAtLosses_54 ?_
        refine va_put (D := (dC, dI)) (ci := 3) (v := .int ((s7 0 11) - 1)) (ty := .int) (C := RX3) (T := TX3) (N := 20) hx hb hts h_in3 tyX3 tyX3_ok nmX3 hown hK hP hD hS 0 rfl rfl 11 (by decide) h_f47 (fun _ h9 => h9) rfl (by decide +kernel) rfl rfl (Nat.le_of_ble_eq_true rfl) dX3_lookAtLosses_55 (fun H locs hP hD hS => ?_)
        obtain ⟨s8, es8⟩ : ∃ y : tm_St, y = tm_s s7 0 (tm_u (s7 0) 11 ((s7 0 11) - 1)) := ⟨_, rfl⟩
        have hw := hw s8 es8
        have hP : va_P (dC, dI) vwCl (tm_wModem cI cZ a s8) H := by rw [es8]; exact hP
        have hD : va_D A (tm_wModem cI cZ a s8) := by rw [es8]; exact hD
        refine lv_aload_n hx hb dX3_lookAtLosses_58 rfl (lv_at hl 0 rfl) ?_
        refine lv_iconst (v := 5) hx hb dX3_lookAtLosses_59 (by decide) ?_
        have hPc := hP
        have hDc := hD
        have hFc := va_free (wc := (tm_wModem cI cZ a s8)) hD hS hA [0, 1, 2, 3, 4, 5, 6, 7, 8, 9, 10, 11, 12, 13, 14, 15, 16, 17, 18] rfl
        refine va_callv (va_runV (As := [.int 5]) (rest := []) ⟨hx, hb, hml, hown, hts⟩ (kk_X3_come l dC dI cI cZ a s8 H.size 5 _ hw) (cwV 1 hts gX3_lookAtLosses_X3_come rfl rfl rfl (by decide +kernel) ⟨Nat.le_of_ble_eq_true rfl, Nat.le_of_ble_eq_true rfl⟩) ⟨tm_blind, va_recv hK hPc (ci := 3) (q0 := 0) rfl rfl, fun U hU hW => ⟨rfl, by rw [hU], by rw [hU]; exact hPc, va_K.moved hW.alike hK, hDc.weaken (fun _ _ _ _ => trivial)⟩⟩ rfl rfl hl.1 rfl (lv_room (Nat.le_of_ble_eq_true rfl)) dX3_lookAtLosses_60 ⟨Nat.zero_le _, Nat.zero_le _⟩) hS (fun q _ h => hFc q h) hFc (fun s9 t H1 locs ht hvm hw hB hz1 hk1 hS => ?_)
        obtain ⟨hP1, hK1, hD1⟩ := hB
        rw [ht] at hP1
        obtain ⟨hP, hD⟩ := va_join (wr := []) (w1 := (tm_wModem cI cZ a s9)) hP hD [0, 1, 2, 3, 4, 5, 6, 7, 8, 9, 10, 11, 12, 13, 14, 15, 16, 17, 18] [] rfl rfl (by decide) (by decide) hk1 hFc hP1 hD1
        generalize H1 = H at hP hS ⊢
        have hP : va_P (dC, dI) vwCl (tm_wModem cI cZ a s9) H := hP
        have hD : va_D A (tm_wModem cI cZ a s9) := hD
        exact W.vret hx hb hr (fun t ht hW => ⟨⟨s9, rfl, hw, by rw [ht]; exact hP, va_K.moved hW.alike hK, hD⟩, hS.F ht⟩) hS.2.2 dX3_lookAtLosses_63
def wp_X3_makeOffer_18 (K : tm_St → Prop) : Nat → Int32 → tm_St → Prop
  | 0, _, _ => False
  | n + 1, v1, s => (((8 : Int32) ≤ v1 → K s) ∧ (¬ (8 : Int32) ≤ v1 → (vp_in v1 8 ∧ (∀ x8 : Int32, x8 = (if 0 < ((s 7 (v1 : Int32).toNatClampNeg) - ((s 0 15) / 20)) then ((s 7 (v1 : Int32).toNatClampNeg) - ((s 0 15) / 20)) else 0) → (∀ x9 : Int32, x9 = (if (x8 / 4) < 3 then (x8 / 4) else 3) → (∀ s10 : tm_St, s10 = tm_s s 0 (tm_u (s 0) 11 ((s 0 11) + x9)) → (∀ x11 : Int32, x11 = v1 + 1 → wp_X3_makeOffer_18 K n x11 s10)))))))
def wp_X3_makeOffer  (s0 : tm_St) (K : tm_St → Prop) : Prop := (wp_X0_remains  (tm_pj [1, 2, 3] s0) (fun r1 u3 => ∀ s2 : tm_St, s2 = tm_pk [1, 2, 3] s0 u3 → (∀ s4 : tm_St, s4 = tm_s s2 0 (tm_u (s2 0) 15 r1) → (∀ s5 : tm_St, s5 = tm_s s4 0 (tm_u (s4 0) 11 0) → ∃ nf : Nat, wp_X3_makeOffer_18 K nf 0 s5))))
set_option maxRecDepth 100000 in
set_option maxHeartbeats 4000000 in
theorem kk_X3_makeOffer (l : Launch) (dC : Nat → ClassId) (dI : Nat → Nat → Nat) (cI cZ : ClassId) (a : Nat → Nat) (s0 : tm_St) (sz : Nat)  (K : tm_St → Prop) (hw : wp_X3_makeOffer s0 K) : Met l yX3_makeOffer wsX3_makeOffer ({ frames := 2, cells := 0, slots := 0, locals := 36 }) (va_Pc [.ref (a 0)] (tm_Pre dC dI cI cZ (tm_wModem cI cZ a s0) sz)) (va_Qv (fun (u : tm_St) => K u) (fun (u : tm_St) t => tm_At dC dI cI cZ (va_A (tm_wModem cI cZ a s0) sz) (tm_wModem cI cZ a u) t) (va_A (tm_wModem cI cZ a s0) sz)) 0 0 (va_A (tm_wModem cI cZ a s0) sz) := by
  refine Met.ofW (cc := cX3_makeOffer) (maxL := 3) (ret := none) (by decide +kernel) rfl ?_
  intro p e z m args below meth c z₁ B hml hv
  obtain ⟨rfl, hsz, hP, hK, hD0⟩ := hv
  have hx := B.exec
  have hb := B.bytes
  have hr := B.returns
  have hts := atoms_spec (ws := wsX3_makeOffer) B.pre
  have hown : z.vm.findClass RX3 = some m.cls := findClass_of_methodNamed B.named
  have hlocks := B.notSynchronized
  subst hsz
  have hD := hD0.self (sz := z.heap.size)
  generalize hAe : va_A (tm_wModem cI cZ a s0) z.heap.size = A at hD ⊢
  have hA : ∀ q : Nat, z.heap.size ≤ q → A q := fun q h => by rw [← hAe]; exact Or.inr h
  have hS : va_S A z.heap z.heap [] := va_S.rf
  have h_f12 := hts (.fieldLink RX3 12 "TwoModems$Modem" "echo" "LTwoModems$Echo;") (by decide +kernel)
  have h_in3 : ∀ w ∈ u_ws RX3 TX3 20, w ∈ wsX3_makeOffer := by decide +kernel
  have h_f59 := hts (.fieldLink RX3 59 "TwoModems$Modem" "remains" "I") (by decide +kernel)
  have h_f47 := hts (.fieldLink RX3 47 "TwoModems$Modem" "offer" "I") (by decide +kernel)
  have h_f25 := hts (.fieldLink RX3 25 "TwoModems$Modem" "noted" "[I") (by decide +kernel)
  have h_m182 := hts (.methodLink RX3 182 Lib.Math.max.name) (by decide +kernel)
  have h_ms_max := hts (.static Lib.Math.max.name) (by decide +kernel)
  have h_mi := hts (.initialized "java/lang/Math") (by decide +kernel)
  have h_mc_max := hts (.code Lib.Math.max.name Lib.Math.max.code 2 (some .int)) (by decide +kernel)
  have h_m158 := hts (.methodLink RX3 158 Lib.Math.min.name) (by decide +kernel)
  have h_ms_min := hts (.static Lib.Math.min.name) (by decide +kernel)
  have h_mc_min := hts (.code Lib.Math.min.name Lib.Math.min.code 2 (some .int)) (by decide +kernel)
  have b18 : ∀ (n : Nat) (v1 : Int32) (s : tm_St) (H : Heap) (locs : List Loc) (ls : Array Slot), wp_X3_makeOffer_18 K n v1 s → va_P (dC, dI) vwCl (tm_wModem cI cZ a s) H → va_D A (tm_wModem cI cZ a s) → va_S A z.heap H locs → lv_has ls 3 [(0, .ref (a 0)), (1, .int v1)] → W p l e (headSpec wsX3_makeOffer ({ frames := 2, cells := 0, slots := 0, locals := 36 })).room z m (([.ref (a 0)] : List Value).toArray) below meth c H locs 0 0 (MQ below (va_Qv (fun (u : tm_St) => K u) (fun (u : tm_St) t => tm_At dC dI cI cZ A (tm_wModem cI cZ a u) t) A) (([.ref (a 0)] : List Value).toArray) z 0 0 A) (F0 m 18 ls []) := by
    intro n
    induction n with
    | zero => intro v1 s H locs ls hw hP hD hS hl; unfold wp_X3_makeOffer_18 at hw; exact hw.elim
    | succ n ih =>
      intro v1 s H locs ls hw hP hD hS hl
      unfold wp_X3_makeOffer_18 at hw
      refine lv_iload_n hx hb dX3_makeOffer_18 rfl (lv_at hl 1 rfl) ?_
      refine lv_bipush (v := 8) hx hb dX3_makeOffer_19 (by decide) ?_
      refine lv_icmp_ge (tgt := 65) hx hb dX3_makeOffer_21 (by decide) (fun c6 => ?_) (fun c6 => ?_)
      · have hw := hw.1 c6
        exact W.vret hx hb hr (fun t ht hW => ⟨⟨s, rfl, hw, by rw [ht]; exact hP, va_K.moved hW.alike hK, hD⟩, hS.F ht⟩) hS.2.2 dX3_makeOffer_65
      · have hw := hw.2 c6
        refine lv_iconst (v := 0) hx hb dX3_makeOffer_24 (by decide) ?_
        refine lv_aload_n hx hb dX3_makeOffer_25 rfl (lv_at hl 0 rfl) ?_
        refine va_get (D := (dC, dI)) (ci := 3) (v := .ref (a 7)) (C := RX3) (T := TX3) (N := 20) hx hb hts h_in3 hown hK hP 0 rfl rfl 5 (by decide) h_f25 (fun _ h9 => h9) rfl dX3_makeOffer_26 ?_
        refine lv_iload_n hx hb dX3_makeOffer_29 rfl (lv_at hl 1 rfl) ?_
        have c7 := hw.1
        have hw := hw.2
        refine va_iald hx hb hK hP 7 0 rfl rfl c7 dX3_makeOffer_30 ?_
        refine lv_aload_n hx hb dX3_makeOffer_31 rfl (lv_at hl 0 rfl) ?_
        refine va_get (D := (dC, dI)) (ci := 3) (v := .int (s 0 15)) (C := RX3) (T := TX3) (N := 20) hx hb hts h_in3 hown hK hP 0 rfl rfl 15 (by decide) h_f59 (fun _ h9 => h9) rfl dX3_makeOffer_32 ?_
        refine lv_bipush (v := 20) hx hb dX3_makeOffer_35 (by decide) ?_
        refine lv_idiv hx hb dX3_makeOffer_37 (by decide) ?_
        refine lv_isub hx hb dX3_makeOffer_38 ?_
        refine va_mmax hx hb (hml.trans hl.1.symm) hown h_m182 h_ms_max h_mi h_mc_max (Nat.le_of_ble_eq_true rfl) (Nat.le_of_ble_eq_true rfl) (Nat.zero_le _) (Nat.zero_le _) dX3_makeOffer_39 ?_
        refine lv_topi (fun x8 ex8 => ?_)
        have hw := hw x8 ex8
        refine lv_istore_n (lv' := [(2, .int x8), (0, .ref (a 0)), (1, .int v1)]) hx hb dX3_makeOffer_42 rfl hl (by decide) rfl (fun ls hl => ?_)
        refine lv_aload_n hx hb dX3_makeOffer_43 rfl (lv_at hl 1 rfl) ?_
        refine lv_dup hx hb dX3_makeOffer_44 rfl ?_
        refine va_get (D := (dC, dI)) (ci := 3) (v := .int (s 0 11)) (C := RX3) (T := TX3) (N := 20) hx hb hts h_in3 hown hK hP 0 rfl rfl 11 (by decide) h_f47 (fun _ h9 => h9) rfl dX3_makeOffer_45 ?_
        refine lv_iconst (v := 3) hx hb dX3_makeOffer_48 (by decide) ?_
        refine lv_iload_n hx hb dX3_makeOffer_49 rfl (lv_at hl 0 rfl) ?_
        refine lv_iconst (v := 4) hx hb dX3_makeOffer_50 (by decide) ?_
        refine lv_idiv hx hb dX3_makeOffer_51 (by decide) ?_
        refine va_mmin hx hb (hml.trans hl.1.symm) hown h_m158 h_ms_min h_mi h_mc_min (Nat.le_of_ble_eq_true rfl) (Nat.le_of_ble_eq_true rfl) (Nat.zero_le _) (Nat.zero_le _) dX3_makeOffer_52 ?_
        refine lv_topi (fun x9 ex9 => ?_)
        have hw := hw x9 ex9
        refine lv_iadd hx hb dX3_makeOffer_55 ?_
        refine va_put (D := (dC, dI)) (ci := 3) (v := .int ((s 0 11) + x9)) (ty := .int) (C := RX3) (T := TX3) (N := 20) hx hb hts h_in3 tyX3 tyX3_ok nmX3 hown hK hP hD hS 0 rfl rfl 11 (by decide) h_f47 (fun _ h9 => h9) rfl (by decide +kernel) rfl rfl (Nat.le_of_ble_eq_true rfl) dX3_makeOffer_56 (fun H locs hP hD hS => ?_)
        obtain ⟨s10, es10⟩ : ∃ y : tm_St, y = tm_s s 0 (tm_u (s 0) 11 ((s 0 11) + x9)) := ⟨_, rfl⟩
        have hw := hw s10 es10
        have hP : va_P (dC, dI) vwCl (tm_wModem cI cZ a s10) H := by rw [es10]; exact hP
        have hD : va_D A (tm_wModem cI cZ a s10) := by rw [es10]; exact hD
        obtain ⟨x11, ex11⟩ : ∃ y : Int32, y = v1 + 1 := ⟨_, rfl⟩
        have hw := hw x11 ex11
        refine lv_iinc (v := x11) (lv' := [(1, .int x11), (2, .int x8), (0, .ref (a 0))]) hx hb dX3_makeOffer_59 hl (k := 2) rfl (by rw [ex11]; rfl) (by decide) rfl (fun ls hl => ?_)
        refine lv_goto (tgt := 18) hx hb dX3_makeOffer_62 (by decide) ?_
        exact ih x11 s10 _ _ _ hw hP hD hS (lv_sub hl [2, 0] rfl)
  have hl := lv_entry ([.ref (a 0)]) (n := 3) (Nat.le_of_ble_eq_true rfl)
  rw [lg_entry_eq]
  generalize (lg_sl ([.ref (a 0)]) ++ List.replicate (3 - (lg_sl ([.ref (a 0)])).length) Slot.unset).toArray = ls at hl ⊢
  have hl : lv_has ls 3 [(0, .ref (a 0))] := hl
  unfold wp_X3_makeOffer at hw
  refine lv_aload_n hx hb dX3_makeOffer_0 rfl (lv_at hl 0 rfl) ?_
  refine lv_aload_n hx hb dX3_makeOffer_1 rfl (lv_at hl 0 rfl) ?_
  refine va_get (D := (dC, dI)) (ci := 3) (v := .ref (a 1)) (C := RX3) (T := TX3) (N := 20) hx hb hts h_in3 hown hK hP 0 rfl rfl 3 (by decide) h_f12 (fun _ h9 => h9) rfl dX3_makeOffer_2 ?_
  have hPc := hP.sub (ws' := (tm_wEcho cI cZ (tm_pj [1, 2, 3] a) (tm_pj [1, 2, 3] s0))) [1, 2, 3] rfl
  have hDc := hD.sub (ws' := (tm_wEcho cI cZ (tm_pj [1, 2, 3] a) (tm_pj [1, 2, 3] s0))) [1, 2, 3] (by decide) rfl
  have hFc := va_free (wc := (tm_wEcho cI cZ (tm_pj [1, 2, 3] a) (tm_pj [1, 2, 3] s0))) hD hS hA [1, 2, 3] rfl
  refine va_calli (va_runV (As := []) (rest := [.ref (a 0)]) ⟨hx, hb, hml, hown, hts⟩ (kk_X0_remains l dC dI cI cZ (tm_pj [1, 2, 3] a) (tm_pj [1, 2, 3] s0) z.heap.size  _ hw) (cwV 0 hts gX3_makeOffer_X0_remains rfl rfl rfl (by decide +kernel) ⟨Nat.le_of_ble_eq_true rfl, Nat.le_of_ble_eq_true rfl⟩) ⟨tm_blind, va_recv hK hPc (ci := 0) (q0 := 0) rfl rfl, fun U hU hW => ⟨rfl, by rw [hU], by rw [hU]; exact hPc, va_K.moved hW.alike hK, hDc.weaken (fun _ _ _ _ => trivial)⟩⟩ rfl rfl hl.1 rfl (lv_room (Nat.le_of_ble_eq_true rfl)) dX3_makeOffer_5 ⟨Nat.zero_le _, Nat.zero_le _⟩) hS (fun q _ h => hFc q h) hFc (fun r1 u t H1 locs ht hvm hw hB hz1 hk1 hS => ?_)
  obtain ⟨hP1, hK1, hD1⟩ := hB
  rw [ht] at hP1
  obtain ⟨hP, hD⟩ := va_join (wr := ([0, 4, 5, 6, 7, 8, 9, 10, 11, 12, 13, 14, 15, 16, 17, 18] : List Nat).filterMap (fun i => (tm_wModem cI cZ a s0)[i]?)) (w1 := (tm_wEcho cI cZ (tm_pj [1, 2, 3] a) u)) hP hD [1, 2, 3] [0, 4, 5, 6, 7, 8, 9, 10, 11, 12, 13, 14, 15, 16, 17, 18] rfl rfl (by decide) (by decide) hk1 hFc hP1 hD1
  generalize H1 = H at hP hS ⊢
  obtain ⟨s2, es2⟩ : ∃ y : tm_St, y = tm_pk [1, 2, 3] s0 u := ⟨_, rfl⟩
  have hw := hw s2 es2
  have hP : va_P (dC, dI) vwCl (tm_wModem cI cZ a s2) H := by rw [es2]; exact hP.sub [0, 16, 17, 18, 1, 2, 3, 4, 5, 6, 7, 8, 9, 10, 11, 12, 13, 14, 15] rfl
  have hD : va_D A (tm_wModem cI cZ a s2) := by rw [es2]; exact hD.sub [0, 16, 17, 18, 1, 2, 3, 4, 5, 6, 7, 8, 9, 10, 11, 12, 13, 14, 15] (by decide) rfl
  refine va_put (D := (dC, dI)) (ci := 3) (v := .int r1) (ty := .int) (C := RX3) (T := TX3) (N := 20) hx hb hts h_in3 tyX3 tyX3_ok nmX3 hown hK hP hD hS 0 rfl rfl 15 (by decide) h_f59 (fun _ h9 => h9) rfl (by decide +kernel) rfl rfl (Nat.le_of_ble_eq_true rfl) dX3_makeOffer_8 (fun H locs hP hD hS => ?_)
  obtain ⟨s4, es4⟩ : ∃ y : tm_St, y = tm_s s2 0 (tm_u (s2 0) 15 r1) := ⟨_, rfl⟩
  have hw := hw s4 es4
  have hP : va_P (dC, dI) vwCl (tm_wModem cI cZ a s4) H := by rw [es4]; exact hP
  have hD : va_D A (tm_wModem cI cZ a s4) := by rw [es4]; exact hD
  refine lv_aload_n hx hb dX3_makeOffer_11 rfl (lv_at hl 0 rfl) ?_
  refine lv_iconst (v := 0) hx hb dX3_makeOffer_12 (by decide) ?_
  refine va_put (D := (dC, dI)) (ci := 3) (v := .int 0) (ty := .int) (C := RX3) (T := TX3) (N := 20) hx hb hts h_in3 tyX3 tyX3_ok nmX3 hown hK hP hD hS 0 rfl rfl 11 (by decide) h_f47 (fun _ h9 => h9) rfl (by decide +kernel) rfl rfl (Nat.le_of_ble_eq_true rfl) dX3_makeOffer_13 (fun H locs hP hD hS => ?_)
  obtain ⟨s5, es5⟩ : ∃ y : tm_St, y = tm_s s4 0 (tm_u (s4 0) 11 0) := ⟨_, rfl⟩
  have hw := hw s5 es5
  have hP : va_P (dC, dI) vwCl (tm_wModem cI cZ a s5) H := by rw [es5]; exact hP
  have hD : va_D A (tm_wModem cI cZ a s5) := by rw [es5]; exact hD
  refine lv_iconst (v := 0) hx hb dX3_makeOffer_16 (by decide) ?_
  refine lv_istore_n (lv' := [(1, .int 0), (0, .ref (a 0))]) hx hb dX3_makeOffer_17 rfl hl (by decide) rfl (fun ls hl => ?_)
  obtain ⟨nf, hw⟩ := hw
  exact b18 nf 0 s5 _ _ _ hw hP hD hS (lv_sub hl [1, 0] rfl)
def wp_X3_look_35 (K : tm_St → Prop) (v1 : Int32) (s : tm_St) : Prop := ((¬ (s 0 6) = 4 → ((¬ (s 0 6) = 7 → K s) ∧ ((s 0 6) = 7 → (wp_X3_lookAtWaiting v1 s (fun s4 => (wp_X3_lookAtLosses  s4 (fun s5 => K s5))))))) ∧ ((s 0 6) = 4 → (((s 0 8) < 32 → ((¬ (s 0 6) = 7 → K s) ∧ ((s 0 6) = 7 → (wp_X3_lookAtWaiting v1 s (fun s8 => (wp_X3_lookAtLosses  s8 (fun s9 => K s9))))))) ∧ (¬ (s 0 8) < 32 → (∀ s10 : tm_St, s10 = tm_s s 0 (tm_u (s 0) 10 1) → (wp_X3_makeOffer  s10 (fun s11 => (wp_X3_come 5 s11 (fun s12 => K s12)))))))))
def wp_X3_look (p0 : Int32) (s0 : tm_St) (K : tm_St → Prop) : Prop := ((¬ (s0 0 6) = 3 → wp_X3_look_35 K p0 s0) ∧ ((s0 0 6) = 3 → (((s0 0 8) < (10 + (2 * (s0 8 2))) → wp_X3_look_35 K p0 s0) ∧ (¬ (s0 0 8) < (10 + (2 * (s0 8 2))) → (wp_X3_come 4 s0 (fun s14 => K s14))))))
set_option maxRecDepth 100000 in
set_option maxHeartbeats 4000000 in
theorem kk_X3_look (l : Launch) (dC : Nat → ClassId) (dI : Nat → Nat → Nat) (cI cZ : ClassId) (a : Nat → Nat) (s0 : tm_St) (sz : Nat) (p0 : Int32) (K : tm_St → Prop) (hw : wp_X3_look p0 s0 K) : Met l yX3_look wsX3_look ({ frames := 3, cells := 0, slots := 0, locals := 63 }) (va_Pc [.ref (a 0), .int p0] (tm_Pre dC dI cI cZ (tm_wModem cI cZ a s0) sz)) (va_Qv (fun (u : tm_St) => K u) (fun (u : tm_St) t => tm_At dC dI cI cZ (va_A (tm_wModem cI cZ a s0) sz) (tm_wModem cI cZ a u) t) (va_A (tm_wModem cI cZ a s0) sz)) 0 0 (va_A (tm_wModem cI cZ a s0) sz) := by
  refine Met.ofW (cc := cX3_look) (maxL := 2) (ret := none) (by decide +kernel) rfl ?_
  intro p e z m args below meth c z₁ B hml hv
  obtain ⟨rfl, hsz, hP, hK, hD0⟩ := hv
  have hx := B.exec
  have hb := B.bytes
  have hr := B.returns
  have hts := atoms_spec (ws := wsX3_look) B.pre
  have hown : z.vm.findClass RX3 = some m.cls := findClass_of_methodNamed B.named
  have hlocks := B.notSynchronized
  subst hsz
  have hD := hD0.self (sz := z.heap.size)
  generalize hAe : va_A (tm_wModem cI cZ a s0) z.heap.size = A at hD ⊢
  have hA : ∀ q : Nat, z.heap.size ≤ q → A q := fun q h => by rw [← hAe]; exact Or.inr h
  have hS : va_S A z.heap z.heap [] := va_S.rf
  have h_f31 := hts (.fieldLink RX3 31 "TwoModems$Modem" "phase" "I") (by decide +kernel)
  have h_in3 : ∀ w ∈ u_ws RX3 TX3 20, w ∈ wsX3_look := by decide +kernel
  have h_f38 := hts (.fieldLink RX3 38 "TwoModems$Modem" "lasted" "I") (by decide +kernel)
  have h_f44 := hts (.fieldLink RX3 44 "TwoModems$Modem" "round" "I") (by decide +kernel)
  have h_f74 := hts (.fieldLink RX3 74 "TwoModems$Modem" "line" "LTwoModems$Line;") (by decide +kernel)
  have h_f117 := hts (.fieldLink RX3 117 "TwoModems$Line" "delay" "I") (by decide +kernel)
  have h_in1 : ∀ w ∈ u_ws RX1 TX1 4, w ∈ wsX3_look := by decide +kernel
  have b35 : ∀ (v1 : Int32) (s : tm_St) (H : Heap) (locs : List Loc) (ls : Array Slot), wp_X3_look_35 K v1 s → va_P (dC, dI) vwCl (tm_wModem cI cZ a s) H → va_D A (tm_wModem cI cZ a s) → va_S A z.heap H locs → lv_has ls 2 [(0, .ref (a 0)), (1, .int v1)] → W p l e (headSpec wsX3_look ({ frames := 3, cells := 0, slots := 0, locals := 63 })).room z m (([.ref (a 0), .int p0] : List Value).toArray) below meth c H locs 0 0 (MQ below (va_Qv (fun (u : tm_St) => K u) (fun (u : tm_St) t => tm_At dC dI cI cZ A (tm_wModem cI cZ a u) t) A) (([.ref (a 0), .int p0] : List Value).toArray) z 0 0 A) (F0 m 35 ls []) := by
    intro v1 s H locs ls hw hP hD hS hl
    unfold wp_X3_look_35 at hw
    refine lv_aload_n hx hb dX3_look_35 rfl (lv_at hl 0 rfl) ?_
    refine va_get (D := (dC, dI)) (ci := 3) (v := .int (s 0 6)) (C := RX3) (T := TX3) (N := 20) hx hb hts h_in3 hown hK hP 0 rfl rfl 6 (by decide) h_f31 (fun _ h9 => h9) rfl dX3_look_36 ?_
    refine lv_iconst (v := 4) hx hb dX3_look_39 (by decide) ?_
    refine lv_icmp_ne (tgt := 69) hx hb dX3_look_40 (by decide) (fun c2 => ?_) (fun c2 => ?_)
    · have hw := hw.1 c2
      refine lv_aload_n hx hb dX3_look_69 rfl (lv_at hl 0 rfl) ?_
      refine va_get (D := (dC, dI)) (ci := 3) (v := .int (s 0 6)) (C := RX3) (T := TX3) (N := 20) hx hb hts h_in3 hown hK hP 0 rfl rfl 6 (by decide) h_f31 (fun _ h9 => h9) rfl dX3_look_70 ?_
      refine lv_bipush (v := 7) hx hb dX3_look_73 (by decide) ?_
      refine lv_icmp_ne (tgt := 87) hx hb dX3_look_75 (by decide) (fun c3 => ?_) (fun c3 => ?_)
      · have hw := hw.1 c3
        exact W.vret hx hb hr (fun t ht hW => ⟨⟨s, rfl, hw, by rw [ht]; exact hP, va_K.moved hW.alike hK, hD⟩, hS.F ht⟩) hS.2.2 dX3_look_87
      · have hw := hw.2 c3
        refine lv_aload_n hx hb dX3_look_78 rfl (lv_at hl 0 rfl) ?_
        refine lv_iload_n hx hb dX3_look_79 rfl (lv_at hl 1 rfl) ?_
        have hPc := hP
        have hDc := hD
        have hFc := va_free (wc := (tm_wModem cI cZ a s)) hD hS hA [0, 1, 2, 3, 4, 5, 6, 7, 8, 9, 10, 11, 12, 13, 14, 15, 16, 17, 18] rfl
        refine va_callv (va_runV (As := [.int v1]) (rest := []) ⟨hx, hb, hml, hown, hts⟩ (kk_X3_lookAtWaiting l dC dI cI cZ a s H.size v1 _ hw) (cwV 1 hts gX3_look_X3_lookAtWaiting rfl rfl rfl (by decide +kernel) ⟨Nat.le_of_ble_eq_true rfl, Nat.le_of_ble_eq_true rfl⟩) ⟨tm_blind, va_recv hK hPc (ci := 3) (q0 := 0) rfl rfl, fun U hU hW => ⟨rfl, by rw [hU], by rw [hU]; exact hPc, va_K.moved hW.alike hK, hDc.weaken (fun _ _ _ _ => trivial)⟩⟩ rfl rfl hl.1 rfl (lv_room (Nat.le_of_ble_eq_true rfl)) dX3_look_80 ⟨Nat.zero_le _, Nat.zero_le _⟩) hS (fun q _ h => hFc q h) hFc (fun s4 t H1 locs ht hvm hw hB hz1 hk1 hS => ?_)
        obtain ⟨hP1, hK1, hD1⟩ := hB
        rw [ht] at hP1
        obtain ⟨hP, hD⟩ := va_join (wr := []) (w1 := (tm_wModem cI cZ a s4)) hP hD [0, 1, 2, 3, 4, 5, 6, 7, 8, 9, 10, 11, 12, 13, 14, 15, 16, 17, 18] [] rfl rfl (by decide) (by decide) hk1 hFc hP1 hD1
        generalize H1 = H at hP hS ⊢
        have hP : va_P (dC, dI) vwCl (tm_wModem cI cZ a s4) H := hP
        have hD : va_D A (tm_wModem cI cZ a s4) := hD
        refine lv_aload_n hx hb dX3_look_83 rfl (lv_at hl 0 rfl) ?_
        have hPc := hP
        have hDc := hD
        have hFc := va_free (wc := (tm_wModem cI cZ a s4)) hD hS hA [0, 1, 2, 3, 4, 5, 6, 7, 8, 9, 10, 11, 12, 13, 14, 15, 16, 17, 18] rfl
        refine va_callv (va_runV (As := []) (rest := []) ⟨hx, hb, hml, hown, hts⟩ (kk_X3_lookAtLosses l dC dI cI cZ a s4 H.size  _ hw) (cwV 0 hts gX3_look_X3_lookAtLosses rfl rfl rfl (by decide +kernel) ⟨Nat.le_of_ble_eq_true rfl, Nat.le_of_ble_eq_true rfl⟩) ⟨tm_blind, va_recv hK hPc (ci := 3) (q0 := 0) rfl rfl, fun U hU hW => ⟨rfl, by rw [hU], by rw [hU]; exact hPc, va_K.moved hW.alike hK, hDc.weaken (fun _ _ _ _ => trivial)⟩⟩ rfl rfl hl.1 rfl (lv_room (Nat.le_of_ble_eq_true rfl)) dX3_look_84 ⟨Nat.zero_le _, Nat.zero_le _⟩) hS (fun q _ h => hFc q h) hFc (fun s5 t H1 locs ht hvm hw hB hz1 hk1 hS => ?_)
        obtain ⟨hP1, hK1, hD1⟩ := hB
        rw [ht] at hP1
        obtain ⟨hP, hD⟩ := va_join (wr := []) (w1 := (tm_wModem cI cZ a s5)) hP hD [0, 1, 2, 3, 4, 5, 6, 7, 8, 9, 10, 11, 12, 13, 14, 15, 16, 17, 18] [] rfl rfl (by decide) (by decide) hk1 hFc hP1 hD1
        generalize H1 = H at hP hS ⊢
        have hP : va_P (dC, dI) vwCl (tm_wModem cI cZ a s5) H := hP
        have hD : va_D A (tm_wModem cI cZ a s5) := hD
        exact W.vret hx hb hr (fun t ht hW => ⟨⟨s5, rfl, hw, by rw [ht]; exact hP, va_K.moved hW.alike hK, hD⟩, hS.F ht⟩) hS.2.2 dX3_look_87
    · have hw := hw.2 c2
      refine lv_aload_n hx hb dX3_look_43 rfl (lv_at hl 0 rfl) ?_
      refine va_get (D := (dC, dI)) (ci := 3) (v := .int (s 0 8)) (C := RX3) (T := TX3) (N := 20) hx hb hts h_in3 hown hK hP 0 rfl rfl 8 (by decide) h_f38 (fun _ h9 => h9) rfl dX3_look_44 ?_
      refine lv_bipush (v := 32) hx hb dX3_look_47 (by decide) ?_
      refine lv_icmp_lt (tgt := 69) hx hb dX3_look_49 (by decide) (fun c6 => ?_) (fun c6 => ?_)
      · have hw := hw.1 c6
        refine lv_aload_n hx hb dX3_look_69 rfl (lv_at hl 0 rfl) ?_
        refine va_get (D := (dC, dI)) (ci := 3) (v := .int (s 0 6)) (C := RX3) (T := TX3) (N := 20) hx hb hts h_in3 hown hK hP 0 rfl rfl 6 (by decide) h_f31 (fun _ h9 => h9) rfl dX3_look_70 ?_
        refine lv_bipush (v := 7) hx hb dX3_look_73 (by decide) ?_
        refine lv_icmp_ne (tgt := 87) hx hb dX3_look_75 (by decide) (fun c7 => ?_) (fun c7 => ?_)
        · have hw := hw.1 c7
          exact W.vret hx hb hr (fun t ht hW => ⟨⟨s, rfl, hw, by rw [ht]; exact hP, va_K.moved hW.alike hK, hD⟩, hS.F ht⟩) hS.2.2 dX3_look_87
        · have hw := hw.2 c7
          refine lv_aload_n hx hb dX3_look_78 rfl (lv_at hl 0 rfl) ?_
          refine lv_iload_n hx hb dX3_look_79 rfl (lv_at hl 1 rfl) ?_
          have hPc := hP
          have hDc := hD
          have hFc := va_free (wc := (tm_wModem cI cZ a s)) hD hS hA [0, 1, 2, 3, 4, 5, 6, 7, 8, 9, 10, 11, 12, 13, 14, 15, 16, 17, 18] rfl
          refine va_callv (va_runV (As := [.int v1]) (rest := []) ⟨hx, hb, hml, hown, hts⟩ (kk_X3_lookAtWaiting l dC dI cI cZ a s H.size v1 _ hw) (cwV 1 hts gX3_look_X3_lookAtWaiting rfl rfl rfl (by decide +kernel) ⟨Nat.le_of_ble_eq_true rfl, Nat.le_of_ble_eq_true rfl⟩) ⟨tm_blind, va_recv hK hPc (ci := 3) (q0 := 0) rfl rfl, fun U hU hW => ⟨rfl, by rw [hU], by rw [hU]; exact hPc, va_K.moved hW.alike hK, hDc.weaken (fun _ _ _ _ => trivial)⟩⟩ rfl rfl hl.1 rfl (lv_room (Nat.le_of_ble_eq_true rfl)) dX3_look_80 ⟨Nat.zero_le _, Nat.zero_le _⟩) hS (fun q _ h => hFc q h) hFc (fun s8 t H1 locs ht hvm hw hB hz1 hk1 hS => ?_)
          obtain ⟨hP1, hK1, hD1⟩ := hB
          rw [ht] at hP1
          obtain ⟨hP, hD⟩ := va_join (wr := []) (w1 := (tm_wModem cI cZ a s8)) hP hD [0, 1, 2, 3, 4, 5, 6, 7, 8, 9, 10, 11, 12, 13, 14, 15, 16, 17, 18] [] rfl rfl (by decide) (by decide) hk1 hFc hP1 hD1
          generalize H1 = H at hP hS ⊢
          have hP : va_P (dC, dI) vwCl (tm_wModem cI cZ a s8) H := hP
          have hD : va_D A (tm_wModem cI cZ a s8) := hD
          refine lv_aload_n hx hb dX3_look_83 rfl (lv_at hl 0 rfl) ?_
          have hPc := hP
          have hDc := hD
          have hFc := va_free (wc := (tm_wModem cI cZ a s8)) hD hS hA [0, 1, 2, 3, 4, 5, 6, 7, 8, 9, 10, 11, 12, 13, 14, 15, 16, 17, 18] rfl
          refine va_callv (va_runV (As := []) (rest := []) ⟨hx, hb, hml, hown, hts⟩ (kk_X3_lookAtLosses l dC dI cI cZ a s8 H.size  _ hw) (cwV 0 hts gX3_look_X3_lookAtLosses rfl rfl rfl (by decide +kernel) ⟨Nat.le_of_ble_eq_true rfl, Nat.le_of_ble_eq_true rfl⟩) ⟨tm_blind, va_recv hK hPc (ci := 3) (q0 := 0) rfl rfl, fun U hU hW => ⟨rfl, by rw [hU], by rw [hU]; exact hPc, va_K.moved hW.alike hK, hDc.weaken (fun _ _ _ _ => trivial)⟩⟩ rfl rfl hl.1 rfl (lv_room (Nat.le_of_ble_eq_true rfl)) dX3_look_84 ⟨Nat.zero_le _, Nat.zero_le _⟩) hS (fun q _ h => hFc q h) hFc (fun s9 t H1 locs ht hvm hw hB hz1 hk1 hS => ?_)
          obtain ⟨hP1, hK1, hD1⟩ := hB
          rw [ht] at hP1
          obtain ⟨hP, hD⟩ := va_join (wr := []) (w1 := (tm_wModem cI cZ a s9)) hP hD [0, 1, 2, 3, 4, 5, 6, 7, 8, 9, 10, 11, 12, 13, 14, 15, 16, 17, 18] [] rfl rfl (by decide) (by decide) hk1 hFc hP1 hD1
          generalize H1 = H at hP hS ⊢
          have hP : va_P (dC, dI) vwCl (tm_wModem cI cZ a s9) H := hP
          have hD : va_D A (tm_wModem cI cZ a s9) := hD
          exact W.vret hx hb hr (fun t ht hW => ⟨⟨s9, rfl, hw, by rw [ht]; exact hP, va_K.moved hW.alike hK, hD⟩, hS.F ht⟩) hS.2.2 dX3_look_87
      · have hw := hw.2 c6
        refine lv_aload_n hx hb dX3_look_52 rfl (lv_at hl 0 rfl) ?_
        refine lv_iconst (v := 1) hx hb dX3_look_53 (by decide) ?_
        refine va_put (D := (dC, dI)) (ci := 3) (v := .int 1) (ty := .int) (C := RX3) (T := TX3) (N := 20) hx hb hts h_in3 tyX3 tyX3_ok nmX3 hown hK hP hD hS 0 rfl rfl 10 (by decide) h_f44 (fun _ h9 => h9) rfl (by decide +kernel) rfl rfl (Nat.le_of_ble_eq_true rfl) dX3_look_54 (fun H locs hP hD hS => ?_)
        obtain ⟨s10, es10⟩ : ∃ y : tm_St, y = tm_s s 0 (tm_u (s 0) 10 1) := ⟨_, rfl⟩
        have hw := hw s10 es10
        have hP : va_P (dC, dI) vwCl (tm_wModem cI cZ a s10) H := by rw [es10]; exact hP
        have hD : va_D A (tm_wModem cI cZ a s10) := by rw [es10]; exact hD
        refine lv_aload_n hx hb dX3_look_57 rfl (lv_at hl 0 rfl) ?_
        have hPc := hP
        have hDc := hD
        have hFc := va_free (wc := (tm_wModem cI cZ a s10)) hD hS hA [0, 1, 2, 3, 4, 5, 6, 7, 8, 9, 10, 11, 12, 13, 14, 15, 16, 17, 18] rfl
        refine va_callv (va_runV (As := []) (rest := []) ⟨hx, hb, hml, hown, hts⟩ (kk_X3_makeOffer l dC dI cI cZ a s10 H.size  _ hw) (cwV 0 hts gX3_look_X3_makeOffer rfl rfl rfl (by decide +kernel) ⟨Nat.le_of_ble_eq_true rfl, Nat.le_of_ble_eq_true rfl⟩) ⟨tm_blind, va_recv hK hPc (ci := 3) (q0 := 0) rfl rfl, fun U hU hW => ⟨rfl, by rw [hU], by rw [hU]; exact hPc, va_K.moved hW.alike hK, hDc.weaken (fun _ _ _ _ => trivial)⟩⟩ rfl rfl hl.1 rfl (lv_room (Nat.le_of_ble_eq_true rfl)) dX3_look_58 ⟨Nat.zero_le _, Nat.zero_le _⟩) hS (fun q _ h => hFc q h) hFc (fun s11 t H1 locs ht hvm hw hB hz1 hk1 hS => ?_)
        obtain ⟨hP1, hK1, hD1⟩ := hB
        rw [ht] at hP1
        obtain ⟨hP, hD⟩ := va_join (wr := []) (w1 := (tm_wModem cI cZ a s11)) hP hD [0, 1, 2, 3, 4, 5, 6, 7, 8, 9, 10, 11, 12, 13, 14, 15, 16, 17, 18] [] rfl rfl (by decide) (by decide) hk1 hFc hP1 hD1
        generalize H1 = H at hP hS ⊢
        have hP : va_P (dC, dI) vwCl (tm_wModem cI cZ a s11) H := hP
        have hD : va_D A (tm_wModem cI cZ a s11) := hD
        refine lv_aload_n hx hb dX3_look_61 rfl (lv_at hl 0 rfl) ?_
        refine lv_iconst (v := 5) hx hb dX3_look_62 (by decide) ?_
        have hPc := hP
        have hDc := hD
        have hFc := va_free (wc := (tm_wModem cI cZ a s11)) hD hS hA [0, 1, 2, 3, 4, 5, 6, 7, 8, 9, 10, 11, 12, 13, 14, 15, 16, 17, 18] rfl
        refine va_callv (va_runV (As := [.int 5]) (rest := []) ⟨hx, hb, hml, hown, hts⟩ (kk_X3_come l dC dI cI cZ a s11 H.size 5 _ hw) (cwV 1 hts gX3_look_X3_come rfl rfl rfl (by decide +kernel) ⟨Nat.le_of_ble_eq_true rfl, Nat.le_of_ble_eq_true rfl⟩) ⟨tm_blind, va_recv hK hPc (ci := 3) (q0 := 0) rfl rfl, fun U hU hW => ⟨rfl, by rw [hU], by rw [hU]; exact hPc, va_K.moved hW.alike hK, hDc.weaken (fun _ _ _ _ => trivial)⟩⟩ rfl rfl hl.1 rfl (lv_room (Nat.le_of_ble_eq_true rfl)) dX3_look_63 ⟨Nat.zero_le _, Nat.zero_le _⟩) hS (fun q _ h => hFc q h) hFc (fun s12 t H1 locs ht hvm hw hB hz1 hk1 hS => ?_)
        obtain ⟨hP1, hK1, hD1⟩ := hB
        rw [ht] at hP1
        obtain ⟨hP, hD⟩ := va_join (wr := []) (w1 := (tm_wModem cI cZ a s12)) hP hD [0, 1, 2, 3, 4, 5, 6, 7, 8, 9, 10, 11, 12, 13, 14, 15, 16, 17, 18] [] rfl rfl (by decide) (by decide) hk1 hFc hP1 hD1
        generalize H1 = H at hP hS ⊢
        have hP : va_P (dC, dI) vwCl (tm_wModem cI cZ a s12) H := hP
        have hD : va_D A (tm_wModem cI cZ a s12) := hD
        refine lv_goto (tgt := 87) hx hb dX3_look_66 (by decide) ?_
        exact W.vret hx hb hr (fun t ht hW => ⟨⟨s12, rfl, hw, by rw [ht]; exact hP, va_K.moved hW.alike hK, hD⟩, hS.F ht⟩) hS.2.2 dX3_look_87
  have hl := lv_entry ([.ref (a 0), .int p0]) (n := 2) (Nat.le_of_ble_eq_true rfl)
  rw [lg_entry_eq]
  generalize (lg_sl ([.ref (a 0), .int p0]) ++ List.replicate (2 - (lg_sl ([.ref (a 0), .int p0])).length) Slot.unset).toArray = ls at hl ⊢
  have hl : lv_has ls 2 [(0, .ref (a 0)), (1, .int p0)] := hl
  unfold wp_X3_look at hw
  refine lv_aload_n hx hb dX3_look_0 rfl (lv_at hl 0 rfl) ?_
  refine va_get (D := (dC, dI)) (ci := 3) (v := .int (s0 0 6)) (C := RX3) (T := TX3) (N := 20) hx hb hts h_in3 hown hK hP 0 rfl rfl 6 (by decide) h_f31 (fun _ h9 => h9) rfl dX3_look_1 ?_
  refine lv_iconst (v := 3) hx hb dX3_look_4 (by decide) ?_
  refine lv_icmp_ne (tgt := 35) hx hb dX3_look_5 (by decide) (fun c1 => ?_) (fun c1 => ?_)
  · have hw := hw.1 c1
    exact b35 p0 s0 _ _ _ hw hP hD hS (lv_sub hl [0, 1] rfl)
  · have hw := hw.2 c1
    refine lv_aload_n hx hb dX3_look_8 rfl (lv_at hl 0 rfl) ?_
    refine va_get (D := (dC, dI)) (ci := 3) (v := .int (s0 0 8)) (C := RX3) (T := TX3) (N := 20) hx hb hts h_in3 hown hK hP 0 rfl rfl 8 (by decide) h_f38 (fun _ h9 => h9) rfl dX3_look_9 ?_
    refine lv_bipush (v := 10) hx hb dX3_look_12 (by decide) ?_
    refine lv_iconst (v := 2) hx hb dX3_look_14 (by decide) ?_
    refine lv_aload_n hx hb dX3_look_15 rfl (lv_at hl 0 rfl) ?_
    refine va_get (D := (dC, dI)) (ci := 3) (v := .ref (a 8)) (C := RX3) (T := TX3) (N := 20) hx hb hts h_in3 hown hK hP 0 rfl rfl 0 (by decide) h_f74 (fun _ h9 => h9) rfl dX3_look_16 ?_
    refine va_get (D := (dC, dI)) (ci := 1) (v := .int (s0 8 2)) (C := RX1) (T := TX1) (N := 4) hx hb hts h_in1 hown hK hP 8 rfl rfl 2 (by decide) h_f117 (fun _ h9 => h9) rfl dX3_look_19 ?_
    refine lv_imul hx hb dX3_look_22 ?_
    refine lv_iadd hx hb dX3_look_23 ?_
    refine lv_icmp_lt (tgt := 35) hx hb dX3_look_24 (by decide) (fun c13 => ?_) (fun c13 => ?_)
    · have hw := hw.1 c13
      exact b35 p0 s0 _ _ _ hw hP hD hS (lv_sub hl [0, 1] rfl)
    · have hw := hw.2 c13
      refine lv_aload_n hx hb dX3_look_27 rfl (lv_at hl 0 rfl) ?_
      refine lv_iconst (v := 4) hx hb dX3_look_28 (by decide) ?_
      have hPc := hP
      have hDc := hD
      have hFc := va_free (wc := (tm_wModem cI cZ a s0)) hD hS hA [0, 1, 2, 3, 4, 5, 6, 7, 8, 9, 10, 11, 12, 13, 14, 15, 16, 17, 18] rfl
      refine va_callv (va_runV (As := [.int 4]) (rest := []) ⟨hx, hb, hml, hown, hts⟩ (kk_X3_come l dC dI cI cZ a s0 z.heap.size 4 _ hw) (cwV 1 hts gX3_look_X3_come rfl rfl rfl (by decide +kernel) ⟨Nat.le_of_ble_eq_true rfl, Nat.le_of_ble_eq_true rfl⟩) ⟨tm_blind, va_recv hK hPc (ci := 3) (q0 := 0) rfl rfl, fun U hU hW => ⟨rfl, by rw [hU], by rw [hU]; exact hPc, va_K.moved hW.alike hK, hDc.weaken (fun _ _ _ _ => trivial)⟩⟩ rfl rfl hl.1 rfl (lv_room (Nat.le_of_ble_eq_true rfl)) dX3_look_29 ⟨Nat.zero_le _, Nat.zero_le _⟩) hS (fun q _ h => hFc q h) hFc (fun s14 t H1 locs ht hvm hw hB hz1 hk1 hS => ?_)
      obtain ⟨hP1, hK1, hD1⟩ := hB
      rw [ht] at hP1
      obtain ⟨hP, hD⟩ := va_join (wr := []) (w1 := (tm_wModem cI cZ a s14)) hP hD [0, 1, 2, 3, 4, 5, 6, 7, 8, 9, 10, 11, 12, 13, 14, 15, 16, 17, 18] [] rfl rfl (by decide) (by decide) hk1 hFc hP1 hD1
      generalize H1 = H at hP hS ⊢
      have hP : va_P (dC, dI) vwCl (tm_wModem cI cZ a s14) H := hP
      have hD : va_D A (tm_wModem cI cZ a s14) := hD
      refine lv_goto (tgt := 87) hx hb dX3_look_32 (by decide) ?_
      exact W.vret hx hb hr (fun t ht hW => ⟨⟨s14, rfl, hw, by rw [ht]; exact hP, va_K.moved hW.alike hK, hD⟩, hS.F ht⟩) hS.2.2 dX3_look_87
def wp_X3_note (p0 : Int32) (s0 : tm_St) (K : tm_St → Prop) : Prop := ((p0 < 0 → K s0) ∧ (¬ p0 < 0 → (((8 : Int32) ≤ p0 → K s0) ∧ (¬ (8 : Int32) ≤ p0 → (vp_in p0 8 ∧ (vp_in p0 8 ∧ (∀ s5 : tm_St, s5 = tm_s s0 7 (upd (s0 7) (p0 : Int32).toNatClampNeg (s0 10 (p0 : Int32).toNatClampNeg)) → K s5)))))))
set_option maxRecDepth 100000 in
set_option maxHeartbeats 4000000 in
theorem kk_X3_note (l : Launch) (dC : Nat → ClassId) (dI : Nat → Nat → Nat) (cI cZ : ClassId) (a : Nat → Nat) (s0 : tm_St) (sz : Nat) (p0 : Int32) (K : tm_St → Prop) (hw : wp_X3_note p0 s0 K) : Met l yX3_note wsX3_note ({ frames := 0, cells := 0, slots := 0, locals := 0 }) (va_Pc [.ref (a 0), .int p0] (tm_Pre dC dI cI cZ (tm_wModem cI cZ a s0) sz)) (va_Qv (fun (u : tm_St) => K u) (fun (u : tm_St) t => tm_At dC dI cI cZ (va_A (tm_wModem cI cZ a s0) sz) (tm_wModem cI cZ a u) t) (va_A (tm_wModem cI cZ a s0) sz)) 0 0 (va_A (tm_wModem cI cZ a s0) sz) := by
  refine Met.ofW (cc := cX3_note) (maxL := 2) (ret := none) (by decide +kernel) rfl ?_
  intro p e z m args below meth c z₁ B hml hv
  obtain ⟨rfl, hsz, hP, hK, hD0⟩ := hv
  have hx := B.exec
  have hb := B.bytes
  have hr := B.returns
  have hts := atoms_spec (ws := wsX3_note) B.pre
  have hown : z.vm.findClass RX3 = some m.cls := findClass_of_methodNamed B.named
  have hlocks := B.notSynchronized
  subst hsz
  have hD := hD0.self (sz := z.heap.size)
  generalize hAe : va_A (tm_wModem cI cZ a s0) z.heap.size = A at hD ⊢
  have hA : ∀ q : Nat, z.heap.size ≤ q → A q := fun q h => by rw [← hAe]; exact Or.inr h
  have hS : va_S A z.heap z.heap [] := va_S.rf
  have h_f25 := hts (.fieldLink RX3 25 "TwoModems$Modem" "noted" "[I") (by decide +kernel)
  have h_in3 : ∀ w ∈ u_ws RX3 TX3 20, w ∈ wsX3_note := by decide +kernel
  have h_f78 := hts (.fieldLink RX3 78 "TwoModems$Modem" "in" "LTwoModems$Way;") (by decide +kernel)
  have h_f152 := hts (.fieldLink RX3 152 "TwoModems$Way" "quality" "[I") (by decide +kernel)
  have h_in7 : ∀ w ∈ u_ws RX7 TX7 8, w ∈ wsX3_note := by decide +kernel
  have hl := lv_entry ([.ref (a 0), .int p0]) (n := 2) (Nat.le_of_ble_eq_true rfl)
  rw [lg_entry_eq]
  generalize (lg_sl ([.ref (a 0), .int p0]) ++ List.replicate (2 - (lg_sl ([.ref (a 0), .int p0])).length) Slot.unset).toArray = ls at hl ⊢
  have hl : lv_has ls 2 [(0, .ref (a 0)), (1, .int p0)] := hl
  unfold wp_X3_note at hw
  refine lv_iload_n hx hb dX3_note_0 rfl (lv_at hl 1 rfl) ?_
  refine lv_if_lt (tgt := 25) hx hb dX3_note_1 (by decide) (fun c1 => ?_) (fun c1 => ?_)
  · have hw := hw.1 c1
    exact W.vret hx hb hr (fun t ht hW => ⟨⟨s0, rfl, hw, by rw [ht]; exact hP, va_K.moved hW.alike hK, hD⟩, hS.F ht⟩) hS.2.2 dX3_note_25
  · have hw := hw.2 c1
    refine lv_iload_n hx hb dX3_note_4 rfl (lv_at hl 1 rfl) ?_
    refine lv_bipush (v := 8) hx hb dX3_note_5 (by decide) ?_
    refine lv_icmp_ge (tgt := 25) hx hb dX3_note_7 (by decide) (fun c2 => ?_) (fun c2 => ?_)
    · have hw := hw.1 c2
      exact W.vret hx hb hr (fun t ht hW => ⟨⟨s0, rfl, hw, by rw [ht]; exact hP, va_K.moved hW.alike hK, hD⟩, hS.F ht⟩) hS.2.2 dX3_note_25
    · have hw := hw.2 c2
      refine lv_aload_n hx hb dX3_note_10 rfl (lv_at hl 0 rfl) ?_
      refine va_get (D := (dC, dI)) (ci := 3) (v := .ref (a 7)) (C := RX3) (T := TX3) (N := 20) hx hb hts h_in3 hown hK hP 0 rfl rfl 5 (by decide) h_f25 (fun _ h9 => h9) rfl dX3_note_11 ?_
      refine lv_iload_n hx hb dX3_note_14 rfl (lv_at hl 1 rfl) ?_
      refine lv_aload_n hx hb dX3_note_15 rfl (lv_at hl 0 rfl) ?_
      refine va_get (D := (dC, dI)) (ci := 3) (v := .ref (a 9)) (C := RX3) (T := TX3) (N := 20) hx hb hts h_in3 hown hK hP 0 rfl rfl 1 (by decide) h_f78 (fun _ h9 => h9) rfl dX3_note_16 ?_
      refine va_get (D := (dC, dI)) (ci := 5) (v := .ref (a 10)) (C := RX7) (T := TX7) (N := 8) hx hb hts h_in7 hown hK hP 9 rfl rfl 0 (by decide) h_f152 (fun _ h9 => h9) rfl dX3_note_19 ?_
      refine lv_iload_n hx hb dX3_note_22 rfl (lv_at hl 1 rfl) ?_
      have c3 := hw.1
      have hw := hw.2
      refine va_iald hx hb hK hP 10 0 rfl rfl c3 dX3_note_23 ?_
      have c4 := hw.1
      have hw := hw.2
      refine va_iast hx hb hK hP hD hS 7 0 rfl rfl c4 dX3_note_24 (fun H locs hP hD hS => ?_)
      obtain ⟨s5, es5⟩ : ∃ y : tm_St, y = tm_s s0 7 (upd (s0 7) (p0 : Int32).toNatClampNeg (s0 10 (p0 : Int32).toNatClampNeg)) := ⟨_, rfl⟩
      have hw := hw s5 es5
      have hP : va_P (dC, dI) vwCl (tm_wModem cI cZ a s5) H := by rw [es5]; exact hP
      have hD : va_D A (tm_wModem cI cZ a s5) := by rw [es5]; exact hD
      exact W.vret hx hb hr (fun t ht hW => ⟨⟨s5, rfl, hw, by rw [ht]; exact hP, va_K.moved hW.alike hK, hD⟩, hS.F ht⟩) hS.2.2 dX3_note_25
