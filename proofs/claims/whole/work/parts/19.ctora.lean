def tm_al (l : List Nat) : Nat → Nat := fun i => l.getD i 0
def tm_l (l : List (Nat → Int32)) : tm_St := fun i => l.getD i (fun _ => 0)
theorem tm_cI {D : va_G} {cl : List vw_C} {cI cZ cA : ClassId} {U : State} (h : va_K D cl ([(cI, .int), (cZ, .boolean)] ++ [(cA, .int)]) U) : cI = cA ∧ va_K D cl [(cI, .int), (cZ, .boolean)] U :=
  ⟨Option.some.inj ((h.2 0 _ rfl).2.symm.trans (h.2 2 _ rfl).2), h.sub [0, 1] rfl⟩
theorem tm_cZ {D : va_G} {cl : List vw_C} {cI cZ cA : ClassId} {U : State} (h : va_K D cl ([(cI, .int), (cZ, .boolean)] ++ [(cA, .boolean)]) U) : cZ = cA ∧ va_K D cl [(cI, .int), (cZ, .boolean)] U :=
  ⟨Option.some.inj ((h.2 1 _ rfl).2.symm.trans (h.2 2 _ rfl).2), h.sub [0, 1] rfl⟩
def tm_wLineC (cI cZ : ClassId) (a : Nat → Nat) (σ : tm_St) : va_W := [(a 0, .inr (1, [.ref (a 1), .ref (a 6), .int (σ 0 2), .int (σ 0 3)])), (a 1, .inr (5, [.ref (a 2), .ref (a 3), .ref (a 4), .ref (a 5), .int (σ 1 4), .int (σ 1 5), .int (σ 1 6), .int (σ 1 7)])), (a 2, .inl (cI, 8, .inl (σ 2))), (a 3, .inl (cI, 8, .inl (σ 3))), (a 4, .inl (cI, 128, .inl (σ 4))), (a 5, .inl (cZ, 16, .inl (σ 5))), (a 6, .inr (5, [.ref (a 7), .ref (a 8), .ref (a 9), .ref (a 10), .int (σ 6 4), .int (σ 6 5), .int (σ 6 6), .int (σ 6 7)])), (a 7, .inl (cI, 8, .inl (σ 7))), (a 8, .inl (cI, 8, .inl (σ 8))), (a 9, .inl (cI, 128, .inl (σ 9))), (a 10, .inl (cZ, 16, .inl (σ 10)))]
def tm_wModemC (cI cZ : ClassId) (p0 p1 p2 : Nat) (a : Nat → Nat) (σ : tm_St) : va_W := [(a 0, .inr (3, [.ref p0, .ref p1, .ref p2, .ref (a 1), .ref (a 4), .ref (a 7), .int (σ 0 6), .int (σ 0 7), .int (σ 0 8), .int (σ 0 9), .int (σ 0 10), .int (σ 0 11), .int (σ 0 12), .int (σ 0 13), .int (σ 0 14), .int (σ 0 15), .int (σ 0 16), .int (σ 0 17), .int (σ 0 18), .int (σ 0 19)])), (a 1, .inr (0, [.ref (a 2), .ref (a 3)])), (a 2, .inl (cI, 4, .inl (σ 2))), (a 3, .inl (cI, 4, .inl (σ 3))), (a 4, .inr (2, [.ref (a 5), .ref (a 6), .int (σ 4 2), .int (σ 4 3), .int (σ 4 4), .int (σ 4 5), .int (σ 4 6), .int (σ 4 7)])), (a 5, .inl (cI, 200, .inl (σ 5))), (a 6, .inl (cI, 200, .inl (σ 6))), (a 7, .inl (cI, 8, .inl (σ 7)))]
def tm_nw3 (U : State) : Prop := va_Nw (.methodLinkNest RX3 11 yX0_init "TwoModems") U ∧ va_Nw (.methodLinkNest RX3 20 yX2_init "TwoModems") U
def tm_nw8 (U : State) : Prop := (va_Nw (.methodLinkNest RX8 9 yX1_init "TwoModems") U ∧ va_Nw (.methodLinkNest RX8 12 yX4_init "TwoModems") U) ∧ tm_nw3 U
theorem tm_nw3_w {s U : State} (hW : s.WarmedH U.vm) (h : tm_nw3 s) : tm_nw3 U := ⟨va_Nw.warmM hW h.1, va_Nw.warmM hW h.2⟩
theorem tm_nw8_w {s U : State} (hW : s.WarmedH U.vm) (h : tm_nw8 s) : tm_nw8 U := ⟨⟨va_Nw.warmM hW h.1.1, va_Nw.warmM hW h.1.2⟩, tm_nw3_w hW h.2⟩
theorem tm_blind3 {dC : Nat → ClassId} {dI : Nat → Nat → Nat} {cI cZ : ClassId} {ws : va_W} {sz : Nat} {av : List Value} : FrameBlind (va_Pc av (fun U => tm_Pre dC dI cI cZ ws sz U ∧ tm_nw3 U)) := fun a U g mk q => by
  obtain ⟨q0, ⟨q1, qP, qK, qD⟩, qN⟩ := q
  exact ⟨q0, ⟨q1, qP, va_K.moved (u := U) (U := U.calling g mk a) (Vm.Alike.refl U.vm) qK, qD⟩, va_Nw.same rfl rfl qN.1, va_Nw.same rfl rfl qN.2⟩
theorem tm_blind8 {dC : Nat → ClassId} {dI : Nat → Nat → Nat} {cI cZ : ClassId} {ws : va_W} {sz : Nat} {av : List Value} : FrameBlind (va_Pc av (fun U => tm_Pre dC dI cI cZ ws sz U ∧ tm_nw8 U)) := fun a U g mk q => by
  obtain ⟨q0, ⟨q1, qP, qK, qD⟩, qN⟩ := q
  exact ⟨q0, ⟨q1, qP, va_K.moved (u := U) (U := U.calling g mk a) (Vm.Alike.refl U.vm) qK, qD⟩, ⟨va_Nw.same rfl rfl qN.1.1, va_Nw.same rfl rfl qN.1.2⟩, va_Nw.same rfl rfl qN.2.1, va_Nw.same rfl rfl qN.2.2⟩
def wp_X7_init_59 (K : tm_St → Prop) : Nat → Int32 → tm_St → Prop
  | 0, _, _ => False
  | n + 1, v1, s => (((8 : Int32) ≤ v1 → K s) ∧ (¬ (8 : Int32) ≤ v1 → (vp_in v1 8 ∧ (∀ s3 : tm_St, s3 = tm_s s 1 (upd (s 1) (v1 : Int32).toNatClampNeg 8) → (∀ x4 : Int32, x4 = v1 + 1 → wp_X7_init_59 K n x4 s3)))))
def wp_X7_init (K : tm_St → Prop) : Prop := ∃ nf : Nat, wp_X7_init_59 K nf 0 (tm_l [fun _ => 0, fun _ => 0, fun _ => 0, fun _ => 0, fun _ => 0])
set_option maxRecDepth 100000 in
set_option maxHeartbeats 4000000 in
theorem kk_X7_init (l : Launch) (dC : Nat → ClassId) (dI : Nat → Nat → Nat) (cI cZ : ClassId) (h0 : Nat)  (sz : Nat) (K : tm_St → Prop) (hw : wp_X7_init K) : Met l yX7_init wsX7_init ({ frames := 1, cells := 4, slots := 160, locals := 12 }) (va_Pc [.ref h0] (tm_Pre dC dI cI cZ [(h0, .inr (5, [.null, .null, .null, .null, .int 0, .int 0, .int 0, .int 0]))] sz)) (va_Qv (fun (u : (Nat → Nat) × tm_St) => u.1 0 = h0 ∧ K u.2) (fun (u : (Nat → Nat) × tm_St) t => tm_At dC dI cI cZ (va_A [(h0, .inr (5, [.null, .null, .null, .null, .int 0, .int 0, .int 0, .int 0]))] sz) (tm_wWay cI cZ u.1 u.2) t) (va_A [(h0, .inr (5, [.null, .null, .null, .null, .int 0, .int 0, .int 0, .int 0]))] sz)) 4 160 (va_A [(h0, .inr (5, [.null, .null, .null, .null, .int 0, .int 0, .int 0, .int 0]))] sz) := by
  refine Met.ofW (cc := cX7_init) (maxL := 2) (ret := none) (by decide +kernel) rfl ?_
  intro p e z m args below meth c z₁ B hml hv
  obtain ⟨rfl, hsz, hP, hK, hD0⟩ := hv
  have hx := B.exec
  have hb := B.bytes
  have hr := B.returns
  have hts := atoms_spec (ws := wsX7_init) B.pre
  have hown : z.vm.findClass RX7 = some m.cls := findClass_of_methodNamed B.named
  have hlocks := B.notSynchronized
  have hin : meth.name = "<init>" := (name_of_methodNamed B.named B.method).1
  subst hsz
  have hD := hD0.self (sz := z.heap.size)
  generalize hAe : va_A [(h0, .inr (5, [.null, .null, .null, .null, .int 0, .int 0, .int 0, .int 0]))] z.heap.size = A at hD ⊢
  have hA : ∀ q : Nat, z.heap.size ≤ q → A q := fun q h => by rw [← hAe]; exact Or.inr h
  have hS : va_S A z.heap z.heap [] := va_S.rf
  have hP : va_P (dC, dI) vwCl ([(h0, .inr (5, [.null, .null, .null, .null, .int 0, .int 0, .int 0, .int 0]))] : va_W) z.heap := hP
  have h_oi := hts (.methodLink RX7 5 objectInit) (by decide +kernel)
  have h_oi2 := hts (.instanceMethod objectInit) (by decide +kernel)
  have h_oi3 := hts (.code objectInit ⟨#[0xb1]⟩ 1 none) (by decide +kernel)
  have h_acI := hts (.arrayClass .int) (by decide +kernel)
  have h_f11 := hts (.fieldLink RX7 11 "TwoModems$Way" "quality" "[I") (by decide +kernel)
  have h_in7 : ∀ w ∈ u_ws RX7 TX7 8, w ∈ wsX7_init := by decide +kernel
  have h_f15 := hts (.fieldLink RX7 15 "TwoModems$Way" "latest" "[I") (by decide +kernel)
  have h_f18 := hts (.fieldLink RX7 18 "TwoModems$Way" "rows" "[I") (by decide +kernel)
  have h_acZ := hts (.arrayClass .boolean) (by decide +kernel)
  have h_f21 := hts (.fieldLink RX7 21 "TwoModems$Way" "full" "[Z") (by decide +kernel)
  have h_f25 := hts (.fieldLink RX7 25 "TwoModems$Way" "hurt" "I") (by decide +kernel)
  have h_f29 := hts (.fieldLink RX7 29 "TwoModems$Way" "came" "I") (by decide +kernel)
  have h_f32 := hts (.fieldLink RX7 32 "TwoModems$Way" "harmed" "I") (by decide +kernel)
  have h_f35 := hts (.fieldLink RX7 35 "TwoModems$Way" "underWay" "I") (by decide +kernel)
  have b59 : ∀ (a : Nat → Nat), a 0 = h0 → ∀ (n : Nat) (v1 : Int32) (s : tm_St) (H : Heap) (locs : List Loc) (ls : Array Slot), wp_X7_init_59 K n v1 s → va_P (dC, dI) vwCl (tm_wWay cI cZ a s) H → va_D A (tm_wWay cI cZ a s) → va_S A z.heap H locs → lv_has ls 2 [(0, .ref (a 0)), (1, .int v1)] → W p l e (headSpec wsX7_init ({ frames := 1, cells := 4, slots := 160, locals := 12 })).room z m (([.ref h0] : List Value).toArray) below meth c H locs 4 160 (MQ below (va_Qv (fun (u : (Nat → Nat) × tm_St) => u.1 0 = h0 ∧ K u.2) (fun (u : (Nat → Nat) × tm_St) t => tm_At dC dI cI cZ A (tm_wWay cI cZ u.1 u.2) t) A) (([.ref h0] : List Value).toArray) z 4 160 A) (F0 m 59 ls []) := by
    intro a ea0 n
    induction n with
    | zero => intro v1 s H locs ls hw hP hD hS hl; unfold wp_X7_init_59 at hw; exact hw.elim
    | succ n ih =>
      intro v1 s H locs ls hw hP hD hS hl
      unfold wp_X7_init_59 at hw
      refine lv_iload_n hx hb dX7_init_59 rfl (lv_at hl 1 rfl) ?_
      refine lv_bipush (v := 8) hx hb dX7_init_60 (by decide) ?_
      refine lv_icmp_ge (tgt := 79) hx hb dX7_init_62 (by decide) (fun c1 => ?_) (fun c1 => ?_)
      · have hw := hw.1 c1
        exact W.vret hx hb hr (fun t ht hW => ⟨⟨(a, s), rfl, ⟨ea0, hw⟩, by rw [ht]; exact hP, va_K.moved hW.alike hK, hD⟩, hS.F ht⟩) hS.2.2 dX7_init_79
      · have hw := hw.2 c1
        refine lv_aload_n hx hb dX7_init_65 rfl (lv_at hl 0 rfl) ?_
        refine va_get (D := (dC, dI)) (ci := 5) (v := .ref (a 1)) (C := RX7) (T := TX7) (N := 8) hx hb hts h_in7 hown hK hP 0 rfl rfl 0 (by decide) h_f11 (fun _ h9 => h9) rfl dX7_init_66 ?_
        refine lv_iload_n hx hb dX7_init_69 rfl (lv_at hl 1 rfl) ?_
        refine lv_bipush (v := 8) hx hb dX7_init_70 (by decide) ?_
        have c2 := hw.1
        have hw := hw.2
        refine va_iast hx hb hK hP hD hS 1 0 rfl rfl c2 dX7_init_72 (fun H locs hP hD hS => ?_)
        obtain ⟨s3, es3⟩ : ∃ y : tm_St, y = tm_s s 1 (upd (s 1) (v1 : Int32).toNatClampNeg 8) := ⟨_, rfl⟩
        have hw := hw s3 es3
        have hP : va_P (dC, dI) vwCl (tm_wWay cI cZ a s3) H := by rw [es3]; exact hP
        have hD : va_D A (tm_wWay cI cZ a s3) := by rw [es3]; exact hD
        obtain ⟨x4, ex4⟩ : ∃ y : Int32, y = v1 + 1 := ⟨_, rfl⟩
        have hw := hw x4 ex4
        refine lv_iinc (v := x4) (lv' := [(1, .int x4), (0, .ref (a 0))]) hx hb dX7_init_73 hl (k := 1) rfl (by rw [ex4]; rfl) (by decide) rfl (fun ls hl => ?_)
        refine lv_goto (tgt := 59) hx hb dX7_init_76 (by decide) ?_
        exact ih x4 s3 _ _ _ hw hP hD hS (lv_sub hl [1, 0] rfl)
  have hl := lv_entry ([.ref h0]) (n := 2) (Nat.le_of_ble_eq_true rfl)
  rw [lg_entry_eq]
  generalize (lg_sl ([.ref h0]) ++ List.replicate (2 - (lg_sl ([.ref h0])).length) Slot.unset).toArray = ls at hl ⊢
  have hl : lv_has ls 2 [(0, .ref h0)] := hl
  unfold wp_X7_init at hw
  refine lv_aload_n hx hb dX7_init_0 rfl (lv_at hl 0 rfl) ?_
  refine W.objInit hx hb hown h_oi h_oi2 h_oi3 rfl (by rw [hml]; exact hl.1) rfl dX7_init_1 (Nat.le_of_ble_eq_true rfl) (Nat.le_of_ble_eq_true rfl) ?_
  refine W.eq (g2 := F0 m 4 ls []) rfl ?_
  refine lv_aload_n hx hb dX7_init_4 rfl (lv_at hl 0 rfl) ?_
  refine lv_bipush (v := 8) hx hb dX7_init_5 (by decide) ?_
  refine va_newa (atype := .int) (ty := .int) (a0 := (8, .inl (fun _ => 0))) (N' := 8) hx hb h_acI rfl hK hP hD hS hA (fun _ => rfl) (by decide) (by decide) (Nat.le_of_ble_eq_true rfl) (Nat.le_of_ble_eq_true rfl) (Nat.le_of_ble_eq_true rfl) dX7_init_7 (fun q1 cA H hK hP hD hS => ?_)
  obtain ⟨ecA, hK2⟩ := tm_cI hK
  clear hK
  have hK := hK2
  clear hK2
  subst ecA
  have hP : va_P (dC, dI) vwCl ([(h0, .inr (5, [.null, .null, .null, .null, .int 0, .int 0, .int 0, .int 0])), (q1, .inl (cI, 8, .inl (fun _ => 0)))] : va_W) H := hP
  have hD : va_D A ([(h0, .inr (5, [.null, .null, .null, .null, .int 0, .int 0, .int 0, .int 0])), (q1, .inl (cI, 8, .inl (fun _ => 0)))] : va_W) := hD
  refine va_putF (D := (dC, dI)) (ci := 5) (v := .ref q1) (ty := (.array .int)) (C := RX7) (T := TX7) (N := 8) hx hb hts h_in7 tyX7 tyX7_ok nmX7 hown hK hP hD hS 0 rfl rfl 0 (by decide) h_f11 (fun _ h9 => h9) rfl hin rfl (by decide +kernel) rfl rfl (Nat.le_of_ble_eq_true rfl) dX7_init_9 (fun H locs hP hD hS => ?_)
  have hP : va_P (dC, dI) vwCl ([(h0, .inr (5, [.ref q1, .null, .null, .null, .int 0, .int 0, .int 0, .int 0])), (q1, .inl (cI, 8, .inl (fun _ => 0)))] : va_W) H := hP
  have hD : va_D A ([(h0, .inr (5, [.ref q1, .null, .null, .null, .int 0, .int 0, .int 0, .int 0])), (q1, .inl (cI, 8, .inl (fun _ => 0)))] : va_W) := hD
  refine lv_aload_n hx hb dX7_init_12 rfl (lv_at hl 0 rfl) ?_
  refine lv_bipush (v := 8) hx hb dX7_init_13 (by decide) ?_
  refine va_newa (atype := .int) (ty := .int) (a0 := (8, .inl (fun _ => 0))) (N' := 8) hx hb h_acI rfl hK hP hD hS hA (fun _ => rfl) (by decide) (by decide) (Nat.le_of_ble_eq_true rfl) (Nat.le_of_ble_eq_true rfl) (Nat.le_of_ble_eq_true rfl) dX7_init_15 (fun q2 cA H hK hP hD hS => ?_)
  obtain ⟨ecA, hK2⟩ := tm_cI hK
  clear hK
  have hK := hK2
  clear hK2
  subst ecA
  have hP : va_P (dC, dI) vwCl ([(h0, .inr (5, [.ref q1, .null, .null, .null, .int 0, .int 0, .int 0, .int 0])), (q1, .inl (cI, 8, .inl (fun _ => 0))), (q2, .inl (cI, 8, .inl (fun _ => 0)))] : va_W) H := hP
  have hD : va_D A ([(h0, .inr (5, [.ref q1, .null, .null, .null, .int 0, .int 0, .int 0, .int 0])), (q1, .inl (cI, 8, .inl (fun _ => 0))), (q2, .inl (cI, 8, .inl (fun _ => 0)))] : va_W) := hD
  refine va_putF (D := (dC, dI)) (ci := 5) (v := .ref q2) (ty := (.array .int)) (C := RX7) (T := TX7) (N := 8) hx hb hts h_in7 tyX7 tyX7_ok nmX7 hown hK hP hD hS 0 rfl rfl 1 (by decide) h_f15 (fun _ h9 => h9) rfl hin rfl (by decide +kernel) rfl rfl (Nat.le_of_ble_eq_true rfl) dX7_init_17 (fun H locs hP hD hS => ?_)
  have hP : va_P (dC, dI) vwCl ([(h0, .inr (5, [.ref q1, .ref q2, .null, .null, .int 0, .int 0, .int 0, .int 0])), (q1, .inl (cI, 8, .inl (fun _ => 0))), (q2, .inl (cI, 8, .inl (fun _ => 0)))] : va_W) H := hP
  have hD : va_D A ([(h0, .inr (5, [.ref q1, .ref q2, .null, .null, .int 0, .int 0, .int 0, .int 0])), (q1, .inl (cI, 8, .inl (fun _ => 0))), (q2, .inl (cI, 8, .inl (fun _ => 0)))] : va_W) := hD
  refine lv_aload_n hx hb dX7_init_20 rfl (lv_at hl 0 rfl) ?_
  refine lv_sipush (v := 128) hx hb dX7_init_21 (by decide) ?_
  refine va_newa (atype := .int) (ty := .int) (a0 := (128, .inl (fun _ => 0))) (N' := 128) hx hb h_acI rfl hK hP hD hS hA (fun _ => rfl) (by decide) (by decide) (Nat.le_of_ble_eq_true rfl) (Nat.le_of_ble_eq_true rfl) (Nat.le_of_ble_eq_true rfl) dX7_init_24 (fun q3 cA H hK hP hD hS => ?_)
  obtain ⟨ecA, hK2⟩ := tm_cI hK
  clear hK
  have hK := hK2
  clear hK2
  subst ecA
  have hP : va_P (dC, dI) vwCl ([(h0, .inr (5, [.ref q1, .ref q2, .null, .null, .int 0, .int 0, .int 0, .int 0])), (q1, .inl (cI, 8, .inl (fun _ => 0))), (q2, .inl (cI, 8, .inl (fun _ => 0))), (q3, .inl (cI, 128, .inl (fun _ => 0)))] : va_W) H := hP
  have hD : va_D A ([(h0, .inr (5, [.ref q1, .ref q2, .null, .null, .int 0, .int 0, .int 0, .int 0])), (q1, .inl (cI, 8, .inl (fun _ => 0))), (q2, .inl (cI, 8, .inl (fun _ => 0))), (q3, .inl (cI, 128, .inl (fun _ => 0)))] : va_W) := hD
  refine va_putF (D := (dC, dI)) (ci := 5) (v := .ref q3) (ty := (.array .int)) (C := RX7) (T := TX7) (N := 8) hx hb hts h_in7 tyX7 tyX7_ok nmX7 hown hK hP hD hS 0 rfl rfl 2 (by decide) h_f18 (fun _ h9 => h9) rfl hin rfl (by decide +kernel) rfl rfl (Nat.le_of_ble_eq_true rfl) dX7_init_26 (fun H locs hP hD hS => ?_)
  have hP : va_P (dC, dI) vwCl ([(h0, .inr (5, [.ref q1, .ref q2, .ref q3, .null, .int 0, .int 0, .int 0, .int 0])), (q1, .inl (cI, 8, .inl (fun _ => 0))), (q2, .inl (cI, 8, .inl (fun _ => 0))), (q3, .inl (cI, 128, .inl (fun _ => 0)))] : va_W) H := hP
  have hD : va_D A ([(h0, .inr (5, [.ref q1, .ref q2, .ref q3, .null, .int 0, .int 0, .int 0, .int 0])), (q1, .inl (cI, 8, .inl (fun _ => 0))), (q2, .inl (cI, 8, .inl (fun _ => 0))), (q3, .inl (cI, 128, .inl (fun _ => 0)))] : va_W) := hD
  refine lv_aload_n hx hb dX7_init_29 rfl (lv_at hl 0 rfl) ?_
  refine lv_bipush (v := 16) hx hb dX7_init_30 (by decide) ?_
  refine va_newa (atype := .boolean) (ty := .boolean) (a0 := (16, .inl (fun _ => 0))) (N' := 16) hx hb h_acZ rfl hK hP hD hS hA (fun _ => rfl) (by decide) (by decide) (Nat.le_of_ble_eq_true rfl) (Nat.le_of_ble_eq_true rfl) (Nat.le_of_ble_eq_true rfl) dX7_init_32 (fun q4 cA H hK hP hD hS => ?_)
  obtain ⟨ecA, hK2⟩ := tm_cZ hK
  clear hK
  have hK := hK2
  clear hK2
  subst ecA
  have hP : va_P (dC, dI) vwCl ([(h0, .inr (5, [.ref q1, .ref q2, .ref q3, .null, .int 0, .int 0, .int 0, .int 0])), (q1, .inl (cI, 8, .inl (fun _ => 0))), (q2, .inl (cI, 8, .inl (fun _ => 0))), (q3, .inl (cI, 128, .inl (fun _ => 0))), (q4, .inl (cZ, 16, .inl (fun _ => 0)))] : va_W) H := hP
  have hD : va_D A ([(h0, .inr (5, [.ref q1, .ref q2, .ref q3, .null, .int 0, .int 0, .int 0, .int 0])), (q1, .inl (cI, 8, .inl (fun _ => 0))), (q2, .inl (cI, 8, .inl (fun _ => 0))), (q3, .inl (cI, 128, .inl (fun _ => 0))), (q4, .inl (cZ, 16, .inl (fun _ => 0)))] : va_W) := hD
  refine va_putF (D := (dC, dI)) (ci := 5) (v := .ref q4) (ty := (.array .boolean)) (C := RX7) (T := TX7) (N := 8) hx hb hts h_in7 tyX7 tyX7_ok nmX7 hown hK hP hD hS 0 rfl rfl 3 (by decide) h_f21 (fun _ h9 => h9) rfl hin rfl (by decide +kernel) rfl rfl (Nat.le_of_ble_eq_true rfl) dX7_init_34 (fun H locs hP hD hS => ?_)
  have hP : va_P (dC, dI) vwCl ([(h0, .inr (5, [.ref q1, .ref q2, .ref q3, .ref q4, .int 0, .int 0, .int 0, .int 0])), (q1, .inl (cI, 8, .inl (fun _ => 0))), (q2, .inl (cI, 8, .inl (fun _ => 0))), (q3, .inl (cI, 128, .inl (fun _ => 0))), (q4, .inl (cZ, 16, .inl (fun _ => 0)))] : va_W) H := hP
  have hD : va_D A ([(h0, .inr (5, [.ref q1, .ref q2, .ref q3, .ref q4, .int 0, .int 0, .int 0, .int 0])), (q1, .inl (cI, 8, .inl (fun _ => 0))), (q2, .inl (cI, 8, .inl (fun _ => 0))), (q3, .inl (cI, 128, .inl (fun _ => 0))), (q4, .inl (cZ, 16, .inl (fun _ => 0)))] : va_W) := hD
  refine lv_aload_n hx hb dX7_init_37 rfl (lv_at hl 0 rfl) ?_
  refine lv_iconst (v := 0) hx hb dX7_init_38 (by decide) ?_
  refine va_put (D := (dC, dI)) (ci := 5) (v := .int 0) (ty := .int) (C := RX7) (T := TX7) (N := 8) hx hb hts h_in7 tyX7 tyX7_ok nmX7 hown hK hP hD hS 0 rfl rfl 4 (by decide) h_f25 (fun _ h9 => h9) rfl (by decide +kernel) rfl rfl (Nat.le_of_ble_eq_true rfl) dX7_init_39 (fun H locs hP hD hS => ?_)
  have hP : va_P (dC, dI) vwCl ([(h0, .inr (5, [.ref q1, .ref q2, .ref q3, .ref q4, .int 0, .int 0, .int 0, .int 0])), (q1, .inl (cI, 8, .inl (fun _ => 0))), (q2, .inl (cI, 8, .inl (fun _ => 0))), (q3, .inl (cI, 128, .inl (fun _ => 0))), (q4, .inl (cZ, 16, .inl (fun _ => 0)))] : va_W) H := hP
  have hD : va_D A ([(h0, .inr (5, [.ref q1, .ref q2, .ref q3, .ref q4, .int 0, .int 0, .int 0, .int 0])), (q1, .inl (cI, 8, .inl (fun _ => 0))), (q2, .inl (cI, 8, .inl (fun _ => 0))), (q3, .inl (cI, 128, .inl (fun _ => 0))), (q4, .inl (cZ, 16, .inl (fun _ => 0)))] : va_W) := hD
  refine lv_aload_n hx hb dX7_init_42 rfl (lv_at hl 0 rfl) ?_
  refine lv_iconst (v := 0) hx hb dX7_init_43 (by decide) ?_
  refine va_put (D := (dC, dI)) (ci := 5) (v := .int 0) (ty := .int) (C := RX7) (T := TX7) (N := 8) hx hb hts h_in7 tyX7 tyX7_ok nmX7 hown hK hP hD hS 0 rfl rfl 5 (by decide) h_f29 (fun _ h9 => h9) rfl (by decide +kernel) rfl rfl (Nat.le_of_ble_eq_true rfl) dX7_init_44 (fun H locs hP hD hS => ?_)
  have hP : va_P (dC, dI) vwCl ([(h0, .inr (5, [.ref q1, .ref q2, .ref q3, .ref q4, .int 0, .int 0, .int 0, .int 0])), (q1, .inl (cI, 8, .inl (fun _ => 0))), (q2, .inl (cI, 8, .inl (fun _ => 0))), (q3, .inl (cI, 128, .inl (fun _ => 0))), (q4, .inl (cZ, 16, .inl (fun _ => 0)))] : va_W) H := hP
  have hD : va_D A ([(h0, .inr (5, [.ref q1, .ref q2, .ref q3, .ref q4, .int 0, .int 0, .int 0, .int 0])), (q1, .inl (cI, 8, .inl (fun _ => 0))), (q2, .inl (cI, 8, .inl (fun _ => 0))), (q3, .inl (cI, 128, .inl (fun _ => 0))), (q4, .inl (cZ, 16, .inl (fun _ => 0)))] : va_W) := hD
  refine lv_aload_n hx hb dX7_init_47 rfl (lv_at hl 0 rfl) ?_
  refine lv_iconst (v := 0) hx hb dX7_init_48 (by decide) ?_
  refine va_put (D := (dC, dI)) (ci := 5) (v := .int 0) (ty := .int) (C := RX7) (T := TX7) (N := 8) hx hb hts h_in7 tyX7 tyX7_ok nmX7 hown hK hP hD hS 0 rfl rfl 6 (by decide) h_f32 (fun _ h9 => h9) rfl (by decide +kernel) rfl rfl (Nat.le_of_ble_eq_true rfl) dX7_init_49 (fun H locs hP hD hS => ?_)
  have hP : va_P (dC, dI) vwCl ([(h0, .inr (5, [.ref q1, .ref q2, .ref q3, .ref q4, .int 0, .int 0, .int 0, .int 0])), (q1, .inl (cI, 8, .inl (fun _ => 0))), (q2, .inl (cI, 8, .inl (fun _ => 0))), (q3, .inl (cI, 128, .inl (fun _ => 0))), (q4, .inl (cZ, 16, .inl (fun _ => 0)))] : va_W) H := hP
  have hD : va_D A ([(h0, .inr (5, [.ref q1, .ref q2, .ref q3, .ref q4, .int 0, .int 0, .int 0, .int 0])), (q1, .inl (cI, 8, .inl (fun _ => 0))), (q2, .inl (cI, 8, .inl (fun _ => 0))), (q3, .inl (cI, 128, .inl (fun _ => 0))), (q4, .inl (cZ, 16, .inl (fun _ => 0)))] : va_W) := hD
  refine lv_aload_n hx hb dX7_init_52 rfl (lv_at hl 0 rfl) ?_
  refine lv_iconst (v := 0) hx hb dX7_init_53 (by decide) ?_
  refine va_put (D := (dC, dI)) (ci := 5) (v := .int 0) (ty := .int) (C := RX7) (T := TX7) (N := 8) hx hb hts h_in7 tyX7 tyX7_ok nmX7 hown hK hP hD hS 0 rfl rfl 7 (by decide) h_f35 (fun _ h9 => h9) rfl (by decide +kernel) rfl rfl (Nat.le_of_ble_eq_true rfl) dX7_init_54 (fun H locs hP hD hS => ?_)
  have hP : va_P (dC, dI) vwCl ([(h0, .inr (5, [.ref q1, .ref q2, .ref q3, .ref q4, .int 0, .int 0, .int 0, .int 0])), (q1, .inl (cI, 8, .inl (fun _ => 0))), (q2, .inl (cI, 8, .inl (fun _ => 0))), (q3, .inl (cI, 128, .inl (fun _ => 0))), (q4, .inl (cZ, 16, .inl (fun _ => 0)))] : va_W) H := hP
  have hD : va_D A ([(h0, .inr (5, [.ref q1, .ref q2, .ref q3, .ref q4, .int 0, .int 0, .int 0, .int 0])), (q1, .inl (cI, 8, .inl (fun _ => 0))), (q2, .inl (cI, 8, .inl (fun _ => 0))), (q3, .inl (cI, 128, .inl (fun _ => 0))), (q4, .inl (cZ, 16, .inl (fun _ => 0)))] : va_W) := hD
  refine lv_iconst (v := 0) hx hb dX7_init_57 (by decide) ?_
  refine lv_istore_n (lv' := [(1, .int 0), (0, .ref h0)]) hx hb dX7_init_58 rfl hl (by decide) rfl (fun ls hl => ?_)
  obtain ⟨fa, efa⟩ : ∃ f : Nat → Nat, f = tm_al [h0, q1, q2, q3, q4] := ⟨_, rfl⟩
  have ea0 : fa 0 = h0 := by rw [efa]; rfl
  have ea1 : fa 1 = q1 := by rw [efa]; rfl
  have ea2 : fa 2 = q2 := by rw [efa]; rfl
  have ea3 : fa 3 = q3 := by rw [efa]; rfl
  have ea4 : fa 4 = q4 := by rw [efa]; rfl
  obtain ⟨fs, efs⟩ : ∃ f : tm_St, f = tm_l [fun _ => 0, fun _ => 0, fun _ => 0, fun _ => 0, fun _ => 0] := ⟨_, rfl⟩
  have es0 : fs 0 = fun _ => 0 := by rw [efs]; rfl
  have es1 : fs 1 = fun _ => 0 := by rw [efs]; rfl
  have es2 : fs 2 = fun _ => 0 := by rw [efs]; rfl
  have es3 : fs 3 = fun _ => 0 := by rw [efs]; rfl
  have es4 : fs 4 = fun _ => 0 := by rw [efs]; rfl
  refine W.widen (k := 4) (n := 160) (Nat.le_of_ble_eq_true rfl) (Nat.le_of_ble_eq_true rfl) ?_
  have hP : va_P (dC, dI) vwCl (tm_wWay cI cZ fa fs) H := by unfold tm_wWay; simp only [ea0, ea1, ea2, ea3, ea4, es0, es1, es2, es3, es4]; exact hP.sub [0, 1, 2, 3, 4] rfl
  have hD : va_D A (tm_wWay cI cZ fa fs) := by unfold tm_wWay; simp only [ea0, ea1, ea2, ea3, ea4, es0, es1, es2, es3, es4]; exact hD.sub [0, 1, 2, 3, 4] (by decide) rfl
  obtain ⟨nf, hw⟩ := hw
  rw [← efs] at hw
  exact b59 (fa) ea0 nf 0 (fs) _ _ _ hw hP hD hS (by rw [ea0]; exact lv_sub hl [1, 0] rfl)
def wp_X1_init (K : tm_St → Prop) : Prop := (wp_X7_init (fun uq1 => (wp_X7_init (fun uq2 => K (tm_l [tm_u (fun _ => 0) 2 2, uq1 0, uq1 1, uq1 2, uq1 3, uq1 4, uq2 0, uq2 1, uq2 2, uq2 3, uq2 4])))))
set_option maxRecDepth 100000 in
set_option maxHeartbeats 4000000 in
theorem kk_X1_init (l : Launch) (dC : Nat → ClassId) (dI : Nat → Nat → Nat) (cI cZ : ClassId) (h0 : Nat)  (sz : Nat) (K : tm_St → Prop) (hw : wp_X1_init K) : Met l yX1_init wsX1_init ({ frames := 2, cells := 10, slots := 336, locals := 33 }) (va_Pc [.ref h0] (tm_Pre dC dI cI cZ [(h0, .inr (1, [.null, .null, .int 0, .int 0]))] sz)) (va_Qv (fun (u : (Nat → Nat) × tm_St) => u.1 0 = h0 ∧ K u.2) (fun (u : (Nat → Nat) × tm_St) t => tm_At dC dI cI cZ (va_A [(h0, .inr (1, [.null, .null, .int 0, .int 0]))] sz) (tm_wLineC cI cZ u.1 u.2) t) (va_A [(h0, .inr (1, [.null, .null, .int 0, .int 0]))] sz)) 10 336 (va_A [(h0, .inr (1, [.null, .null, .int 0, .int 0]))] sz) := by
  refine Met.ofW (cc := cX1_init) (maxL := 1) (ret := none) (by decide +kernel) rfl ?_
  intro p e z m args below meth c z₁ B hml hv
  obtain ⟨rfl, hsz, hP, hK, hD0⟩ := hv
  have hx := B.exec
  have hb := B.bytes
  have hr := B.returns
  have hts := atoms_spec (ws := wsX1_init) B.pre
  have hown : z.vm.findClass RX1 = some m.cls := findClass_of_methodNamed B.named
  have hlocks := B.notSynchronized
  have hin : meth.name = "<init>" := (name_of_methodNamed B.named B.method).1
  subst hsz
  have hD := hD0.self (sz := z.heap.size)
  generalize hAe : va_A [(h0, .inr (1, [.null, .null, .int 0, .int 0]))] z.heap.size = A at hD ⊢
  have hA : ∀ q : Nat, z.heap.size ≤ q → A q := fun q h => by rw [← hAe]; exact Or.inr h
  have hS : va_S A z.heap z.heap [] := va_S.rf
  have hP : va_P (dC, dI) vwCl ([(h0, .inr (1, [.null, .null, .int 0, .int 0]))] : va_W) z.heap := hP
  have h_oi := hts (.methodLink RX1 3 objectInit) (by decide +kernel)
  have h_oi2 := hts (.instanceMethod objectInit) (by decide +kernel)
  have h_oi3 := hts (.code objectInit ⟨#[0xb1]⟩ 1 none) (by decide +kernel)
  have h_cl9 := hts (.classLink RX1 9 RX7) (by decide +kernel)
  have h_is7 := hts (.instantiable RX7 8) (by decide +kernel)
  have h_ini7 := hts (.initialized RX7) (by decide +kernel)
  have h_in7 : ∀ w ∈ u_ws RX7 TX7 8, w ∈ wsX1_init := by decide +kernel
  have h_im7 := hts (.instanceMethod yX7_init) (by decide +kernel)
  have h_ml11 := hts (.methodLink RX1 11 yX7_init) (by decide +kernel)
  have h_f12 := hts (.fieldLink RX1 12 "TwoModems$Line" "forth" "LTwoModems$Way;") (by decide +kernel)
  have h_in1 : ∀ w ∈ u_ws RX1 TX1 4, w ∈ wsX1_init := by decide +kernel
  have h_f18 := hts (.fieldLink RX1 18 "TwoModems$Line" "back" "LTwoModems$Way;") (by decide +kernel)
  have h_f21 := hts (.fieldLink RX1 21 "TwoModems$Line" "delay" "I") (by decide +kernel)
  have h_f25 := hts (.fieldLink RX1 25 "TwoModems$Line" "readings" "I") (by decide +kernel)
  have hl := lv_entry ([.ref h0]) (n := 1) (Nat.le_of_ble_eq_true rfl)
  rw [lg_entry_eq]
  generalize (lg_sl ([.ref h0]) ++ List.replicate (1 - (lg_sl ([.ref h0])).length) Slot.unset).toArray = ls at hl ⊢
  have hl : lv_has ls 1 [(0, .ref h0)] := hl
  unfold wp_X1_init at hw
  refine lv_aload_n hx hb dX1_init_0 rfl (lv_at hl 0 rfl) ?_
  refine W.objInit hx hb hown h_oi h_oi2 h_oi3 rfl (by rw [hml]; exact hl.1) rfl dX1_init_1 (Nat.le_of_ble_eq_true rfl) (Nat.le_of_ble_eq_true rfl) ?_
  refine W.eq (g2 := F0 m 4 ls []) rfl ?_
  refine lv_aload_n hx hb dX1_init_4 rfl (lv_at hl 0 rfl) ?_
  refine va_new (ci := 5) (fs := [.null, .null, .null, .null, .int 0, .int 0, .int 0, .int 0]) (C := RX7) (T := TX7) (N := 8) hx hb hts h_in7 tyX7 tyX7_ok hown h_cl9 h_is7 h_ini7 hK hP hD hS hA rfl (lt_s (i := 7) (lt_s (i := 6) (lt_s (i := 5) (lt_s (i := 4) (lt_s (i := 3) (lt_s (i := 2) (lt_s (i := 1) (lt_s (i := 0) lt_0 rfl) rfl) rfl) rfl) rfl) rfl) rfl) rfl) (Nat.le_of_ble_eq_true rfl) (Nat.le_of_ble_eq_true rfl) dX1_init_5 (fun q1 H hP hD hS => ?_)
  have hP : va_P (dC, dI) vwCl ([(h0, .inr (1, [.null, .null, .int 0, .int 0])), (q1, .inr (5, [.null, .null, .null, .null, .int 0, .int 0, .int 0, .int 0]))] : va_W) H := hP
  have hD : va_D A ([(h0, .inr (1, [.null, .null, .int 0, .int 0])), (q1, .inr (5, [.null, .null, .null, .null, .int 0, .int 0, .int 0, .int 0]))] : va_W) := hD
  refine lv_dup hx hb dX1_init_8 rfl ?_
  have hPc := hP.sub (ws' := ([(q1, .inr (5, [.null, .null, .null, .null, .int 0, .int 0, .int 0, .int 0]))] : va_W)) [1] rfl
  have hDc := hD.sub (ws' := ([(q1, .inr (5, [.null, .null, .null, .null, .int 0, .int 0, .int 0, .int 0]))] : va_W)) [1] (by decide) rfl
  have hFc := va_free (wc := ([(q1, .inr (5, [.null, .null, .null, .null, .int 0, .int 0, .int 0, .int 0]))] : va_W)) hD hS hA [1] rfl
  refine va_callv (va_runI (As := []) (rest := [.ref q1, .ref h0]) ⟨hx, hb, hml, hown, hts⟩ (kk_X7_init l dC dI cI cZ q1  H.size _ hw) (cwI 0 hts gX1_init_X7_init rfl rfl rfl h_ini7 h_ml11 h_im7 rfl (by decide +kernel) ⟨Nat.le_of_ble_eq_true rfl, Nat.le_of_ble_eq_true rfl⟩) ⟨tm_blind, fun U hU hW => ⟨rfl, ⟨by rw [hU], by rw [hU]; exact hPc, va_K.moved hW.alike hK, hDc.weaken (fun _ _ _ _ => trivial)⟩⟩⟩ rfl rfl hl.1 rfl (lv_room (Nat.le_of_ble_eq_true rfl)) dX1_init_9 ⟨Nat.le_of_ble_eq_true rfl, Nat.le_of_ble_eq_true rfl⟩) hS (fun q _ h => hFc q h) hFc (fun u t H1 locs ht hvm hw hB hz1 hk1 hS => ?_)
  obtain ⟨hP1, hK1, hD1⟩ := hB
  rw [ht] at hP1
  obtain ⟨aq1, uq1⟩ := u
  obtain ⟨ea, hw⟩ := hw
  dsimp only at ea hw
  subst ea
  obtain ⟨hP, hD⟩ := va_join (wr := ([(h0, .inr (1, [.null, .null, .int 0, .int 0]))] : va_W)) (w1 := (tm_wWay cI cZ aq1 uq1)) hP hD [1] [0] rfl rfl (by decide) (by decide) hk1 hFc hP1 hD1
  generalize H1 = H at hP hS ⊢
  have hP : va_P (dC, dI) vwCl ([(h0, .inr (1, [.null, .null, .int 0, .int 0]))] ++ (tm_wWay cI cZ aq1 uq1) : va_W) H := hP
  have hD : va_D A ([(h0, .inr (1, [.null, .null, .int 0, .int 0]))] ++ (tm_wWay cI cZ aq1 uq1) : va_W) := hD
  refine va_putF (D := (dC, dI)) (ci := 1) (v := .ref (aq1 0)) (ty := (.object "TwoModems$Way")) (C := RX1) (T := TX1) (N := 4) hx hb hts h_in1 tyX1 tyX1_ok nmX1 hown hK hP hD hS 0 rfl rfl 0 (by decide) h_f12 (fun _ h9 => h9) rfl hin rfl (by decide +kernel) rfl rfl (Nat.le_of_ble_eq_true rfl) dX1_init_12 (fun H locs hP hD hS => ?_)
  have hP : va_P (dC, dI) vwCl ([(h0, .inr (1, [.ref (aq1 0), .null, .int 0, .int 0]))] ++ (tm_wWay cI cZ aq1 uq1) : va_W) H := hP
  have hD : va_D A ([(h0, .inr (1, [.ref (aq1 0), .null, .int 0, .int 0]))] ++ (tm_wWay cI cZ aq1 uq1) : va_W) := hD
  refine lv_aload_n hx hb dX1_init_15 rfl (lv_at hl 0 rfl) ?_
  refine va_new (ci := 5) (fs := [.null, .null, .null, .null, .int 0, .int 0, .int 0, .int 0]) (C := RX7) (T := TX7) (N := 8) hx hb hts h_in7 tyX7 tyX7_ok hown h_cl9 h_is7 h_ini7 hK hP hD hS hA rfl (lt_s (i := 7) (lt_s (i := 6) (lt_s (i := 5) (lt_s (i := 4) (lt_s (i := 3) (lt_s (i := 2) (lt_s (i := 1) (lt_s (i := 0) lt_0 rfl) rfl) rfl) rfl) rfl) rfl) rfl) rfl) (Nat.le_of_ble_eq_true rfl) (Nat.le_of_ble_eq_true rfl) dX1_init_16 (fun q2 H hP hD hS => ?_)
  have hP : va_P (dC, dI) vwCl ([(h0, .inr (1, [.ref (aq1 0), .null, .int 0, .int 0]))] ++ (tm_wWay cI cZ aq1 uq1) ++ [(q2, .inr (5, [.null, .null, .null, .null, .int 0, .int 0, .int 0, .int 0]))] : va_W) H := hP
  have hD : va_D A ([(h0, .inr (1, [.ref (aq1 0), .null, .int 0, .int 0]))] ++ (tm_wWay cI cZ aq1 uq1) ++ [(q2, .inr (5, [.null, .null, .null, .null, .int 0, .int 0, .int 0, .int 0]))] : va_W) := hD
  refine lv_dup hx hb dX1_init_19 rfl ?_
  have hPc := hP.sub (ws' := ([(q2, .inr (5, [.null, .null, .null, .null, .int 0, .int 0, .int 0, .int 0]))] : va_W)) [6] rfl
  have hDc := hD.sub (ws' := ([(q2, .inr (5, [.null, .null, .null, .null, .int 0, .int 0, .int 0, .int 0]))] : va_W)) [6] (by decide) rfl
  have hFc := va_free (wc := ([(q2, .inr (5, [.null, .null, .null, .null, .int 0, .int 0, .int 0, .int 0]))] : va_W)) hD hS hA [6] rfl
  refine va_callv (va_runI (As := []) (rest := [.ref q2, .ref h0]) ⟨hx, hb, hml, hown, hts⟩ (kk_X7_init l dC dI cI cZ q2  H.size _ hw) (cwI 0 hts gX1_init_X7_init rfl rfl rfl h_ini7 h_ml11 h_im7 rfl (by decide +kernel) ⟨Nat.le_of_ble_eq_true rfl, Nat.le_of_ble_eq_true rfl⟩) ⟨tm_blind, fun U hU hW => ⟨rfl, ⟨by rw [hU], by rw [hU]; exact hPc, va_K.moved hW.alike hK, hDc.weaken (fun _ _ _ _ => trivial)⟩⟩⟩ rfl rfl hl.1 rfl (lv_room (Nat.le_of_ble_eq_true rfl)) dX1_init_20 ⟨Nat.le_of_ble_eq_true rfl, Nat.le_of_ble_eq_true rfl⟩) hS (fun q _ h => hFc q h) hFc (fun u t H1 locs ht hvm hw hB hz1 hk1 hS => ?_)
  obtain ⟨hP1, hK1, hD1⟩ := hB
  rw [ht] at hP1
  obtain ⟨aq2, uq2⟩ := u
  obtain ⟨ea, hw⟩ := hw
  dsimp only at ea hw
  subst ea
  obtain ⟨hP, hD⟩ := va_join (wr := ([(h0, .inr (1, [.ref (aq1 0), .null, .int 0, .int 0]))] ++ (tm_wWay cI cZ aq1 uq1) : va_W)) (w1 := (tm_wWay cI cZ aq2 uq2)) hP hD [6] [0, 1, 2, 3, 4, 5] rfl rfl (by decide) (by decide) hk1 hFc hP1 hD1
  generalize H1 = H at hP hS ⊢
  have hP : va_P (dC, dI) vwCl ([(h0, .inr (1, [.ref (aq1 0), .null, .int 0, .int 0]))] ++ (tm_wWay cI cZ aq1 uq1) ++ (tm_wWay cI cZ aq2 uq2) : va_W) H := hP
  have hD : va_D A ([(h0, .inr (1, [.ref (aq1 0), .null, .int 0, .int 0]))] ++ (tm_wWay cI cZ aq1 uq1) ++ (tm_wWay cI cZ aq2 uq2) : va_W) := hD
  refine va_putF (D := (dC, dI)) (ci := 1) (v := .ref (aq2 0)) (ty := (.object "TwoModems$Way")) (C := RX1) (T := TX1) (N := 4) hx hb hts h_in1 tyX1 tyX1_ok nmX1 hown hK hP hD hS 0 rfl rfl 1 (by decide) h_f18 (fun _ h9 => h9) rfl hin rfl (by decide +kernel) rfl rfl (Nat.le_of_ble_eq_true rfl) dX1_init_23 (fun H locs hP hD hS => ?_)
  have hP : va_P (dC, dI) vwCl ([(h0, .inr (1, [.ref (aq1 0), .ref (aq2 0), .int 0, .int 0]))] ++ (tm_wWay cI cZ aq1 uq1) ++ (tm_wWay cI cZ aq2 uq2) : va_W) H := hP
  have hD : va_D A ([(h0, .inr (1, [.ref (aq1 0), .ref (aq2 0), .int 0, .int 0]))] ++ (tm_wWay cI cZ aq1 uq1) ++ (tm_wWay cI cZ aq2 uq2) : va_W) := hD
  refine lv_aload_n hx hb dX1_init_26 rfl (lv_at hl 0 rfl) ?_
  refine lv_iconst (v := 2) hx hb dX1_init_27 (by decide) ?_
  refine va_put (D := (dC, dI)) (ci := 1) (v := .int 2) (ty := .int) (C := RX1) (T := TX1) (N := 4) hx hb hts h_in1 tyX1 tyX1_ok nmX1 hown hK hP hD hS 0 rfl rfl 2 (by decide) h_f21 (fun _ h9 => h9) rfl (by decide +kernel) rfl rfl (Nat.le_of_ble_eq_true rfl) dX1_init_28 (fun H locs hP hD hS => ?_)
  have hP : va_P (dC, dI) vwCl ([(h0, .inr (1, [.ref (aq1 0), .ref (aq2 0), .int 2, .int 0]))] ++ (tm_wWay cI cZ aq1 uq1) ++ (tm_wWay cI cZ aq2 uq2) : va_W) H := hP
  have hD : va_D A ([(h0, .inr (1, [.ref (aq1 0), .ref (aq2 0), .int 2, .int 0]))] ++ (tm_wWay cI cZ aq1 uq1) ++ (tm_wWay cI cZ aq2 uq2) : va_W) := hD
  refine lv_aload_n hx hb dX1_init_31 rfl (lv_at hl 0 rfl) ?_
  refine lv_iconst (v := 0) hx hb dX1_init_32 (by decide) ?_
  refine va_put (D := (dC, dI)) (ci := 1) (v := .int 0) (ty := .int) (C := RX1) (T := TX1) (N := 4) hx hb hts h_in1 tyX1 tyX1_ok nmX1 hown hK hP hD hS 0 rfl rfl 3 (by decide) h_f25 (fun _ h9 => h9) rfl (by decide +kernel) rfl rfl (Nat.le_of_ble_eq_true rfl) dX1_init_33 (fun H locs hP hD hS => ?_)
  have hP : va_P (dC, dI) vwCl ([(h0, .inr (1, [.ref (aq1 0), .ref (aq2 0), .int 2, .int 0]))] ++ (tm_wWay cI cZ aq1 uq1) ++ (tm_wWay cI cZ aq2 uq2) : va_W) H := hP
  have hD : va_D A ([(h0, .inr (1, [.ref (aq1 0), .ref (aq2 0), .int 2, .int 0]))] ++ (tm_wWay cI cZ aq1 uq1) ++ (tm_wWay cI cZ aq2 uq2) : va_W) := hD
  obtain ⟨fa, efa⟩ : ∃ f : Nat → Nat, f = tm_al [h0, aq1 0, aq1 1, aq1 2, aq1 3, aq1 4, aq2 0, aq2 1, aq2 2, aq2 3, aq2 4] := ⟨_, rfl⟩
  have ea0 : fa 0 = h0 := by rw [efa]; rfl
  have ea1 : fa 1 = aq1 0 := by rw [efa]; rfl
  have ea2 : fa 2 = aq1 1 := by rw [efa]; rfl
  have ea3 : fa 3 = aq1 2 := by rw [efa]; rfl
  have ea4 : fa 4 = aq1 3 := by rw [efa]; rfl
  have ea5 : fa 5 = aq1 4 := by rw [efa]; rfl
  have ea6 : fa 6 = aq2 0 := by rw [efa]; rfl
  have ea7 : fa 7 = aq2 1 := by rw [efa]; rfl
  have ea8 : fa 8 = aq2 2 := by rw [efa]; rfl
  have ea9 : fa 9 = aq2 3 := by rw [efa]; rfl
  have ea10 : fa 10 = aq2 4 := by rw [efa]; rfl
  obtain ⟨fs, efs⟩ : ∃ f : tm_St, f = tm_l [tm_u (fun _ => 0) 2 2, uq1 0, uq1 1, uq1 2, uq1 3, uq1 4, uq2 0, uq2 1, uq2 2, uq2 3, uq2 4] := ⟨_, rfl⟩
  have es0 : fs 0 = tm_u (fun _ => 0) 2 2 := by rw [efs]; rfl
  have es1 : fs 1 = uq1 0 := by rw [efs]; rfl
  have es2 : fs 2 = uq1 1 := by rw [efs]; rfl
  have es3 : fs 3 = uq1 2 := by rw [efs]; rfl
  have es4 : fs 4 = uq1 3 := by rw [efs]; rfl
  have es5 : fs 5 = uq1 4 := by rw [efs]; rfl
  have es6 : fs 6 = uq2 0 := by rw [efs]; rfl
  have es7 : fs 7 = uq2 1 := by rw [efs]; rfl
  have es8 : fs 8 = uq2 2 := by rw [efs]; rfl
  have es9 : fs 9 = uq2 3 := by rw [efs]; rfl
  have es10 : fs 10 = uq2 4 := by rw [efs]; rfl
  have hP9 : va_P (dC, dI) vwCl (tm_wLineC cI cZ fa fs) H := by unfold tm_wLineC; simp only [ea0, ea1, ea2, ea3, ea4, ea5, ea6, ea7, ea8, ea9, ea10, es0, es1, es2, es3, es4, es5, es6, es7, es8, es9, es10]; exact hP.sub [0, 1, 2, 3, 4, 5, 6, 7, 8, 9, 10] rfl
  have hD9 : va_D A (tm_wLineC cI cZ fa fs) := by unfold tm_wLineC; simp only [ea0, ea1, ea2, ea3, ea4, ea5, ea6, ea7, ea8, ea9, ea10, es0, es1, es2, es3, es4, es5, es6, es7, es8, es9, es10]; exact hD.sub [0, 1, 2, 3, 4, 5, 6, 7, 8, 9, 10] (by decide) rfl
  rw [← efs] at hw
  refine W.widen (k := 10) (n := 336) (Nat.le_of_ble_eq_true rfl) (Nat.le_of_ble_eq_true rfl) ?_
  exact W.vret hx hb hr (fun t ht hW => ⟨⟨(fa, fs), rfl, ⟨ea0, hw⟩, by rw [ht]; exact hP9, va_K.moved hW.alike hK, hD9⟩, hS.F ht⟩) hS.2.2 dX1_init_36
def wp_X4_init (K : tm_St → Prop) : Prop := K (tm_l [fun _ => 0, fun _ => 0])
set_option maxRecDepth 100000 in
set_option maxHeartbeats 4000000 in
theorem kk_X4_init (l : Launch) (dC : Nat → ClassId) (dI : Nat → Nat → Nat) (cI cZ : ClassId) (h0 : Nat)  (sz : Nat) (K : tm_St → Prop) (hw : wp_X4_init K) : Met l yX4_init wsX4_init ({ frames := 1, cells := 1, slots := 30, locals := 12 }) (va_Pc [.ref h0] (tm_Pre dC dI cI cZ [(h0, .inr (4, [.null, .int 0]))] sz)) (va_Qv (fun (u : (Nat → Nat) × tm_St) => u.1 0 = h0 ∧ K u.2) (fun (u : (Nat → Nat) × tm_St) t => tm_At dC dI cI cZ (va_A [(h0, .inr (4, [.null, .int 0]))] sz) (tm_wPage cI cZ u.1 u.2) t) (va_A [(h0, .inr (4, [.null, .int 0]))] sz)) 1 30 (va_A [(h0, .inr (4, [.null, .int 0]))] sz) := by
  refine Met.ofW (cc := cX4_init) (maxL := 1) (ret := none) (by decide +kernel) rfl ?_
  intro p e z m args below meth c z₁ B hml hv
  obtain ⟨rfl, hsz, hP, hK, hD0⟩ := hv
  have hx := B.exec
  have hb := B.bytes
  have hr := B.returns
  have hts := atoms_spec (ws := wsX4_init) B.pre
  have hown : z.vm.findClass RX4 = some m.cls := findClass_of_methodNamed B.named
  have hlocks := B.notSynchronized
  have hin : meth.name = "<init>" := (name_of_methodNamed B.named B.method).1
  subst hsz
  have hD := hD0.self (sz := z.heap.size)
  generalize hAe : va_A [(h0, .inr (4, [.null, .int 0]))] z.heap.size = A at hD ⊢
  have hA : ∀ q : Nat, z.heap.size ≤ q → A q := fun q h => by rw [← hAe]; exact Or.inr h
  have hS : va_S A z.heap z.heap [] := va_S.rf
  have hP : va_P (dC, dI) vwCl ([(h0, .inr (4, [.null, .int 0]))] : va_W) z.heap := hP
  have h_oi := hts (.methodLink RX4 3 objectInit) (by decide +kernel)
  have h_oi2 := hts (.instanceMethod objectInit) (by decide +kernel)
  have h_oi3 := hts (.code objectInit ⟨#[0xb1]⟩ 1 none) (by decide +kernel)
  have h_acI := hts (.arrayClass .int) (by decide +kernel)
  have h_f11 := hts (.fieldLink RX4 11 "TwoModems$Page" "codes" "[I") (by decide +kernel)
  have h_in4 : ∀ w ∈ u_ws RX4 TX4 2, w ∈ wsX4_init := by decide +kernel
  have h_f15 := hts (.fieldLink RX4 15 "TwoModems$Page" "size" "I") (by decide +kernel)
  have hl := lv_entry ([.ref h0]) (n := 1) (Nat.le_of_ble_eq_true rfl)
  rw [lg_entry_eq]
  generalize (lg_sl ([.ref h0]) ++ List.replicate (1 - (lg_sl ([.ref h0])).length) Slot.unset).toArray = ls at hl ⊢
  have hl : lv_has ls 1 [(0, .ref h0)] := hl
  unfold wp_X4_init at hw
  refine lv_aload_n hx hb dX4_init_0 rfl (lv_at hl 0 rfl) ?_
  refine W.objInit hx hb hown h_oi h_oi2 h_oi3 rfl (by rw [hml]; exact hl.1) rfl dX4_init_1 (Nat.le_of_ble_eq_true rfl) (Nat.le_of_ble_eq_true rfl) ?_
  refine W.eq (g2 := F0 m 4 ls []) rfl ?_
  refine lv_aload_n hx hb dX4_init_4 rfl (lv_at hl 0 rfl) ?_
  refine lv_bipush (v := 30) hx hb dX4_init_5 (by decide) ?_
  refine va_newa (atype := .int) (ty := .int) (a0 := (30, .inl (fun _ => 0))) (N' := 30) hx hb h_acI rfl hK hP hD hS hA (fun _ => rfl) (by decide) (by decide) (Nat.le_of_ble_eq_true rfl) (Nat.le_of_ble_eq_true rfl) (Nat.le_of_ble_eq_true rfl) dX4_init_7 (fun q1 cA H hK hP hD hS => ?_)
  obtain ⟨ecA, hK2⟩ := tm_cI hK
  clear hK
  have hK := hK2
  clear hK2
  subst ecA
  have hP : va_P (dC, dI) vwCl ([(h0, .inr (4, [.null, .int 0])), (q1, .inl (cI, 30, .inl (fun _ => 0)))] : va_W) H := hP
  have hD : va_D A ([(h0, .inr (4, [.null, .int 0])), (q1, .inl (cI, 30, .inl (fun _ => 0)))] : va_W) := hD
  refine va_putF (D := (dC, dI)) (ci := 4) (v := .ref q1) (ty := (.array .int)) (C := RX4) (T := TX4) (N := 2) hx hb hts h_in4 tyX4 tyX4_ok nmX4 hown hK hP hD hS 0 rfl rfl 0 (by decide) h_f11 (fun _ h9 => h9) rfl hin rfl (by decide +kernel) rfl rfl (Nat.le_of_ble_eq_true rfl) dX4_init_9 (fun H locs hP hD hS => ?_)
  have hP : va_P (dC, dI) vwCl ([(h0, .inr (4, [.ref q1, .int 0])), (q1, .inl (cI, 30, .inl (fun _ => 0)))] : va_W) H := hP
  have hD : va_D A ([(h0, .inr (4, [.ref q1, .int 0])), (q1, .inl (cI, 30, .inl (fun _ => 0)))] : va_W) := hD
  refine lv_aload_n hx hb dX4_init_12 rfl (lv_at hl 0 rfl) ?_
  refine lv_iconst (v := 0) hx hb dX4_init_13 (by decide) ?_
  refine va_put (D := (dC, dI)) (ci := 4) (v := .int 0) (ty := .int) (C := RX4) (T := TX4) (N := 2) hx hb hts h_in4 tyX4 tyX4_ok nmX4 hown hK hP hD hS 0 rfl rfl 1 (by decide) h_f15 (fun _ h9 => h9) rfl (by decide +kernel) rfl rfl (Nat.le_of_ble_eq_true rfl) dX4_init_14 (fun H locs hP hD hS => ?_)
  have hP : va_P (dC, dI) vwCl ([(h0, .inr (4, [.ref q1, .int 0])), (q1, .inl (cI, 30, .inl (fun _ => 0)))] : va_W) H := hP
  have hD : va_D A ([(h0, .inr (4, [.ref q1, .int 0])), (q1, .inl (cI, 30, .inl (fun _ => 0)))] : va_W) := hD
  obtain ⟨fa, efa⟩ : ∃ f : Nat → Nat, f = tm_al [h0, q1] := ⟨_, rfl⟩
  have ea0 : fa 0 = h0 := by rw [efa]; rfl
  have ea1 : fa 1 = q1 := by rw [efa]; rfl
  obtain ⟨fs, efs⟩ : ∃ f : tm_St, f = tm_l [fun _ => 0, fun _ => 0] := ⟨_, rfl⟩
  have es0 : fs 0 = fun _ => 0 := by rw [efs]; rfl
  have es1 : fs 1 = fun _ => 0 := by rw [efs]; rfl
  have hP9 : va_P (dC, dI) vwCl (tm_wPage cI cZ fa fs) H := by unfold tm_wPage; simp only [ea0, ea1, es0, es1]; exact hP.sub [0, 1] rfl
  have hD9 : va_D A (tm_wPage cI cZ fa fs) := by unfold tm_wPage; simp only [ea0, ea1, es0, es1]; exact hD.sub [0, 1] (by decide) rfl
  rw [← efs] at hw
  refine W.widen (k := 1) (n := 30) (Nat.le_of_ble_eq_true rfl) (Nat.le_of_ble_eq_true rfl) ?_
  exact W.vret hx hb hr (fun t ht hW => ⟨⟨(fa, fs), rfl, ⟨ea0, hw⟩, by rw [ht]; exact hP9, va_K.moved hW.alike hK, hD9⟩, hS.F ht⟩) hS.2.2 dX4_init_17
def wp_X0_init (K : tm_St → Prop) : Prop := K (tm_l [fun _ => 0, fun _ => 0, fun _ => 0])
set_option maxRecDepth 100000 in
set_option maxHeartbeats 4000000 in
theorem kk_X0_init (l : Launch) (dC : Nat → ClassId) (dI : Nat → Nat → Nat) (cI cZ : ClassId) (h0 : Nat)  (sz : Nat) (K : tm_St → Prop) (hw : wp_X0_init K) : Met l yX0_init wsX0_init ({ frames := 1, cells := 2, slots := 8, locals := 12 }) (va_Pc [.ref h0] (tm_Pre dC dI cI cZ [(h0, .inr (0, [.null, .null]))] sz)) (va_Qv (fun (u : (Nat → Nat) × tm_St) => u.1 0 = h0 ∧ K u.2) (fun (u : (Nat → Nat) × tm_St) t => tm_At dC dI cI cZ (va_A [(h0, .inr (0, [.null, .null]))] sz) (tm_wEcho cI cZ u.1 u.2) t) (va_A [(h0, .inr (0, [.null, .null]))] sz)) 2 8 (va_A [(h0, .inr (0, [.null, .null]))] sz) := by
  refine Met.ofW (cc := cX0_init) (maxL := 1) (ret := none) (by decide +kernel) rfl ?_
  intro p e z m args below meth c z₁ B hml hv
  obtain ⟨rfl, hsz, hP, hK, hD0⟩ := hv
  have hx := B.exec
  have hb := B.bytes
  have hr := B.returns
  have hts := atoms_spec (ws := wsX0_init) B.pre
  have hown : z.vm.findClass RX0 = some m.cls := findClass_of_methodNamed B.named
  have hlocks := B.notSynchronized
  have hin : meth.name = "<init>" := (name_of_methodNamed B.named B.method).1
  subst hsz
  have hD := hD0.self (sz := z.heap.size)
  generalize hAe : va_A [(h0, .inr (0, [.null, .null]))] z.heap.size = A at hD ⊢
  have hA : ∀ q : Nat, z.heap.size ≤ q → A q := fun q h => by rw [← hAe]; exact Or.inr h
  have hS : va_S A z.heap z.heap [] := va_S.rf
  have hP : va_P (dC, dI) vwCl ([(h0, .inr (0, [.null, .null]))] : va_W) z.heap := hP
  have h_oi := hts (.methodLink RX0 3 objectInit) (by decide +kernel)
  have h_oi2 := hts (.instanceMethod objectInit) (by decide +kernel)
  have h_oi3 := hts (.code objectInit ⟨#[0xb1]⟩ 1 none) (by decide +kernel)
  have h_acI := hts (.arrayClass .int) (by decide +kernel)
  have h_f9 := hts (.fieldLink RX0 9 "TwoModems$Echo" "taps" "[I") (by decide +kernel)
  have h_in0 : ∀ w ∈ u_ws RX0 TX0 2, w ∈ wsX0_init := by decide +kernel
  have h_f15 := hts (.fieldLink RX0 15 "TwoModems$Echo" "learnt" "[I") (by decide +kernel)
  have hl := lv_entry ([.ref h0]) (n := 1) (Nat.le_of_ble_eq_true rfl)
  rw [lg_entry_eq]
  generalize (lg_sl ([.ref h0]) ++ List.replicate (1 - (lg_sl ([.ref h0])).length) Slot.unset).toArray = ls at hl ⊢
  have hl : lv_has ls 1 [(0, .ref h0)] := hl
  unfold wp_X0_init at hw
  refine lv_aload_n hx hb dX0_init_0 rfl (lv_at hl 0 rfl) ?_
  refine W.objInit hx hb hown h_oi h_oi2 h_oi3 rfl (by rw [hml]; exact hl.1) rfl dX0_init_1 (Nat.le_of_ble_eq_true rfl) (Nat.le_of_ble_eq_true rfl) ?_
  refine W.eq (g2 := F0 m 4 ls []) rfl ?_
  refine lv_aload_n hx hb dX0_init_4 rfl (lv_at hl 0 rfl) ?_
  refine lv_iconst (v := 4) hx hb dX0_init_5 (by decide) ?_
  refine va_newa (atype := .int) (ty := .int) (a0 := (4, .inl (fun _ => 0))) (N' := 4) hx hb h_acI rfl hK hP hD hS hA (fun _ => rfl) (by decide) (by decide) (Nat.le_of_ble_eq_true rfl) (Nat.le_of_ble_eq_true rfl) (Nat.le_of_ble_eq_true rfl) dX0_init_6 (fun q1 cA H hK hP hD hS => ?_)
  obtain ⟨ecA, hK2⟩ := tm_cI hK
  clear hK
  have hK := hK2
  clear hK2
  subst ecA
  have hP : va_P (dC, dI) vwCl ([(h0, .inr (0, [.null, .null])), (q1, .inl (cI, 4, .inl (fun _ => 0)))] : va_W) H := hP
  have hD : va_D A ([(h0, .inr (0, [.null, .null])), (q1, .inl (cI, 4, .inl (fun _ => 0)))] : va_W) := hD
  refine va_putF (D := (dC, dI)) (ci := 0) (v := .ref q1) (ty := (.array .int)) (C := RX0) (T := TX0) (N := 2) hx hb hts h_in0 tyX0 tyX0_ok nmX0 hown hK hP hD hS 0 rfl rfl 0 (by decide) h_f9 (fun _ h9 => h9) rfl hin rfl (by decide +kernel) rfl rfl (Nat.le_of_ble_eq_true rfl) dX0_init_8 (fun H locs hP hD hS => ?_)
  have hP : va_P (dC, dI) vwCl ([(h0, .inr (0, [.ref q1, .null])), (q1, .inl (cI, 4, .inl (fun _ => 0)))] : va_W) H := hP
  have hD : va_D A ([(h0, .inr (0, [.ref q1, .null])), (q1, .inl (cI, 4, .inl (fun _ => 0)))] : va_W) := hD
  refine lv_aload_n hx hb dX0_init_11 rfl (lv_at hl 0 rfl) ?_
  refine lv_iconst (v := 4) hx hb dX0_init_12 (by decide) ?_
  refine va_newa (atype := .int) (ty := .int) (a0 := (4, .inl (fun _ => 0))) (N' := 4) hx hb h_acI rfl hK hP hD hS hA (fun _ => rfl) (by decide) (by decide) (Nat.le_of_ble_eq_true rfl) (Nat.le_of_ble_eq_true rfl) (Nat.le_of_ble_eq_true rfl) dX0_init_13 (fun q2 cA H hK hP hD hS => ?_)
  obtain ⟨ecA, hK2⟩ := tm_cI hK
  clear hK
  have hK := hK2
  clear hK2
  subst ecA
  have hP : va_P (dC, dI) vwCl ([(h0, .inr (0, [.ref q1, .null])), (q1, .inl (cI, 4, .inl (fun _ => 0))), (q2, .inl (cI, 4, .inl (fun _ => 0)))] : va_W) H := hP
  have hD : va_D A ([(h0, .inr (0, [.ref q1, .null])), (q1, .inl (cI, 4, .inl (fun _ => 0))), (q2, .inl (cI, 4, .inl (fun _ => 0)))] : va_W) := hD
  refine va_putF (D := (dC, dI)) (ci := 0) (v := .ref q2) (ty := (.array .int)) (C := RX0) (T := TX0) (N := 2) hx hb hts h_in0 tyX0 tyX0_ok nmX0 hown hK hP hD hS 0 rfl rfl 1 (by decide) h_f15 (fun _ h9 => h9) rfl hin rfl (by decide +kernel) rfl rfl (Nat.le_of_ble_eq_true rfl) dX0_init_15 (fun H locs hP hD hS => ?_)
  have hP : va_P (dC, dI) vwCl ([(h0, .inr (0, [.ref q1, .ref q2])), (q1, .inl (cI, 4, .inl (fun _ => 0))), (q2, .inl (cI, 4, .inl (fun _ => 0)))] : va_W) H := hP
  have hD : va_D A ([(h0, .inr (0, [.ref q1, .ref q2])), (q1, .inl (cI, 4, .inl (fun _ => 0))), (q2, .inl (cI, 4, .inl (fun _ => 0)))] : va_W) := hD
  obtain ⟨fa, efa⟩ : ∃ f : Nat → Nat, f = tm_al [h0, q1, q2] := ⟨_, rfl⟩
  have ea0 : fa 0 = h0 := by rw [efa]; rfl
  have ea1 : fa 1 = q1 := by rw [efa]; rfl
  have ea2 : fa 2 = q2 := by rw [efa]; rfl
  obtain ⟨fs, efs⟩ : ∃ f : tm_St, f = tm_l [fun _ => 0, fun _ => 0, fun _ => 0] := ⟨_, rfl⟩
  have es0 : fs 0 = fun _ => 0 := by rw [efs]; rfl
  have es1 : fs 1 = fun _ => 0 := by rw [efs]; rfl
  have es2 : fs 2 = fun _ => 0 := by rw [efs]; rfl
  have hP9 : va_P (dC, dI) vwCl (tm_wEcho cI cZ fa fs) H := by unfold tm_wEcho; simp only [ea0, ea1, ea2, es0, es1, es2]; exact hP.sub [0, 1, 2] rfl
  have hD9 : va_D A (tm_wEcho cI cZ fa fs) := by unfold tm_wEcho; simp only [ea0, ea1, ea2, es0, es1, es2]; exact hD.sub [0, 1, 2] (by decide) rfl
  rw [← efs] at hw
  refine W.widen (k := 2) (n := 8) (Nat.le_of_ble_eq_true rfl) (Nat.le_of_ble_eq_true rfl) ?_
  exact W.vret hx hb hr (fun t ht hW => ⟨⟨(fa, fs), rfl, ⟨ea0, hw⟩, by rw [ht]; exact hP9, va_K.moved hW.alike hK, hD9⟩, hS.F ht⟩) hS.2.2 dX0_init_18
def wp_X2_init (K : tm_St → Prop) : Prop := K (tm_l [fun _ => 0, fun _ => 0, fun _ => 0])
set_option maxRecDepth 100000 in
set_option maxHeartbeats 4000000 in
theorem kk_X2_init (l : Launch) (dC : Nat → ClassId) (dI : Nat → Nat → Nat) (cI cZ : ClassId) (h0 : Nat)  (sz : Nat) (K : tm_St → Prop) (hw : wp_X2_init K) : Met l yX2_init wsX2_init ({ frames := 1, cells := 2, slots := 400, locals := 12 }) (va_Pc [.ref h0] (tm_Pre dC dI cI cZ [(h0, .inr (2, [.null, .null, .int 0, .int 0, .int 0, .int 0, .int 0, .int 0]))] sz)) (va_Qv (fun (u : (Nat → Nat) × tm_St) => u.1 0 = h0 ∧ K u.2) (fun (u : (Nat → Nat) × tm_St) t => tm_At dC dI cI cZ (va_A [(h0, .inr (2, [.null, .null, .int 0, .int 0, .int 0, .int 0, .int 0, .int 0]))] sz) (tm_wMail cI cZ u.1 u.2) t) (va_A [(h0, .inr (2, [.null, .null, .int 0, .int 0, .int 0, .int 0, .int 0, .int 0]))] sz)) 2 400 (va_A [(h0, .inr (2, [.null, .null, .int 0, .int 0, .int 0, .int 0, .int 0, .int 0]))] sz) := by
  refine Met.ofW (cc := cX2_init) (maxL := 1) (ret := none) (by decide +kernel) rfl ?_
  intro p e z m args below meth c z₁ B hml hv
  obtain ⟨rfl, hsz, hP, hK, hD0⟩ := hv
  have hx := B.exec
  have hb := B.bytes
  have hr := B.returns
  have hts := atoms_spec (ws := wsX2_init) B.pre
  have hown : z.vm.findClass RX2 = some m.cls := findClass_of_methodNamed B.named
  have hlocks := B.notSynchronized
  have hin : meth.name = "<init>" := (name_of_methodNamed B.named B.method).1
  subst hsz
  have hD := hD0.self (sz := z.heap.size)
  generalize hAe : va_A [(h0, .inr (2, [.null, .null, .int 0, .int 0, .int 0, .int 0, .int 0, .int 0]))] z.heap.size = A at hD ⊢
  have hA : ∀ q : Nat, z.heap.size ≤ q → A q := fun q h => by rw [← hAe]; exact Or.inr h
  have hS : va_S A z.heap z.heap [] := va_S.rf
  have hP : va_P (dC, dI) vwCl ([(h0, .inr (2, [.null, .null, .int 0, .int 0, .int 0, .int 0, .int 0, .int 0]))] : va_W) z.heap := hP
  have h_oi := hts (.methodLink RX2 1 objectInit) (by decide +kernel)
  have h_oi2 := hts (.instanceMethod objectInit) (by decide +kernel)
  have h_oi3 := hts (.code objectInit ⟨#[0xb1]⟩ 1 none) (by decide +kernel)
  have h_acI := hts (.arrayClass .int) (by decide +kernel)
  have h_f9 := hts (.fieldLink RX2 9 "TwoModems$Mail" "toSend" "[I") (by decide +kernel)
  have h_in2 : ∀ w ∈ u_ws RX2 TX2 8, w ∈ wsX2_init := by decide +kernel
  have h_f13 := hts (.fieldLink RX2 13 "TwoModems$Mail" "takenCodes" "[I") (by decide +kernel)
  have h_f16 := hts (.fieldLink RX2 16 "TwoModems$Mail" "said" "I") (by decide +kernel)
  have h_f20 := hts (.fieldLink RX2 20 "TwoModems$Mail" "taken" "I") (by decide +kernel)
  have h_f23 := hts (.fieldLink RX2 23 "TwoModems$Mail" "told" "I") (by decide +kernel)
  have h_f26 := hts (.fieldLink RX2 26 "TwoModems$Mail" "next" "I") (by decide +kernel)
  have h_f29 := hts (.fieldLink RX2 29 "TwoModems$Mail" "repeated" "I") (by decide +kernel)
  have h_f32 := hts (.fieldLink RX2 32 "TwoModems$Mail" "sentBelow" "I") (by decide +kernel)
  have hl := lv_entry ([.ref h0]) (n := 1) (Nat.le_of_ble_eq_true rfl)
  rw [lg_entry_eq]
  generalize (lg_sl ([.ref h0]) ++ List.replicate (1 - (lg_sl ([.ref h0])).length) Slot.unset).toArray = ls at hl ⊢
  have hl : lv_has ls 1 [(0, .ref h0)] := hl
  unfold wp_X2_init at hw
  refine lv_aload_n hx hb dX2_init_0 rfl (lv_at hl 0 rfl) ?_
  refine W.objInit hx hb hown h_oi h_oi2 h_oi3 rfl (by rw [hml]; exact hl.1) rfl dX2_init_1 (Nat.le_of_ble_eq_true rfl) (Nat.le_of_ble_eq_true rfl) ?_
  refine W.eq (g2 := F0 m 4 ls []) rfl ?_
  refine lv_aload_n hx hb dX2_init_4 rfl (lv_at hl 0 rfl) ?_
  refine lv_sipush (v := 200) hx hb dX2_init_5 (by decide) ?_
  refine va_newa (atype := .int) (ty := .int) (a0 := (200, .inl (fun _ => 0))) (N' := 200) hx hb h_acI rfl hK hP hD hS hA (fun _ => rfl) (by decide) (by decide) (Nat.le_of_ble_eq_true rfl) (Nat.le_of_ble_eq_true rfl) (Nat.le_of_ble_eq_true rfl) dX2_init_8 (fun q1 cA H hK hP hD hS => ?_)
  obtain ⟨ecA, hK2⟩ := tm_cI hK
  clear hK
  have hK := hK2
  clear hK2
  subst ecA
  have hP : va_P (dC, dI) vwCl ([(h0, .inr (2, [.null, .null, .int 0, .int 0, .int 0, .int 0, .int 0, .int 0])), (q1, .inl (cI, 200, .inl (fun _ => 0)))] : va_W) H := hP
  have hD : va_D A ([(h0, .inr (2, [.null, .null, .int 0, .int 0, .int 0, .int 0, .int 0, .int 0])), (q1, .inl (cI, 200, .inl (fun _ => 0)))] : va_W) := hD
  refine va_putF (D := (dC, dI)) (ci := 2) (v := .ref q1) (ty := (.array .int)) (C := RX2) (T := TX2) (N := 8) hx hb hts h_in2 tyX2 tyX2_ok nmX2 hown hK hP hD hS 0 rfl rfl 0 (by decide) h_f9 (fun _ h9 => h9) rfl hin rfl (by decide +kernel) rfl rfl (Nat.le_of_ble_eq_true rfl) dX2_init_10 (fun H locs hP hD hS => ?_)
  have hP : va_P (dC, dI) vwCl ([(h0, .inr (2, [.ref q1, .null, .int 0, .int 0, .int 0, .int 0, .int 0, .int 0])), (q1, .inl (cI, 200, .inl (fun _ => 0)))] : va_W) H := hP
  have hD : va_D A ([(h0, .inr (2, [.ref q1, .null, .int 0, .int 0, .int 0, .int 0, .int 0, .int 0])), (q1, .inl (cI, 200, .inl (fun _ => 0)))] : va_W) := hD
  refine lv_aload_n hx hb dX2_init_13 rfl (lv_at hl 0 rfl) ?_
  refine lv_sipush (v := 200) hx hb dX2_init_14 (by decide) ?_
  refine va_newa (atype := .int) (ty := .int) (a0 := (200, .inl (fun _ => 0))) (N' := 200) hx hb h_acI rfl hK hP hD hS hA (fun _ => rfl) (by decide) (by decide) (Nat.le_of_ble_eq_true rfl) (Nat.le_of_ble_eq_true rfl) (Nat.le_of_ble_eq_true rfl) dX2_init_17 (fun q2 cA H hK hP hD hS => ?_)
  obtain ⟨ecA, hK2⟩ := tm_cI hK
  clear hK
  have hK := hK2
  clear hK2
  subst ecA
  have hP : va_P (dC, dI) vwCl ([(h0, .inr (2, [.ref q1, .null, .int 0, .int 0, .int 0, .int 0, .int 0, .int 0])), (q1, .inl (cI, 200, .inl (fun _ => 0))), (q2, .inl (cI, 200, .inl (fun _ => 0)))] : va_W) H := hP
  have hD : va_D A ([(h0, .inr (2, [.ref q1, .null, .int 0, .int 0, .int 0, .int 0, .int 0, .int 0])), (q1, .inl (cI, 200, .inl (fun _ => 0))), (q2, .inl (cI, 200, .inl (fun _ => 0)))] : va_W) := hD
  refine va_putF (D := (dC, dI)) (ci := 2) (v := .ref q2) (ty := (.array .int)) (C := RX2) (T := TX2) (N := 8) hx hb hts h_in2 tyX2 tyX2_ok nmX2 hown hK hP hD hS 0 rfl rfl 1 (by decide) h_f13 (fun _ h9 => h9) rfl hin rfl (by decide +kernel) rfl rfl (Nat.le_of_ble_eq_true rfl) dX2_init_19 (fun H locs hP hD hS => ?_)
  have hP : va_P (dC, dI) vwCl ([(h0, .inr (2, [.ref q1, .ref q2, .int 0, .int 0, .int 0, .int 0, .int 0, .int 0])), (q1, .inl (cI, 200, .inl (fun _ => 0))), (q2, .inl (cI, 200, .inl (fun _ => 0)))] : va_W) H := hP
  have hD : va_D A ([(h0, .inr (2, [.ref q1, .ref q2, .int 0, .int 0, .int 0, .int 0, .int 0, .int 0])), (q1, .inl (cI, 200, .inl (fun _ => 0))), (q2, .inl (cI, 200, .inl (fun _ => 0)))] : va_W) := hD
  refine lv_aload_n hx hb dX2_init_22 rfl (lv_at hl 0 rfl) ?_
  refine lv_iconst (v := 0) hx hb dX2_init_23 (by decide) ?_
  refine va_put (D := (dC, dI)) (ci := 2) (v := .int 0) (ty := .int) (C := RX2) (T := TX2) (N := 8) hx hb hts h_in2 tyX2 tyX2_ok nmX2 hown hK hP hD hS 0 rfl rfl 2 (by decide) h_f16 (fun _ h9 => h9) rfl (by decide +kernel) rfl rfl (Nat.le_of_ble_eq_true rfl) dX2_init_24 (fun H locs hP hD hS => ?_)
  have hP : va_P (dC, dI) vwCl ([(h0, .inr (2, [.ref q1, .ref q2, .int 0, .int 0, .int 0, .int 0, .int 0, .int 0])), (q1, .inl (cI, 200, .inl (fun _ => 0))), (q2, .inl (cI, 200, .inl (fun _ => 0)))] : va_W) H := hP
  have hD : va_D A ([(h0, .inr (2, [.ref q1, .ref q2, .int 0, .int 0, .int 0, .int 0, .int 0, .int 0])), (q1, .inl (cI, 200, .inl (fun _ => 0))), (q2, .inl (cI, 200, .inl (fun _ => 0)))] : va_W) := hD
  refine lv_aload_n hx hb dX2_init_27 rfl (lv_at hl 0 rfl) ?_
  refine lv_iconst (v := 0) hx hb dX2_init_28 (by decide) ?_
  refine va_put (D := (dC, dI)) (ci := 2) (v := .int 0) (ty := .int) (C := RX2) (T := TX2) (N := 8) hx hb hts h_in2 tyX2 tyX2_ok nmX2 hown hK hP hD hS 0 rfl rfl 3 (by decide) h_f20 (fun _ h9 => h9) rfl (by decide +kernel) rfl rfl (Nat.le_of_ble_eq_true rfl) dX2_init_29 (fun H locs hP hD hS => ?_)
  have hP : va_P (dC, dI) vwCl ([(h0, .inr (2, [.ref q1, .ref q2, .int 0, .int 0, .int 0, .int 0, .int 0, .int 0])), (q1, .inl (cI, 200, .inl (fun _ => 0))), (q2, .inl (cI, 200, .inl (fun _ => 0)))] : va_W) H := hP
  have hD : va_D A ([(h0, .inr (2, [.ref q1, .ref q2, .int 0, .int 0, .int 0, .int 0, .int 0, .int 0])), (q1, .inl (cI, 200, .inl (fun _ => 0))), (q2, .inl (cI, 200, .inl (fun _ => 0)))] : va_W) := hD
  refine lv_aload_n hx hb dX2_init_32 rfl (lv_at hl 0 rfl) ?_
  refine lv_iconst (v := 0) hx hb dX2_init_33 (by decide) ?_
  refine va_put (D := (dC, dI)) (ci := 2) (v := .int 0) (ty := .int) (C := RX2) (T := TX2) (N := 8) hx hb hts h_in2 tyX2 tyX2_ok nmX2 hown hK hP hD hS 0 rfl rfl 4 (by decide) h_f23 (fun _ h9 => h9) rfl (by decide +kernel) rfl rfl (Nat.le_of_ble_eq_true rfl) dX2_init_34 (fun H locs hP hD hS => ?_)
  have hP : va_P (dC, dI) vwCl ([(h0, .inr (2, [.ref q1, .ref q2, .int 0, .int 0, .int 0, .int 0, .int 0, .int 0])), (q1, .inl (cI, 200, .inl (fun _ => 0))), (q2, .inl (cI, 200, .inl (fun _ => 0)))] : va_W) H := hP
  have hD : va_D A ([(h0, .inr (2, [.ref q1, .ref q2, .int 0, .int 0, .int 0, .int 0, .int 0, .int 0])), (q1, .inl (cI, 200, .inl (fun _ => 0))), (q2, .inl (cI, 200, .inl (fun _ => 0)))] : va_W) := hD
  refine lv_aload_n hx hb dX2_init_37 rfl (lv_at hl 0 rfl) ?_
  refine lv_iconst (v := 0) hx hb dX2_init_38 (by decide) ?_
  refine va_put (D := (dC, dI)) (ci := 2) (v := .int 0) (ty := .int) (C := RX2) (T := TX2) (N := 8) hx hb hts h_in2 tyX2 tyX2_ok nmX2 hown hK hP hD hS 0 rfl rfl 5 (by decide) h_f26 (fun _ h9 => h9) rfl (by decide +kernel) rfl rfl (Nat.le_of_ble_eq_true rfl) dX2_init_39 (fun H locs hP hD hS => ?_)
  have hP : va_P (dC, dI) vwCl ([(h0, .inr (2, [.ref q1, .ref q2, .int 0, .int 0, .int 0, .int 0, .int 0, .int 0])), (q1, .inl (cI, 200, .inl (fun _ => 0))), (q2, .inl (cI, 200, .inl (fun _ => 0)))] : va_W) H := hP
  have hD : va_D A ([(h0, .inr (2, [.ref q1, .ref q2, .int 0, .int 0, .int 0, .int 0, .int 0, .int 0])), (q1, .inl (cI, 200, .inl (fun _ => 0))), (q2, .inl (cI, 200, .inl (fun _ => 0)))] : va_W) := hD
  refine lv_aload_n hx hb dX2_init_42 rfl (lv_at hl 0 rfl) ?_
  refine lv_iconst (v := 0) hx hb dX2_init_43 (by decide) ?_
  refine va_put (D := (dC, dI)) (ci := 2) (v := .int 0) (ty := .int) (C := RX2) (T := TX2) (N := 8) hx hb hts h_in2 tyX2 tyX2_ok nmX2 hown hK hP hD hS 0 rfl rfl 6 (by decide) h_f29 (fun _ h9 => h9) rfl (by decide +kernel) rfl rfl (Nat.le_of_ble_eq_true rfl) dX2_init_44 (fun H locs hP hD hS => ?_)
  have hP : va_P (dC, dI) vwCl ([(h0, .inr (2, [.ref q1, .ref q2, .int 0, .int 0, .int 0, .int 0, .int 0, .int 0])), (q1, .inl (cI, 200, .inl (fun _ => 0))), (q2, .inl (cI, 200, .inl (fun _ => 0)))] : va_W) H := hP
  have hD : va_D A ([(h0, .inr (2, [.ref q1, .ref q2, .int 0, .int 0, .int 0, .int 0, .int 0, .int 0])), (q1, .inl (cI, 200, .inl (fun _ => 0))), (q2, .inl (cI, 200, .inl (fun _ => 0)))] : va_W) := hD
  refine lv_aload_n hx hb dX2_init_47 rfl (lv_at hl 0 rfl) ?_
  refine lv_iconst (v := 0) hx hb dX2_init_48 (by decide) ?_
  refine va_put (D := (dC, dI)) (ci := 2) (v := .int 0) (ty := .int) (C := RX2) (T := TX2) (N := 8) hx hb hts h_in2 tyX2 tyX2_ok nmX2 hown hK hP hD hS 0 rfl rfl 7 (by decide) h_f32 (fun _ h9 => h9) rfl (by decide +kernel) rfl rfl (Nat.le_of_ble_eq_true rfl) dX2_init_49 (fun H locs hP hD hS => ?_)
  have hP : va_P (dC, dI) vwCl ([(h0, .inr (2, [.ref q1, .ref q2, .int 0, .int 0, .int 0, .int 0, .int 0, .int 0])), (q1, .inl (cI, 200, .inl (fun _ => 0))), (q2, .inl (cI, 200, .inl (fun _ => 0)))] : va_W) H := hP
  have hD : va_D A ([(h0, .inr (2, [.ref q1, .ref q2, .int 0, .int 0, .int 0, .int 0, .int 0, .int 0])), (q1, .inl (cI, 200, .inl (fun _ => 0))), (q2, .inl (cI, 200, .inl (fun _ => 0)))] : va_W) := hD
  obtain ⟨fa, efa⟩ : ∃ f : Nat → Nat, f = tm_al [h0, q1, q2] := ⟨_, rfl⟩
  have ea0 : fa 0 = h0 := by rw [efa]; rfl
  have ea1 : fa 1 = q1 := by rw [efa]; rfl
  have ea2 : fa 2 = q2 := by rw [efa]; rfl
  obtain ⟨fs, efs⟩ : ∃ f : tm_St, f = tm_l [fun _ => 0, fun _ => 0, fun _ => 0] := ⟨_, rfl⟩
  have es0 : fs 0 = fun _ => 0 := by rw [efs]; rfl
  have es1 : fs 1 = fun _ => 0 := by rw [efs]; rfl
  have es2 : fs 2 = fun _ => 0 := by rw [efs]; rfl
  have hP9 : va_P (dC, dI) vwCl (tm_wMail cI cZ fa fs) H := by unfold tm_wMail; simp only [ea0, ea1, ea2, es0, es1, es2]; exact hP.sub [0, 1, 2] rfl
  have hD9 : va_D A (tm_wMail cI cZ fa fs) := by unfold tm_wMail; simp only [ea0, ea1, ea2, es0, es1, es2]; exact hD.sub [0, 1, 2] (by decide) rfl
  rw [← efs] at hw
  refine W.widen (k := 2) (n := 400) (Nat.le_of_ble_eq_true rfl) (Nat.le_of_ble_eq_true rfl) ?_
  exact W.vret hx hb hr (fun t ht hW => ⟨⟨(fa, fs), rfl, ⟨ea0, hw⟩, by rw [ht]; exact hP9, va_K.moved hW.alike hK, hD9⟩, hS.F ht⟩) hS.2.2 dX2_init_52
