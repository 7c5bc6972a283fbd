section
-- ===== PART A: goes FIRST, ahead of the names: the tables' words, and 'selects' of the private methods out of them =====
/-- a private method of a class that the tables say can be made, by its rows of tables_1 -/
def lw_okq (q : MethodName × Nat) : Prop := (q.1.cls ≠ "java/lang/invoke/MethodHandle" ∧ q.1.cls ≠ "java/lang/invoke/VarHandle") ∧ Cond.instantiable q.1.cls q.2 ∈ tables_1 ∧ Cond.privateMethod q.1 ∈ tables_1 ∧ Cond.instanceMethod q.1 ∈ tables_1
theorem lw_p0 : lw_okq (⟨"TwoModems$Page", "fits", "(I)Z"⟩, 2) := ⟨⟨by decide +kernel, by decide +kernel⟩, List.mem_of_getElem? (i := 86) (by decide +kernel), List.mem_of_getElem? (i := 262) (by decide +kernel), List.mem_of_getElem? (i := 263) (by decide +kernel)⟩
theorem lw_p1 : lw_okq (⟨"TwoModems$Page", "figure", "(I)I"⟩, 2) := ⟨⟨by decide +kernel, by decide +kernel⟩, List.mem_of_getElem? (i := 86) (by decide +kernel), List.mem_of_getElem? (i := 270) (by decide +kernel), List.mem_of_getElem? (i := 271) (by decide +kernel)⟩
theorem lw_p2 : lw_okq (⟨"TwoModems$Page", "fitsHurt", "(II)Z"⟩, 2) := ⟨⟨by decide +kernel, by decide +kernel⟩, List.mem_of_getElem? (i := 86) (by decide +kernel), List.mem_of_getElem? (i := 274) (by decide +kernel), List.mem_of_getElem? (i := 275) (by decide +kernel)⟩
theorem lw_p3 : lw_okq (⟨"TwoModems$Page", "commaAhead", "(I)I"⟩, 2) := ⟨⟨by decide +kernel, by decide +kernel⟩, List.mem_of_getElem? (i := 86) (by decide +kernel), List.mem_of_getElem? (i := 278) (by decide +kernel), List.mem_of_getElem? (i := 279) (by decide +kernel)⟩
theorem lw_p4 : lw_okq (⟨"TwoModems$Page", "number", "(II)I"⟩, 2) := ⟨⟨by decide +kernel, by decide +kernel⟩, List.mem_of_getElem? (i := 86) (by decide +kernel), List.mem_of_getElem? (i := 282) (by decide +kernel), List.mem_of_getElem? (i := 283) (by decide +kernel)⟩
theorem lw_p5 : lw_okq (⟨"TwoModems", "modemAt", "(I)LTwoModems$Modem;"⟩, 5) := ⟨⟨by decide +kernel, by decide +kernel⟩, List.mem_of_getElem? (i := 12) (by decide +kernel), List.mem_of_getElem? (i := 315) (by decide +kernel), List.mem_of_getElem? (i := 316) (by decide +kernel)⟩
theorem lw_p6 : lw_okq (⟨"TwoModems", "changes", "()I"⟩, 5) := ⟨⟨by decide +kernel, by decide +kernel⟩, List.mem_of_getElem? (i := 12) (by decide +kernel), List.mem_of_getElem? (i := 344) (by decide +kernel), List.mem_of_getElem? (i := 345) (by decide +kernel)⟩
theorem lw_p7 : lw_okq (⟨"TwoModems$Modem", "surrender", "()V"⟩, 20) := ⟨⟨by decide +kernel, by decide +kernel⟩, List.mem_of_getElem? (i := 100) (by decide +kernel), List.mem_of_getElem? (i := 356) (by decide +kernel), List.mem_of_getElem? (i := 357) (by decide +kernel)⟩
theorem lw_p8 : lw_okq (⟨"TwoModems$Modem", "come", "(I)V"⟩, 20) := ⟨⟨by decide +kernel, by decide +kernel⟩, List.mem_of_getElem? (i := 100) (by decide +kernel), List.mem_of_getElem? (i := 360) (by decide +kernel), List.mem_of_getElem? (i := 361) (by decide +kernel)⟩
theorem lw_p9 : lw_okq (⟨"TwoModems$Modem", "hear", "()V"⟩, 20) := ⟨⟨by decide +kernel, by decide +kernel⟩, List.mem_of_getElem? (i := 100) (by decide +kernel), List.mem_of_getElem? (i := 368) (by decide +kernel), List.mem_of_getElem? (i := 369) (by decide +kernel)⟩
theorem lw_p10 : lw_okq (⟨"TwoModems$Modem", "note", "(I)V"⟩, 20) := ⟨⟨by decide +kernel, by decide +kernel⟩, List.mem_of_getElem? (i := 100) (by decide +kernel), List.mem_of_getElem? (i := 380) (by decide +kernel), List.mem_of_getElem? (i := 381) (by decide +kernel)⟩
theorem lw_p11 : lw_okq (⟨"TwoModems$Modem", "hearInBargain", "()V"⟩, 20) := ⟨⟨by decide +kernel, by decide +kernel⟩, List.mem_of_getElem? (i := 100) (by decide +kernel), List.mem_of_getElem? (i := 384) (by decide +kernel), List.mem_of_getElem? (i := 385) (by decide +kernel)⟩
theorem lw_p12 : lw_okq (⟨"TwoModems$Modem", "isOfRound", "(I)Z"⟩, 20) := ⟨⟨by decide +kernel, by decide +kernel⟩, List.mem_of_getElem? (i := 100) (by decide +kernel), List.mem_of_getElem? (i := 388) (by decide +kernel), List.mem_of_getElem? (i := 389) (by decide +kernel)⟩
theorem lw_p13 : lw_okq (⟨"TwoModems$Modem", "settle", "(I)V"⟩, 20) := ⟨⟨by decide +kernel, by decide +kernel⟩, List.mem_of_getElem? (i := 100) (by decide +kernel), List.mem_of_getElem? (i := 399) (by decide +kernel), List.mem_of_getElem? (i := 400) (by decide +kernel)⟩
theorem lw_p14 : lw_okq (⟨"TwoModems$Modem", "hearGreaterRound", "()V"⟩, 20) := ⟨⟨by decide +kernel, by decide +kernel⟩, List.mem_of_getElem? (i := 100) (by decide +kernel), List.mem_of_getElem? (i := 403) (by decide +kernel), List.mem_of_getElem? (i := 404) (by decide +kernel)⟩
theorem lw_p15 : lw_okq (⟨"TwoModems$Modem", "hearInData", "()V"⟩, 20) := ⟨⟨by decide +kernel, by decide +kernel⟩, List.mem_of_getElem? (i := 100) (by decide +kernel), List.mem_of_getElem? (i := 407) (by decide +kernel), List.mem_of_getElem? (i := 408) (by decide +kernel)⟩
def lw_privs_1 : List (MethodName × Nat) := [(⟨"TwoModems$Page", "fits", "(I)Z"⟩, 2), (⟨"TwoModems$Page", "figure", "(I)I"⟩, 2), (⟨"TwoModems$Page", "fitsHurt", "(II)Z"⟩, 2), (⟨"TwoModems$Page", "commaAhead", "(I)I"⟩, 2), (⟨"TwoModems$Page", "number", "(II)I"⟩, 2), (⟨"TwoModems", "modemAt", "(I)LTwoModems$Modem;"⟩, 5), (⟨"TwoModems", "changes", "()I"⟩, 5), (⟨"TwoModems$Modem", "surrender", "()V"⟩, 20), (⟨"TwoModems$Modem", "come", "(I)V"⟩, 20), (⟨"TwoModems$Modem", "hear", "()V"⟩, 20), (⟨"TwoModems$Modem", "note", "(I)V"⟩, 20), (⟨"TwoModems$Modem", "hearInBargain", "()V"⟩, 20), (⟨"TwoModems$Modem", "isOfRound", "(I)Z"⟩, 20), (⟨"TwoModems$Modem", "settle", "(I)V"⟩, 20), (⟨"TwoModems$Modem", "hearGreaterRound", "()V"⟩, 20), (⟨"TwoModems$Modem", "hearInData", "()V"⟩, 20)]
theorem lw_r1 : ∀ q ∈ lw_privs_1, lw_okq q := List.forall_mem_cons.mpr ⟨lw_p0, List.forall_mem_cons.mpr ⟨lw_p1, List.forall_mem_cons.mpr ⟨lw_p2, List.forall_mem_cons.mpr ⟨lw_p3, List.forall_mem_cons.mpr ⟨lw_p4, List.forall_mem_cons.mpr ⟨lw_p5, List.forall_mem_cons.mpr ⟨lw_p6, List.forall_mem_cons.mpr ⟨lw_p7, List.forall_mem_cons.mpr ⟨lw_p8, List.forall_mem_cons.mpr ⟨lw_p9, List.forall_mem_cons.mpr ⟨lw_p10, List.forall_mem_cons.mpr ⟨lw_p11, List.forall_mem_cons.mpr ⟨lw_p12, List.forall_mem_cons.mpr ⟨lw_p13, List.forall_mem_cons.mpr ⟨lw_p14, List.forall_mem_cons.mpr ⟨lw_p15, fun _ h => absurd h List.not_mem_nil⟩⟩⟩⟩⟩⟩⟩⟩⟩⟩⟩⟩⟩⟩⟩⟩
theorem lw_p16 : lw_okq (⟨"TwoModems$Modem", "look", "(Z)V"⟩, 20) := ⟨⟨by decide +kernel, by decide +kernel⟩, List.mem_of_getElem? (i := 100) (by decide +kernel), List.mem_of_getElem? (i := 431) (by decide +kernel), List.mem_of_getElem? (i := 432) (by decide +kernel)⟩
theorem lw_p17 : lw_okq (⟨"TwoModems$Modem", "makeOffer", "()V"⟩, 20) := ⟨⟨by decide +kernel, by decide +kernel⟩, List.mem_of_getElem? (i := 100) (by decide +kernel), List.mem_of_getElem? (i := 435) (by decide +kernel), List.mem_of_getElem? (i := 436) (by decide +kernel)⟩
theorem lw_p18 : lw_okq (⟨"TwoModems$Modem", "lookAtWaiting", "(Z)V"⟩, 20) := ⟨⟨by decide +kernel, by decide +kernel⟩, List.mem_of_getElem? (i := 100) (by decide +kernel), List.mem_of_getElem? (i := 447) (by decide +kernel), List.mem_of_getElem? (i := 448) (by decide +kernel)⟩
theorem lw_p19 : lw_okq (⟨"TwoModems$Modem", "lookAtLosses", "()V"⟩, 20) := ⟨⟨by decide +kernel, by decide +kernel⟩, List.mem_of_getElem? (i := 100) (by decide +kernel), List.mem_of_getElem? (i := 451) (by decide +kernel), List.mem_of_getElem? (i := 452) (by decide +kernel)⟩
theorem lw_p20 : lw_okq (⟨"TwoModems$Modem", "speak", "(I)V"⟩, 20) := ⟨⟨by decide +kernel, by decide +kernel⟩, List.mem_of_getElem? (i := 100) (by decide +kernel), List.mem_of_getElem? (i := 461) (by decide +kernel), List.mem_of_getElem? (i := 462) (by decide +kernel)⟩
theorem lw_p21 : lw_okq (⟨"TwoModems$Modem", "speakProbe", "(I)V"⟩, 20) := ⟨⟨by decide +kernel, by decide +kernel⟩, List.mem_of_getElem? (i := 100) (by decide +kernel), List.mem_of_getElem? (i := 469) (by decide +kernel), List.mem_of_getElem? (i := 470) (by decide +kernel)⟩
theorem lw_p22 : lw_okq (⟨"TwoModems$Echo", "sign", "(I)I"⟩, 2) := ⟨⟨by decide +kernel, by decide +kernel⟩, List.mem_of_getElem? (i := 106) (by decide +kernel), List.mem_of_getElem? (i := 477) (by decide +kernel), List.mem_of_getElem? (i := 478) (by decide +kernel)⟩
theorem lw_p23 : lw_okq (⟨"TwoModems$Modem", "speakFrame", "(I)V"⟩, 20) := ⟨⟨by decide +kernel, by decide +kernel⟩, List.mem_of_getElem? (i := 100) (by decide +kernel), List.mem_of_getElem? (i := 481) (by decide +kernel), List.mem_of_getElem? (i := 482) (by decide +kernel)⟩
theorem lw_p24 : lw_okq (⟨"TwoModems", "digestOfEnd", "(IJ)J"⟩, 5) := ⟨⟨by decide +kernel, by decide +kernel⟩, List.mem_of_getElem? (i := 12) (by decide +kernel), List.mem_of_getElem? (i := 539) (by decide +kernel), List.mem_of_getElem? (i := 540) (by decide +kernel)⟩
theorem lw_p25 : lw_okq (⟨"TwoModemsModel", "read", "()I"⟩, 30) := ⟨⟨by decide +kernel, by decide +kernel⟩, List.mem_of_getElem? (i := 546) (by decide +kernel), List.mem_of_getElem? (i := 658) (by decide +kernel), List.mem_of_getElem? (i := 659) (by decide +kernel)⟩
theorem lw_p26 : lw_okq (⟨"TwoModemsModel", "takes", "(II)Z"⟩, 30) := ⟨⟨by decide +kernel, by decide +kernel⟩, List.mem_of_getElem? (i := 546) (by decide +kernel), List.mem_of_getElem? (i := 662) (by decide +kernel), List.mem_of_getElem? (i := 663) (by decide +kernel)⟩
theorem lw_p27 : lw_okq (⟨"TwoModemsModel", "takesQuality", "(II)Z"⟩, 30) := ⟨⟨by decide +kernel, by decide +kernel⟩, List.mem_of_getElem? (i := 546) (by decide +kernel), List.mem_of_getElem? (i := 666) (by decide +kernel), List.mem_of_getElem? (i := 667) (by decide +kernel)⟩
theorem lw_p28 : lw_okq (⟨"TwoModemsModel", "takesHurt", "(I)Z"⟩, 30) := ⟨⟨by decide +kernel, by decide +kernel⟩, List.mem_of_getElem? (i := 546) (by decide +kernel), List.mem_of_getElem? (i := 673) (by decide +kernel), List.mem_of_getElem? (i := 674) (by decide +kernel)⟩
theorem lw_p29 : lw_okq (⟨"TwoModemsModel", "of", "(II)I"⟩, 30) := ⟨⟨by decide +kernel, by decide +kernel⟩, List.mem_of_getElem? (i := 546) (by decide +kernel), List.mem_of_getElem? (i := 688) (by decide +kernel), List.mem_of_getElem? (i := 689) (by decide +kernel)⟩
theorem lw_p30 : lw_okq (⟨"TwoModemsModel", "add", "(III)V"⟩, 30) := ⟨⟨by decide +kernel, by decide +kernel⟩, List.mem_of_getElem? (i := 546) (by decide +kernel), List.mem_of_getElem? (i := 692) (by decide +kernel), List.mem_of_getElem? (i := 693) (by decide +kernel)⟩
theorem lw_p31 : lw_okq (⟨"TwoModemsModel", "goesTo", "(II)V"⟩, 30) := ⟨⟨by decide +kernel, by decide +kernel⟩, List.mem_of_getElem? (i := 546) (by decide +kernel), List.mem_of_getElem? (i := 704) (by decide +kernel), List.mem_of_getElem? (i := 705) (by decide +kernel)⟩
def lw_privs_2 : List (MethodName × Nat) := [(⟨"TwoModems$Modem", "look", "(Z)V"⟩, 20), (⟨"TwoModems$Modem", "makeOffer", "()V"⟩, 20), (⟨"TwoModems$Modem", "lookAtWaiting", "(Z)V"⟩, 20), (⟨"TwoModems$Modem", "lookAtLosses", "()V"⟩, 20), (⟨"TwoModems$Modem", "speak", "(I)V"⟩, 20), (⟨"TwoModems$Modem", "speakProbe", "(I)V"⟩, 20), (⟨"TwoModems$Echo", "sign", "(I)I"⟩, 2), (⟨"TwoModems$Modem", "speakFrame", "(I)V"⟩, 20), (⟨"TwoModems", "digestOfEnd", "(IJ)J"⟩, 5), (⟨"TwoModemsModel", "read", "()I"⟩, 30), (⟨"TwoModemsModel", "takes", "(II)Z"⟩, 30), (⟨"TwoModemsModel", "takesQuality", "(II)Z"⟩, 30), (⟨"TwoModemsModel", "takesHurt", "(I)Z"⟩, 30), (⟨"TwoModemsModel", "of", "(II)I"⟩, 30), (⟨"TwoModemsModel", "add", "(III)V"⟩, 30), (⟨"TwoModemsModel", "goesTo", "(II)V"⟩, 30)]
theorem lw_r2 : ∀ q ∈ lw_privs_2, lw_okq q := List.forall_mem_cons.mpr ⟨lw_p16, List.forall_mem_cons.mpr ⟨lw_p17, List.forall_mem_cons.mpr ⟨lw_p18, List.forall_mem_cons.mpr ⟨lw_p19, List.forall_mem_cons.mpr ⟨lw_p20, List.forall_mem_cons.mpr ⟨lw_p21, List.forall_mem_cons.mpr ⟨lw_p22, List.forall_mem_cons.mpr ⟨lw_p23, List.forall_mem_cons.mpr ⟨lw_p24, List.forall_mem_cons.mpr ⟨lw_p25, List.forall_mem_cons.mpr ⟨lw_p26, List.forall_mem_cons.mpr ⟨lw_p27, List.forall_mem_cons.mpr ⟨lw_p28, List.forall_mem_cons.mpr ⟨lw_p29, List.forall_mem_cons.mpr ⟨lw_p30, List.forall_mem_cons.mpr ⟨lw_p31, fun _ h => absurd h List.not_mem_nil⟩⟩⟩⟩⟩⟩⟩⟩⟩⟩⟩⟩⟩⟩⟩⟩
theorem lw_p32 : lw_okq (⟨"TwoModemsModel", "put", "(III)V"⟩, 30) := ⟨⟨by decide +kernel, by decide +kernel⟩, List.mem_of_getElem? (i := 546) (by decide +kernel), List.mem_of_getElem? (i := 708) (by decide +kernel), List.mem_of_getElem? (i := 709) (by decide +kernel)⟩
theorem lw_p33 : lw_okq (⟨"TwoModemsModel", "does", "(I)V"⟩, 30) := ⟨⟨by decide +kernel, by decide +kernel⟩, List.mem_of_getElem? (i := 546) (by decide +kernel), List.mem_of_getElem? (i := 720) (by decide +kernel), List.mem_of_getElem? (i := 721) (by decide +kernel)⟩
theorem lw_p34 : lw_okq (⟨"TwoModemsModel", "hear", "(I)V"⟩, 30) := ⟨⟨by decide +kernel, by decide +kernel⟩, List.mem_of_getElem? (i := 546) (by decide +kernel), List.mem_of_getElem? (i := 724) (by decide +kernel), List.mem_of_getElem? (i := 725) (by decide +kernel)⟩
theorem lw_p35 : lw_okq (⟨"TwoModemsModel", "slot", "(II)I"⟩, 30) := ⟨⟨by decide +kernel, by decide +kernel⟩, List.mem_of_getElem? (i := 546) (by decide +kernel), List.mem_of_getElem? (i := 728) (by decide +kernel), List.mem_of_getElem? (i := 729) (by decide +kernel)⟩
theorem lw_p36 : lw_okq (⟨"TwoModemsModel", "mayGiveUp", "(I)V"⟩, 30) := ⟨⟨by decide +kernel, by decide +kernel⟩, List.mem_of_getElem? (i := 546) (by decide +kernel), List.mem_of_getElem? (i := 732) (by decide +kernel), List.mem_of_getElem? (i := 733) (by decide +kernel)⟩
theorem lw_p37 : lw_okq (⟨"TwoModemsModel", "into", "(II)V"⟩, 30) := ⟨⟨by decide +kernel, by decide +kernel⟩, List.mem_of_getElem? (i := 546) (by decide +kernel), List.mem_of_getElem? (i := 736) (by decide +kernel), List.mem_of_getElem? (i := 737) (by decide +kernel)⟩
theorem lw_p38 : lw_okq (⟨"TwoModemsModel", "hearsIn", "(I)V"⟩, 30) := ⟨⟨by decide +kernel, by decide +kernel⟩, List.mem_of_getElem? (i := 546) (by decide +kernel), List.mem_of_getElem? (i := 740) (by decide +kernel), List.mem_of_getElem? (i := 741) (by decide +kernel)⟩
theorem lw_p39 : lw_okq (⟨"TwoModemsModel", "ear", "(II)I"⟩, 30) := ⟨⟨by decide +kernel, by decide +kernel⟩, List.mem_of_getElem? (i := 546) (by decide +kernel), List.mem_of_getElem? (i := 744) (by decide +kernel), List.mem_of_getElem? (i := 745) (by decide +kernel)⟩
theorem lw_p40 : lw_okq (⟨"TwoModemsModel", "answers", "(I)V"⟩, 30) := ⟨⟨by decide +kernel, by decide +kernel⟩, List.mem_of_getElem? (i := 546) (by decide +kernel), List.mem_of_getElem? (i := 748) (by decide +kernel), List.mem_of_getElem? (i := 749) (by decide +kernel)⟩
theorem lw_p41 : lw_okq (⟨"TwoModemsModel", "note", "(I)V"⟩, 30) := ⟨⟨by decide +kernel, by decide +kernel⟩, List.mem_of_getElem? (i := 546) (by decide +kernel), List.mem_of_getElem? (i := 752) (by decide +kernel), List.mem_of_getElem? (i := 753) (by decide +kernel)⟩
theorem lw_p42 : lw_okq (⟨"TwoModemsModel", "bargains", "(I)V"⟩, 30) := ⟨⟨by decide +kernel, by decide +kernel⟩, List.mem_of_getElem? (i := 546) (by decide +kernel), List.mem_of_getElem? (i := 756) (by decide +kernel), List.mem_of_getElem? (i := 757) (by decide +kernel)⟩
theorem lw_p43 : lw_okq (⟨"TwoModemsModel", "agrees", "(II)V"⟩, 30) := ⟨⟨by decide +kernel, by decide +kernel⟩, List.mem_of_getElem? (i := 546) (by decide +kernel), List.mem_of_getElem? (i := 760) (by decide +kernel), List.mem_of_getElem? (i := 761) (by decide +kernel)⟩
theorem lw_p44 : lw_okq (⟨"TwoModemsModel", "hearsOffer", "(I)V"⟩, 30) := ⟨⟨by decide +kernel, by decide +kernel⟩, List.mem_of_getElem? (i := 546) (by decide +kernel), List.mem_of_getElem? (i := 764) (by decide +kernel), List.mem_of_getElem? (i := 765) (by decide +kernel)⟩
theorem lw_p45 : lw_okq (⟨"TwoModemsModel", "hearsInAgree", "(I)V"⟩, 30) := ⟨⟨by decide +kernel, by decide +kernel⟩, List.mem_of_getElem? (i := 546) (by decide +kernel), List.mem_of_getElem? (i := 768) (by decide +kernel), List.mem_of_getElem? (i := 769) (by decide +kernel)⟩
theorem lw_p46 : lw_okq (⟨"TwoModemsModel", "hearsInData", "(I)V"⟩, 30) := ⟨⟨by decide +kernel, by decide +kernel⟩, List.mem_of_getElem? (i := 546) (by decide +kernel), List.mem_of_getElem? (i := 772) (by decide +kernel), List.mem_of_getElem? (i := 773) (by decide +kernel)⟩
theorem lw_p47 : lw_okq (⟨"TwoModemsModel", "takesFrame", "(I)V"⟩, 30) := ⟨⟨by decide +kernel, by decide +kernel⟩, List.mem_of_getElem? (i := 546) (by decide +kernel), List.mem_of_getElem? (i := 776) (by decide +kernel), List.mem_of_getElem? (i := 777) (by decide +kernel)⟩
def lw_privs_3 : List (MethodName × Nat) := [(⟨"TwoModemsModel", "put", "(III)V"⟩, 30), (⟨"TwoModemsModel", "does", "(I)V"⟩, 30), (⟨"TwoModemsModel", "hear", "(I)V"⟩, 30), (⟨"TwoModemsModel", "slot", "(II)I"⟩, 30), (⟨"TwoModemsModel", "mayGiveUp", "(I)V"⟩, 30), (⟨"TwoModemsModel", "into", "(II)V"⟩, 30), (⟨"TwoModemsModel", "hearsIn", "(I)V"⟩, 30), (⟨"TwoModemsModel", "ear", "(II)I"⟩, 30), (⟨"TwoModemsModel", "answers", "(I)V"⟩, 30), (⟨"TwoModemsModel", "note", "(I)V"⟩, 30), (⟨"TwoModemsModel", "bargains", "(I)V"⟩, 30), (⟨"TwoModemsModel", "agrees", "(II)V"⟩, 30), (⟨"TwoModemsModel", "hearsOffer", "(I)V"⟩, 30), (⟨"TwoModemsModel", "hearsInAgree", "(I)V"⟩, 30), (⟨"TwoModemsModel", "hearsInData", "(I)V"⟩, 30), (⟨"TwoModemsModel", "takesFrame", "(I)V"⟩, 30)]
theorem lw_r3 : ∀ q ∈ lw_privs_3, lw_okq q := List.forall_mem_cons.mpr ⟨lw_p32, List.forall_mem_cons.mpr ⟨lw_p33, List.forall_mem_cons.mpr ⟨lw_p34, List.forall_mem_cons.mpr ⟨lw_p35, List.forall_mem_cons.mpr ⟨lw_p36, List.forall_mem_cons.mpr ⟨lw_p37, List.forall_mem_cons.mpr ⟨lw_p38, List.forall_mem_cons.mpr ⟨lw_p39, List.forall_mem_cons.mpr ⟨lw_p40, List.forall_mem_cons.mpr ⟨lw_p41, List.forall_mem_cons.mpr ⟨lw_p42, List.forall_mem_cons.mpr ⟨lw_p43, List.forall_mem_cons.mpr ⟨lw_p44, List.forall_mem_cons.mpr ⟨lw_p45, List.forall_mem_cons.mpr ⟨lw_p46, List.forall_mem_cons.mpr ⟨lw_p47, fun _ h => absurd h List.not_mem_nil⟩⟩⟩⟩⟩⟩⟩⟩⟩⟩⟩⟩⟩⟩⟩⟩
theorem lw_p48 : lw_okq (⟨"TwoModemsModel", "looksIn", "(I)V"⟩, 30) := ⟨⟨by decide +kernel, by decide +kernel⟩, List.mem_of_getElem? (i := 546) (by decide +kernel), List.mem_of_getElem? (i := 780) (by decide +kernel), List.mem_of_getElem? (i := 781) (by decide +kernel)⟩
theorem lw_p49 : lw_okq (⟨"TwoModemsModel", "makeOffer", "(I)V"⟩, 30) := ⟨⟨by decide +kernel, by decide +kernel⟩, List.mem_of_getElem? (i := 546) (by decide +kernel), List.mem_of_getElem? (i := 784) (by decide +kernel), List.mem_of_getElem? (i := 785) (by decide +kernel)⟩
theorem lw_p50 : lw_okq (⟨"TwoModemsModel", "looksInData", "(I)V"⟩, 30) := ⟨⟨by decide +kernel, by decide +kernel⟩, List.mem_of_getElem? (i := 546) (by decide +kernel), List.mem_of_getElem? (i := 791) (by decide +kernel), List.mem_of_getElem? (i := 792) (by decide +kernel)⟩
theorem lw_p51 : lw_okq (⟨"TwoModemsModel", "sendsIn", "(I)V"⟩, 30) := ⟨⟨by decide +kernel, by decide +kernel⟩, List.mem_of_getElem? (i := 546) (by decide +kernel), List.mem_of_getElem? (i := 798) (by decide +kernel), List.mem_of_getElem? (i := 799) (by decide +kernel)⟩
theorem lw_p52 : lw_okq (⟨"TwoModemsModel", "send", "(IIIIII)V"⟩, 30) := ⟨⟨by decide +kernel, by decide +kernel⟩, List.mem_of_getElem? (i := 546) (by decide +kernel), List.mem_of_getElem? (i := 802) (by decide +kernel), List.mem_of_getElem? (i := 803) (by decide +kernel)⟩
theorem lw_p53 : lw_okq (⟨"TwoModemsModel", "trains", "(I)V"⟩, 30) := ⟨⟨by decide +kernel, by decide +kernel⟩, List.mem_of_getElem? (i := 546) (by decide +kernel), List.mem_of_getElem? (i := 806) (by decide +kernel), List.mem_of_getElem? (i := 807) (by decide +kernel)⟩
theorem lw_p54 : lw_okq (⟨"TwoModemsModel", "sendsFrame", "(I)V"⟩, 30) := ⟨⟨by decide +kernel, by decide +kernel⟩, List.mem_of_getElem? (i := 546) (by decide +kernel), List.mem_of_getElem? (i := 813) (by decide +kernel), List.mem_of_getElem? (i := 814) (by decide +kernel)⟩
theorem lw_p55 : lw_okq (⟨"TwoModemsModel", "aboutNow", "(I)I"⟩, 30) := ⟨⟨by decide +kernel, by decide +kernel⟩, List.mem_of_getElem? (i := 546) (by decide +kernel), List.mem_of_getElem? (i := 844) (by decide +kernel), List.mem_of_getElem? (i := 845) (by decide +kernel)⟩
theorem lw_p56 : lw_okq (⟨"TwoModemsModel", "onWay", "()I"⟩, 30) := ⟨⟨by decide +kernel, by decide +kernel⟩, List.mem_of_getElem? (i := 546) (by decide +kernel), List.mem_of_getElem? (i := 848) (by decide +kernel), List.mem_of_getElem? (i := 849) (by decide +kernel)⟩
theorem lw_p57 : lw_okq (⟨"TwoModemsModel", "howMany", "(I)I"⟩, 30) := ⟨⟨by decide +kernel, by decide +kernel⟩, List.mem_of_getElem? (i := 546) (by decide +kernel), List.mem_of_getElem? (i := 856) (by decide +kernel), List.mem_of_getElem? (i := 857) (by decide +kernel)⟩
theorem lw_p58 : lw_okq (⟨"TwoModemsModel", "mixEnd", "(I)V"⟩, 30) := ⟨⟨by decide +kernel, by decide +kernel⟩, List.mem_of_getElem? (i := 546) (by decide +kernel), List.mem_of_getElem? (i := 865) (by decide +kernel), List.mem_of_getElem? (i := 866) (by decide +kernel)⟩
theorem lw_p59 : lw_okq (⟨"TwoModemsModel", "mix", "(J)V"⟩, 30) := ⟨⟨by decide +kernel, by decide +kernel⟩, List.mem_of_getElem? (i := 546) (by decide +kernel), List.mem_of_getElem? (i := 869) (by decide +kernel), List.mem_of_getElem? (i := 870) (by decide +kernel)⟩
def lw_privs_4 : List (MethodName × Nat) := [(⟨"TwoModemsModel", "looksIn", "(I)V"⟩, 30), (⟨"TwoModemsModel", "makeOffer", "(I)V"⟩, 30), (⟨"TwoModemsModel", "looksInData", "(I)V"⟩, 30), (⟨"TwoModemsModel", "sendsIn", "(I)V"⟩, 30), (⟨"TwoModemsModel", "send", "(IIIIII)V"⟩, 30), (⟨"TwoModemsModel", "trains", "(I)V"⟩, 30), (⟨"TwoModemsModel", "sendsFrame", "(I)V"⟩, 30), (⟨"TwoModemsModel", "aboutNow", "(I)I"⟩, 30), (⟨"TwoModemsModel", "onWay", "()I"⟩, 30), (⟨"TwoModemsModel", "howMany", "(I)I"⟩, 30), (⟨"TwoModemsModel", "mixEnd", "(I)V"⟩, 30), (⟨"TwoModemsModel", "mix", "(J)V"⟩, 30)]
theorem lw_r4 : ∀ q ∈ lw_privs_4, lw_okq q := List.forall_mem_cons.mpr ⟨lw_p48, List.forall_mem_cons.mpr ⟨lw_p49, List.forall_mem_cons.mpr ⟨lw_p50, List.forall_mem_cons.mpr ⟨lw_p51, List.forall_mem_cons.mpr ⟨lw_p52, List.forall_mem_cons.mpr ⟨lw_p53, List.forall_mem_cons.mpr ⟨lw_p54, List.forall_mem_cons.mpr ⟨lw_p55, List.forall_mem_cons.mpr ⟨lw_p56, List.forall_mem_cons.mpr ⟨lw_p57, List.forall_mem_cons.mpr ⟨lw_p58, List.forall_mem_cons.mpr ⟨lw_p59, fun _ h => absurd h List.not_mem_nil⟩⟩⟩⟩⟩⟩⟩⟩⟩⟩⟩⟩
def lw_privs : List (MethodName × Nat) := lw_privs_1 ++ (lw_privs_2 ++ (lw_privs_3 ++ (lw_privs_4)))
def lw_tbl : List Cond := k2_sels lw_privs ++ tables_1
theorem lw_privs_ok : ∀ q ∈ lw_privs, lw_okq q := by
  show ∀ q ∈ lw_privs_1 ++ (lw_privs_2 ++ (lw_privs_3 ++ (lw_privs_4))), lw_okq q
  exact List.forall_mem_append.mpr ⟨lw_r1, List.forall_mem_append.mpr ⟨lw_r2, List.forall_mem_append.mpr ⟨lw_r3, lw_r4⟩⟩⟩
end
section
/-! ===== BEGIN words of one list among another's, by their places ===== -/
theorem goodIn_r {big : List Cond} (ws : List Cond) (ps : List Nat) (hp : ws = ps.filterMap (fun i => big[i]?)) (h : ws.all goodWord = true) : GoodIn big ws := by
  intro w hw
  have h1 := List.all_eq_true.mp h w hw
  rw [hp] at hw
  obtain ⟨i, -, hi⟩ := List.mem_filterMap.mp hw
  have hm : w ∈ big := by first | exact List.mem_of_getElem? hi | exact List.getElem?_mem hi
  exact ⟨hm, good_of_word h1⟩
theorem goodIn_app {big a b : List Cond} (ha : GoodIn big a) (hb : GoodIn big b) : GoodIn big (a ++ b) := fun w h => (List.mem_append.mp h).elim (ha w) (hb w)
theorem goodIn_ca {big a b : List Cond} {c : Cond} (ha : GoodIn big (c :: a)) (hb : GoodIn big b) : GoodIn big (c :: (a ++ b)) := fun w h => (List.mem_cons.mp h).elim (fun e => ha w (List.mem_cons.mpr (Or.inl e))) (fun h => (List.mem_append.mp h).elim (fun h => ha w (List.mem_cons.mpr (Or.inr h))) (hb w))
theorem goodIn_sub {big ws : List Cond} (hm : ∀ w ∈ ws, w ∈ big) (h : ws.all goodWord = true) : GoodIn big ws := fun w hw => ⟨hm w hw, good_of_word (List.all_eq_true.mp h w hw)⟩
/-! ===== END ===== -/

/-! ===== BEGIN printed: names, fields, word lists, decode rows ===== -/
def RX0 : String := "TwoModems$Echo"
def TX0 : u_T := fun k => match k with
  | 0 => ("TwoModems$Echo", "taps", "[I", true)
  | _ => ("TwoModems$Echo", "learnt", "[I", true)
def tyX0 : Nat → FieldType := fun k => match k with
  | 0 => .array .int
  | _ => .array .int
abbrev wsX00 : List Cond := u_ws RX0 TX0 2
theorem nmX0 : ∀ a, a < 2 → ∀ b, b < 2 → a ≠ b → (TX0 a).2.1 ≠ (TX0 b).2.1 := by decide +kernel
theorem tyX0_ok : ∀ k, k < 2 → parseFieldDescriptor (TX0 k).2.2.1 = some (tyX0 k) := by decide +kernel
abbrev cX0_init : ByteArray := prog_2_method_1_code
def yX0_init : MethodName := ⟨RX0, "<init>", "()V"⟩
abbrev cX0_forget : ByteArray := prog_2_method_2_code
def yX0_forget : MethodName := ⟨RX0, "forget", "()V"⟩
abbrev cX0_follow : ByteArray := prog_2_method_3_code
def yX0_follow : MethodName := ⟨RX0, "follow", "(I)V"⟩
abbrev cX0_remains : ByteArray := prog_2_method_4_code
def yX0_remains : MethodName := ⟨RX0, "remains", "()I"⟩
abbrev cX0_sign : ByteArray := prog_2_method_5_code
def yX0_sign : MethodName := ⟨RX0, "sign", "(I)I"⟩
def RX1 : String := "TwoModems$Line"
def TX1 : u_T := fun k => match k with
  | 0 => ("TwoModems$Line", "forth", "LTwoModems$Way;", true)
  | 1 => ("TwoModems$Line", "back", "LTwoModems$Way;", true)
  | 2 => ("TwoModems$Line", "delay", "I", false)
  | _ => ("TwoModems$Line", "readings", "I", false)
def tyX1 : Nat → FieldType := fun k => match k with
  | 0 => .object "TwoModems$Way"
  | 1 => .object "TwoModems$Way"
  | 2 => .int
  | _ => .int
abbrev wsX10 : List Cond := u_ws RX1 TX1 4
theorem nmX1 : ∀ a, a < 4 → ∀ b, b < 4 → a ≠ b → (TX1 a).2.1 ≠ (TX1 b).2.1 := by decide +kernel
theorem tyX1_ok : ∀ k, k < 4 → parseFieldDescriptor (TX1 k).2.2.1 = some (tyX1 k) := by decide +kernel
abbrev cX1_init : ByteArray := prog_3_method_1_code
def yX1_init : MethodName := ⟨RX1, "<init>", "()V"⟩
abbrev cX1_read : ByteArray := prog_3_method_2_code
def yX1_read : MethodName := ⟨RX1, "read", "(LTwoModems$Page;)V"⟩
def RX2 : String := "TwoModems$Mail"
def TX2 : u_T := fun k => match k with
  | 0 => ("TwoModems$Mail", "toSend", "[I", true)
  | 1 => ("TwoModems$Mail", "takenCodes", "[I", true)
  | 2 => ("TwoModems$Mail", "said", "I", false)
  | 3 => ("TwoModems$Mail", "taken", "I", false)
  | 4 => ("TwoModems$Mail", "told", "I", false)
  | 5 => ("TwoModems$Mail", "next", "I", false)
  | 6 => ("TwoModems$Mail", "repeated", "I", false)
  | _ => ("TwoModems$Mail", "sentBelow", "I", false)
def tyX2 : Nat → FieldType := fun k => match k with
  | 0 => .array .int
  | 1 => .array .int
  | 2 => .int
  | 3 => .int
  | 4 => .int
  | 5 => .int
  | 6 => .int
  | _ => .int
abbrev wsX20 : List Cond := u_ws RX2 TX2 8
theorem nmX2 : ∀ a, a < 8 → ∀ b, b < 8 → a ≠ b → (TX2 a).2.1 ≠ (TX2 b).2.1 := by decide +kernel
theorem tyX2_ok : ∀ k, k < 8 → parseFieldDescriptor (TX2 k).2.2.1 = some (tyX2 k) := by decide +kernel
abbrev cX2_init : ByteArray := prog_4_method_1_code
def yX2_init : MethodName := ⟨RX2, "<init>", "()V"⟩
abbrev cX2_add : ByteArray := prog_4_method_2_code
def yX2_add : MethodName := ⟨RX2, "add", "(I)V"⟩
abbrev cX2_takenAt : ByteArray := prog_4_method_3_code
def yX2_takenAt : MethodName := ⟨RX2, "takenAt", "(I)I"⟩
abbrev cX2_take : ByteArray := prog_4_method_4_code
def yX2_take : MethodName := ⟨RX2, "take", "(LTwoModems$Way;)V"⟩
abbrev cX2_ready : ByteArray := prog_4_method_5_code
def yX2_ready : MethodName := ⟨RX2, "ready", "(I)I"⟩
abbrev cX2_pass : ByteArray := prog_4_method_6_code
def yX2_pass : MethodName := ⟨RX2, "pass", "()I"⟩
def RX3 : String := "TwoModems$Modem"
def TX3 : u_T := fun k => match k with
  | 0 => ("TwoModems$Modem", "line", "LTwoModems$Line;", true)
  | 1 => ("TwoModems$Modem", "in", "LTwoModems$Way;", true)
  | 2 => ("TwoModems$Modem", "out", "LTwoModems$Way;", true)
  | 3 => ("TwoModems$Modem", "echo", "LTwoModems$Echo;", true)
  | 4 => ("TwoModems$Modem", "mail", "LTwoModems$Mail;", true)
  | 5 => ("TwoModems$Modem", "noted", "[I", true)
  | 6 => ("TwoModems$Modem", "phase", "I", false)
  | 7 => ("TwoModems$Modem", "changes", "I", false)
  | 8 => ("TwoModems$Modem", "lasted", "I", false)
  | 9 => ("TwoModems$Modem", "silences", "I", false)
  | 10 => ("TwoModems$Modem", "round", "I", false)
  | 11 => ("TwoModems$Modem", "offer", "I", false)
  | 12 => ("TwoModems$Modem", "rate", "I", false)
  | 13 => ("TwoModems$Modem", "credit", "I", false)
  | 14 => ("TwoModems$Modem", "waited", "I", false)
  | 15 => ("TwoModems$Modem", "remains", "I", false)
  | 16 => ("TwoModems$Modem", "losses", "I", false)
  | 17 => ("TwoModems$Modem", "surrenders", "I", false)
  | 18 => ("TwoModems$Modem", "agains", "I", false)
  | _ => ("TwoModems$Modem", "datas", "I", false)
def tyX3 : Nat → FieldType := fun k => match k with
  | 0 => .object "TwoModems$Line"
  | 1 => .object "TwoModems$Way"
  | 2 => .object "TwoModems$Way"
  | 3 => .object "TwoModems$Echo"
  | 4 => .object "TwoModems$Mail"
  | 5 => .array .int
  | 6 => .int
  | 7 => .int
  | 8 => .int
  | 9 => .int
  | 10 => .int
  | 11 => .int
  | 12 => .int
  | 13 => .int
  | 14 => .int
  | 15 => .int
  | 16 => .int
  | 17 => .int
  | 18 => .int
  | _ => .int
abbrev wsX30 : List Cond := u_ws RX3 TX3 20
theorem nmX3 : ∀ a, a < 20 → ∀ b, b < 20 → a ≠ b → (TX3 a).2.1 ≠ (TX3 b).2.1 := by decide +kernel
theorem tyX3_ok : ∀ k, k < 20 → parseFieldDescriptor (TX3 k).2.2.1 = some (tyX3 k) := by decide +kernel
abbrev cX3_init : ByteArray := prog_5_method_1_code
def yX3_init : MethodName := ⟨RX3, "<init>", "(LTwoModems$Line;LTwoModems$Way;LTwoModems$Way;)V"⟩
abbrev cX3_fact : ByteArray := prog_5_method_2_code
def yX3_fact : MethodName := ⟨RX3, "fact", "(I)I"⟩
abbrev cX3_force : ByteArray := prog_5_method_3_code
def yX3_force : MethodName := ⟨RX3, "force", "(I)V"⟩
abbrev cX3_live : ByteArray := prog_5_method_4_code
def yX3_live : MethodName := ⟨RX3, "live", "(I)V"⟩
abbrev cX3_come : ByteArray := prog_5_method_5_code
def yX3_come : MethodName := ⟨RX3, "come", "(I)V"⟩
abbrev cX3_surrender : ByteArray := prog_5_method_6_code
def yX3_surrender : MethodName := ⟨RX3, "surrender", "()V"⟩
abbrev cX3_hear : ByteArray := prog_5_method_7_code
def yX3_hear : MethodName := ⟨RX3, "hear", "()V"⟩
abbrev cX3_note : ByteArray := prog_5_method_8_code
def yX3_note : MethodName := ⟨RX3, "note", "(I)V"⟩
abbrev cX3_isOfRound : ByteArray := prog_5_method_9_code
def yX3_isOfRound : MethodName := ⟨RX3, "isOfRound", "(I)Z"⟩
abbrev cX3_hearGreaterRound : ByteArray := prog_5_method_10_code
def yX3_hearGreaterRound : MethodName := ⟨RX3, "hearGreaterRound", "()V"⟩
abbrev cX3_hearInBargain : ByteArray := prog_5_method_11_code
def yX3_hearInBargain : MethodName := ⟨RX3, "hearInBargain", "()V"⟩
abbrev cX3_settle : ByteArray := prog_5_method_12_code
def yX3_settle : MethodName := ⟨RX3, "settle", "(I)V"⟩
abbrev cX3_hearInData : ByteArray := prog_5_method_13_code
def yX3_hearInData : MethodName := ⟨RX3, "hearInData", "()V"⟩
abbrev cX3_look : ByteArray := prog_5_method_14_code
def yX3_look : MethodName := ⟨RX3, "look", "(Z)V"⟩
abbrev cX3_makeOffer : ByteArray := prog_5_method_15_code
def yX3_makeOffer : MethodName := ⟨RX3, "makeOffer", "()V"⟩
abbrev cX3_lookAtWaiting : ByteArray := prog_5_method_16_code
def yX3_lookAtWaiting : MethodName := ⟨RX3, "lookAtWaiting", "(Z)V"⟩
abbrev cX3_lookAtLosses : ByteArray := prog_5_method_17_code
def yX3_lookAtLosses : MethodName := ⟨RX3, "lookAtLosses", "()V"⟩
abbrev cX3_speak : ByteArray := prog_5_method_18_code
def yX3_speak : MethodName := ⟨RX3, "speak", "(I)V"⟩
abbrev cX3_speakProbe : ByteArray := prog_5_method_19_code
def yX3_speakProbe : MethodName := ⟨RX3, "speakProbe", "(I)V"⟩
abbrev cX3_speakFrame : ByteArray := prog_5_method_20_code
def yX3_speakFrame : MethodName := ⟨RX3, "speakFrame", "(I)V"⟩
def RX4 : String := "TwoModems$Page"
def TX4 : u_T := fun k => match k with
  | 0 => ("TwoModems$Page", "codes", "[I", true)
  | _ => ("TwoModems$Page", "size", "I", false)
def tyX4 : Nat → FieldType := fun k => match k with
  | 0 => .array .int
  | _ => .int
abbrev wsX40 : List Cond := u_ws RX4 TX4 2
theorem nmX4 : ∀ a, a < 2 → ∀ b, b < 2 → a ≠ b → (TX4 a).2.1 ≠ (TX4 b).2.1 := by decide +kernel
theorem tyX4_ok : ∀ k, k < 2 → parseFieldDescriptor (TX4 k).2.2.1 = some (tyX4 k) := by decide +kernel
abbrev cX4_init : ByteArray := prog_6_method_1_code
def yX4_init : MethodName := ⟨RX4, "<init>", "()V"⟩
abbrev cX4_add : ByteArray := prog_6_method_2_code
def yX4_add : MethodName := ⟨RX4, "add", "(I)V"⟩
abbrev cX4_codeAt : ByteArray := prog_6_method_3_code
def yX4_codeAt : MethodName := ⟨RX4, "codeAt", "(I)I"⟩
abbrev cX4_firstFault : ByteArray := prog_6_method_4_code
def yX4_firstFault : MethodName := ⟨RX4, "firstFault", "()I"⟩
abbrev cX4_isLine : ByteArray := prog_6_method_5_code
def yX4_isLine : MethodName := ⟨RX4, "isLine", "()Z"⟩
abbrev cX4_qualityAt : ByteArray := prog_6_method_6_code
def yX4_qualityAt : MethodName := ⟨RX4, "qualityAt", "(II)I"⟩
abbrev cX4_delay : ByteArray := prog_6_method_7_code
def yX4_delay : MethodName := ⟨RX4, "delay", "()I"⟩
abbrev cX4_hurtOf : ByteArray := prog_6_method_8_code
def yX4_hurtOf : MethodName := ⟨RX4, "hurtOf", "(I)I"⟩
abbrev cX4_fits : ByteArray := prog_6_method_9_code
def yX4_fits : MethodName := ⟨RX4, "fits", "(I)Z"⟩
abbrev cX4_fitsHurt : ByteArray := prog_6_method_10_code
def yX4_fitsHurt : MethodName := ⟨RX4, "fitsHurt", "(II)Z"⟩
abbrev cX4_commaAhead : ByteArray := prog_6_method_11_code
def yX4_commaAhead : MethodName := ⟨RX4, "commaAhead", "(I)I"⟩
abbrev cX4_number : ByteArray := prog_6_method_12_code
def yX4_number : MethodName := ⟨RX4, "number", "(II)I"⟩
abbrev cX4_figure : ByteArray := prog_6_method_13_code
def yX4_figure : MethodName := ⟨RX4, "figure", "(I)I"⟩
def RX5 : String := "TwoModems$Phase"
def TX5 : u_T := fun k => match k with
  | _ => ("", "", "", false)
def tyX5 : Nat → FieldType := fun k => match k with
  | _ => .int
abbrev wsX50 : List Cond := u_ws RX5 TX5 0
theorem nmX5 : ∀ a, a < 0 → ∀ b, b < 0 → a ≠ b → (TX5 a).2.1 ≠ (TX5 b).2.1 := by decide +kernel
theorem tyX5_ok : ∀ k, k < 0 → parseFieldDescriptor (TX5 k).2.2.1 = some (tyX5 k) := by decide +kernel
def RX6 : String := "TwoModems$Sort"
def TX6 : u_T := fun k => match k with
  | _ => ("", "", "", false)
def tyX6 : Nat → FieldType := fun k => match k with
  | _ => .int
abbrev wsX60 : List Cond := u_ws RX6 TX6 0
theorem nmX6 : ∀ a, a < 0 → ∀ b, b < 0 → a ≠ b → (TX6 a).2.1 ≠ (TX6 b).2.1 := by decide +kernel
theorem tyX6_ok : ∀ k, k < 0 → parseFieldDescriptor (TX6 k).2.2.1 = some (tyX6 k) := by decide +kernel
def RX7 : String := "TwoModems$Way"
def TX7 : u_T := fun k => match k with
  | 0 => ("TwoModems$Way", "quality", "[I", true)
  | 1 => ("TwoModems$Way", "latest", "[I", true)
  | 2 => ("TwoModems$Way", "rows", "[I", true)
  | 3 => ("TwoModems$Way", "full", "[Z", true)
  | 4 => ("TwoModems$Way", "hurt", "I", false)
  | 5 => ("TwoModems$Way", "came", "I", false)
  | 6 => ("TwoModems$Way", "harmed", "I", false)
  | _ => ("TwoModems$Way", "underWay", "I", false)
def tyX7 : Nat → FieldType := fun k => match k with
  | 0 => .array .int
  | 1 => .array .int
  | 2 => .array .int
  | 3 => .array .boolean
  | 4 => .int
  | 5 => .int
  | 6 => .int
  | _ => .int
abbrev wsX70 : List Cond := u_ws RX7 TX7 8
theorem nmX7 : ∀ a, a < 8 → ∀ b, b < 8 → a ≠ b → (TX7 a).2.1 ≠ (TX7 b).2.1 := by decide +kernel
theorem tyX7_ok : ∀ k, k < 8 → parseFieldDescriptor (TX7 k).2.2.1 = some (tyX7 k) := by decide +kernel
abbrev cX7_init : ByteArray := prog_9_method_1_code
def yX7_init : MethodName := ⟨RX7, "<init>", "()V"⟩
abbrev cX7_send : ByteArray := prog_9_method_2_code
def yX7_send : MethodName := ⟨RX7, "send", "(IIIIII)V"⟩
abbrev cX7_enclose : ByteArray := prog_9_method_3_code
def yX7_enclose : MethodName := ⟨RX7, "enclose", "(III)V"⟩
abbrev cX7_bring : ByteArray := prog_9_method_4_code
def yX7_bring : MethodName := ⟨RX7, "bring", "(I)V"⟩
abbrev cX7_sort : ByteArray := prog_9_method_5_code
def yX7_sort : MethodName := ⟨RX7, "sort", "()I"⟩
abbrev cX7_first : ByteArray := prog_9_method_6_code
def yX7_first : MethodName := ⟨RX7, "first", "()I"⟩
abbrev cX7_second : ByteArray := prog_9_method_7_code
def yX7_second : MethodName := ⟨RX7, "second", "()I"⟩
abbrev cX7_letters : ByteArray := prog_9_method_8_code
def yX7_letters : MethodName := ⟨RX7, "letters", "()I"⟩
abbrev cX7_told : ByteArray := prog_9_method_9_code
def yX7_told : MethodName := ⟨RX7, "told", "()I"⟩
abbrev cX7_enclosed : ByteArray := prog_9_method_10_code
def yX7_enclosed : MethodName := ⟨RX7, "enclosed", "(I)I"⟩
def RX8 : String := "TwoModems"
def TX8 : u_T := fun k => match k with
  | 0 => ("TwoModems", "page", "LTwoModems$Page;", true)
  | 1 => ("TwoModems", "line", "LTwoModems$Line;", true)
  | 2 => ("TwoModems", "zero", "LTwoModems$Modem;", true)
  | 3 => ("TwoModems", "one", "LTwoModems$Modem;", true)
  | _ => ("TwoModems", "ticks", "I", false)
def tyX8 : Nat → FieldType := fun k => match k with
  | 0 => .object "TwoModems$Page"
  | 1 => .object "TwoModems$Line"
  | 2 => .object "TwoModems$Modem"
  | 3 => .object "TwoModems$Modem"
  | _ => .int
abbrev wsX80 : List Cond := u_ws RX8 TX8 5
theorem nmX8 : ∀ a, a < 5 → ∀ b, b < 5 → a ≠ b → (TX8 a).2.1 ≠ (TX8 b).2.1 := by decide +kernel
theorem tyX8_ok : ∀ k, k < 5 → parseFieldDescriptor (TX8 k).2.2.1 = some (tyX8 k) := by decide +kernel
abbrev cX8_init : ByteArray := prog_1_method_1_code
def yX8_init : MethodName := ⟨RX8, "<init>", "()V"⟩
abbrev cX8_letter : ByteArray := prog_1_method_2_code
def yX8_letter : MethodName := ⟨RX8, "letter", "(I)I"⟩
abbrev cX8_blank : ByteArray := prog_1_method_3_code
def yX8_blank : MethodName := ⟨RX8, "blank", "()I"⟩
abbrev cX8_fault : ByteArray := prog_1_method_4_code
def yX8_fault : MethodName := ⟨RX8, "fault", "()I"⟩
abbrev cX8_line : ByteArray := prog_1_method_5_code
def yX8_line : MethodName := ⟨RX8, "line", "()I"⟩
abbrev cX8_say : ByteArray := prog_1_method_6_code
def yX8_say : MethodName := ⟨RX8, "say", "(I)I"⟩
abbrev cX8_echo : ByteArray := prog_1_method_7_code
def yX8_echo : MethodName := ⟨RX8, "echo", "(III)I"⟩
abbrev cX8_call : ByteArray := prog_1_method_8_code
def yX8_call : MethodName := ⟨RX8, "call", "(I)I"⟩
abbrev cX8_hang : ByteArray := prog_1_method_9_code
def yX8_hang : MethodName := ⟨RX8, "hang", "(I)I"⟩
abbrev cX8_go : ByteArray := prog_1_method_10_code
def yX8_go : MethodName := ⟨RX8, "go", "(I)I"⟩
abbrev cX8_end : ByteArray := prog_1_method_11_code
def yX8_end : MethodName := ⟨RX8, "end", "(II)I"⟩
abbrev cX8_band : ByteArray := prog_1_method_12_code
def yX8_band : MethodName := ⟨RX8, "band", "(II)I"⟩
abbrev cX8_learnt : ByteArray := prog_1_method_13_code
def yX8_learnt : MethodName := ⟨RX8, "learnt", "(II)I"⟩
abbrev cX8_got : ByteArray := prog_1_method_14_code
def yX8_got : MethodName := ⟨RX8, "got", "(II)I"⟩
abbrev cX8_heard : ByteArray := prog_1_method_15_code
def yX8_heard : MethodName := ⟨RX8, "heard", "(II)I"⟩
abbrev cX8_about : ByteArray := prog_1_method_16_code
def yX8_about : MethodName := ⟨RX8, "about", "(I)I"⟩
abbrev cX8_count : ByteArray := prog_1_method_17_code
def yX8_count : MethodName := ⟨RX8, "count", "(I)I"⟩
abbrev cX8_digest : ByteArray := prog_1_method_18_code
def yX8_digest : MethodName := ⟨RX8, "digest", "()J"⟩
abbrev cX8_digestOfEnd : ByteArray := prog_1_method_19_code
def yX8_digestOfEnd : MethodName := ⟨RX8, "digestOfEnd", "(IJ)J"⟩
abbrev cX8_modemAt : ByteArray := prog_1_method_20_code
def yX8_modemAt : MethodName := ⟨RX8, "modemAt", "(I)LTwoModems$Modem;"⟩
abbrev cX8_changes : ByteArray := prog_1_method_21_code
def yX8_changes : MethodName := ⟨RX8, "changes", "()I"⟩
def RX9 : String := "TwoModemsModel"
def TX9 : u_T := fun k => match k with
  | 0 => ("TwoModemsModel", "ends", "[I", true)
  | 1 => ("TwoModemsModel", "noted", "[I", true)
  | 2 => ("TwoModemsModel", "learnts", "[I", true)
  | 3 => ("TwoModemsModel", "taps", "[I", true)
  | 4 => ("TwoModemsModel", "said", "[I", true)
  | 5 => ("TwoModemsModel", "gotten", "[I", true)
  | 6 => ("TwoModemsModel", "hears", "[I", true)
  | 7 => ("TwoModemsModel", "quality", "[I", true)
  | 8 => ("TwoModemsModel", "delay", "I", false)
  | 9 => ("TwoModemsModel", "hurts", "[I", true)
  | 10 => ("TwoModemsModel", "comes", "[I", true)
  | 11 => ("TwoModemsModel", "acks", "[I", true)
  | 12 => ("TwoModemsModel", "tick", "I", false)
  | 13 => ("TwoModemsModel", "came", "[I", true)
  | 14 => ("TwoModemsModel", "wereHurt", "[I", true)
  | 15 => ("TwoModemsModel", "changes", "I", false)
  | 16 => ("TwoModemsModel", "lines", "I", false)
  | 17 => ("TwoModemsModel", "sentAgain", "I", false)
  | 18 => ("TwoModemsModel", "pageLength", "I", false)
  | 19 => ("TwoModemsModel", "page", "[I", true)
  | 20 => ("TwoModemsModel", "newQuality", "[I", true)
  | 21 => ("TwoModemsModel", "newDelay", "I", false)
  | 22 => ("TwoModemsModel", "newHurts", "[I", true)
  | 23 => ("TwoModemsModel", "hurtNow", "I", false)
  | 24 => ("TwoModemsModel", "figures", "I", false)
  | 25 => ("TwoModemsModel", "letters", "[I", true)
  | 26 => ("TwoModemsModel", "isChanged", "Z", false)
  | 27 => ("TwoModemsModel", "grew", "Z", false)
  | 28 => ("TwoModemsModel", "sends", "I", false)
  | _ => ("TwoModemsModel", "h", "J", false)
def tyX9 : Nat → FieldType := fun k => match k with
  | 0 => .array .int
  | 1 => .array .int
  | 2 => .array .int
  | 3 => .array .int
  | 4 => .array .int
  | 5 => .array .int
  | 6 => .array .int
  | 7 => .array .int
  | 8 => .int
  | 9 => .array .int
  | 10 => .array .int
  | 11 => .array .int
  | 12 => .int
  | 13 => .array .int
  | 14 => .array .int
  | 15 => .int
  | 16 => .int
  | 17 => .int
  | 18 => .int
  | 19 => .array .int
  | 20 => .array .int
  | 21 => .int
  | 22 => .array .int
  | 23 => .int
  | 24 => .int
  | 25 => .array .int
  | 26 => .boolean
  | 27 => .boolean
  | 28 => .int
  | _ => .long
abbrev wsX90 : List Cond := u_ws RX9 TX9 30
theorem nmX9 : ∀ a, a < 30 → ∀ b, b < 30 → a ≠ b → (TX9 a).2.1 ≠ (TX9 b).2.1 := by decide +kernel
theorem tyX9_ok : ∀ k, k < 30 → parseFieldDescriptor (TX9 k).2.2.1 = some (tyX9 k) := by decide +kernel
abbrev cX9_init : ByteArray := prog_11_method_1_code
def yX9_init : MethodName := ⟨RX9, "<init>", "()V"⟩
abbrev cX9_within : ByteArray := prog_11_method_3_code
def yX9_within : MethodName := ⟨RX9, "within", "(III)Z"⟩
abbrev cX9_letter : ByteArray := prog_11_method_4_code
def yX9_letter : MethodName := ⟨RX9, "letter", "(I)I"⟩
abbrev cX9_blank : ByteArray := prog_11_method_5_code
def yX9_blank : MethodName := ⟨RX9, "blank", "()I"⟩
abbrev cX9_sixteenth : ByteArray := prog_11_method_6_code
def yX9_sixteenth : MethodName := ⟨RX9, "sixteenth", "(I)I"⟩
abbrev cX9_takesQuality : ByteArray := prog_11_method_7_code
def yX9_takesQuality : MethodName := ⟨RX9, "takesQuality", "(II)Z"⟩
abbrev cX9_takesHurt : ByteArray := prog_11_method_8_code
def yX9_takesHurt : MethodName := ⟨RX9, "takesHurt", "(I)Z"⟩
abbrev cX9_takes : ByteArray := prog_11_method_9_code
def yX9_takes : MethodName := ⟨RX9, "takes", "(II)Z"⟩
abbrev cX9_read : ByteArray := prog_11_method_10_code
def yX9_read : MethodName := ⟨RX9, "read", "()I"⟩
abbrev cX9_fault : ByteArray := prog_11_method_11_code
def yX9_fault : MethodName := ⟨RX9, "fault", "()I"⟩
abbrev cX9_line : ByteArray := prog_11_method_12_code
def yX9_line : MethodName := ⟨RX9, "line", "()I"⟩
abbrev cX9_isEnd : ByteArray := prog_11_method_13_code
def yX9_isEnd : MethodName := ⟨RX9, "isEnd", "(I)Z"⟩
abbrev cX9_of : ByteArray := prog_11_method_14_code
def yX9_of : MethodName := ⟨RX9, "of", "(II)I"⟩
abbrev cX9_put : ByteArray := prog_11_method_15_code
def yX9_put : MethodName := ⟨RX9, "put", "(III)V"⟩
abbrev cX9_add : ByteArray := prog_11_method_16_code
def yX9_add : MethodName := ⟨RX9, "add", "(III)V"⟩
abbrev cX9_say : ByteArray := prog_11_method_17_code
def yX9_say : MethodName := ⟨RX9, "say", "(I)I"⟩
abbrev cX9_echo : ByteArray := prog_11_method_18_code
def yX9_echo : MethodName := ⟨RX9, "echo", "(III)I"⟩
abbrev cX9_goesTo : ByteArray := prog_11_method_19_code
def yX9_goesTo : MethodName := ⟨RX9, "goesTo", "(II)V"⟩
abbrev cX9_call : ByteArray := prog_11_method_20_code
def yX9_call : MethodName := ⟨RX9, "call", "(I)I"⟩
abbrev cX9_hang : ByteArray := prog_11_method_21_code
def yX9_hang : MethodName := ⟨RX9, "hang", "(I)I"⟩
abbrev cX9_slot : ByteArray := prog_11_method_22_code
def yX9_slot : MethodName := ⟨RX9, "slot", "(II)I"⟩
abbrev cX9_ear : ByteArray := prog_11_method_23_code
def yX9_ear : MethodName := ⟨RX9, "ear", "(II)I"⟩
abbrev cX9_hear : ByteArray := prog_11_method_24_code
def yX9_hear : MethodName := ⟨RX9, "hear", "(I)V"⟩
abbrev cX9_into : ByteArray := prog_11_method_25_code
def yX9_into : MethodName := ⟨RX9, "into", "(II)V"⟩
abbrev cX9_mayGiveUp : ByteArray := prog_11_method_26_code
def yX9_mayGiveUp : MethodName := ⟨RX9, "mayGiveUp", "(I)V"⟩
abbrev cX9_note : ByteArray := prog_11_method_27_code
def yX9_note : MethodName := ⟨RX9, "note", "(I)V"⟩
abbrev cX9_hearsOffer : ByteArray := prog_11_method_28_code
def yX9_hearsOffer : MethodName := ⟨RX9, "hearsOffer", "(I)V"⟩
abbrev cX9_agrees : ByteArray := prog_11_method_29_code
def yX9_agrees : MethodName := ⟨RX9, "agrees", "(II)V"⟩
abbrev cX9_bargains : ByteArray := prog_11_method_30_code
def yX9_bargains : MethodName := ⟨RX9, "bargains", "(I)V"⟩
abbrev cX9_takesFrame : ByteArray := prog_11_method_31_code
def yX9_takesFrame : MethodName := ⟨RX9, "takesFrame", "(I)V"⟩
abbrev cX9_hearsInData : ByteArray := prog_11_method_32_code
def yX9_hearsInData : MethodName := ⟨RX9, "hearsInData", "(I)V"⟩
abbrev cX9_answers : ByteArray := prog_11_method_33_code
def yX9_answers : MethodName := ⟨RX9, "answers", "(I)V"⟩
abbrev cX9_hearsInAgree : ByteArray := prog_11_method_34_code
def yX9_hearsInAgree : MethodName := ⟨RX9, "hearsInAgree", "(I)V"⟩
abbrev cX9_hearsIn : ByteArray := prog_11_method_35_code
def yX9_hearsIn : MethodName := ⟨RX9, "hearsIn", "(I)V"⟩
abbrev cX9_size : ByteArray := prog_11_method_36_code
def yX9_size : MethodName := ⟨RX9, "size", "(I)I"⟩
abbrev cX9_makeOffer : ByteArray := prog_11_method_37_code
def yX9_makeOffer : MethodName := ⟨RX9, "makeOffer", "(I)V"⟩
abbrev cX9_ones : ByteArray := prog_11_method_38_code
def yX9_ones : MethodName := ⟨RX9, "ones", "(I)I"⟩
abbrev cX9_looksInData : ByteArray := prog_11_method_39_code
def yX9_looksInData : MethodName := ⟨RX9, "looksInData", "(I)V"⟩
abbrev cX9_looksIn : ByteArray := prog_11_method_40_code
def yX9_looksIn : MethodName := ⟨RX9, "looksIn", "(I)V"⟩
abbrev cX9_send : ByteArray := prog_11_method_41_code
def yX9_send : MethodName := ⟨RX9, "send", "(IIIIII)V"⟩
abbrev cX9_signOf : ByteArray := prog_11_method_42_code
def yX9_signOf : MethodName := ⟨RX9, "signOf", "(I)I"⟩
abbrev cX9_trains : ByteArray := prog_11_method_43_code
def yX9_trains : MethodName := ⟨RX9, "trains", "(I)V"⟩
abbrev cX9_lesser : ByteArray := prog_11_method_44_code
def yX9_lesser : MethodName := ⟨RX9, "lesser", "(II)I"⟩
abbrev cX9_sendsFrame : ByteArray := prog_11_method_45_code
def yX9_sendsFrame : MethodName := ⟨RX9, "sendsFrame", "(I)V"⟩
abbrev cX9_sendsIn : ByteArray := prog_11_method_46_code
def yX9_sendsIn : MethodName := ⟨RX9, "sendsIn", "(I)V"⟩
abbrev cX9_does : ByteArray := prog_11_method_47_code
def yX9_does : MethodName := ⟨RX9, "does", "(I)V"⟩
abbrev cX9_go : ByteArray := prog_11_method_48_code
def yX9_go : MethodName := ⟨RX9, "go", "(I)I"⟩
abbrev cX9_end : ByteArray := prog_11_method_49_code
def yX9_end : MethodName := ⟨RX9, "end", "(II)I"⟩
abbrev cX9_band : ByteArray := prog_11_method_50_code
def yX9_band : MethodName := ⟨RX9, "band", "(II)I"⟩
abbrev cX9_learnt : ByteArray := prog_11_method_51_code
def yX9_learnt : MethodName := ⟨RX9, "learnt", "(II)I"⟩
abbrev cX9_got : ByteArray := prog_11_method_52_code
def yX9_got : MethodName := ⟨RX9, "got", "(II)I"⟩
abbrev cX9_heard : ByteArray := prog_11_method_53_code
def yX9_heard : MethodName := ⟨RX9, "heard", "(II)I"⟩
abbrev cX9_onWay : ByteArray := prog_11_method_54_code
def yX9_onWay : MethodName := ⟨RX9, "onWay", "()I"⟩
abbrev cX9_aboutNow : ByteArray := prog_11_method_55_code
def yX9_aboutNow : MethodName := ⟨RX9, "aboutNow", "(I)I"⟩
abbrev cX9_about : ByteArray := prog_11_method_56_code
def yX9_about : MethodName := ⟨RX9, "about", "(I)I"⟩
abbrev cX9_howMany : ByteArray := prog_11_method_57_code
def yX9_howMany : MethodName := ⟨RX9, "howMany", "(I)I"⟩
abbrev cX9_count : ByteArray := prog_11_method_58_code
def yX9_count : MethodName := ⟨RX9, "count", "(I)I"⟩
abbrev cX9_mix : ByteArray := prog_11_method_59_code
def yX9_mix : MethodName := ⟨RX9, "mix", "(J)V"⟩
abbrev cX9_mixEnd : ByteArray := prog_11_method_60_code
def yX9_mixEnd : MethodName := ⟨RX9, "mixEnd", "(I)V"⟩
abbrev cX9_digest : ByteArray := prog_11_method_61_code
def yX9_digest : MethodName := ⟨RX9, "digest", "()J"⟩
def RJ6 : String := "java/lang/Integer"
def TJ6 : u_T := fun k => match k with
  | _ => ("", "", "", false)
def tyJ6 : Nat → FieldType := fun k => match k with
  | _ => .int
abbrev wsJ60 : List Cond := u_ws RJ6 TJ6 0
theorem nmJ6 : ∀ a, a < 0 → ∀ b, b < 0 → a ≠ b → (TJ6 a).2.1 ≠ (TJ6 b).2.1 := by decide +kernel
theorem tyJ6_ok : ∀ k, k < 0 → parseFieldDescriptor (TJ6 k).2.2.1 = some (tyJ6 k) := by decide +kernel
abbrev cJ6_bitCount_0f7a4 : ByteArray := prog_12_method_49_code
def yJ6_bitCount_0f7a4 : MethodName := ⟨RJ6, "bitCount", "(I)I"⟩
def RJ9 : String := "java/lang/Math"
def TJ9 : u_T := fun k => match k with
  | _ => ("", "", "", false)
def tyJ9 : Nat → FieldType := fun k => match k with
  | _ => .int
abbrev wsJ90 : List Cond := u_ws RJ9 TJ9 0
theorem nmJ9 : ∀ a, a < 0 → ∀ b, b < 0 → a ≠ b → (TJ9 a).2.1 ≠ (TJ9 b).2.1 := by decide +kernel
theorem tyJ9_ok : ∀ k, k < 0 → parseFieldDescriptor (TJ9 k).2.2.1 = some (tyJ9 k) := by decide +kernel
abbrev cJ9_abs_0f7a4 : ByteArray := prog_13_method_59_code
def yJ9_abs_0f7a4 : MethodName := ⟨RJ9, "abs", "(I)I"⟩
abbrev cJ9_max_7cf53 : ByteArray := prog_13_method_65_code
def yJ9_max_7cf53 : MethodName := ⟨RJ9, "max", "(II)I"⟩
abbrev cJ9_min_7cf53 : ByteArray := prog_13_method_69_code
def yJ9_min_7cf53 : MethodName := ⟨RJ9, "min", "(II)I"⟩
def RL : String := "TwoModemsLaw"
abbrev cL_law : ByteArray := code
def yL_law : MethodName := ⟨RL, "law", "([I)Z"⟩
def wsX0_init : List Cond := .code yX0_init cX0_init 1 none :: ([.methodLink RX0 3 objectInit, .instanceMethod objectInit, .code objectInit ⟨#[0xb1]⟩ 1 none, .arrayClass .int, .fieldLink RX0 9 "TwoModems$Echo" "taps" "[I", .fieldLink RX0 15 "TwoModems$Echo" "learnt" "[I"] ++ wsX00)
def wsX0_forget : List Cond := .code yX0_forget cX0_forget 2 none :: ([.fieldLink RX0 15 "TwoModems$Echo" "learnt" "[I"] ++ wsX00)
def wsX0_sign : List Cond := .code yX0_sign cX0_sign 2 (some .int) :: ([])
def wsX0_follow : List Cond := .code yX0_follow cX0_follow 4 none :: ([.fieldLink RX0 9 "TwoModems$Echo" "taps" "[I", .fieldLink RX0 15 "TwoModems$Echo" "learnt" "[I", .methodLink RX0 18 yX0_sign, .instanceMethod yX0_sign, .selects RX0 yX0_sign yX0_sign, .initialized RX0, .code yX0_sign cX0_sign 2 (some .int)] ++ wsX00)
def wsX0_remains : List Cond := .code yX0_remains cX0_remains 3 (some .int) :: ([.fieldLink RX0 9 "TwoModems$Echo" "taps" "[I", .fieldLink RX0 15 "TwoModems$Echo" "learnt" "[I", .methodLink RX0 22 Lib.Math.abs.name, .static Lib.Math.abs.name, .initialized "java/lang/Math", .code Lib.Math.abs.name Lib.Math.abs.code 1 (some .int)] ++ wsX00)
def wsX7_init : List Cond := .code yX7_init cX7_init 2 none :: ([.methodLink RX7 5 objectInit, .instanceMethod objectInit, .code objectInit ⟨#[0xb1]⟩ 1 none, .arrayClass .int, .fieldLink RX7 11 "TwoModems$Way" "quality" "[I", .fieldLink RX7 15 "TwoModems$Way" "latest" "[I", .fieldLink RX7 18 "TwoModems$Way" "rows" "[I", .arrayClass .boolean, .fieldLink RX7 21 "TwoModems$Way" "full" "[Z", .fieldLink RX7 25 "TwoModems$Way" "hurt" "I", .fieldLink RX7 29 "TwoModems$Way" "came" "I", .fieldLink RX7 32 "TwoModems$Way" "harmed" "I", .fieldLink RX7 35 "TwoModems$Way" "underWay" "I"] ++ wsX70)
def wsX1_init : List Cond := .code yX1_init cX1_init 1 none :: ([.methodLink RX1 3 objectInit, .instanceMethod objectInit, .code objectInit ⟨#[0xb1]⟩ 1 none, .classLink RX1 9 RX7, .instantiable RX7 8, .initialized RX7, .fieldLink RX1 12 "TwoModems$Line" "forth" "LTwoModems$Way;", .fieldLink RX1 18 "TwoModems$Line" "back" "LTwoModems$Way;", .fieldLink RX1 21 "TwoModems$Line" "delay" "I", .fieldLink RX1 25 "TwoModems$Line" "readings" "I", .methodLink RX1 11 yX7_init, .instanceMethod yX7_init, .code yX7_init cX7_init 2 none, .methodLink RX7 5 objectInit, .arrayClass .int, .fieldLink RX7 11 "TwoModems$Way" "quality" "[I", .fieldLink RX7 15 "TwoModems$Way" "latest" "[I", .fieldLink RX7 18 "TwoModems$Way" "rows" "[I", .arrayClass .boolean, .fieldLink RX7 21 "TwoModems$Way" "full" "[Z", .fieldLink RX7 25 "TwoModems$Way" "hurt" "I", .fieldLink RX7 29 "TwoModems$Way" "came" "I", .fieldLink RX7 32 "TwoModems$Way" "harmed" "I", .fieldLink RX7 35 "TwoModems$Way" "underWay" "I"] ++ wsX70 ++ wsX10)
def wsX4_codeAt : List Cond := .code yX4_codeAt cX4_codeAt 2 (some .int) :: ([.fieldLink RX4 15 "TwoModems$Page" "size" "I", .fieldLink RX4 11 "TwoModems$Page" "codes" "[I"] ++ wsX40)
def wsX4_figure : List Cond := .code yX4_figure cX4_figure 2 (some .int) :: ([])
def wsX4_qualityAt : List Cond := .code yX4_qualityAt cX4_qualityAt 3 (some .int) :: ([.methodLink RX4 31 yX4_codeAt, .instanceMethod yX4_codeAt, .selects RX4 yX4_codeAt yX4_codeAt, .initialized RX4, .code yX4_codeAt cX4_codeAt 2 (some .int), .fieldLink RX4 15 "TwoModems$Page" "size" "I", .fieldLink RX4 11 "TwoModems$Page" "codes" "[I", .methodLink RX4 34 yX4_figure, .instanceMethod yX4_figure, .selects RX4 yX4_figure yX4_figure, .code yX4_figure cX4_figure 2 (some .int)] ++ wsX40)
def wsX4_delay : List Cond := .code yX4_delay cX4_delay 1 (some .int) :: ([.methodLink RX4 31 yX4_codeAt, .instanceMethod yX4_codeAt, .selects RX4 yX4_codeAt yX4_codeAt, .initialized RX4, .code yX4_codeAt cX4_codeAt 2 (some .int), .fieldLink RX4 15 "TwoModems$Page" "size" "I", .fieldLink RX4 11 "TwoModems$Page" "codes" "[I"] ++ wsX40)
def wsX4_commaAhead : List Cond := .code yX4_commaAhead cX4_commaAhead 3 (some .int) :: ([.methodLink RX4 31 yX4_codeAt, .instanceMethod yX4_codeAt, .selects RX4 yX4_codeAt yX4_codeAt, .initialized RX4, .code yX4_codeAt cX4_codeAt 2 (some .int), .fieldLink RX4 15 "TwoModems$Page" "size" "I", .fieldLink RX4 11 "TwoModems$Page" "codes" "[I"] ++ wsX40)
def wsX4_number : List Cond := .code yX4_number cX4_number 5 (some .int) :: ([.methodLink RX4 31 yX4_codeAt, .instanceMethod yX4_codeAt, .selects RX4 yX4_codeAt yX4_codeAt, .initialized RX4, .code yX4_codeAt cX4_codeAt 2 (some .int), .fieldLink RX4 15 "TwoModems$Page" "size" "I", .fieldLink RX4 11 "TwoModems$Page" "codes" "[I"] ++ wsX40)
def wsX4_hurtOf : List Cond := .code yX4_hurtOf cX4_hurtOf 3 (some .int) :: ([.fieldLink RX4 15 "TwoModems$Page" "size" "I", .methodLink RX4 27 yX4_commaAhead, .instanceMethod yX4_commaAhead, .selects RX4 yX4_commaAhead yX4_commaAhead, .initialized RX4, .code yX4_commaAhead cX4_commaAhead 3 (some .int), .methodLink RX4 31 yX4_codeAt, .instanceMethod yX4_codeAt, .selects RX4 yX4_codeAt yX4_codeAt, .code yX4_codeAt cX4_codeAt 2 (some .int), .fieldLink RX4 11 "TwoModems$Page" "codes" "[I", .methodLink RX4 37 yX4_number, .instanceMethod yX4_number, .selects RX4 yX4_number yX4_number, .code yX4_number cX4_number 5 (some .int)] ++ wsX40)
def wsX1_read_r1 : List Cond := [Cond.fieldLink RX1 12 "TwoModems$Line" "forth" "LTwoModems$Way;", Cond.fieldLink RX1 28 "TwoModems$Way" "quality" "[I", Cond.fieldLink RX1 18 "TwoModems$Line" "back" "LTwoModems$Way;", Cond.fieldLink RX1 21 "TwoModems$Line" "delay" "I", Cond.fieldLink RX1 45 "TwoModems$Way" "hurt" "I", Cond.fieldLink RX1 25 "TwoModems$Line" "readings" "I", Cond.methodLink RX1 32 yX4_qualityAt, Cond.instanceMethod yX4_qualityAt, Cond.selects RX4 yX4_qualityAt yX4_qualityAt, Cond.initialized RX4, Cond.code yX4_qualityAt cX4_qualityAt 3 (some .int), Cond.methodLink RX4 31 yX4_codeAt, Cond.instanceMethod yX4_codeAt, Cond.selects RX4 yX4_codeAt yX4_codeAt, Cond.code yX4_codeAt cX4_codeAt 2 (some .int), Cond.fieldLink RX4 15 "TwoModems$Page" "size" "I", Cond.fieldLink RX4 11 "TwoModems$Page" "codes" "[I", Cond.methodLink RX4 34 yX4_figure, Cond.instanceMethod yX4_figure, Cond.selects RX4 yX4_figure yX4_figure, Cond.code yX4_figure cX4_figure 2 (some .int), Cond.methodLink RX1 38 yX4_delay, Cond.instanceMethod yX4_delay, Cond.selects RX4 yX4_delay yX4_delay]
def wsX1_read_r2 : List Cond := [Cond.code yX4_delay cX4_delay 1 (some .int), Cond.methodLink RX1 41 yX4_hurtOf, Cond.instanceMethod yX4_hurtOf, Cond.selects RX4 yX4_hurtOf yX4_hurtOf, Cond.code yX4_hurtOf cX4_hurtOf 3 (some .int), Cond.methodLink RX4 27 yX4_commaAhead, Cond.instanceMethod yX4_commaAhead, Cond.selects RX4 yX4_commaAhead yX4_commaAhead, Cond.code yX4_commaAhead cX4_commaAhead 3 (some .int), Cond.methodLink RX4 37 yX4_number, Cond.instanceMethod yX4_number, Cond.selects RX4 yX4_number yX4_number, Cond.code yX4_number cX4_number 5 (some .int)]
def wsX1_read : List Cond := .code yX1_read cX1_read 3 none :: ((wsX1_read_r1 ++ wsX1_read_r2) ++ wsX10 ++ wsX70 ++ wsX40)
def wsX2_init : List Cond := .code yX2_init cX2_init 1 none :: ([.methodLink RX2 1 objectInit, .instanceMethod objectInit, .code objectInit ⟨#[0xb1]⟩ 1 none, .arrayClass .int, .fieldLink RX2 9 "TwoModems$Mail" "toSend" "[I", .fieldLink RX2 13 "TwoModems$Mail" "takenCodes" "[I", .fieldLink RX2 16 "TwoModems$Mail" "said" "I", .fieldLink RX2 20 "TwoModems$Mail" "taken" "I", .fieldLink RX2 23 "TwoModems$Mail" "told" "I", .fieldLink RX2 26 "TwoModems$Mail" "next" "I", .fieldLink RX2 29 "TwoModems$Mail" "repeated" "I", .fieldLink RX2 32 "TwoModems$Mail" "sentBelow" "I"] ++ wsX20)
def wsX2_add : List Cond := .code yX2_add cX2_add 2 none :: ([.fieldLink RX2 16 "TwoModems$Mail" "said" "I", .fieldLink RX2 9 "TwoModems$Mail" "toSend" "[I"] ++ wsX20)
def wsX2_takenAt : List Cond := .code yX2_takenAt cX2_takenAt 2 (some .int) :: ([.fieldLink RX2 20 "TwoModems$Mail" "taken" "I", .fieldLink RX2 13 "TwoModems$Mail" "takenCodes" "[I"] ++ wsX20)
def wsX7_second : List Cond := .code yX7_second cX7_second 1 (some .int) :: ([.fieldLink RX7 15 "TwoModems$Way" "latest" "[I"] ++ wsX70)
def wsX7_letters : List Cond := .code yX7_letters cX7_letters 1 (some .int) :: ([.fieldLink RX7 15 "TwoModems$Way" "latest" "[I"] ++ wsX70)
def wsX7_enclosed : List Cond := .code yX7_enclosed cX7_enclosed 2 (some .int) :: ([.fieldLink RX7 15 "TwoModems$Way" "latest" "[I"] ++ wsX70)
def wsX7_told : List Cond := .code yX7_told cX7_told 1 (some .int) :: ([.fieldLink RX7 15 "TwoModems$Way" "latest" "[I"] ++ wsX70)
def wsX2_take_r1 : List Cond := [Cond.fieldLink RX2 20 "TwoModems$Mail" "taken" "I", Cond.fieldLink RX2 13 "TwoModems$Mail" "takenCodes" "[I", Cond.fieldLink RX2 23 "TwoModems$Mail" "told" "I", Cond.methodLink RX2 50 Lib.Math.max.name, Cond.static Lib.Math.max.name, Cond.initialized "java/lang/Math", Cond.code Lib.Math.max.name Lib.Math.max.code 2 (some .int), Cond.methodLink RX2 35 yX7_second, Cond.instanceMethod yX7_second, Cond.selects RX7 yX7_second yX7_second, Cond.initialized RX7, Cond.code yX7_second cX7_second 1 (some .int), Cond.fieldLink RX7 15 "TwoModems$Way" "latest" "[I", Cond.methodLink RX2 41 yX7_letters, Cond.instanceMethod yX7_letters, Cond.selects RX7 yX7_letters yX7_letters, Cond.code yX7_letters cX7_letters 1 (some .int), Cond.methodLink RX2 44 yX7_enclosed, Cond.instanceMethod yX7_enclosed, Cond.selects RX7 yX7_enclosed yX7_enclosed, Cond.code yX7_enclosed cX7_enclosed 2 (some .int), Cond.methodLink RX2 48 yX7_told, Cond.instanceMethod yX7_told, Cond.selects RX7 yX7_told yX7_told]
def wsX2_take_r2 : List Cond := [Cond.code yX7_told cX7_told 1 (some .int)]
def wsX2_take : List Cond := .code yX2_take cX2_take 3 none :: ((wsX2_take_r1 ++ wsX2_take_r2) ++ wsX20 ++ wsX70)
def wsX2_ready : List Cond := .code yX2_ready cX2_ready 2 (some .int) :: ([.fieldLink RX2 16 "TwoModems$Mail" "said" "I", .fieldLink RX2 26 "TwoModems$Mail" "next" "I", .fieldLink RX2 23 "TwoModems$Mail" "told" "I", .methodLink RX2 56 Lib.Math.min.name, .static Lib.Math.min.name, .initialized "java/lang/Math", .code Lib.Math.min.name Lib.Math.min.code 2 (some .int)] ++ wsX20)
def wsX2_pass : List Cond := .code yX2_pass cX2_pass 2 (some .int) :: ([.fieldLink RX2 26 "TwoModems$Mail" "next" "I", .fieldLink RX2 9 "TwoModems$Mail" "toSend" "[I", .fieldLink RX2 32 "TwoModems$Mail" "sentBelow" "I", .fieldLink RX2 29 "TwoModems$Mail" "repeated" "I", .methodLink RX2 50 Lib.Math.max.name, .static Lib.Math.max.name, .initialized "java/lang/Math", .code Lib.Math.max.name Lib.Math.max.code 2 (some .int)] ++ wsX20)
def wsX3_init_r1 : List Cond := [Cond.methodLink RX3 3 objectInit, Cond.instanceMethod objectInit, Cond.code objectInit ⟨#[0xb1]⟩ 1 none, Cond.classLink RX3 9 RX0, Cond.instantiable RX0 2, Cond.initialized RX0, Cond.fieldLink RX3 12 "TwoModems$Modem" "echo" "LTwoModems$Echo;", Cond.classLink RX3 18 RX2, Cond.instantiable RX2 8, Cond.initialized RX2, Cond.fieldLink RX3 21 "TwoModems$Modem" "mail" "LTwoModems$Mail;", Cond.arrayClass .int, Cond.fieldLink RX3 25 "TwoModems$Modem" "noted" "[I", Cond.fieldLink RX3 31 "TwoModems$Modem" "phase" "I", Cond.fieldLink RX3 35 "TwoModems$Modem" "changes" "I", Cond.fieldLink RX3 38 "TwoModems$Modem" "lasted" "I", Cond.fieldLink RX3 41 "TwoModems$Modem" "silences" "I", Cond.fieldLink RX3 44 "TwoModems$Modem" "round" "I", Cond.fieldLink RX3 47 "TwoModems$Modem" "offer" "I", Cond.fieldLink RX3 50 "TwoModems$Modem" "rate" "I", Cond.fieldLink RX3 53 "TwoModems$Modem" "credit" "I", Cond.fieldLink RX3 56 "TwoModems$Modem" "waited" "I", Cond.fieldLink RX3 59 "TwoModems$Modem" "remains" "I", Cond.fieldLink RX3 62 "TwoModems$Modem" "losses" "I"]
def wsX3_init_r2 : List Cond := [Cond.fieldLink RX3 65 "TwoModems$Modem" "surrenders" "I", Cond.fieldLink RX3 68 "TwoModems$Modem" "agains" "I", Cond.fieldLink RX3 71 "TwoModems$Modem" "datas" "I", Cond.fieldLink RX3 74 "TwoModems$Modem" "line" "LTwoModems$Line;", Cond.fieldLink RX3 78 "TwoModems$Modem" "in" "LTwoModems$Way;", Cond.fieldLink RX3 82 "TwoModems$Modem" "out" "LTwoModems$Way;", Cond.instanceMethod yX0_init, Cond.code yX0_init cX0_init 1 none, Cond.methodLink RX0 3 objectInit, Cond.fieldLink RX0 9 "TwoModems$Echo" "taps" "[I", Cond.fieldLink RX0 15 "TwoModems$Echo" "learnt" "[I", Cond.instanceMethod yX2_init, Cond.code yX2_init cX2_init 1 none, Cond.methodLink RX2 1 objectInit, Cond.fieldLink RX2 9 "TwoModems$Mail" "toSend" "[I", Cond.fieldLink RX2 13 "TwoModems$Mail" "takenCodes" "[I", Cond.fieldLink RX2 16 "TwoModems$Mail" "said" "I", Cond.fieldLink RX2 20 "TwoModems$Mail" "taken" "I", Cond.fieldLink RX2 23 "TwoModems$Mail" "told" "I", Cond.fieldLink RX2 26 "TwoModems$Mail" "next" "I", Cond.fieldLink RX2 29 "TwoModems$Mail" "repeated" "I", Cond.fieldLink RX2 32 "TwoModems$Mail" "sentBelow" "I"]
def wsX3_init : List Cond := .code yX3_init cX3_init 4 none :: ((wsX3_init_r1 ++ wsX3_init_r2) ++ wsX00 ++ wsX30 ++ wsX20)
def wsX3_fact : List Cond := .code yX3_fact cX3_fact 2 (some .int) :: ([.fieldLink RX3 31 "TwoModems$Modem" "phase" "I", .fieldLink RX3 38 "TwoModems$Modem" "lasted" "I", .fieldLink RX3 44 "TwoModems$Modem" "round" "I", .fieldLink RX3 47 "TwoModems$Modem" "offer" "I", .fieldLink RX3 50 "TwoModems$Modem" "rate" "I", .fieldLink RX3 53 "TwoModems$Modem" "credit" "I", .fieldLink RX3 21 "TwoModems$Modem" "mail" "LTwoModems$Mail;", .fieldLink RX3 85 "TwoModems$Mail" "said" "I", .fieldLink RX3 88 "TwoModems$Mail" "next" "I", .fieldLink RX3 91 "TwoModems$Mail" "told" "I", .fieldLink RX3 94 "TwoModems$Mail" "taken" "I", .fieldLink RX3 56 "TwoModems$Modem" "waited" "I", .fieldLink RX3 59 "TwoModems$Modem" "remains" "I", .fieldLink RX3 65 "TwoModems$Modem" "surrenders" "I", .fieldLink RX3 68 "TwoModems$Modem" "agains" "I", .fieldLink RX3 71 "TwoModems$Modem" "datas" "I", .fieldLink RX3 62 "TwoModems$Modem" "losses" "I"] ++ wsX30 ++ wsX20)
def wsX3_force : List Cond := .code yX3_force cX3_force 2 none :: ([.fieldLink RX3 31 "TwoModems$Modem" "phase" "I", .fieldLink RX3 38 "TwoModems$Modem" "lasted" "I"] ++ wsX30)
def wsX7_bring : List Cond := .code yX7_bring cX7_bring 5 none :: ([.fieldLink RX7 21 "TwoModems$Way" "full" "[Z", .fieldLink RX7 35 "TwoModems$Way" "underWay" "I", .fieldLink RX7 29 "TwoModems$Way" "came" "I", .fieldLink RX7 25 "TwoModems$Way" "hurt" "I", .fieldLink RX7 32 "TwoModems$Way" "harmed" "I", .fieldLink RX7 15 "TwoModems$Way" "latest" "[I", .fieldLink RX7 18 "TwoModems$Way" "rows" "[I"] ++ wsX70)
def wsX3_come : List Cond := .code yX3_come cX3_come 3 none :: ([.fieldLink RX3 31 "TwoModems$Modem" "phase" "I", .fieldLink RX3 38 "TwoModems$Modem" "lasted" "I", .fieldLink RX3 35 "TwoModems$Modem" "changes" "I", .fieldLink RX3 25 "TwoModems$Modem" "noted" "[I", .fieldLink RX3 12 "TwoModems$Modem" "echo" "LTwoModems$Echo;", .fieldLink RX3 53 "TwoModems$Modem" "credit" "I", .fieldLink RX3 56 "TwoModems$Modem" "waited" "I", .fieldLink RX3 62 "TwoModems$Modem" "losses" "I", .fieldLink RX3 21 "TwoModems$Modem" "mail" "LTwoModems$Mail;", .fieldLink RX3 91 "TwoModems$Mail" "told" "I", .fieldLink RX3 88 "TwoModems$Mail" "next" "I", .fieldLink RX3 71 "TwoModems$Modem" "datas" "I", .methodLink RX3 125 yX0_forget, .instanceMethod yX0_forget, .selects RX0 yX0_forget yX0_forget, .initialized RX0, .code yX0_forget cX0_forget 2 none, .fieldLink RX0 15 "TwoModems$Echo" "learnt" "[I"] ++ wsX30 ++ wsX20 ++ wsX00)
def wsX3_surrender_r1 : List Cond := [Cond.fieldLink RX3 31 "TwoModems$Modem" "phase" "I", Cond.fieldLink RX3 38 "TwoModems$Modem" "lasted" "I", Cond.fieldLink RX3 41 "TwoModems$Modem" "silences" "I", Cond.fieldLink RX3 65 "TwoModems$Modem" "surrenders" "I", Cond.methodLink RX3 128 yX3_come, Cond.instanceMethod yX3_come, Cond.selects RX3 yX3_come yX3_come, Cond.initialized RX3, Cond.code yX3_come cX3_come 3 none, Cond.fieldLink RX3 35 "TwoModems$Modem" "changes" "I", Cond.fieldLink RX3 25 "TwoModems$Modem" "noted" "[I", Cond.fieldLink RX3 12 "TwoModems$Modem" "echo" "LTwoModems$Echo;", Cond.fieldLink RX3 53 "TwoModems$Modem" "credit" "I", Cond.fieldLink RX3 56 "TwoModems$Modem" "waited" "I", Cond.fieldLink RX3 62 "TwoModems$Modem" "losses" "I", Cond.fieldLink RX3 21 "TwoModems$Modem" "mail" "LTwoModems$Mail;", Cond.fieldLink RX3 91 "TwoModems$Mail" "told" "I", Cond.fieldLink RX3 88 "TwoModems$Mail" "next" "I", Cond.fieldLink RX3 71 "TwoModems$Modem" "datas" "I", Cond.methodLink RX3 125 yX0_forget, Cond.instanceMethod yX0_forget, Cond.selects RX0 yX0_forget yX0_forget, Cond.initialized RX0, Cond.code yX0_forget cX0_forget 2 none]
def wsX3_surrender_r2 : List Cond := [Cond.fieldLink RX0 15 "TwoModems$Echo" "learnt" "[I"]
def wsX3_surrender : List Cond := .code yX3_surrender cX3_surrender 3 none :: ((wsX3_surrender_r1 ++ wsX3_surrender_r2) ++ wsX30 ++ wsX20 ++ wsX00)
def wsX7_sort : List Cond := .code yX7_sort cX7_sort 1 (some .int) :: ([.fieldLink RX7 15 "TwoModems$Way" "latest" "[I"] ++ wsX70)
def wsX7_first : List Cond := .code yX7_first cX7_first 1 (some .int) :: ([.fieldLink RX7 15 "TwoModems$Way" "latest" "[I"] ++ wsX70)
def wsX3_note : List Cond := .code yX3_note cX3_note 2 none :: ([.fieldLink RX3 25 "TwoModems$Modem" "noted" "[I", .fieldLink RX3 78 "TwoModems$Modem" "in" "LTwoModems$Way;", .fieldLink RX3 152 "TwoModems$Way" "quality" "[I"] ++ wsX30 ++ wsX70)
def wsX3_isOfRound : List Cond := .code yX3_isOfRound cX3_isOfRound 2 (some .boolean) :: ([.fieldLink RX3 78 "TwoModems$Modem" "in" "LTwoModems$Way;", .fieldLink RX3 44 "TwoModems$Modem" "round" "I", .methodLink RX3 113 yX7_sort, .instanceMethod yX7_sort, .selects RX7 yX7_sort yX7_sort, .initialized RX7, .code yX7_sort cX7_sort 1 (some .int), .fieldLink RX7 15 "TwoModems$Way" "latest" "[I", .methodLink RX3 133 yX7_first, .instanceMethod yX7_first, .selects RX7 yX7_first yX7_first, .code yX7_first cX7_first 1 (some .int)] ++ wsX30 ++ wsX70)
def wsX3_settle : List Cond := .code yX3_settle cX3_settle 2 none :: ([.fieldLink RX3 50 "TwoModems$Modem" "rate" "I", .methodLink RX3 128 yX3_come, .instanceMethod yX3_come, .selects RX3 yX3_come yX3_come, .initialized RX3, .code yX3_come cX3_come 3 none, .fieldLink RX3 31 "TwoModems$Modem" "phase" "I", .fieldLink RX3 38 "TwoModems$Modem" "lasted" "I", .fieldLink RX3 35 "TwoModems$Modem" "changes" "I", .fieldLink RX3 25 "TwoModems$Modem" "noted" "[I", .fieldLink RX3 12 "TwoModems$Modem" "echo" "LTwoModems$Echo;", .fieldLink RX3 53 "TwoModems$Modem" "credit" "I", .fieldLink RX3 56 "TwoModems$Modem" "waited" "I", .fieldLink RX3 62 "TwoModems$Modem" "losses" "I", .fieldLink RX3 21 "TwoModems$Modem" "mail" "LTwoModems$Mail;", .fieldLink RX3 91 "TwoModems$Mail" "told" "I", .fieldLink RX3 88 "TwoModems$Mail" "next" "I", .fieldLink RX3 71 "TwoModems$Modem" "datas" "I", .methodLink RX3 125 yX0_forget, .instanceMethod yX0_forget, .selects RX0 yX0_forget yX0_forget, .initialized RX0, .code yX0_forget cX0_forget 2 none, .fieldLink RX0 15 "TwoModems$Echo" "learnt" "[I"] ++ wsX30 ++ wsX20 ++ wsX00)
def wsX3_hearGreaterRound_r1 : List Cond := [Cond.fieldLink RX3 78 "TwoModems$Modem" "in" "LTwoModems$Way;", Cond.fieldLink RX3 44 "TwoModems$Modem" "round" "I", Cond.methodLink RX3 113 yX7_sort, Cond.instanceMethod yX7_sort, Cond.selects RX7 yX7_sort yX7_sort, Cond.initialized RX7, Cond.code yX7_sort cX7_sort 1 (some .int), Cond.fieldLink RX7 15 "TwoModems$Way" "latest" "[I", Cond.methodLink RX3 133 yX7_first, Cond.instanceMethod yX7_first, Cond.selects RX7 yX7_first yX7_first, Cond.code yX7_first cX7_first 1 (some .int), Cond.methodLink RX3 128 yX3_come, Cond.instanceMethod yX3_come, Cond.selects RX3 yX3_come yX3_come, Cond.initialized RX3, Cond.code yX3_come cX3_come 3 none, Cond.fieldLink RX3 31 "TwoModems$Modem" "phase" "I", Cond.fieldLink RX3 38 "TwoModems$Modem" "lasted" "I", Cond.fieldLink RX3 35 "TwoModems$Modem" "changes" "I", Cond.fieldLink RX3 25 "TwoModems$Modem" "noted" "[I", Cond.fieldLink RX3 12 "TwoModems$Modem" "echo" "LTwoModems$Echo;", Cond.fieldLink RX3 53 "TwoModems$Modem" "credit" "I", Cond.fieldLink RX3 56 "TwoModems$Modem" "waited" "I"]
def wsX3_hearGreaterRound_r2 : List Cond := [Cond.fieldLink RX3 62 "TwoModems$Modem" "losses" "I", Cond.fieldLink RX3 21 "TwoModems$Modem" "mail" "LTwoModems$Mail;", Cond.fieldLink RX3 91 "TwoModems$Mail" "told" "I", Cond.fieldLink RX3 88 "TwoModems$Mail" "next" "I", Cond.fieldLink RX3 71 "TwoModems$Modem" "datas" "I", Cond.methodLink RX3 125 yX0_forget, Cond.instanceMethod yX0_forget, Cond.selects RX0 yX0_forget yX0_forget, Cond.initialized RX0, Cond.code yX0_forget cX0_forget 2 none, Cond.fieldLink RX0 15 "TwoModems$Echo" "learnt" "[I"]
def wsX3_hearGreaterRound : List Cond := .code yX3_hearGreaterRound cX3_hearGreaterRound 1 none :: ((wsX3_hearGreaterRound_r1 ++ wsX3_hearGreaterRound_r2) ++ wsX30 ++ wsX70 ++ wsX20 ++ wsX00)
def wsX3_hearInBargain_r1 : List Cond := [Cond.fieldLink RX3 78 "TwoModems$Modem" "in" "LTwoModems$Way;", Cond.fieldLink RX3 47 "TwoModems$Modem" "offer" "I", Cond.methodLink RX3 158 Lib.Math.min.name, Cond.static Lib.Math.min.name, Cond.initialized "java/lang/Math", Cond.code Lib.Math.min.name Lib.Math.min.code 2 (some .int), Cond.methodLink RX3 142 yX3_isOfRound, Cond.instanceMethod yX3_isOfRound, Cond.selects RX3 yX3_isOfRound yX3_isOfRound, Cond.initialized RX3, Cond.code yX3_isOfRound cX3_isOfRound 2 (some .boolean), Cond.fieldLink RX3 44 "TwoModems$Modem" "round" "I", Cond.methodLink RX3 113 yX7_sort, Cond.instanceMethod yX7_sort, Cond.selects RX7 yX7_sort yX7_sort, Cond.initialized RX7, Cond.code yX7_sort cX7_sort 1 (some .int), Cond.fieldLink RX7 15 "TwoModems$Way" "latest" "[I", Cond.methodLink RX3 133 yX7_first, Cond.instanceMethod yX7_first, Cond.selects RX7 yX7_first yX7_first, Cond.code yX7_first cX7_first 1 (some .int), Cond.methodLink RX3 155 yX7_second, Cond.instanceMethod yX7_second]
def wsX3_hearInBargain_r2 : List Cond := [Cond.selects RX7 yX7_second yX7_second, Cond.code yX7_second cX7_second 1 (some .int), Cond.methodLink RX3 164 yX3_settle, Cond.instanceMethod yX3_settle, Cond.selects RX3 yX3_settle yX3_settle, Cond.code yX3_settle cX3_settle 2 none, Cond.fieldLink RX3 50 "TwoModems$Modem" "rate" "I", Cond.methodLink RX3 128 yX3_come, Cond.instanceMethod yX3_come, Cond.selects RX3 yX3_come yX3_come, Cond.code yX3_come cX3_come 3 none, Cond.fieldLink RX3 31 "TwoModems$Modem" "phase" "I", Cond.fieldLink RX3 38 "TwoModems$Modem" "lasted" "I", Cond.fieldLink RX3 35 "TwoModems$Modem" "changes" "I", Cond.fieldLink RX3 25 "TwoModems$Modem" "noted" "[I", Cond.fieldLink RX3 12 "TwoModems$Modem" "echo" "LTwoModems$Echo;", Cond.fieldLink RX3 53 "TwoModems$Modem" "credit" "I", Cond.fieldLink RX3 56 "TwoModems$Modem" "waited" "I", Cond.fieldLink RX3 62 "TwoModems$Modem" "losses" "I", Cond.fieldLink RX3 21 "TwoModems$Modem" "mail" "LTwoModems$Mail;", Cond.fieldLink RX3 91 "TwoModems$Mail" "told" "I", Cond.fieldLink RX3 88 "TwoModems$Mail" "next" "I", Cond.fieldLink RX3 71 "TwoModems$Modem" "datas" "I", Cond.methodLink RX3 125 yX0_forget]
def wsX3_hearInBargain_r3 : List Cond := [Cond.instanceMethod yX0_forget, Cond.selects RX0 yX0_forget yX0_forget, Cond.initialized RX0, Cond.code yX0_forget cX0_forget 2 none, Cond.fieldLink RX0 15 "TwoModems$Echo" "learnt" "[I", Cond.methodLink RX3 146 yX3_hearGreaterRound, Cond.instanceMethod yX3_hearGreaterRound, Cond.selects RX3 yX3_hearGreaterRound yX3_hearGreaterRound, Cond.code yX3_hearGreaterRound cX3_hearGreaterRound 1 none]
def wsX3_hearInBargain : List Cond := .code yX3_hearInBargain cX3_hearInBargain 1 none :: ((wsX3_hearInBargain_r1 ++ (wsX3_hearInBargain_r2 ++ wsX3_hearInBargain_r3)) ++ wsX30 ++ wsX70 ++ wsX20 ++ wsX00)
def wsX3_hearInData_r1 : List Cond := [Cond.fieldLink RX3 62 "TwoModems$Modem" "losses" "I", Cond.fieldLink RX3 78 "TwoModems$Modem" "in" "LTwoModems$Way;", Cond.fieldLink RX3 21 "TwoModems$Modem" "mail" "LTwoModems$Mail;", Cond.methodLink RX3 113 yX7_sort, Cond.instanceMethod yX7_sort, Cond.selects RX7 yX7_sort yX7_sort, Cond.initialized RX7, Cond.code yX7_sort cX7_sort 1 (some .int), Cond.fieldLink RX7 15 "TwoModems$Way" "latest" "[I", Cond.methodLink RX3 142 yX3_isOfRound, Cond.instanceMethod yX3_isOfRound, Cond.selects RX3 yX3_isOfRound yX3_isOfRound, Cond.initialized RX3, Cond.code yX3_isOfRound cX3_isOfRound 2 (some .boolean), Cond.fieldLink RX3 44 "TwoModems$Modem" "round" "I", Cond.methodLink RX3 133 yX7_first, Cond.instanceMethod yX7_first, Cond.selects RX7 yX7_first yX7_first, Cond.code yX7_first cX7_first 1 (some .int), Cond.methodLink RX3 167 yX2_take, Cond.instanceMethod yX2_take, Cond.selects RX2 yX2_take yX2_take, Cond.initialized RX2, Cond.code yX2_take cX2_take 3 none]
def wsX3_hearInData_r2 : List Cond := [Cond.fieldLink RX2 20 "TwoModems$Mail" "taken" "I", Cond.fieldLink RX2 13 "TwoModems$Mail" "takenCodes" "[I", Cond.fieldLink RX2 23 "TwoModems$Mail" "told" "I", Cond.methodLink RX2 50 Lib.Math.max.name, Cond.static Lib.Math.max.name, Cond.initialized "java/lang/Math", Cond.code Lib.Math.max.name Lib.Math.max.code 2 (some .int), Cond.methodLink RX2 35 yX7_second, Cond.instanceMethod yX7_second, Cond.selects RX7 yX7_second yX7_second, Cond.code yX7_second cX7_second 1 (some .int), Cond.methodLink RX2 41 yX7_letters, Cond.instanceMethod yX7_letters, Cond.selects RX7 yX7_letters yX7_letters, Cond.code yX7_letters cX7_letters 1 (some .int), Cond.methodLink RX2 44 yX7_enclosed, Cond.instanceMethod yX7_enclosed, Cond.selects RX7 yX7_enclosed yX7_enclosed, Cond.code yX7_enclosed cX7_enclosed 2 (some .int), Cond.methodLink RX2 48 yX7_told, Cond.instanceMethod yX7_told, Cond.selects RX7 yX7_told yX7_told, Cond.code yX7_told cX7_told 1 (some .int), Cond.methodLink RX3 146 yX3_hearGreaterRound]
def wsX3_hearInData_r3 : List Cond := [Cond.instanceMethod yX3_hearGreaterRound, Cond.selects RX3 yX3_hearGreaterRound yX3_hearGreaterRound, Cond.code yX3_hearGreaterRound cX3_hearGreaterRound 1 none, Cond.methodLink RX3 128 yX3_come, Cond.instanceMethod yX3_come, Cond.selects RX3 yX3_come yX3_come, Cond.code yX3_come cX3_come 3 none, Cond.fieldLink RX3 31 "TwoModems$Modem" "phase" "I", Cond.fieldLink RX3 38 "TwoModems$Modem" "lasted" "I", Cond.fieldLink RX3 35 "TwoModems$Modem" "changes" "I", Cond.fieldLink RX3 25 "TwoModems$Modem" "noted" "[I", Cond.fieldLink RX3 12 "TwoModems$Modem" "echo" "LTwoModems$Echo;", Cond.fieldLink RX3 53 "TwoModems$Modem" "credit" "I", Cond.fieldLink RX3 56 "TwoModems$Modem" "waited" "I", Cond.fieldLink RX3 91 "TwoModems$Mail" "told" "I", Cond.fieldLink RX3 88 "TwoModems$Mail" "next" "I", Cond.fieldLink RX3 71 "TwoModems$Modem" "datas" "I", Cond.methodLink RX3 125 yX0_forget, Cond.instanceMethod yX0_forget, Cond.selects RX0 yX0_forget yX0_forget, Cond.initialized RX0, Cond.code yX0_forget cX0_forget 2 none, Cond.fieldLink RX0 15 "TwoModems$Echo" "learnt" "[I"]
def wsX3_hearInData : List Cond := .code yX3_hearInData cX3_hearInData 1 none :: ((wsX3_hearInData_r1 ++ (wsX3_hearInData_r2 ++ wsX3_hearInData_r3)) ++ wsX30 ++ wsX70 ++ wsX20 ++ wsX00)
def wsX3_hear_r1 : List Cond := [Cond.fieldLink RX3 78 "TwoModems$Modem" "in" "LTwoModems$Way;", Cond.fieldLink RX3 31 "TwoModems$Modem" "phase" "I", Cond.methodLink RX3 113 yX7_sort, Cond.instanceMethod yX7_sort, Cond.selects RX7 yX7_sort yX7_sort, Cond.initialized RX7, Cond.code yX7_sort cX7_sort 1 (some .int), Cond.fieldLink RX7 15 "TwoModems$Way" "latest" "[I", Cond.methodLink RX3 128 yX3_come, Cond.instanceMethod yX3_come, Cond.selects RX3 yX3_come yX3_come, Cond.initialized RX3, Cond.code yX3_come cX3_come 3 none, Cond.fieldLink RX3 38 "TwoModems$Modem" "lasted" "I", Cond.fieldLink RX3 35 "TwoModems$Modem" "changes" "I", Cond.fieldLink RX3 25 "TwoModems$Modem" "noted" "[I", Cond.fieldLink RX3 12 "TwoModems$Modem" "echo" "LTwoModems$Echo;", Cond.fieldLink RX3 53 "TwoModems$Modem" "credit" "I", Cond.fieldLink RX3 56 "TwoModems$Modem" "waited" "I", Cond.fieldLink RX3 62 "TwoModems$Modem" "losses" "I", Cond.fieldLink RX3 21 "TwoModems$Modem" "mail" "LTwoModems$Mail;", Cond.fieldLink RX3 91 "TwoModems$Mail" "told" "I", Cond.fieldLink RX3 88 "TwoModems$Mail" "next" "I", Cond.fieldLink RX3 71 "TwoModems$Modem" "datas" "I"]
def wsX3_hear_r2 : List Cond := [Cond.methodLink RX3 125 yX0_forget, Cond.instanceMethod yX0_forget, Cond.selects RX0 yX0_forget yX0_forget, Cond.initialized RX0, Cond.code yX0_forget cX0_forget 2 none, Cond.fieldLink RX0 15 "TwoModems$Echo" "learnt" "[I", Cond.methodLink RX3 133 yX7_first, Cond.instanceMethod yX7_first, Cond.selects RX7 yX7_first yX7_first, Cond.code yX7_first cX7_first 1 (some .int), Cond.methodLink RX3 136 yX3_note, Cond.instanceMethod yX3_note, Cond.selects RX3 yX3_note yX3_note, Cond.code yX3_note cX3_note 2 none, Cond.fieldLink RX3 152 "TwoModems$Way" "quality" "[I", Cond.methodLink RX3 139 yX3_hearInBargain, Cond.instanceMethod yX3_hearInBargain, Cond.selects RX3 yX3_hearInBargain yX3_hearInBargain, Cond.code yX3_hearInBargain cX3_hearInBargain 1 none, Cond.fieldLink RX3 47 "TwoModems$Modem" "offer" "I", Cond.methodLink RX3 158 Lib.Math.min.name, Cond.static Lib.Math.min.name, Cond.initialized "java/lang/Math", Cond.code Lib.Math.min.name Lib.Math.min.code 2 (some .int)]
def wsX3_hear_r3 : List Cond := [Cond.methodLink RX3 142 yX3_isOfRound, Cond.instanceMethod yX3_isOfRound, Cond.selects RX3 yX3_isOfRound yX3_isOfRound, Cond.code yX3_isOfRound cX3_isOfRound 2 (some .boolean), Cond.fieldLink RX3 44 "TwoModems$Modem" "round" "I", Cond.methodLink RX3 155 yX7_second, Cond.instanceMethod yX7_second, Cond.selects RX7 yX7_second yX7_second, Cond.code yX7_second cX7_second 1 (some .int), Cond.methodLink RX3 164 yX3_settle, Cond.instanceMethod yX3_settle, Cond.selects RX3 yX3_settle yX3_settle, Cond.code yX3_settle cX3_settle 2 none, Cond.fieldLink RX3 50 "TwoModems$Modem" "rate" "I", Cond.methodLink RX3 146 yX3_hearGreaterRound, Cond.instanceMethod yX3_hearGreaterRound, Cond.selects RX3 yX3_hearGreaterRound yX3_hearGreaterRound, Cond.code yX3_hearGreaterRound cX3_hearGreaterRound 1 none, Cond.methodLink RX3 149 yX3_hearInData, Cond.instanceMethod yX3_hearInData, Cond.selects RX3 yX3_hearInData yX3_hearInData, Cond.code yX3_hearInData cX3_hearInData 1 none, Cond.methodLink RX3 167 yX2_take, Cond.instanceMethod yX2_take]
def wsX3_hear_r4 : List Cond := [Cond.selects RX2 yX2_take yX2_take, Cond.initialized RX2, Cond.code yX2_take cX2_take 3 none, Cond.fieldLink RX2 20 "TwoModems$Mail" "taken" "I", Cond.fieldLink RX2 13 "TwoModems$Mail" "takenCodes" "[I", Cond.fieldLink RX2 23 "TwoModems$Mail" "told" "I", Cond.methodLink RX2 50 Lib.Math.max.name, Cond.static Lib.Math.max.name, Cond.code Lib.Math.max.name Lib.Math.max.code 2 (some .int), Cond.methodLink RX2 35 yX7_second, Cond.methodLink RX2 41 yX7_letters, Cond.instanceMethod yX7_letters, Cond.selects RX7 yX7_letters yX7_letters, Cond.code yX7_letters cX7_letters 1 (some .int), Cond.methodLink RX2 44 yX7_enclosed, Cond.instanceMethod yX7_enclosed, Cond.selects RX7 yX7_enclosed yX7_enclosed, Cond.code yX7_enclosed cX7_enclosed 2 (some .int), Cond.methodLink RX2 48 yX7_told, Cond.instanceMethod yX7_told, Cond.selects RX7 yX7_told yX7_told, Cond.code yX7_told cX7_told 1 (some .int)]
def wsX3_hear : List Cond := .code yX3_hear cX3_hear 2 none :: ((wsX3_hear_r1 ++ (wsX3_hear_r2 ++ (wsX3_hear_r3 ++ wsX3_hear_r4))) ++ wsX30 ++ wsX70 ++ wsX20 ++ wsX00)
def wsX3_makeOffer : List Cond := .code yX3_makeOffer cX3_makeOffer 3 none :: ([.fieldLink RX3 12 "TwoModems$Modem" "echo" "LTwoModems$Echo;", .fieldLink RX3 59 "TwoModems$Modem" "remains" "I", .fieldLink RX3 47 "TwoModems$Modem" "offer" "I", .fieldLink RX3 25 "TwoModems$Modem" "noted" "[I", .methodLink RX3 182 Lib.Math.max.name, .static Lib.Math.max.name, .initialized "java/lang/Math", .code Lib.Math.max.name Lib.Math.max.code 2 (some .int), .methodLink RX3 158 Lib.Math.min.name, .static Lib.Math.min.name, .code Lib.Math.min.name Lib.Math.min.code 2 (some .int), .methodLink RX3 180 yX0_remains, .instanceMethod yX0_remains, .selects RX0 yX0_remains yX0_remains, .initialized RX0, .code yX0_remains cX0_remains 3 (some .int), .fieldLink RX0 9 "TwoModems$Echo" "taps" "[I", .fieldLink RX0 15 "TwoModems$Echo" "learnt" "[I", .methodLink RX0 22 Lib.Math.abs.name, .static Lib.Math.abs.name, .code Lib.Math.abs.name Lib.Math.abs.code 1 (some .int)] ++ wsX30 ++ wsX00)
def wsX3_lookAtWaiting : List Cond := .code yX3_lookAtWaiting cX3_lookAtWaiting 2 none :: ([.fieldLink RX3 21 "TwoModems$Modem" "mail" "LTwoModems$Mail;", .fieldLink RX3 91 "TwoModems$Mail" "told" "I", .fieldLink RX3 88 "TwoModems$Mail" "next" "I", .fieldLink RX3 56 "TwoModems$Modem" "waited" "I", .fieldLink RX3 74 "TwoModems$Modem" "line" "LTwoModems$Line;", .fieldLink RX3 117 "TwoModems$Line" "delay" "I"] ++ wsX30 ++ wsX20 ++ wsX10)
def wsJ6_bitCount_0f7a4 : List Cond := .code yJ6_bitCount_0f7a4 cJ6_bitCount_0f7a4 1 (some .int) :: ([.constant RJ6 265 (1431655765), .constant RJ6 266 (858993459), .constant RJ6 267 (252645135)])
def wsX3_lookAtLosses_r1 : List Cond := [Cond.fieldLink RX3 62 "TwoModems$Modem" "losses" "I", Cond.fieldLink RX3 47 "TwoModems$Modem" "offer" "I", Cond.fieldLink RX3 38 "TwoModems$Modem" "lasted" "I", Cond.fieldLink RX3 68 "TwoModems$Modem" "agains" "I", Cond.fieldLink RX3 44 "TwoModems$Modem" "round" "I", Cond.methodLink RX3 185 yJ6_bitCount_0f7a4, Cond.static yJ6_bitCount_0f7a4, Cond.initialized RJ6, Cond.code yJ6_bitCount_0f7a4 cJ6_bitCount_0f7a4 1 (some .int), Cond.constant RJ6 265 (1431655765), Cond.constant RJ6 266 (858993459), Cond.constant RJ6 267 (252645135), Cond.methodLink RX3 128 yX3_come, Cond.instanceMethod yX3_come, Cond.selects RX3 yX3_come yX3_come, Cond.initialized RX3, Cond.code yX3_come cX3_come 3 none, Cond.fieldLink RX3 31 "TwoModems$Modem" "phase" "I", Cond.fieldLink RX3 35 "TwoModems$Modem" "changes" "I", Cond.fieldLink RX3 25 "TwoModems$Modem" "noted" "[I", Cond.fieldLink RX3 12 "TwoModems$Modem" "echo" "LTwoModems$Echo;", Cond.fieldLink RX3 53 "TwoModems$Modem" "credit" "I", Cond.fieldLink RX3 56 "TwoModems$Modem" "waited" "I", Cond.fieldLink RX3 21 "TwoModems$Modem" "mail" "LTwoModems$Mail;"]
def wsX3_lookAtLosses_r2 : List Cond := [Cond.fieldLink RX3 91 "TwoModems$Mail" "told" "I", Cond.fieldLink RX3 88 "TwoModems$Mail" "next" "I", Cond.fieldLink RX3 71 "TwoModems$Modem" "datas" "I", Cond.methodLink RX3 125 yX0_forget, Cond.instanceMethod yX0_forget, Cond.selects RX0 yX0_forget yX0_forget, Cond.initialized RX0, Cond.code yX0_forget cX0_forget 2 none, Cond.fieldLink RX0 15 "TwoModems$Echo" "learnt" "[I"]
def wsX3_lookAtLosses : List Cond := .code yX3_lookAtLosses cX3_lookAtLosses 1 none :: ((wsX3_lookAtLosses_r1 ++ wsX3_lookAtLosses_r2) ++ wsX30 ++ wsX20 ++ wsX00)
def wsX3_look_r1 : List Cond := [Cond.fieldLink RX3 31 "TwoModems$Modem" "phase" "I", Cond.fieldLink RX3 38 "TwoModems$Modem" "lasted" "I", Cond.fieldLink RX3 74 "TwoModems$Modem" "line" "LTwoModems$Line;", Cond.fieldLink RX3 117 "TwoModems$Line" "delay" "I", Cond.fieldLink RX3 44 "TwoModems$Modem" "round" "I", Cond.methodLink RX3 128 yX3_come, Cond.instanceMethod yX3_come, Cond.selects RX3 yX3_come yX3_come, Cond.initialized RX3, Cond.code yX3_come cX3_come 3 none, Cond.fieldLink RX3 35 "TwoModems$Modem" "changes" "I", Cond.fieldLink RX3 25 "TwoModems$Modem" "noted" "[I", Cond.fieldLink RX3 12 "TwoModems$Modem" "echo" "LTwoModems$Echo;", Cond.fieldLink RX3 53 "TwoModems$Modem" "credit" "I", Cond.fieldLink RX3 56 "TwoModems$Modem" "waited" "I", Cond.fieldLink RX3 62 "TwoModems$Modem" "losses" "I", Cond.fieldLink RX3 21 "TwoModems$Modem" "mail" "LTwoModems$Mail;", Cond.fieldLink RX3 91 "TwoModems$Mail" "told" "I", Cond.fieldLink RX3 88 "TwoModems$Mail" "next" "I", Cond.fieldLink RX3 71 "TwoModems$Modem" "datas" "I", Cond.methodLink RX3 125 yX0_forget, Cond.instanceMethod yX0_forget, Cond.selects RX0 yX0_forget yX0_forget, Cond.initialized RX0]
def wsX3_look_r2 : List Cond := [Cond.code yX0_forget cX0_forget 2 none, Cond.fieldLink RX0 15 "TwoModems$Echo" "learnt" "[I", Cond.methodLink RX3 171 yX3_makeOffer, Cond.instanceMethod yX3_makeOffer, Cond.selects RX3 yX3_makeOffer yX3_makeOffer, Cond.code yX3_makeOffer cX3_makeOffer 3 none, Cond.fieldLink RX3 59 "TwoModems$Modem" "remains" "I", Cond.fieldLink RX3 47 "TwoModems$Modem" "offer" "I", Cond.methodLink RX3 182 Lib.Math.max.name, Cond.static Lib.Math.max.name, Cond.initialized "java/lang/Math", Cond.code Lib.Math.max.name Lib.Math.max.code 2 (some .int), Cond.methodLink RX3 158 Lib.Math.min.name, Cond.static Lib.Math.min.name, Cond.code Lib.Math.min.name Lib.Math.min.code 2 (some .int), Cond.methodLink RX3 180 yX0_remains, Cond.instanceMethod yX0_remains, Cond.selects RX0 yX0_remains yX0_remains, Cond.code yX0_remains cX0_remains 3 (some .int), Cond.fieldLink RX0 9 "TwoModems$Echo" "taps" "[I", Cond.methodLink RX0 22 Lib.Math.abs.name, Cond.static Lib.Math.abs.name, Cond.code Lib.Math.abs.name Lib.Math.abs.code 1 (some .int), Cond.methodLink RX3 174 yX3_lookAtWaiting]
def wsX3_look_r3 : List Cond := [Cond.instanceMethod yX3_lookAtWaiting, Cond.selects RX3 yX3_lookAtWaiting yX3_lookAtWaiting, Cond.code yX3_lookAtWaiting cX3_lookAtWaiting 2 none, Cond.methodLink RX3 177 yX3_lookAtLosses, Cond.instanceMethod yX3_lookAtLosses, Cond.selects RX3 yX3_lookAtLosses yX3_lookAtLosses, Cond.code yX3_lookAtLosses cX3_lookAtLosses 1 none, Cond.fieldLink RX3 68 "TwoModems$Modem" "agains" "I", Cond.methodLink RX3 185 yJ6_bitCount_0f7a4, Cond.static yJ6_bitCount_0f7a4, Cond.initialized RJ6, Cond.code yJ6_bitCount_0f7a4 cJ6_bitCount_0f7a4 1 (some .int), Cond.constant RJ6 265 (1431655765), Cond.constant RJ6 266 (858993459), Cond.constant RJ6 267 (252645135)]
def wsX3_look : List Cond := .code yX3_look cX3_look 2 none :: ((wsX3_look_r1 ++ (wsX3_look_r2 ++ wsX3_look_r3)) ++ wsX30 ++ wsX10 ++ wsX20 ++ wsX00)
def wsX7_send : List Cond := .code yX7_send cX7_send 9 none :: ([.fieldLink RX7 21 "TwoModems$Way" "full" "[Z", .fieldLink RX7 35 "TwoModems$Way" "underWay" "I", .fieldLink RX7 18 "TwoModems$Way" "rows" "[I"] ++ wsX70)
def wsX3_speakProbe : List Cond := .code yX3_speakProbe cX3_speakProbe 2 none :: ([.fieldLink RX3 38 "TwoModems$Modem" "lasted" "I", .fieldLink RX3 82 "TwoModems$Modem" "out" "LTwoModems$Way;", .methodLink RX3 191 yX7_send, .instanceMethod yX7_send, .selects RX7 yX7_send yX7_send, .initialized RX7, .code yX7_send cX7_send 9 none, .fieldLink RX7 21 "TwoModems$Way" "full" "[Z", .fieldLink RX7 35 "TwoModems$Way" "underWay" "I", .fieldLink RX7 18 "TwoModems$Way" "rows" "[I"] ++ wsX30 ++ wsX70)
def wsX7_enclose : List Cond := .code yX7_enclose cX7_enclose 4 none :: ([.fieldLink RX7 18 "TwoModems$Way" "rows" "[I"] ++ wsX70)
def wsX3_speakFrame_r1 : List Cond := [Cond.fieldLink RX3 53 "TwoModems$Modem" "credit" "I", Cond.fieldLink RX3 50 "TwoModems$Modem" "rate" "I", Cond.methodLink RX3 158 Lib.Math.min.name, Cond.static Lib.Math.min.name, Cond.initialized "java/lang/Math", Cond.code Lib.Math.min.name Lib.Math.min.code 2 (some .int), Cond.fieldLink RX3 21 "TwoModems$Modem" "mail" "LTwoModems$Mail;", Cond.fieldLink RX3 82 "TwoModems$Modem" "out" "LTwoModems$Way;", Cond.fieldLink RX3 44 "TwoModems$Modem" "round" "I", Cond.fieldLink RX3 88 "TwoModems$Mail" "next" "I", Cond.fieldLink RX3 94 "TwoModems$Mail" "taken" "I", Cond.methodLink RX3 204 yX2_ready, Cond.instanceMethod yX2_ready, Cond.selects RX2 yX2_ready yX2_ready, Cond.initialized RX2, Cond.code yX2_ready cX2_ready 2 (some .int), Cond.fieldLink RX2 16 "TwoModems$Mail" "said" "I", Cond.fieldLink RX2 26 "TwoModems$Mail" "next" "I", Cond.fieldLink RX2 23 "TwoModems$Mail" "told" "I", Cond.methodLink RX2 56 Lib.Math.min.name, Cond.methodLink RX3 191 yX7_send, Cond.instanceMethod yX7_send, Cond.selects RX7 yX7_send yX7_send, Cond.initialized RX7]
def wsX3_speakFrame_r2 : List Cond := [Cond.code yX7_send cX7_send 9 none, Cond.fieldLink RX7 21 "TwoModems$Way" "full" "[Z", Cond.fieldLink RX7 35 "TwoModems$Way" "underWay" "I", Cond.fieldLink RX7 18 "TwoModems$Way" "rows" "[I", Cond.methodLink RX3 207 yX2_pass, Cond.instanceMethod yX2_pass, Cond.selects RX2 yX2_pass yX2_pass, Cond.code yX2_pass cX2_pass 2 (some .int), Cond.fieldLink RX2 9 "TwoModems$Mail" "toSend" "[I", Cond.fieldLink RX2 32 "TwoModems$Mail" "sentBelow" "I", Cond.fieldLink RX2 29 "TwoModems$Mail" "repeated" "I", Cond.methodLink RX2 50 Lib.Math.max.name, Cond.static Lib.Math.max.name, Cond.code Lib.Math.max.name Lib.Math.max.code 2 (some .int), Cond.methodLink RX3 210 yX7_enclose, Cond.instanceMethod yX7_enclose, Cond.selects RX7 yX7_enclose yX7_enclose, Cond.code yX7_enclose cX7_enclose 4 none]
def wsX3_speakFrame : List Cond := .code yX3_speakFrame cX3_speakFrame 4 none :: ((wsX3_speakFrame_r1 ++ wsX3_speakFrame_r2) ++ wsX30 ++ wsX20 ++ wsX70)
def wsX3_speak_r1 : List Cond := [Cond.fieldLink RX3 31 "TwoModems$Modem" "phase" "I", Cond.fieldLink RX3 82 "TwoModems$Modem" "out" "LTwoModems$Way;", Cond.fieldLink RX3 12 "TwoModems$Modem" "echo" "LTwoModems$Echo;", Cond.fieldLink RX3 38 "TwoModems$Modem" "lasted" "I", Cond.fieldLink RX3 44 "TwoModems$Modem" "round" "I", Cond.fieldLink RX3 47 "TwoModems$Modem" "offer" "I", Cond.fieldLink RX3 50 "TwoModems$Modem" "rate" "I", Cond.methodLink RX3 191 yX7_send, Cond.instanceMethod yX7_send, Cond.selects RX7 yX7_send yX7_send, Cond.initialized RX7, Cond.code yX7_send cX7_send 9 none, Cond.fieldLink RX7 21 "TwoModems$Way" "full" "[Z", Cond.fieldLink RX7 35 "TwoModems$Way" "underWay" "I", Cond.fieldLink RX7 18 "TwoModems$Way" "rows" "[I", Cond.methodLink RX3 195 yX3_speakProbe, Cond.instanceMethod yX3_speakProbe, Cond.selects RX3 yX3_speakProbe yX3_speakProbe, Cond.initialized RX3, Cond.code yX3_speakProbe cX3_speakProbe 2 none, Cond.methodLink RX3 198 yX0_follow, Cond.instanceMethod yX0_follow, Cond.selects RX0 yX0_follow yX0_follow, Cond.initialized RX0]
def wsX3_speak_r2 : List Cond := [Cond.code yX0_follow cX0_follow 4 none, Cond.fieldLink RX0 9 "TwoModems$Echo" "taps" "[I", Cond.fieldLink RX0 15 "TwoModems$Echo" "learnt" "[I", Cond.methodLink RX0 18 yX0_sign, Cond.instanceMethod yX0_sign, Cond.selects RX0 yX0_sign yX0_sign, Cond.code yX0_sign cX0_sign 2 (some .int), Cond.methodLink RX3 201 yX3_speakFrame, Cond.instanceMethod yX3_speakFrame, Cond.selects RX3 yX3_speakFrame yX3_speakFrame, Cond.code yX3_speakFrame cX3_speakFrame 4 none, Cond.fieldLink RX3 53 "TwoModems$Modem" "credit" "I", Cond.methodLink RX3 158 Lib.Math.min.name, Cond.static Lib.Math.min.name, Cond.initialized "java/lang/Math", Cond.code Lib.Math.min.name Lib.Math.min.code 2 (some .int), Cond.fieldLink RX3 21 "TwoModems$Modem" "mail" "LTwoModems$Mail;", Cond.fieldLink RX3 88 "TwoModems$Mail" "next" "I", Cond.fieldLink RX3 94 "TwoModems$Mail" "taken" "I", Cond.methodLink RX3 204 yX2_ready, Cond.instanceMethod yX2_ready, Cond.selects RX2 yX2_ready yX2_ready, Cond.initialized RX2, Cond.code yX2_ready cX2_ready 2 (some .int)]
def wsX3_speak_r3 : List Cond := [Cond.fieldLink RX2 16 "TwoModems$Mail" "said" "I", Cond.fieldLink RX2 26 "TwoModems$Mail" "next" "I", Cond.fieldLink RX2 23 "TwoModems$Mail" "told" "I", Cond.methodLink RX2 56 Lib.Math.min.name, Cond.methodLink RX3 207 yX2_pass, Cond.instanceMethod yX2_pass, Cond.selects RX2 yX2_pass yX2_pass, Cond.code yX2_pass cX2_pass 2 (some .int), Cond.fieldLink RX2 9 "TwoModems$Mail" "toSend" "[I", Cond.fieldLink RX2 32 "TwoModems$Mail" "sentBelow" "I", Cond.fieldLink RX2 29 "TwoModems$Mail" "repeated" "I", Cond.methodLink RX2 50 Lib.Math.max.name, Cond.static Lib.Math.max.name, Cond.code Lib.Math.max.name Lib.Math.max.code 2 (some .int), Cond.methodLink RX3 210 yX7_enclose, Cond.instanceMethod yX7_enclose, Cond.selects RX7 yX7_enclose yX7_enclose, Cond.code yX7_enclose cX7_enclose 4 none]
def wsX3_speak : List Cond := .code yX3_speak cX3_speak 2 none :: ((wsX3_speak_r1 ++ (wsX3_speak_r2 ++ wsX3_speak_r3)) ++ wsX30 ++ wsX70 ++ wsX00 ++ wsX20)
def wsX3_live_r1 : List Cond := [Cond.fieldLink RX3 31 "TwoModems$Modem" "phase" "I", Cond.fieldLink RX3 35 "TwoModems$Modem" "changes" "I", Cond.fieldLink RX3 21 "TwoModems$Modem" "mail" "LTwoModems$Mail;", Cond.fieldLink RX3 91 "TwoModems$Mail" "told" "I", Cond.fieldLink RX3 78 "TwoModems$Modem" "in" "LTwoModems$Way;", Cond.fieldLink RX3 41 "TwoModems$Modem" "silences" "I", Cond.fieldLink RX3 74 "TwoModems$Modem" "line" "LTwoModems$Line;", Cond.fieldLink RX3 117 "TwoModems$Line" "delay" "I", Cond.fieldLink RX3 38 "TwoModems$Modem" "lasted" "I", Cond.methodLink RX3 97 yX7_bring, Cond.instanceMethod yX7_bring, Cond.selects RX7 yX7_bring yX7_bring, Cond.initialized RX7, Cond.code yX7_bring cX7_bring 5 none, Cond.fieldLink RX7 21 "TwoModems$Way" "full" "[Z", Cond.fieldLink RX7 35 "TwoModems$Way" "underWay" "I", Cond.fieldLink RX7 29 "TwoModems$Way" "came" "I", Cond.fieldLink RX7 25 "TwoModems$Way" "hurt" "I", Cond.fieldLink RX7 32 "TwoModems$Way" "harmed" "I", Cond.fieldLink RX7 15 "TwoModems$Way" "latest" "[I", Cond.fieldLink RX7 18 "TwoModems$Way" "rows" "[I", Cond.methodLink RX3 103 yX3_surrender, Cond.instanceMethod yX3_surrender, Cond.selects RX3 yX3_surrender yX3_surrender]
def wsX3_live_r2 : List Cond := [Cond.initialized RX3, Cond.code yX3_surrender cX3_surrender 3 none, Cond.fieldLink RX3 65 "TwoModems$Modem" "surrenders" "I", Cond.methodLink RX3 128 yX3_come, Cond.instanceMethod yX3_come, Cond.selects RX3 yX3_come yX3_come, Cond.code yX3_come cX3_come 3 none, Cond.fieldLink RX3 25 "TwoModems$Modem" "noted" "[I", Cond.fieldLink RX3 12 "TwoModems$Modem" "echo" "LTwoModems$Echo;", Cond.fieldLink RX3 53 "TwoModems$Modem" "credit" "I", Cond.fieldLink RX3 56 "TwoModems$Modem" "waited" "I", Cond.fieldLink RX3 62 "TwoModems$Modem" "losses" "I", Cond.fieldLink RX3 88 "TwoModems$Mail" "next" "I", Cond.fieldLink RX3 71 "TwoModems$Modem" "datas" "I", Cond.methodLink RX3 125 yX0_forget, Cond.instanceMethod yX0_forget, Cond.selects RX0 yX0_forget yX0_forget, Cond.initialized RX0, Cond.code yX0_forget cX0_forget 2 none, Cond.fieldLink RX0 15 "TwoModems$Echo" "learnt" "[I", Cond.methodLink RX3 106 yX3_hear, Cond.instanceMethod yX3_hear, Cond.selects RX3 yX3_hear yX3_hear, Cond.code yX3_hear cX3_hear 2 none]
def wsX3_live_r3 : List Cond := [Cond.methodLink RX3 113 yX7_sort, Cond.instanceMethod yX7_sort, Cond.selects RX7 yX7_sort yX7_sort, Cond.code yX7_sort cX7_sort 1 (some .int), Cond.methodLink RX3 133 yX7_first, Cond.instanceMethod yX7_first, Cond.selects RX7 yX7_first yX7_first, Cond.code yX7_first cX7_first 1 (some .int), Cond.methodLink RX3 136 yX3_note, Cond.instanceMethod yX3_note, Cond.selects RX3 yX3_note yX3_note, Cond.code yX3_note cX3_note 2 none, Cond.fieldLink RX3 152 "TwoModems$Way" "quality" "[I", Cond.methodLink RX3 139 yX3_hearInBargain, Cond.instanceMethod yX3_hearInBargain, Cond.selects RX3 yX3_hearInBargain yX3_hearInBargain, Cond.code yX3_hearInBargain cX3_hearInBargain 1 none, Cond.fieldLink RX3 47 "TwoModems$Modem" "offer" "I", Cond.methodLink RX3 158 Lib.Math.min.name, Cond.static Lib.Math.min.name, Cond.initialized "java/lang/Math", Cond.code Lib.Math.min.name Lib.Math.min.code 2 (some .int), Cond.methodLink RX3 142 yX3_isOfRound, Cond.instanceMethod yX3_isOfRound]
def wsX3_live_r4 : List Cond := [Cond.selects RX3 yX3_isOfRound yX3_isOfRound, Cond.code yX3_isOfRound cX3_isOfRound 2 (some .boolean), Cond.fieldLink RX3 44 "TwoModems$Modem" "round" "I", Cond.methodLink RX3 155 yX7_second, Cond.instanceMethod yX7_second, Cond.selects RX7 yX7_second yX7_second, Cond.code yX7_second cX7_second 1 (some .int), Cond.methodLink RX3 164 yX3_settle, Cond.instanceMethod yX3_settle, Cond.selects RX3 yX3_settle yX3_settle, Cond.code yX3_settle cX3_settle 2 none, Cond.fieldLink RX3 50 "TwoModems$Modem" "rate" "I", Cond.methodLink RX3 146 yX3_hearGreaterRound, Cond.instanceMethod yX3_hearGreaterRound, Cond.selects RX3 yX3_hearGreaterRound yX3_hearGreaterRound, Cond.code yX3_hearGreaterRound cX3_hearGreaterRound 1 none, Cond.methodLink RX3 149 yX3_hearInData, Cond.instanceMethod yX3_hearInData, Cond.selects RX3 yX3_hearInData yX3_hearInData, Cond.code yX3_hearInData cX3_hearInData 1 none, Cond.methodLink RX3 167 yX2_take, Cond.instanceMethod yX2_take, Cond.selects RX2 yX2_take yX2_take, Cond.initialized RX2]
def wsX3_live_r5 : List Cond := [Cond.code yX2_take cX2_take 3 none, Cond.fieldLink RX2 20 "TwoModems$Mail" "taken" "I", Cond.fieldLink RX2 13 "TwoModems$Mail" "takenCodes" "[I", Cond.fieldLink RX2 23 "TwoModems$Mail" "told" "I", Cond.methodLink RX2 50 Lib.Math.max.name, Cond.static Lib.Math.max.name, Cond.code Lib.Math.max.name Lib.Math.max.code 2 (some .int), Cond.methodLink RX2 35 yX7_second, Cond.methodLink RX2 41 yX7_letters, Cond.instanceMethod yX7_letters, Cond.selects RX7 yX7_letters yX7_letters, Cond.code yX7_letters cX7_letters 1 (some .int), Cond.methodLink RX2 44 yX7_enclosed, Cond.instanceMethod yX7_enclosed, Cond.selects RX7 yX7_enclosed yX7_enclosed, Cond.code yX7_enclosed cX7_enclosed 2 (some .int), Cond.methodLink RX2 48 yX7_told, Cond.instanceMethod yX7_told, Cond.selects RX7 yX7_told yX7_told, Cond.code yX7_told cX7_told 1 (some .int), Cond.methodLink RX3 109 yX3_look, Cond.instanceMethod yX3_look, Cond.selects RX3 yX3_look yX3_look, Cond.code yX3_look cX3_look 2 none]
def wsX3_live_r6 : List Cond := [Cond.methodLink RX3 171 yX3_makeOffer, Cond.instanceMethod yX3_makeOffer, Cond.selects RX3 yX3_makeOffer yX3_makeOffer, Cond.code yX3_makeOffer cX3_makeOffer 3 none, Cond.fieldLink RX3 59 "TwoModems$Modem" "remains" "I", Cond.methodLink RX3 182 Lib.Math.max.name, Cond.methodLink RX3 180 yX0_remains, Cond.instanceMethod yX0_remains, Cond.selects RX0 yX0_remains yX0_remains, Cond.code yX0_remains cX0_remains 3 (some .int), Cond.fieldLink RX0 9 "TwoModems$Echo" "taps" "[I", Cond.methodLink RX0 22 Lib.Math.abs.name, Cond.static Lib.Math.abs.name, Cond.code Lib.Math.abs.name Lib.Math.abs.code 1 (some .int), Cond.methodLink RX3 174 yX3_lookAtWaiting, Cond.instanceMethod yX3_lookAtWaiting, Cond.selects RX3 yX3_lookAtWaiting yX3_lookAtWaiting, Cond.code yX3_lookAtWaiting cX3_lookAtWaiting 2 none, Cond.methodLink RX3 177 yX3_lookAtLosses, Cond.instanceMethod yX3_lookAtLosses, Cond.selects RX3 yX3_lookAtLosses yX3_lookAtLosses, Cond.code yX3_lookAtLosses cX3_lookAtLosses 1 none, Cond.fieldLink RX3 68 "TwoModems$Modem" "agains" "I", Cond.methodLink RX3 185 yJ6_bitCount_0f7a4]
def wsX3_live_r7 : List Cond := [Cond.static yJ6_bitCount_0f7a4, Cond.initialized RJ6, Cond.code yJ6_bitCount_0f7a4 cJ6_bitCount_0f7a4 1 (some .int), Cond.constant RJ6 265 (1431655765), Cond.constant RJ6 266 (858993459), Cond.constant RJ6 267 (252645135), Cond.methodLink RX3 122 yX3_speak, Cond.instanceMethod yX3_speak, Cond.selects RX3 yX3_speak yX3_speak, Cond.code yX3_speak cX3_speak 2 none, Cond.fieldLink RX3 82 "TwoModems$Modem" "out" "LTwoModems$Way;", Cond.methodLink RX3 191 yX7_send, Cond.instanceMethod yX7_send, Cond.selects RX7 yX7_send yX7_send, Cond.code yX7_send cX7_send 9 none, Cond.methodLink RX3 195 yX3_speakProbe, Cond.instanceMethod yX3_speakProbe, Cond.selects RX3 yX3_speakProbe yX3_speakProbe, Cond.code yX3_speakProbe cX3_speakProbe 2 none, Cond.methodLink RX3 198 yX0_follow, Cond.instanceMethod yX0_follow, Cond.selects RX0 yX0_follow yX0_follow, Cond.code yX0_follow cX0_follow 4 none, Cond.methodLink RX0 18 yX0_sign]
def wsX3_live_r8 : List Cond := [Cond.instanceMethod yX0_sign, Cond.selects RX0 yX0_sign yX0_sign, Cond.code yX0_sign cX0_sign 2 (some .int), Cond.methodLink RX3 201 yX3_speakFrame, Cond.instanceMethod yX3_speakFrame, Cond.selects RX3 yX3_speakFrame yX3_speakFrame, Cond.code yX3_speakFrame cX3_speakFrame 4 none, Cond.fieldLink RX3 94 "TwoModems$Mail" "taken" "I", Cond.methodLink RX3 204 yX2_ready, Cond.instanceMethod yX2_ready, Cond.selects RX2 yX2_ready yX2_ready, Cond.code yX2_ready cX2_ready 2 (some .int), Cond.fieldLink RX2 16 "TwoModems$Mail" "said" "I", Cond.fieldLink RX2 26 "TwoModems$Mail" "next" "I", Cond.methodLink RX2 56 Lib.Math.min.name, Cond.methodLink RX3 207 yX2_pass, Cond.instanceMethod yX2_pass, Cond.selects RX2 yX2_pass yX2_pass, Cond.code yX2_pass cX2_pass 2 (some .int), Cond.fieldLink RX2 9 "TwoModems$Mail" "toSend" "[I", Cond.fieldLink RX2 32 "TwoModems$Mail" "sentBelow" "I", Cond.fieldLink RX2 29 "TwoModems$Mail" "repeated" "I", Cond.methodLink RX3 210 yX7_enclose, Cond.instanceMethod yX7_enclose]
def wsX3_live_r9 : List Cond := [Cond.selects RX7 yX7_enclose yX7_enclose, Cond.code yX7_enclose cX7_enclose 4 none]
def wsX3_live : List Cond := .code yX3_live cX3_live 5 none :: ((wsX3_live_r1 ++ (wsX3_live_r2 ++ (wsX3_live_r3 ++ (wsX3_live_r4 ++ (wsX3_live_r5 ++ (wsX3_live_r6 ++ (wsX3_live_r7 ++ (wsX3_live_r8 ++ wsX3_live_r9)))))))) ++ wsX30 ++ wsX20 ++ wsX10 ++ wsX70 ++ wsX00)
def wsX4_init : List Cond := .code yX4_init cX4_init 1 none :: ([.methodLink RX4 3 objectInit, .instanceMethod objectInit, .code objectInit ⟨#[0xb1]⟩ 1 none, .arrayClass .int, .fieldLink RX4 11 "TwoModems$Page" "codes" "[I", .fieldLink RX4 15 "TwoModems$Page" "size" "I"] ++ wsX40)
def wsX4_add : List Cond := .code yX4_add cX4_add 2 none :: ([.fieldLink RX4 15 "TwoModems$Page" "size" "I", .fieldLink RX4 11 "TwoModems$Page" "codes" "[I"] ++ wsX40)
def wsX4_fitsHurt : List Cond := .code yX4_fitsHurt cX4_fitsHurt 6 (some .boolean) :: ([.methodLink RX4 27 yX4_commaAhead, .instanceMethod yX4_commaAhead, .selects RX4 yX4_commaAhead yX4_commaAhead, .initialized RX4, .code yX4_commaAhead cX4_commaAhead 3 (some .int), .methodLink RX4 31 yX4_codeAt, .instanceMethod yX4_codeAt, .selects RX4 yX4_codeAt yX4_codeAt, .code yX4_codeAt cX4_codeAt 2 (some .int), .fieldLink RX4 15 "TwoModems$Page" "size" "I", .fieldLink RX4 11 "TwoModems$Page" "codes" "[I", .methodLink RX4 37 yX4_number, .instanceMethod yX4_number, .selects RX4 yX4_number yX4_number, .code yX4_number cX4_number 5 (some .int)] ++ wsX40)
def wsX4_fits : List Cond := .code yX4_fits cX4_fits 3 (some .boolean) :: ([.methodLink RX4 31 yX4_codeAt, .instanceMethod yX4_codeAt, .selects RX4 yX4_codeAt yX4_codeAt, .initialized RX4, .code yX4_codeAt cX4_codeAt 2 (some .int), .fieldLink RX4 15 "TwoModems$Page" "size" "I", .fieldLink RX4 11 "TwoModems$Page" "codes" "[I", .methodLink RX4 34 yX4_figure, .instanceMethod yX4_figure, .selects RX4 yX4_figure yX4_figure, .code yX4_figure cX4_figure 2 (some .int), .methodLink RX4 41 yX4_fitsHurt, .instanceMethod yX4_fitsHurt, .selects RX4 yX4_fitsHurt yX4_fitsHurt, .code yX4_fitsHurt cX4_fitsHurt 6 (some .boolean), .methodLink RX4 27 yX4_commaAhead, .instanceMethod yX4_commaAhead, .selects RX4 yX4_commaAhead yX4_commaAhead, .code yX4_commaAhead cX4_commaAhead 3 (some .int), .methodLink RX4 37 yX4_number, .instanceMethod yX4_number, .selects RX4 yX4_number yX4_number, .code yX4_number cX4_number 5 (some .int)] ++ wsX40)
def wsX4_firstFault_r1 : List Cond := [Cond.fieldLink RX4 15 "TwoModems$Page" "size" "I", Cond.methodLink RX4 19 yX4_fits, Cond.instanceMethod yX4_fits, Cond.selects RX4 yX4_fits yX4_fits, Cond.initialized RX4, Cond.code yX4_fits cX4_fits 3 (some .boolean), Cond.methodLink RX4 31 yX4_codeAt, Cond.instanceMethod yX4_codeAt, Cond.selects RX4 yX4_codeAt yX4_codeAt, Cond.code yX4_codeAt cX4_codeAt 2 (some .int), Cond.fieldLink RX4 11 "TwoModems$Page" "codes" "[I", Cond.methodLink RX4 34 yX4_figure, Cond.instanceMethod yX4_figure, Cond.selects RX4 yX4_figure yX4_figure, Cond.code yX4_figure cX4_figure 2 (some .int), Cond.methodLink RX4 41 yX4_fitsHurt, Cond.instanceMethod yX4_fitsHurt, Cond.selects RX4 yX4_fitsHurt yX4_fitsHurt, Cond.code yX4_fitsHurt cX4_fitsHurt 6 (some .boolean), Cond.methodLink RX4 27 yX4_commaAhead, Cond.instanceMethod yX4_commaAhead, Cond.selects RX4 yX4_commaAhead yX4_commaAhead, Cond.code yX4_commaAhead cX4_commaAhead 3 (some .int), Cond.methodLink RX4 37 yX4_number]
def wsX4_firstFault_r2 : List Cond := [Cond.instanceMethod yX4_number, Cond.selects RX4 yX4_number yX4_number, Cond.code yX4_number cX4_number 5 (some .int)]
def wsX4_firstFault : List Cond := .code yX4_firstFault cX4_firstFault 2 (some .int) :: ((wsX4_firstFault_r1 ++ wsX4_firstFault_r2) ++ wsX40)
def wsX4_isLine_r1 : List Cond := [Cond.fieldLink RX4 15 "TwoModems$Page" "size" "I", Cond.methodLink RX4 23 yX4_firstFault, Cond.instanceMethod yX4_firstFault, Cond.selects RX4 yX4_firstFault yX4_firstFault, Cond.initialized RX4, Cond.code yX4_firstFault cX4_firstFault 2 (some .int), Cond.methodLink RX4 19 yX4_fits, Cond.instanceMethod yX4_fits, Cond.selects RX4 yX4_fits yX4_fits, Cond.code yX4_fits cX4_fits 3 (some .boolean), Cond.methodLink RX4 31 yX4_codeAt, Cond.instanceMethod yX4_codeAt, Cond.selects RX4 yX4_codeAt yX4_codeAt, Cond.code yX4_codeAt cX4_codeAt 2 (some .int), Cond.fieldLink RX4 11 "TwoModems$Page" "codes" "[I", Cond.methodLink RX4 34 yX4_figure, Cond.instanceMethod yX4_figure, Cond.selects RX4 yX4_figure yX4_figure, Cond.code yX4_figure cX4_figure 2 (some .int), Cond.methodLink RX4 41 yX4_fitsHurt, Cond.instanceMethod yX4_fitsHurt, Cond.selects RX4 yX4_fitsHurt yX4_fitsHurt, Cond.code yX4_fitsHurt cX4_fitsHurt 6 (some .boolean), Cond.methodLink RX4 27 yX4_commaAhead]
def wsX4_isLine_r2 : List Cond := [Cond.instanceMethod yX4_commaAhead, Cond.selects RX4 yX4_commaAhead yX4_commaAhead, Cond.code yX4_commaAhead cX4_commaAhead 3 (some .int), Cond.methodLink RX4 37 yX4_number, Cond.instanceMethod yX4_number, Cond.selects RX4 yX4_number yX4_number, Cond.code yX4_number cX4_number 5 (some .int)]
def wsX4_isLine : List Cond := .code yX4_isLine cX4_isLine 2 (some .boolean) :: ((wsX4_isLine_r1 ++ wsX4_isLine_r2) ++ wsX40)
def wsX8_init_r1 : List Cond := [Cond.methodLink RX8 1 objectInit, Cond.instanceMethod objectInit, Cond.code objectInit ⟨#[0xb1]⟩ 1 none, Cond.classLink RX8 7 RX1, Cond.instantiable RX1 4, Cond.initialized RX1, Cond.classLink RX8 10 RX4, Cond.instantiable RX4 2, Cond.initialized RX4, Cond.fieldLink RX8 13 "TwoModems" "page" "LTwoModems$Page;", Cond.fieldLink RX8 19 "TwoModems" "line" "LTwoModems$Line;", Cond.classLink RX8 23 RX3, Cond.instantiable RX3 20, Cond.initialized RX3, Cond.fieldLink RX8 25 "TwoModems$Line" "back" "LTwoModems$Way;", Cond.fieldLink RX8 29 "TwoModems$Line" "forth" "LTwoModems$Way;", Cond.fieldLink RX8 35 "TwoModems" "zero" "LTwoModems$Modem;", Cond.fieldLink RX8 39 "TwoModems" "one" "LTwoModems$Modem;", Cond.fieldLink RX8 42 "TwoModems" "ticks" "I", Cond.instanceMethod yX1_init, Cond.code yX1_init cX1_init 1 none, Cond.methodLink RX1 3 objectInit, Cond.classLink RX1 9 RX7, Cond.instantiable RX7 8]
def wsX8_init_r2 : List Cond := [Cond.initialized RX7, Cond.fieldLink RX1 12 "TwoModems$Line" "forth" "LTwoModems$Way;", Cond.fieldLink RX1 18 "TwoModems$Line" "back" "LTwoModems$Way;", Cond.fieldLink RX1 21 "TwoModems$Line" "delay" "I", Cond.fieldLink RX1 25 "TwoModems$Line" "readings" "I", Cond.methodLink RX1 11 yX7_init, Cond.instanceMethod yX7_init, Cond.code yX7_init cX7_init 2 none, Cond.methodLink RX7 5 objectInit, Cond.arrayClass .int, Cond.fieldLink RX7 11 "TwoModems$Way" "quality" "[I", Cond.fieldLink RX7 15 "TwoModems$Way" "latest" "[I", Cond.fieldLink RX7 18 "TwoModems$Way" "rows" "[I", Cond.arrayClass .boolean, Cond.fieldLink RX7 21 "TwoModems$Way" "full" "[Z", Cond.fieldLink RX7 25 "TwoModems$Way" "hurt" "I", Cond.fieldLink RX7 29 "TwoModems$Way" "came" "I", Cond.fieldLink RX7 32 "TwoModems$Way" "harmed" "I", Cond.fieldLink RX7 35 "TwoModems$Way" "underWay" "I", Cond.instanceMethod yX4_init, Cond.code yX4_init cX4_init 1 none, Cond.methodLink RX4 3 objectInit, Cond.fieldLink RX4 11 "TwoModems$Page" "codes" "[I", Cond.fieldLink RX4 15 "TwoModems$Page" "size" "I"]
def wsX8_init_r3 : List Cond := [Cond.methodLink RX8 32 yX3_init, Cond.instanceMethod yX3_init, Cond.code yX3_init cX3_init 4 none, Cond.methodLink RX3 3 objectInit, Cond.classLink RX3 9 RX0, Cond.instantiable RX0 2, Cond.initialized RX0, Cond.fieldLink RX3 12 "TwoModems$Modem" "echo" "LTwoModems$Echo;", Cond.classLink RX3 18 RX2, Cond.instantiable RX2 8, Cond.initialized RX2, Cond.fieldLink RX3 21 "TwoModems$Modem" "mail" "LTwoModems$Mail;", Cond.fieldLink RX3 25 "TwoModems$Modem" "noted" "[I", Cond.fieldLink RX3 31 "TwoModems$Modem" "phase" "I", Cond.fieldLink RX3 35 "TwoModems$Modem" "changes" "I", Cond.fieldLink RX3 38 "TwoModems$Modem" "lasted" "I", Cond.fieldLink RX3 41 "TwoModems$Modem" "silences" "I", Cond.fieldLink RX3 44 "TwoModems$Modem" "round" "I", Cond.fieldLink RX3 47 "TwoModems$Modem" "offer" "I", Cond.fieldLink RX3 50 "TwoModems$Modem" "rate" "I", Cond.fieldLink RX3 53 "TwoModems$Modem" "credit" "I", Cond.fieldLink RX3 56 "TwoModems$Modem" "waited" "I", Cond.fieldLink RX3 59 "TwoModems$Modem" "remains" "I", Cond.fieldLink RX3 62 "TwoModems$Modem" "losses" "I"]
def wsX8_init_r4 : List Cond := [Cond.fieldLink RX3 65 "TwoModems$Modem" "surrenders" "I", Cond.fieldLink RX3 68 "TwoModems$Modem" "agains" "I", Cond.fieldLink RX3 71 "TwoModems$Modem" "datas" "I", Cond.fieldLink RX3 74 "TwoModems$Modem" "line" "LTwoModems$Line;", Cond.fieldLink RX3 78 "TwoModems$Modem" "in" "LTwoModems$Way;", Cond.fieldLink RX3 82 "TwoModems$Modem" "out" "LTwoModems$Way;", Cond.instanceMethod yX0_init, Cond.code yX0_init cX0_init 1 none, Cond.methodLink RX0 3 objectInit, Cond.fieldLink RX0 9 "TwoModems$Echo" "taps" "[I", Cond.fieldLink RX0 15 "TwoModems$Echo" "learnt" "[I", Cond.instanceMethod yX2_init, Cond.code yX2_init cX2_init 1 none, Cond.methodLink RX2 1 objectInit, Cond.fieldLink RX2 9 "TwoModems$Mail" "toSend" "[I", Cond.fieldLink RX2 13 "TwoModems$Mail" "takenCodes" "[I", Cond.fieldLink RX2 16 "TwoModems$Mail" "said" "I", Cond.fieldLink RX2 20 "TwoModems$Mail" "taken" "I", Cond.fieldLink RX2 23 "TwoModems$Mail" "told" "I", Cond.fieldLink RX2 26 "TwoModems$Mail" "next" "I", Cond.fieldLink RX2 29 "TwoModems$Mail" "repeated" "I", Cond.fieldLink RX2 32 "TwoModems$Mail" "sentBelow" "I"]
def wsX8_init : List Cond := .code yX8_init cX8_init 2 none :: ((wsX8_init_r1 ++ (wsX8_init_r2 ++ (wsX8_init_r3 ++ wsX8_init_r4))) ++ wsX10 ++ wsX40 ++ wsX80 ++ wsX30 ++ wsX70 ++ wsX00 ++ wsX20)
def wsX8_letter : List Cond := .code yX8_letter cX8_letter 2 (some .int) :: ([.fieldLink RX8 13 "TwoModems" "page" "LTwoModems$Page;", .fieldLink RX8 46 "TwoModems$Page" "size" "I", .methodLink RX8 49 yX4_add, .instanceMethod yX4_add, .selects RX4 yX4_add yX4_add, .initialized RX4, .code yX4_add cX4_add 2 none, .fieldLink RX4 15 "TwoModems$Page" "size" "I", .fieldLink RX4 11 "TwoModems$Page" "codes" "[I"] ++ wsX80 ++ wsX40)
def wsX8_blank : List Cond := .code yX8_blank cX8_blank 2 (some .int) :: ([.fieldLink RX8 13 "TwoModems" "page" "LTwoModems$Page;", .fieldLink RX8 46 "TwoModems$Page" "size" "I"] ++ wsX80 ++ wsX40)
def wsX8_fault_r1 : List Cond := [Cond.fieldLink RX8 13 "TwoModems" "page" "LTwoModems$Page;", Cond.methodLink RX8 53 yX4_firstFault, Cond.instanceMethod yX4_firstFault, Cond.selects RX4 yX4_firstFault yX4_firstFault, Cond.initialized RX4, Cond.code yX4_firstFault cX4_firstFault 2 (some .int), Cond.fieldLink RX4 15 "TwoModems$Page" "size" "I", Cond.methodLink RX4 19 yX4_fits, Cond.instanceMethod yX4_fits, Cond.selects RX4 yX4_fits yX4_fits, Cond.code yX4_fits cX4_fits 3 (some .boolean), Cond.methodLink RX4 31 yX4_codeAt, Cond.instanceMethod yX4_codeAt, Cond.selects RX4 yX4_codeAt yX4_codeAt, Cond.code yX4_codeAt cX4_codeAt 2 (some .int), Cond.fieldLink RX4 11 "TwoModems$Page" "codes" "[I", Cond.methodLink RX4 34 yX4_figure, Cond.instanceMethod yX4_figure, Cond.selects RX4 yX4_figure yX4_figure, Cond.code yX4_figure cX4_figure 2 (some .int), Cond.methodLink RX4 41 yX4_fitsHurt, Cond.instanceMethod yX4_fitsHurt, Cond.selects RX4 yX4_fitsHurt yX4_fitsHurt, Cond.code yX4_fitsHurt cX4_fitsHurt 6 (some .boolean)]
def wsX8_fault_r2 : List Cond := [Cond.methodLink RX4 27 yX4_commaAhead, Cond.instanceMethod yX4_commaAhead, Cond.selects RX4 yX4_commaAhead yX4_commaAhead, Cond.code yX4_commaAhead cX4_commaAhead 3 (some .int), Cond.methodLink RX4 37 yX4_number, Cond.instanceMethod yX4_number, Cond.selects RX4 yX4_number yX4_number, Cond.code yX4_number cX4_number 5 (some .int)]
def wsX8_fault : List Cond := .code yX8_fault cX8_fault 1 (some .int) :: ((wsX8_fault_r1 ++ wsX8_fault_r2) ++ wsX80 ++ wsX40)
def wsX8_line_r1 : List Cond := [Cond.fieldLink RX8 13 "TwoModems" "page" "LTwoModems$Page;", Cond.fieldLink RX8 19 "TwoModems" "line" "LTwoModems$Line;", Cond.fieldLink RX8 46 "TwoModems$Page" "size" "I", Cond.fieldLink RX8 65 "TwoModems$Line" "delay" "I", Cond.methodLink RX8 57 yX4_isLine, Cond.instanceMethod yX4_isLine, Cond.selects RX4 yX4_isLine yX4_isLine, Cond.initialized RX4, Cond.code yX4_isLine cX4_isLine 2 (some .boolean), Cond.fieldLink RX4 15 "TwoModems$Page" "size" "I", Cond.methodLink RX4 23 yX4_firstFault, Cond.instanceMethod yX4_firstFault, Cond.selects RX4 yX4_firstFault yX4_firstFault, Cond.code yX4_firstFault cX4_firstFault 2 (some .int), Cond.methodLink RX4 19 yX4_fits, Cond.instanceMethod yX4_fits, Cond.selects RX4 yX4_fits yX4_fits, Cond.code yX4_fits cX4_fits 3 (some .boolean), Cond.methodLink RX4 31 yX4_codeAt, Cond.instanceMethod yX4_codeAt, Cond.selects RX4 yX4_codeAt yX4_codeAt, Cond.code yX4_codeAt cX4_codeAt 2 (some .int), Cond.fieldLink RX4 11 "TwoModems$Page" "codes" "[I", Cond.methodLink RX4 34 yX4_figure]
def wsX8_line_r2 : List Cond := [Cond.instanceMethod yX4_figure, Cond.selects RX4 yX4_figure yX4_figure, Cond.code yX4_figure cX4_figure 2 (some .int), Cond.methodLink RX4 41 yX4_fitsHurt, Cond.instanceMethod yX4_fitsHurt, Cond.selects RX4 yX4_fitsHurt yX4_fitsHurt, Cond.code yX4_fitsHurt cX4_fitsHurt 6 (some .boolean), Cond.methodLink RX4 27 yX4_commaAhead, Cond.instanceMethod yX4_commaAhead, Cond.selects RX4 yX4_commaAhead yX4_commaAhead, Cond.code yX4_commaAhead cX4_commaAhead 3 (some .int), Cond.methodLink RX4 37 yX4_number, Cond.instanceMethod yX4_number, Cond.selects RX4 yX4_number yX4_number, Cond.code yX4_number cX4_number 5 (some .int), Cond.methodLink RX8 61 yX1_read, Cond.instanceMethod yX1_read, Cond.selects RX1 yX1_read yX1_read, Cond.initialized RX1, Cond.code yX1_read cX1_read 3 none, Cond.fieldLink RX1 12 "TwoModems$Line" "forth" "LTwoModems$Way;", Cond.fieldLink RX1 28 "TwoModems$Way" "quality" "[I", Cond.fieldLink RX1 18 "TwoModems$Line" "back" "LTwoModems$Way;", Cond.fieldLink RX1 21 "TwoModems$Line" "delay" "I"]
def wsX8_line_r3 : List Cond := [Cond.fieldLink RX1 45 "TwoModems$Way" "hurt" "I", Cond.fieldLink RX1 25 "TwoModems$Line" "readings" "I", Cond.methodLink RX1 32 yX4_qualityAt, Cond.instanceMethod yX4_qualityAt, Cond.selects RX4 yX4_qualityAt yX4_qualityAt, Cond.code yX4_qualityAt cX4_qualityAt 3 (some .int), Cond.methodLink RX1 38 yX4_delay, Cond.instanceMethod yX4_delay, Cond.selects RX4 yX4_delay yX4_delay, Cond.code yX4_delay cX4_delay 1 (some .int), Cond.methodLink RX1 41 yX4_hurtOf, Cond.instanceMethod yX4_hurtOf, Cond.selects RX4 yX4_hurtOf yX4_hurtOf, Cond.code yX4_hurtOf cX4_hurtOf 3 (some .int)]
def wsX8_line : List Cond := .code yX8_line cX8_line 1 (some .int) :: ((wsX8_line_r1 ++ (wsX8_line_r2 ++ wsX8_line_r3)) ++ wsX80 ++ wsX40 ++ wsX10 ++ wsX70)
def wsX8_modemAt : List Cond := .code yX8_modemAt cX8_modemAt 2 (some (.object "TwoModems$Modem")) :: ([.fieldLink RX8 35 "TwoModems" "zero" "LTwoModems$Modem;", .fieldLink RX8 39 "TwoModems" "one" "LTwoModems$Modem;"] ++ wsX80)
def wsX8_say_r1 : List Cond := [Cond.fieldLink RX8 72 "TwoModems$Modem" "mail" "LTwoModems$Mail;", Cond.fieldLink RX8 76 "TwoModems$Mail" "said" "I", Cond.fieldLink RX8 13 "TwoModems" "page" "LTwoModems$Page;", Cond.fieldLink RX8 46 "TwoModems$Page" "size" "I", Cond.methodLink RX8 68 yX8_modemAt, Cond.instanceMethod yX8_modemAt, Cond.selects RX8 yX8_modemAt yX8_modemAt, Cond.initialized RX8, Cond.code yX8_modemAt cX8_modemAt 2 (some (.object "TwoModems$Modem")), Cond.fieldLink RX8 35 "TwoModems" "zero" "LTwoModems$Modem;", Cond.fieldLink RX8 39 "TwoModems" "one" "LTwoModems$Modem;", Cond.methodLink RX8 81 yX4_codeAt, Cond.instanceMethod yX4_codeAt, Cond.selects RX4 yX4_codeAt yX4_codeAt, Cond.initialized RX4, Cond.code yX4_codeAt cX4_codeAt 2 (some .int), Cond.fieldLink RX4 15 "TwoModems$Page" "size" "I", Cond.fieldLink RX4 11 "TwoModems$Page" "codes" "[I", Cond.methodLink RX8 85 yX2_add, Cond.instanceMethod yX2_add, Cond.selects RX2 yX2_add yX2_add, Cond.initialized RX2, Cond.code yX2_add cX2_add 2 none, Cond.fieldLink RX2 16 "TwoModems$Mail" "said" "I"]
def wsX8_say_r2 : List Cond := [Cond.fieldLink RX2 9 "TwoModems$Mail" "toSend" "[I"]
def wsX8_say : List Cond := .code yX8_say cX8_say 4 (some .int) :: ((wsX8_say_r1 ++ wsX8_say_r2) ++ wsX30 ++ wsX20 ++ wsX80 ++ wsX40)
def wsX8_echo : List Cond := .code yX8_echo cX8_echo 6 (some .int) :: ([.fieldLink RX8 86 "TwoModems$Modem" "echo" "LTwoModems$Echo;", .fieldLink RX8 90 "TwoModems$Echo" "taps" "[I", .methodLink RX8 68 yX8_modemAt, .instanceMethod yX8_modemAt, .selects RX8 yX8_modemAt yX8_modemAt, .initialized RX8, .code yX8_modemAt cX8_modemAt 2 (some (.object "TwoModems$Modem")), .fieldLink RX8 35 "TwoModems" "zero" "LTwoModems$Modem;", .fieldLink RX8 39 "TwoModems" "one" "LTwoModems$Modem;"] ++ wsX30 ++ wsX00 ++ wsX80)
def wsX8_call : List Cond := .code yX8_call cX8_call 3 (some .int) :: ([.fieldLink RX8 96 "TwoModems$Modem" "phase" "I", .methodLink RX8 68 yX8_modemAt, .instanceMethod yX8_modemAt, .selects RX8 yX8_modemAt yX8_modemAt, .initialized RX8, .code yX8_modemAt cX8_modemAt 2 (some (.object "TwoModems$Modem")), .fieldLink RX8 35 "TwoModems" "zero" "LTwoModems$Modem;", .fieldLink RX8 39 "TwoModems" "one" "LTwoModems$Modem;", .methodLink RX8 101 yX3_force, .instanceMethod yX3_force, .selects RX3 yX3_force yX3_force, .initialized RX3, .code yX3_force cX3_force 2 none, .fieldLink RX3 31 "TwoModems$Modem" "phase" "I", .fieldLink RX3 38 "TwoModems$Modem" "lasted" "I"] ++ wsX30 ++ wsX80)
def wsX8_hang : List Cond := .code yX8_hang cX8_hang 4 (some .int) :: ([.fieldLink RX8 96 "TwoModems$Modem" "phase" "I", .methodLink RX8 68 yX8_modemAt, .instanceMethod yX8_modemAt, .selects RX8 yX8_modemAt yX8_modemAt, .initialized RX8, .code yX8_modemAt cX8_modemAt 2 (some (.object "TwoModems$Modem")), .fieldLink RX8 35 "TwoModems" "zero" "LTwoModems$Modem;", .fieldLink RX8 39 "TwoModems" "one" "LTwoModems$Modem;", .methodLink RX8 101 yX3_force, .instanceMethod yX3_force, .selects RX3 yX3_force yX3_force, .initialized RX3, .code yX3_force cX3_force 2 none, .fieldLink RX3 31 "TwoModems$Modem" "phase" "I", .fieldLink RX3 38 "TwoModems$Modem" "lasted" "I"] ++ wsX30 ++ wsX80)
def wsX8_changes : List Cond := .code yX8_changes cX8_changes 1 (some .int) :: ([.fieldLink RX8 35 "TwoModems" "zero" "LTwoModems$Modem;", .fieldLink RX8 168 "TwoModems$Modem" "changes" "I", .fieldLink RX8 39 "TwoModems" "one" "LTwoModems$Modem;"] ++ wsX80 ++ wsX30)
def wsX8_go_r1 : List Cond := [Cond.fieldLink RX8 35 "TwoModems" "zero" "LTwoModems$Modem;", Cond.fieldLink RX8 42 "TwoModems" "ticks" "I", Cond.fieldLink RX8 39 "TwoModems" "one" "LTwoModems$Modem;", Cond.methodLink RX8 104 yX8_changes, Cond.instanceMethod yX8_changes, Cond.selects RX8 yX8_changes yX8_changes, Cond.initialized RX8, Cond.code yX8_changes cX8_changes 1 (some .int), Cond.fieldLink RX8 168 "TwoModems$Modem" "changes" "I", Cond.methodLink RX8 107 yX3_live, Cond.instanceMethod yX3_live, Cond.selects RX3 yX3_live yX3_live, Cond.initialized RX3, Cond.code yX3_live cX3_live 5 none, Cond.fieldLink RX3 31 "TwoModems$Modem" "phase" "I", Cond.fieldLink RX3 35 "TwoModems$Modem" "changes" "I", Cond.fieldLink RX3 21 "TwoModems$Modem" "mail" "LTwoModems$Mail;", Cond.fieldLink RX3 91 "TwoModems$Mail" "told" "I", Cond.fieldLink RX3 78 "TwoModems$Modem" "in" "LTwoModems$Way;", Cond.fieldLink RX3 41 "TwoModems$Modem" "silences" "I", Cond.fieldLink RX3 74 "TwoModems$Modem" "line" "LTwoModems$Line;", Cond.fieldLink RX3 117 "TwoModems$Line" "delay" "I", Cond.fieldLink RX3 38 "TwoModems$Modem" "lasted" "I", Cond.methodLink RX3 97 yX7_bring]
def wsX8_go_r2 : List Cond := [Cond.instanceMethod yX7_bring, Cond.selects RX7 yX7_bring yX7_bring, Cond.initialized RX7, Cond.code yX7_bring cX7_bring 5 none, Cond.fieldLink RX7 21 "TwoModems$Way" "full" "[Z", Cond.fieldLink RX7 35 "TwoModems$Way" "underWay" "I", Cond.fieldLink RX7 29 "TwoModems$Way" "came" "I", Cond.fieldLink RX7 25 "TwoModems$Way" "hurt" "I", Cond.fieldLink RX7 32 "TwoModems$Way" "harmed" "I", Cond.fieldLink RX7 15 "TwoModems$Way" "latest" "[I", Cond.fieldLink RX7 18 "TwoModems$Way" "rows" "[I", Cond.methodLink RX3 103 yX3_surrender, Cond.instanceMethod yX3_surrender, Cond.selects RX3 yX3_surrender yX3_surrender, Cond.code yX3_surrender cX3_surrender 3 none, Cond.fieldLink RX3 65 "TwoModems$Modem" "surrenders" "I", Cond.methodLink RX3 128 yX3_come, Cond.instanceMethod yX3_come, Cond.selects RX3 yX3_come yX3_come, Cond.code yX3_come cX3_come 3 none, Cond.fieldLink RX3 25 "TwoModems$Modem" "noted" "[I", Cond.fieldLink RX3 12 "TwoModems$Modem" "echo" "LTwoModems$Echo;", Cond.fieldLink RX3 53 "TwoModems$Modem" "credit" "I", Cond.fieldLink RX3 56 "TwoModems$Modem" "waited" "I"]
def wsX8_go_r3 : List Cond := [Cond.fieldLink RX3 62 "TwoModems$Modem" "losses" "I", Cond.fieldLink RX3 88 "TwoModems$Mail" "next" "I", Cond.fieldLink RX3 71 "TwoModems$Modem" "datas" "I", Cond.methodLink RX3 125 yX0_forget, Cond.instanceMethod yX0_forget, Cond.selects RX0 yX0_forget yX0_forget, Cond.initialized RX0, Cond.code yX0_forget cX0_forget 2 none, Cond.fieldLink RX0 15 "TwoModems$Echo" "learnt" "[I", Cond.methodLink RX3 106 yX3_hear, Cond.instanceMethod yX3_hear, Cond.selects RX3 yX3_hear yX3_hear, Cond.code yX3_hear cX3_hear 2 none, Cond.methodLink RX3 113 yX7_sort, Cond.instanceMethod yX7_sort, Cond.selects RX7 yX7_sort yX7_sort, Cond.code yX7_sort cX7_sort 1 (some .int), Cond.methodLink RX3 133 yX7_first, Cond.instanceMethod yX7_first, Cond.selects RX7 yX7_first yX7_first, Cond.code yX7_first cX7_first 1 (some .int), Cond.methodLink RX3 136 yX3_note, Cond.instanceMethod yX3_note, Cond.selects RX3 yX3_note yX3_note]
def wsX8_go_r4 : List Cond := [Cond.code yX3_note cX3_note 2 none, Cond.fieldLink RX3 152 "TwoModems$Way" "quality" "[I", Cond.methodLink RX3 139 yX3_hearInBargain, Cond.instanceMethod yX3_hearInBargain, Cond.selects RX3 yX3_hearInBargain yX3_hearInBargain, Cond.code yX3_hearInBargain cX3_hearInBargain 1 none, Cond.fieldLink RX3 47 "TwoModems$Modem" "offer" "I", Cond.methodLink RX3 158 Lib.Math.min.name, Cond.static Lib.Math.min.name, Cond.initialized "java/lang/Math", Cond.code Lib.Math.min.name Lib.Math.min.code 2 (some .int), Cond.methodLink RX3 142 yX3_isOfRound, Cond.instanceMethod yX3_isOfRound, Cond.selects RX3 yX3_isOfRound yX3_isOfRound, Cond.code yX3_isOfRound cX3_isOfRound 2 (some .boolean), Cond.fieldLink RX3 44 "TwoModems$Modem" "round" "I", Cond.methodLink RX3 155 yX7_second, Cond.instanceMethod yX7_second, Cond.selects RX7 yX7_second yX7_second, Cond.code yX7_second cX7_second 1 (some .int), Cond.methodLink RX3 164 yX3_settle, Cond.instanceMethod yX3_settle, Cond.selects RX3 yX3_settle yX3_settle, Cond.code yX3_settle cX3_settle 2 none]
def wsX8_go_r5 : List Cond := [Cond.fieldLink RX3 50 "TwoModems$Modem" "rate" "I", Cond.methodLink RX3 146 yX3_hearGreaterRound, Cond.instanceMethod yX3_hearGreaterRound, Cond.selects RX3 yX3_hearGreaterRound yX3_hearGreaterRound, Cond.code yX3_hearGreaterRound cX3_hearGreaterRound 1 none, Cond.methodLink RX3 149 yX3_hearInData, Cond.instanceMethod yX3_hearInData, Cond.selects RX3 yX3_hearInData yX3_hearInData, Cond.code yX3_hearInData cX3_hearInData 1 none, Cond.methodLink RX3 167 yX2_take, Cond.instanceMethod yX2_take, Cond.selects RX2 yX2_take yX2_take, Cond.initialized RX2, Cond.code yX2_take cX2_take 3 none, Cond.fieldLink RX2 20 "TwoModems$Mail" "taken" "I", Cond.fieldLink RX2 13 "TwoModems$Mail" "takenCodes" "[I", Cond.fieldLink RX2 23 "TwoModems$Mail" "told" "I", Cond.methodLink RX2 50 Lib.Math.max.name, Cond.static Lib.Math.max.name, Cond.code Lib.Math.max.name Lib.Math.max.code 2 (some .int), Cond.methodLink RX2 35 yX7_second, Cond.methodLink RX2 41 yX7_letters, Cond.instanceMethod yX7_letters, Cond.selects RX7 yX7_letters yX7_letters]
def wsX8_go_r6 : List Cond := [Cond.code yX7_letters cX7_letters 1 (some .int), Cond.methodLink RX2 44 yX7_enclosed, Cond.instanceMethod yX7_enclosed, Cond.selects RX7 yX7_enclosed yX7_enclosed, Cond.code yX7_enclosed cX7_enclosed 2 (some .int), Cond.methodLink RX2 48 yX7_told, Cond.instanceMethod yX7_told, Cond.selects RX7 yX7_told yX7_told, Cond.code yX7_told cX7_told 1 (some .int), Cond.methodLink RX3 109 yX3_look, Cond.instanceMethod yX3_look, Cond.selects RX3 yX3_look yX3_look, Cond.code yX3_look cX3_look 2 none, Cond.methodLink RX3 171 yX3_makeOffer, Cond.instanceMethod yX3_makeOffer, Cond.selects RX3 yX3_makeOffer yX3_makeOffer, Cond.code yX3_makeOffer cX3_makeOffer 3 none, Cond.fieldLink RX3 59 "TwoModems$Modem" "remains" "I", Cond.methodLink RX3 182 Lib.Math.max.name, Cond.methodLink RX3 180 yX0_remains, Cond.instanceMethod yX0_remains, Cond.selects RX0 yX0_remains yX0_remains, Cond.code yX0_remains cX0_remains 3 (some .int), Cond.fieldLink RX0 9 "TwoModems$Echo" "taps" "[I"]
def wsX8_go_r7 : List Cond := [Cond.methodLink RX0 22 Lib.Math.abs.name, Cond.static Lib.Math.abs.name, Cond.code Lib.Math.abs.name Lib.Math.abs.code 1 (some .int), Cond.methodLink RX3 174 yX3_lookAtWaiting, Cond.instanceMethod yX3_lookAtWaiting, Cond.selects RX3 yX3_lookAtWaiting yX3_lookAtWaiting, Cond.code yX3_lookAtWaiting cX3_lookAtWaiting 2 none, Cond.methodLink RX3 177 yX3_lookAtLosses, Cond.instanceMethod yX3_lookAtLosses, Cond.selects RX3 yX3_lookAtLosses yX3_lookAtLosses, Cond.code yX3_lookAtLosses cX3_lookAtLosses 1 none, Cond.fieldLink RX3 68 "TwoModems$Modem" "agains" "I", Cond.methodLink RX3 185 yJ6_bitCount_0f7a4, Cond.static yJ6_bitCount_0f7a4, Cond.initialized RJ6, Cond.code yJ6_bitCount_0f7a4 cJ6_bitCount_0f7a4 1 (some .int), Cond.constant RJ6 265 (1431655765), Cond.constant RJ6 266 (858993459), Cond.constant RJ6 267 (252645135), Cond.methodLink RX3 122 yX3_speak, Cond.instanceMethod yX3_speak, Cond.selects RX3 yX3_speak yX3_speak, Cond.code yX3_speak cX3_speak 2 none, Cond.fieldLink RX3 82 "TwoModems$Modem" "out" "LTwoModems$Way;"]
def wsX8_go_r8 : List Cond := [Cond.methodLink RX3 191 yX7_send, Cond.instanceMethod yX7_send, Cond.selects RX7 yX7_send yX7_send, Cond.code yX7_send cX7_send 9 none, Cond.methodLink RX3 195 yX3_speakProbe, Cond.instanceMethod yX3_speakProbe, Cond.selects RX3 yX3_speakProbe yX3_speakProbe, Cond.code yX3_speakProbe cX3_speakProbe 2 none, Cond.methodLink RX3 198 yX0_follow, Cond.instanceMethod yX0_follow, Cond.selects RX0 yX0_follow yX0_follow, Cond.code yX0_follow cX0_follow 4 none, Cond.methodLink RX0 18 yX0_sign, Cond.instanceMethod yX0_sign, Cond.selects RX0 yX0_sign yX0_sign, Cond.code yX0_sign cX0_sign 2 (some .int), Cond.methodLink RX3 201 yX3_speakFrame, Cond.instanceMethod yX3_speakFrame, Cond.selects RX3 yX3_speakFrame yX3_speakFrame, Cond.code yX3_speakFrame cX3_speakFrame 4 none, Cond.fieldLink RX3 94 "TwoModems$Mail" "taken" "I", Cond.methodLink RX3 204 yX2_ready, Cond.instanceMethod yX2_ready, Cond.selects RX2 yX2_ready yX2_ready]
def wsX8_go_r9 : List Cond := [Cond.code yX2_ready cX2_ready 2 (some .int), Cond.fieldLink RX2 16 "TwoModems$Mail" "said" "I", Cond.fieldLink RX2 26 "TwoModems$Mail" "next" "I", Cond.methodLink RX2 56 Lib.Math.min.name, Cond.methodLink RX3 207 yX2_pass, Cond.instanceMethod yX2_pass, Cond.selects RX2 yX2_pass yX2_pass, Cond.code yX2_pass cX2_pass 2 (some .int), Cond.fieldLink RX2 9 "TwoModems$Mail" "toSend" "[I", Cond.fieldLink RX2 32 "TwoModems$Mail" "sentBelow" "I", Cond.fieldLink RX2 29 "TwoModems$Mail" "repeated" "I", Cond.methodLink RX3 210 yX7_enclose, Cond.instanceMethod yX7_enclose, Cond.selects RX7 yX7_enclose yX7_enclose, Cond.code yX7_enclose cX7_enclose 4 none]
def wsX8_go : List Cond := .code yX8_go cX8_go 4 (some .int) :: ((wsX8_go_r1 ++ (wsX8_go_r2 ++ (wsX8_go_r3 ++ (wsX8_go_r4 ++ (wsX8_go_r5 ++ (wsX8_go_r6 ++ (wsX8_go_r7 ++ (wsX8_go_r8 ++ wsX8_go_r9)))))))) ++ wsX80 ++ wsX30 ++ wsX20 ++ wsX10 ++ wsX70 ++ wsX00)
def wsX8_end_r1 : List Cond := [Cond.methodLink RX8 68 yX8_modemAt, Cond.instanceMethod yX8_modemAt, Cond.selects RX8 yX8_modemAt yX8_modemAt, Cond.initialized RX8, Cond.code yX8_modemAt cX8_modemAt 2 (some (.object "TwoModems$Modem")), Cond.fieldLink RX8 35 "TwoModems" "zero" "LTwoModems$Modem;", Cond.fieldLink RX8 39 "TwoModems" "one" "LTwoModems$Modem;", Cond.methodLink RX8 110 yX3_fact, Cond.instanceMethod yX3_fact, Cond.selects RX3 yX3_fact yX3_fact, Cond.initialized RX3, Cond.code yX3_fact cX3_fact 2 (some .int), Cond.fieldLink RX3 31 "TwoModems$Modem" "phase" "I", Cond.fieldLink RX3 38 "TwoModems$Modem" "lasted" "I", Cond.fieldLink RX3 44 "TwoModems$Modem" "round" "I", Cond.fieldLink RX3 47 "TwoModems$Modem" "offer" "I", Cond.fieldLink RX3 50 "TwoModems$Modem" "rate" "I", Cond.fieldLink RX3 53 "TwoModems$Modem" "credit" "I", Cond.fieldLink RX3 21 "TwoModems$Modem" "mail" "LTwoModems$Mail;", Cond.fieldLink RX3 85 "TwoModems$Mail" "said" "I", Cond.fieldLink RX3 88 "TwoModems$Mail" "next" "I", Cond.fieldLink RX3 91 "TwoModems$Mail" "told" "I", Cond.fieldLink RX3 94 "TwoModems$Mail" "taken" "I", Cond.fieldLink RX3 56 "TwoModems$Modem" "waited" "I"]
def wsX8_end_r2 : List Cond := [Cond.fieldLink RX3 59 "TwoModems$Modem" "remains" "I", Cond.fieldLink RX3 65 "TwoModems$Modem" "surrenders" "I", Cond.fieldLink RX3 68 "TwoModems$Modem" "agains" "I", Cond.fieldLink RX3 71 "TwoModems$Modem" "datas" "I", Cond.fieldLink RX3 62 "TwoModems$Modem" "losses" "I"]
def wsX8_end : List Cond := .code yX8_end cX8_end 4 (some .int) :: ((wsX8_end_r1 ++ wsX8_end_r2) ++ wsX80 ++ wsX30 ++ wsX20)
def wsX8_band : List Cond := .code yX8_band cX8_band 4 (some .int) :: ([.fieldLink RX8 113 "TwoModems$Modem" "noted" "[I", .methodLink RX8 68 yX8_modemAt, .instanceMethod yX8_modemAt, .selects RX8 yX8_modemAt yX8_modemAt, .initialized RX8, .code yX8_modemAt cX8_modemAt 2 (some (.object "TwoModems$Modem")), .fieldLink RX8 35 "TwoModems" "zero" "LTwoModems$Modem;", .fieldLink RX8 39 "TwoModems" "one" "LTwoModems$Modem;"] ++ wsX30 ++ wsX80)
def wsX8_learnt : List Cond := .code yX8_learnt cX8_learnt 4 (some .int) :: ([.fieldLink RX8 86 "TwoModems$Modem" "echo" "LTwoModems$Echo;", .fieldLink RX8 116 "TwoModems$Echo" "learnt" "[I", .methodLink RX8 68 yX8_modemAt, .instanceMethod yX8_modemAt, .selects RX8 yX8_modemAt yX8_modemAt, .initialized RX8, .code yX8_modemAt cX8_modemAt 2 (some (.object "TwoModems$Modem")), .fieldLink RX8 35 "TwoModems" "zero" "LTwoModems$Modem;", .fieldLink RX8 39 "TwoModems" "one" "LTwoModems$Modem;"] ++ wsX30 ++ wsX00 ++ wsX80)
def wsX8_got : List Cond := .code yX8_got cX8_got 4 (some .int) :: ([.fieldLink RX8 72 "TwoModems$Modem" "mail" "LTwoModems$Mail;", .fieldLink RX8 119 "TwoModems$Mail" "taken" "I", .methodLink RX8 68 yX8_modemAt, .instanceMethod yX8_modemAt, .selects RX8 yX8_modemAt yX8_modemAt, .initialized RX8, .code yX8_modemAt cX8_modemAt 2 (some (.object "TwoModems$Modem")), .fieldLink RX8 35 "TwoModems" "zero" "LTwoModems$Modem;", .fieldLink RX8 39 "TwoModems" "one" "LTwoModems$Modem;", .methodLink RX8 122 yX2_takenAt, .instanceMethod yX2_takenAt, .selects RX2 yX2_takenAt yX2_takenAt, .initialized RX2, .code yX2_takenAt cX2_takenAt 2 (some .int), .fieldLink RX2 20 "TwoModems$Mail" "taken" "I", .fieldLink RX2 13 "TwoModems$Mail" "takenCodes" "[I"] ++ wsX30 ++ wsX20 ++ wsX80)
def wsX8_heard : List Cond := .code yX8_heard cX8_heard 4 (some .int) :: ([.fieldLink RX8 125 "TwoModems$Modem" "in" "LTwoModems$Way;", .fieldLink RX8 128 "TwoModems$Way" "latest" "[I", .methodLink RX8 68 yX8_modemAt, .instanceMethod yX8_modemAt, .selects RX8 yX8_modemAt yX8_modemAt, .initialized RX8, .code yX8_modemAt cX8_modemAt 2 (some (.object "TwoModems$Modem")), .fieldLink RX8 35 "TwoModems" "zero" "LTwoModems$Modem;", .fieldLink RX8 39 "TwoModems" "one" "LTwoModems$Modem;"] ++ wsX30 ++ wsX70 ++ wsX80)
def wsX8_about : List Cond := .code yX8_about cX8_about 2 (some .int) :: ([.fieldLink RX8 19 "TwoModems" "line" "LTwoModems$Line;", .fieldLink RX8 29 "TwoModems$Line" "forth" "LTwoModems$Way;", .fieldLink RX8 133 "TwoModems$Way" "quality" "[I", .fieldLink RX8 25 "TwoModems$Line" "back" "LTwoModems$Way;", .fieldLink RX8 65 "TwoModems$Line" "delay" "I", .fieldLink RX8 136 "TwoModems$Way" "hurt" "I", .fieldLink RX8 139 "TwoModems$Way" "underWay" "I"] ++ wsX80 ++ wsX10 ++ wsX70)
def wsX8_count : List Cond := .code yX8_count cX8_count 2 (some .int) :: ([.fieldLink RX8 13 "TwoModems" "page" "LTwoModems$Page;", .fieldLink RX8 46 "TwoModems$Page" "size" "I", .fieldLink RX8 42 "TwoModems" "ticks" "I", .fieldLink RX8 19 "TwoModems" "line" "LTwoModems$Line;", .fieldLink RX8 29 "TwoModems$Line" "forth" "LTwoModems$Way;", .fieldLink RX8 142 "TwoModems$Way" "came" "I", .fieldLink RX8 25 "TwoModems$Line" "back" "LTwoModems$Way;", .fieldLink RX8 145 "TwoModems$Way" "harmed" "I", .fieldLink RX8 148 "TwoModems$Line" "readings" "I", .fieldLink RX8 35 "TwoModems" "zero" "LTwoModems$Modem;", .fieldLink RX8 72 "TwoModems$Modem" "mail" "LTwoModems$Mail;", .fieldLink RX8 151 "TwoModems$Mail" "repeated" "I", .fieldLink RX8 39 "TwoModems" "one" "LTwoModems$Modem;", .methodLink RX8 104 yX8_changes, .instanceMethod yX8_changes, .selects RX8 yX8_changes yX8_changes, .initialized RX8, .code yX8_changes cX8_changes 1 (some .int), .fieldLink RX8 168 "TwoModems$Modem" "changes" "I"] ++ wsX80 ++ wsX40 ++ wsX10 ++ wsX70 ++ wsX30 ++ wsX20)
def wsX8_digestOfEnd_r1 : List Cond := [Cond.constantLong RX8 160 (31), Cond.fieldLink RX8 113 "TwoModems$Modem" "noted" "[I", Cond.fieldLink RX8 86 "TwoModems$Modem" "echo" "LTwoModems$Echo;", Cond.fieldLink RX8 116 "TwoModems$Echo" "learnt" "[I", Cond.fieldLink RX8 90 "TwoModems$Echo" "taps" "[I", Cond.fieldLink RX8 125 "TwoModems$Modem" "in" "LTwoModems$Way;", Cond.fieldLink RX8 128 "TwoModems$Way" "latest" "[I", Cond.fieldLink RX8 72 "TwoModems$Modem" "mail" "LTwoModems$Mail;", Cond.fieldLink RX8 119 "TwoModems$Mail" "taken" "I", Cond.methodLink RX8 68 yX8_modemAt, Cond.instanceMethod yX8_modemAt, Cond.selects RX8 yX8_modemAt yX8_modemAt, Cond.initialized RX8, Cond.code yX8_modemAt cX8_modemAt 2 (some (.object "TwoModems$Modem")), Cond.fieldLink RX8 35 "TwoModems" "zero" "LTwoModems$Modem;", Cond.fieldLink RX8 39 "TwoModems" "one" "LTwoModems$Modem;", Cond.methodLink RX8 110 yX3_fact, Cond.instanceMethod yX3_fact, Cond.selects RX3 yX3_fact yX3_fact, Cond.initialized RX3, Cond.code yX3_fact cX3_fact 2 (some .int), Cond.fieldLink RX3 31 "TwoModems$Modem" "phase" "I", Cond.fieldLink RX3 38 "TwoModems$Modem" "lasted" "I", Cond.fieldLink RX3 44 "TwoModems$Modem" "round" "I"]
def wsX8_digestOfEnd_r2 : List Cond := [Cond.fieldLink RX3 47 "TwoModems$Modem" "offer" "I", Cond.fieldLink RX3 50 "TwoModems$Modem" "rate" "I", Cond.fieldLink RX3 53 "TwoModems$Modem" "credit" "I", Cond.fieldLink RX3 21 "TwoModems$Modem" "mail" "LTwoModems$Mail;", Cond.fieldLink RX3 85 "TwoModems$Mail" "said" "I", Cond.fieldLink RX3 88 "TwoModems$Mail" "next" "I", Cond.fieldLink RX3 91 "TwoModems$Mail" "told" "I", Cond.fieldLink RX3 94 "TwoModems$Mail" "taken" "I", Cond.fieldLink RX3 56 "TwoModems$Modem" "waited" "I", Cond.fieldLink RX3 59 "TwoModems$Modem" "remains" "I", Cond.fieldLink RX3 65 "TwoModems$Modem" "surrenders" "I", Cond.fieldLink RX3 68 "TwoModems$Modem" "agains" "I", Cond.fieldLink RX3 71 "TwoModems$Modem" "datas" "I", Cond.fieldLink RX3 62 "TwoModems$Modem" "losses" "I", Cond.methodLink RX8 122 yX2_takenAt, Cond.instanceMethod yX2_takenAt, Cond.selects RX2 yX2_takenAt yX2_takenAt, Cond.initialized RX2, Cond.code yX2_takenAt cX2_takenAt 2 (some .int), Cond.fieldLink RX2 20 "TwoModems$Mail" "taken" "I", Cond.fieldLink RX2 13 "TwoModems$Mail" "takenCodes" "[I"]
def wsX8_digestOfEnd : List Cond := .code yX8_digestOfEnd cX8_digestOfEnd 8 (some .long) :: ((wsX8_digestOfEnd_r1 ++ wsX8_digestOfEnd_r2) ++ wsX30 ++ wsX00 ++ wsX70 ++ wsX20 ++ wsX80)
def wsX8_digest_r1 : List Cond := [Cond.constantLong RX8 154 (1613), Cond.constantLong RX8 160 (31), Cond.fieldLink RX8 13 "TwoModems" "page" "LTwoModems$Page;", Cond.fieldLink RX8 46 "TwoModems$Page" "size" "I", Cond.methodLink RX8 156 yX8_digestOfEnd, Cond.instanceMethod yX8_digestOfEnd, Cond.selects RX8 yX8_digestOfEnd yX8_digestOfEnd, Cond.initialized RX8, Cond.code yX8_digestOfEnd cX8_digestOfEnd 8 (some .long), Cond.fieldLink RX8 113 "TwoModems$Modem" "noted" "[I", Cond.fieldLink RX8 86 "TwoModems$Modem" "echo" "LTwoModems$Echo;", Cond.fieldLink RX8 116 "TwoModems$Echo" "learnt" "[I", Cond.fieldLink RX8 90 "TwoModems$Echo" "taps" "[I", Cond.fieldLink RX8 125 "TwoModems$Modem" "in" "LTwoModems$Way;", Cond.fieldLink RX8 128 "TwoModems$Way" "latest" "[I", Cond.fieldLink RX8 72 "TwoModems$Modem" "mail" "LTwoModems$Mail;", Cond.fieldLink RX8 119 "TwoModems$Mail" "taken" "I", Cond.methodLink RX8 68 yX8_modemAt, Cond.instanceMethod yX8_modemAt, Cond.selects RX8 yX8_modemAt yX8_modemAt, Cond.code yX8_modemAt cX8_modemAt 2 (some (.object "TwoModems$Modem")), Cond.fieldLink RX8 35 "TwoModems" "zero" "LTwoModems$Modem;", Cond.fieldLink RX8 39 "TwoModems" "one" "LTwoModems$Modem;", Cond.methodLink RX8 110 yX3_fact]
def wsX8_digest_r2 : List Cond := [Cond.instanceMethod yX3_fact, Cond.selects RX3 yX3_fact yX3_fact, Cond.initialized RX3, Cond.code yX3_fact cX3_fact 2 (some .int), Cond.fieldLink RX3 31 "TwoModems$Modem" "phase" "I", Cond.fieldLink RX3 38 "TwoModems$Modem" "lasted" "I", Cond.fieldLink RX3 44 "TwoModems$Modem" "round" "I", Cond.fieldLink RX3 47 "TwoModems$Modem" "offer" "I", Cond.fieldLink RX3 50 "TwoModems$Modem" "rate" "I", Cond.fieldLink RX3 53 "TwoModems$Modem" "credit" "I", Cond.fieldLink RX3 21 "TwoModems$Modem" "mail" "LTwoModems$Mail;", Cond.fieldLink RX3 85 "TwoModems$Mail" "said" "I", Cond.fieldLink RX3 88 "TwoModems$Mail" "next" "I", Cond.fieldLink RX3 91 "TwoModems$Mail" "told" "I", Cond.fieldLink RX3 94 "TwoModems$Mail" "taken" "I", Cond.fieldLink RX3 56 "TwoModems$Modem" "waited" "I", Cond.fieldLink RX3 59 "TwoModems$Modem" "remains" "I", Cond.fieldLink RX3 65 "TwoModems$Modem" "surrenders" "I", Cond.fieldLink RX3 68 "TwoModems$Modem" "agains" "I", Cond.fieldLink RX3 71 "TwoModems$Modem" "datas" "I", Cond.fieldLink RX3 62 "TwoModems$Modem" "losses" "I", Cond.methodLink RX8 122 yX2_takenAt, Cond.instanceMethod yX2_takenAt, Cond.selects RX2 yX2_takenAt yX2_takenAt]
def wsX8_digest_r3 : List Cond := [Cond.initialized RX2, Cond.code yX2_takenAt cX2_takenAt 2 (some .int), Cond.fieldLink RX2 20 "TwoModems$Mail" "taken" "I", Cond.fieldLink RX2 13 "TwoModems$Mail" "takenCodes" "[I", Cond.methodLink RX8 162 yX8_about, Cond.instanceMethod yX8_about, Cond.selects RX8 yX8_about yX8_about, Cond.code yX8_about cX8_about 2 (some .int), Cond.fieldLink RX8 19 "TwoModems" "line" "LTwoModems$Line;", Cond.fieldLink RX8 29 "TwoModems$Line" "forth" "LTwoModems$Way;", Cond.fieldLink RX8 133 "TwoModems$Way" "quality" "[I", Cond.fieldLink RX8 25 "TwoModems$Line" "back" "LTwoModems$Way;", Cond.fieldLink RX8 65 "TwoModems$Line" "delay" "I", Cond.fieldLink RX8 136 "TwoModems$Way" "hurt" "I", Cond.fieldLink RX8 139 "TwoModems$Way" "underWay" "I", Cond.methodLink RX8 81 yX4_codeAt, Cond.instanceMethod yX4_codeAt, Cond.selects RX4 yX4_codeAt yX4_codeAt, Cond.initialized RX4, Cond.code yX4_codeAt cX4_codeAt 2 (some .int), Cond.fieldLink RX4 15 "TwoModems$Page" "size" "I", Cond.fieldLink RX4 11 "TwoModems$Page" "codes" "[I", Cond.methodLink RX8 165 yX8_count, Cond.instanceMethod yX8_count]
def wsX8_digest_r4 : List Cond := [Cond.selects RX8 yX8_count yX8_count, Cond.code yX8_count cX8_count 2 (some .int), Cond.fieldLink RX8 42 "TwoModems" "ticks" "I", Cond.fieldLink RX8 142 "TwoModems$Way" "came" "I", Cond.fieldLink RX8 145 "TwoModems$Way" "harmed" "I", Cond.fieldLink RX8 148 "TwoModems$Line" "readings" "I", Cond.fieldLink RX8 151 "TwoModems$Mail" "repeated" "I", Cond.methodLink RX8 104 yX8_changes, Cond.instanceMethod yX8_changes, Cond.selects RX8 yX8_changes yX8_changes, Cond.code yX8_changes cX8_changes 1 (some .int), Cond.fieldLink RX8 168 "TwoModems$Modem" "changes" "I"]
def wsX8_digest : List Cond := .code yX8_digest cX8_digest 4 (some .long) :: ((wsX8_digest_r1 ++ (wsX8_digest_r2 ++ (wsX8_digest_r3 ++ wsX8_digest_r4))) ++ wsX80 ++ wsX40 ++ wsX30 ++ wsX00 ++ wsX70 ++ wsX20 ++ wsX10)
def wsX9_init : List Cond := .code yX9_init cX9_init 2 none :: ([.methodLink RX9 1 objectInit, .instanceMethod objectInit, .code objectInit ⟨#[0xb1]⟩ 1 none, .arrayClass .int, .fieldLink RX9 7 "TwoModemsModel" "ends" "[I", .fieldLink RX9 13 "TwoModemsModel" "noted" "[I", .fieldLink RX9 16 "TwoModemsModel" "learnts" "[I", .fieldLink RX9 19 "TwoModemsModel" "taps" "[I", .fieldLink RX9 22 "TwoModemsModel" "said" "[I", .fieldLink RX9 25 "TwoModemsModel" "gotten" "[I", .fieldLink RX9 28 "TwoModemsModel" "hears" "[I", .fieldLink RX9 31 "TwoModemsModel" "quality" "[I", .fieldLink RX9 34 "TwoModemsModel" "delay" "I", .fieldLink RX9 38 "TwoModemsModel" "hurts" "[I", .fieldLink RX9 41 "TwoModemsModel" "comes" "[I", .fieldLink RX9 44 "TwoModemsModel" "acks" "[I", .fieldLink RX9 47 "TwoModemsModel" "came" "[I", .fieldLink RX9 50 "TwoModemsModel" "wereHurt" "[I", .fieldLink RX9 53 "TwoModemsModel" "page" "[I", .fieldLink RX9 56 "TwoModemsModel" "newQuality" "[I", .fieldLink RX9 59 "TwoModemsModel" "newHurts" "[I", .fieldLink RX9 62 "TwoModemsModel" "letters" "[I"] ++ wsX90)
def wsX9_within : List Cond := .code yX9_within cX9_within 3 (some .boolean) :: ([])
def wsX9_letter : List Cond := .code yX9_letter cX9_letter 2 (some .int) :: ([.fieldLink RX9 69 "TwoModemsModel" "pageLength" "I", .fieldLink RX9 53 "TwoModemsModel" "page" "[I", .methodLink RX9 65 yX9_within, .static yX9_within, .initialized RX9, .code yX9_within cX9_within 3 (some .boolean)] ++ wsX90)
def wsX9_blank : List Cond := .code yX9_blank cX9_blank 2 (some .int) :: ([.fieldLink RX9 69 "TwoModemsModel" "pageLength" "I"] ++ wsX90)
def wsX9_sixteenth : List Cond := .code yX9_sixteenth cX9_sixteenth 1 (some .int) :: ([.methodLink RX9 65 yX9_within, .static yX9_within, .initialized RX9, .code yX9_within cX9_within 3 (some .boolean)])
def wsX9_takesQuality : List Cond := .code yX9_takesQuality cX9_takesQuality 4 (some .boolean) :: ([.fieldLink RX9 56 "TwoModemsModel" "newQuality" "[I", .methodLink RX9 72 yX9_sixteenth, .static yX9_sixteenth, .initialized RX9, .code yX9_sixteenth cX9_sixteenth 1 (some .int), .methodLink RX9 65 yX9_within, .static yX9_within, .code yX9_within cX9_within 3 (some .boolean)] ++ wsX90)
def wsX9_takesHurt : List Cond := .code yX9_takesHurt cX9_takesHurt 4 (some .boolean) :: ([.fieldLink RX9 76 "TwoModemsModel" "figures" "I", .fieldLink RX9 59 "TwoModemsModel" "newHurts" "[I", .fieldLink RX9 79 "TwoModemsModel" "hurtNow" "I", .methodLink RX9 65 yX9_within, .static yX9_within, .initialized RX9, .code yX9_within cX9_within 3 (some .boolean)] ++ wsX90)
def wsX9_takes : List Cond := .code yX9_takes cX9_takes 3 (some .boolean) :: ([.fieldLink RX9 86 "TwoModemsModel" "newDelay" "I", .fieldLink RX9 79 "TwoModemsModel" "hurtNow" "I", .methodLink RX9 82 yX9_takesQuality, .instanceMethod yX9_takesQuality, .selects RX9 yX9_takesQuality yX9_takesQuality, .initialized RX9, .code yX9_takesQuality cX9_takesQuality 4 (some .boolean), .fieldLink RX9 56 "TwoModemsModel" "newQuality" "[I", .methodLink RX9 72 yX9_sixteenth, .static yX9_sixteenth, .code yX9_sixteenth cX9_sixteenth 1 (some .int), .methodLink RX9 65 yX9_within, .static yX9_within, .code yX9_within cX9_within 3 (some .boolean), .methodLink RX9 89 yX9_takesHurt, .instanceMethod yX9_takesHurt, .selects RX9 yX9_takesHurt yX9_takesHurt, .code yX9_takesHurt cX9_takesHurt 4 (some .boolean), .fieldLink RX9 76 "TwoModemsModel" "figures" "I", .fieldLink RX9 59 "TwoModemsModel" "newHurts" "[I"] ++ wsX90)
def wsX9_read_r1 : List Cond := [Cond.fieldLink RX9 59 "TwoModemsModel" "newHurts" "[I", Cond.fieldLink RX9 79 "TwoModemsModel" "hurtNow" "I", Cond.fieldLink RX9 76 "TwoModemsModel" "figures" "I", Cond.fieldLink RX9 69 "TwoModemsModel" "pageLength" "I", Cond.fieldLink RX9 53 "TwoModemsModel" "page" "[I", Cond.methodLink RX9 93 yX9_takes, Cond.instanceMethod yX9_takes, Cond.selects RX9 yX9_takes yX9_takes, Cond.initialized RX9, Cond.code yX9_takes cX9_takes 3 (some .boolean), Cond.fieldLink RX9 86 "TwoModemsModel" "newDelay" "I", Cond.methodLink RX9 82 yX9_takesQuality, Cond.instanceMethod yX9_takesQuality, Cond.selects RX9 yX9_takesQuality yX9_takesQuality, Cond.code yX9_takesQuality cX9_takesQuality 4 (some .boolean), Cond.fieldLink RX9 56 "TwoModemsModel" "newQuality" "[I", Cond.methodLink RX9 72 yX9_sixteenth, Cond.static yX9_sixteenth, Cond.code yX9_sixteenth cX9_sixteenth 1 (some .int), Cond.methodLink RX9 65 yX9_within, Cond.static yX9_within, Cond.code yX9_within cX9_within 3 (some .boolean), Cond.methodLink RX9 89 yX9_takesHurt, Cond.instanceMethod yX9_takesHurt]
def wsX9_read_r2 : List Cond := [Cond.selects RX9 yX9_takesHurt yX9_takesHurt, Cond.code yX9_takesHurt cX9_takesHurt 4 (some .boolean)]
def wsX9_read : List Cond := .code yX9_read cX9_read 2 (some .int) :: ((wsX9_read_r1 ++ wsX9_read_r2) ++ wsX90)
def wsX9_fault_r1 : List Cond := [Cond.methodLink RX9 96 yX9_read, Cond.instanceMethod yX9_read, Cond.selects RX9 yX9_read yX9_read, Cond.initialized RX9, Cond.code yX9_read cX9_read 2 (some .int), Cond.fieldLink RX9 59 "TwoModemsModel" "newHurts" "[I", Cond.fieldLink RX9 79 "TwoModemsModel" "hurtNow" "I", Cond.fieldLink RX9 76 "TwoModemsModel" "figures" "I", Cond.fieldLink RX9 69 "TwoModemsModel" "pageLength" "I", Cond.fieldLink RX9 53 "TwoModemsModel" "page" "[I", Cond.methodLink RX9 93 yX9_takes, Cond.instanceMethod yX9_takes, Cond.selects RX9 yX9_takes yX9_takes, Cond.code yX9_takes cX9_takes 3 (some .boolean), Cond.fieldLink RX9 86 "TwoModemsModel" "newDelay" "I", Cond.methodLink RX9 82 yX9_takesQuality, Cond.instanceMethod yX9_takesQuality, Cond.selects RX9 yX9_takesQuality yX9_takesQuality, Cond.code yX9_takesQuality cX9_takesQuality 4 (some .boolean), Cond.fieldLink RX9 56 "TwoModemsModel" "newQuality" "[I", Cond.methodLink RX9 72 yX9_sixteenth, Cond.static yX9_sixteenth, Cond.code yX9_sixteenth cX9_sixteenth 1 (some .int), Cond.methodLink RX9 65 yX9_within]
def wsX9_fault_r2 : List Cond := [Cond.static yX9_within, Cond.code yX9_within cX9_within 3 (some .boolean), Cond.methodLink RX9 89 yX9_takesHurt, Cond.instanceMethod yX9_takesHurt, Cond.selects RX9 yX9_takesHurt yX9_takesHurt, Cond.code yX9_takesHurt cX9_takesHurt 4 (some .boolean)]
def wsX9_fault : List Cond := .code yX9_fault cX9_fault 1 (some .int) :: ((wsX9_fault_r1 ++ wsX9_fault_r2) ++ wsX90)
def wsX9_line_r1 : List Cond := [Cond.fieldLink RX9 69 "TwoModemsModel" "pageLength" "I", Cond.fieldLink RX9 79 "TwoModemsModel" "hurtNow" "I", Cond.fieldLink RX9 76 "TwoModemsModel" "figures" "I", Cond.fieldLink RX9 31 "TwoModemsModel" "quality" "[I", Cond.fieldLink RX9 56 "TwoModemsModel" "newQuality" "[I", Cond.fieldLink RX9 86 "TwoModemsModel" "newDelay" "I", Cond.fieldLink RX9 34 "TwoModemsModel" "delay" "I", Cond.fieldLink RX9 38 "TwoModemsModel" "hurts" "[I", Cond.fieldLink RX9 59 "TwoModemsModel" "newHurts" "[I", Cond.fieldLink RX9 100 "TwoModemsModel" "lines" "I", Cond.methodLink RX9 96 yX9_read, Cond.instanceMethod yX9_read, Cond.selects RX9 yX9_read yX9_read, Cond.initialized RX9, Cond.code yX9_read cX9_read 2 (some .int), Cond.fieldLink RX9 53 "TwoModemsModel" "page" "[I", Cond.methodLink RX9 93 yX9_takes, Cond.instanceMethod yX9_takes, Cond.selects RX9 yX9_takes yX9_takes, Cond.code yX9_takes cX9_takes 3 (some .boolean), Cond.methodLink RX9 82 yX9_takesQuality, Cond.instanceMethod yX9_takesQuality, Cond.selects RX9 yX9_takesQuality yX9_takesQuality, Cond.code yX9_takesQuality cX9_takesQuality 4 (some .boolean)]
def wsX9_line_r2 : List Cond := [Cond.methodLink RX9 72 yX9_sixteenth, Cond.static yX9_sixteenth, Cond.code yX9_sixteenth cX9_sixteenth 1 (some .int), Cond.methodLink RX9 65 yX9_within, Cond.static yX9_within, Cond.code yX9_within cX9_within 3 (some .boolean), Cond.methodLink RX9 89 yX9_takesHurt, Cond.instanceMethod yX9_takesHurt, Cond.selects RX9 yX9_takesHurt yX9_takesHurt, Cond.code yX9_takesHurt cX9_takesHurt 4 (some .boolean)]
def wsX9_line : List Cond := .code yX9_line cX9_line 3 (some .int) :: ((wsX9_line_r1 ++ wsX9_line_r2) ++ wsX90)
def wsX9_isEnd : List Cond := .code yX9_isEnd cX9_isEnd 1 (some .boolean) :: ([.methodLink RX9 65 yX9_within, .static yX9_within, .initialized RX9, .code yX9_within cX9_within 3 (some .boolean)])
def wsX9_of : List Cond := .code yX9_of cX9_of 3 (some .int) :: ([.fieldLink RX9 7 "TwoModemsModel" "ends" "[I"] ++ wsX90)
def wsX9_put : List Cond := .code yX9_put cX9_put 4 none :: ([.fieldLink RX9 7 "TwoModemsModel" "ends" "[I"] ++ wsX90)
def wsX9_add : List Cond := .code yX9_add cX9_add 4 none :: ([.fieldLink RX9 7 "TwoModemsModel" "ends" "[I"] ++ wsX90)
def wsX9_say : List Cond := .code yX9_say cX9_say 4 (some .int) :: ([.fieldLink RX9 69 "TwoModemsModel" "pageLength" "I", .fieldLink RX9 22 "TwoModemsModel" "said" "[I", .fieldLink RX9 53 "TwoModemsModel" "page" "[I", .methodLink RX9 103 yX9_isEnd, .static yX9_isEnd, .initialized RX9, .code yX9_isEnd cX9_isEnd 1 (some .boolean), .methodLink RX9 65 yX9_within, .static yX9_within, .code yX9_within cX9_within 3 (some .boolean), .methodLink RX9 106 yX9_of, .instanceMethod yX9_of, .selects RX9 yX9_of yX9_of, .code yX9_of cX9_of 3 (some .int), .fieldLink RX9 7 "TwoModemsModel" "ends" "[I", .methodLink RX9 110 yX9_add, .instanceMethod yX9_add, .selects RX9 yX9_add yX9_add, .code yX9_add cX9_add 4 none] ++ wsX90)
def wsX9_echo : List Cond := .code yX9_echo cX9_echo 5 (some .int) :: ([.fieldLink RX9 19 "TwoModemsModel" "taps" "[I", .methodLink RX9 103 yX9_isEnd, .static yX9_isEnd, .initialized RX9, .code yX9_isEnd cX9_isEnd 1 (some .boolean), .methodLink RX9 65 yX9_within, .static yX9_within, .code yX9_within cX9_within 3 (some .boolean)] ++ wsX90)
def wsX9_goesTo : List Cond := .code yX9_goesTo cX9_goesTo 3 none :: ([.methodLink RX9 114 yX9_put, .instanceMethod yX9_put, .selects RX9 yX9_put yX9_put, .initialized RX9, .code yX9_put cX9_put 4 none, .fieldLink RX9 7 "TwoModemsModel" "ends" "[I"] ++ wsX90)
def wsX9_call : List Cond := .code yX9_call cX9_call 2 (some .int) :: ([.methodLink RX9 103 yX9_isEnd, .static yX9_isEnd, .initialized RX9, .code yX9_isEnd cX9_isEnd 1 (some .boolean), .methodLink RX9 65 yX9_within, .static yX9_within, .code yX9_within cX9_within 3 (some .boolean), .methodLink RX9 106 yX9_of, .instanceMethod yX9_of, .selects RX9 yX9_of yX9_of, .code yX9_of cX9_of 3 (some .int), .fieldLink RX9 7 "TwoModemsModel" "ends" "[I", .methodLink RX9 117 yX9_goesTo, .instanceMethod yX9_goesTo, .selects RX9 yX9_goesTo yX9_goesTo, .code yX9_goesTo cX9_goesTo 3 none, .methodLink RX9 114 yX9_put, .instanceMethod yX9_put, .selects RX9 yX9_put yX9_put, .code yX9_put cX9_put 4 none] ++ wsX90)
def wsX9_hang : List Cond := .code yX9_hang cX9_hang 3 (some .int) :: ([.methodLink RX9 103 yX9_isEnd, .static yX9_isEnd, .initialized RX9, .code yX9_isEnd cX9_isEnd 1 (some .boolean), .methodLink RX9 65 yX9_within, .static yX9_within, .code yX9_within cX9_within 3 (some .boolean), .methodLink RX9 106 yX9_of, .instanceMethod yX9_of, .selects RX9 yX9_of yX9_of, .code yX9_of cX9_of 3 (some .int), .fieldLink RX9 7 "TwoModemsModel" "ends" "[I", .methodLink RX9 117 yX9_goesTo, .instanceMethod yX9_goesTo, .selects RX9 yX9_goesTo yX9_goesTo, .code yX9_goesTo cX9_goesTo 3 none, .methodLink RX9 114 yX9_put, .instanceMethod yX9_put, .selects RX9 yX9_put yX9_put, .code yX9_put cX9_put 4 none] ++ wsX90)
def wsX9_slot : List Cond := .code yX9_slot cX9_slot 3 (some .int) :: ([])
def wsX9_ear : List Cond := .code yX9_ear cX9_ear 3 (some .int) :: ([.fieldLink RX9 28 "TwoModemsModel" "hears" "[I"] ++ wsX90)
def wsX9_hear : List Cond := .code yX9_hear cX9_hear 7 none :: ([.fieldLink RX9 121 "TwoModemsModel" "tick" "I", .fieldLink RX9 41 "TwoModemsModel" "comes" "[I", .fieldLink RX9 47 "TwoModemsModel" "came" "[I", .fieldLink RX9 38 "TwoModemsModel" "hurts" "[I", .fieldLink RX9 50 "TwoModemsModel" "wereHurt" "[I", .fieldLink RX9 28 "TwoModemsModel" "hears" "[I", .fieldLink RX9 44 "TwoModemsModel" "acks" "[I", .fieldLink RX9 62 "TwoModemsModel" "letters" "[I", .methodLink RX9 124 yX9_slot, .instanceMethod yX9_slot, .selects RX9 yX9_slot yX9_slot, .initialized RX9, .code yX9_slot cX9_slot 3 (some .int)] ++ wsX90)
def wsX9_into : List Cond := .code yX9_into cX9_into 4 none :: ([.fieldLink RX9 127 "TwoModemsModel" "isChanged" "Z", .fieldLink RX9 131 "TwoModemsModel" "changes" "I", .fieldLink RX9 13 "TwoModemsModel" "noted" "[I", .fieldLink RX9 16 "TwoModemsModel" "learnts" "[I", .methodLink RX9 117 yX9_goesTo, .instanceMethod yX9_goesTo, .selects RX9 yX9_goesTo yX9_goesTo, .initialized RX9, .code yX9_goesTo cX9_goesTo 3 none, .methodLink RX9 114 yX9_put, .instanceMethod yX9_put, .selects RX9 yX9_put yX9_put, .code yX9_put cX9_put 4 none, .fieldLink RX9 7 "TwoModemsModel" "ends" "[I", .methodLink RX9 106 yX9_of, .instanceMethod yX9_of, .selects RX9 yX9_of yX9_of, .code yX9_of cX9_of 3 (some .int), .methodLink RX9 110 yX9_add, .instanceMethod yX9_add, .selects RX9 yX9_add yX9_add, .code yX9_add cX9_add 4 none] ++ wsX90)
def wsX9_mayGiveUp_r1 : List Cond := [Cond.methodLink RX9 106 yX9_of, Cond.instanceMethod yX9_of, Cond.selects RX9 yX9_of yX9_of, Cond.initialized RX9, Cond.code yX9_of cX9_of 3 (some .int), Cond.fieldLink RX9 7 "TwoModemsModel" "ends" "[I", Cond.methodLink RX9 110 yX9_add, Cond.instanceMethod yX9_add, Cond.selects RX9 yX9_add yX9_add, Cond.code yX9_add cX9_add 4 none, Cond.methodLink RX9 134 yX9_into, Cond.instanceMethod yX9_into, Cond.selects RX9 yX9_into yX9_into, Cond.code yX9_into cX9_into 4 none, Cond.fieldLink RX9 127 "TwoModemsModel" "isChanged" "Z", Cond.fieldLink RX9 131 "TwoModemsModel" "changes" "I", Cond.fieldLink RX9 13 "TwoModemsModel" "noted" "[I", Cond.fieldLink RX9 16 "TwoModemsModel" "learnts" "[I", Cond.methodLink RX9 117 yX9_goesTo, Cond.instanceMethod yX9_goesTo, Cond.selects RX9 yX9_goesTo yX9_goesTo, Cond.code yX9_goesTo cX9_goesTo 3 none, Cond.methodLink RX9 114 yX9_put, Cond.instanceMethod yX9_put]
def wsX9_mayGiveUp_r2 : List Cond := [Cond.selects RX9 yX9_put yX9_put, Cond.code yX9_put cX9_put 4 none]
def wsX9_mayGiveUp : List Cond := .code yX9_mayGiveUp cX9_mayGiveUp 4 none :: ((wsX9_mayGiveUp_r1 ++ wsX9_mayGiveUp_r2) ++ wsX90)
def wsX9_note : List Cond := .code yX9_note cX9_note 2 none :: ([.fieldLink RX9 13 "TwoModemsModel" "noted" "[I", .fieldLink RX9 31 "TwoModemsModel" "quality" "[I", .methodLink RX9 137 yX9_ear, .instanceMethod yX9_ear, .selects RX9 yX9_ear yX9_ear, .initialized RX9, .code yX9_ear cX9_ear 3 (some .int), .fieldLink RX9 28 "TwoModemsModel" "hears" "[I"] ++ wsX90)
def wsX9_hearsOffer_r1 : List Cond := [Cond.methodLink RX9 137 yX9_ear, Cond.instanceMethod yX9_ear, Cond.selects RX9 yX9_ear yX9_ear, Cond.initialized RX9, Cond.code yX9_ear cX9_ear 3 (some .int), Cond.fieldLink RX9 28 "TwoModemsModel" "hears" "[I", Cond.methodLink RX9 106 yX9_of, Cond.instanceMethod yX9_of, Cond.selects RX9 yX9_of yX9_of, Cond.code yX9_of cX9_of 3 (some .int), Cond.fieldLink RX9 7 "TwoModemsModel" "ends" "[I", Cond.methodLink RX9 114 yX9_put, Cond.instanceMethod yX9_put, Cond.selects RX9 yX9_put yX9_put, Cond.code yX9_put cX9_put 4 none, Cond.methodLink RX9 134 yX9_into, Cond.instanceMethod yX9_into, Cond.selects RX9 yX9_into yX9_into, Cond.code yX9_into cX9_into 4 none, Cond.fieldLink RX9 127 "TwoModemsModel" "isChanged" "Z", Cond.fieldLink RX9 131 "TwoModemsModel" "changes" "I", Cond.fieldLink RX9 13 "TwoModemsModel" "noted" "[I", Cond.fieldLink RX9 16 "TwoModemsModel" "learnts" "[I", Cond.methodLink RX9 117 yX9_goesTo]
def wsX9_hearsOffer_r2 : List Cond := [Cond.instanceMethod yX9_goesTo, Cond.selects RX9 yX9_goesTo yX9_goesTo, Cond.code yX9_goesTo cX9_goesTo 3 none, Cond.methodLink RX9 110 yX9_add, Cond.instanceMethod yX9_add, Cond.selects RX9 yX9_add yX9_add, Cond.code yX9_add cX9_add 4 none]
def wsX9_hearsOffer : List Cond := .code yX9_hearsOffer cX9_hearsOffer 2 none :: ((wsX9_hearsOffer_r1 ++ wsX9_hearsOffer_r2) ++ wsX90)
def wsX9_agrees_r1 : List Cond := [Cond.methodLink RX9 114 yX9_put, Cond.instanceMethod yX9_put, Cond.selects RX9 yX9_put yX9_put, Cond.initialized RX9, Cond.code yX9_put cX9_put 4 none, Cond.fieldLink RX9 7 "TwoModemsModel" "ends" "[I", Cond.methodLink RX9 134 yX9_into, Cond.instanceMethod yX9_into, Cond.selects RX9 yX9_into yX9_into, Cond.code yX9_into cX9_into 4 none, Cond.fieldLink RX9 127 "TwoModemsModel" "isChanged" "Z", Cond.fieldLink RX9 131 "TwoModemsModel" "changes" "I", Cond.fieldLink RX9 13 "TwoModemsModel" "noted" "[I", Cond.fieldLink RX9 16 "TwoModemsModel" "learnts" "[I", Cond.methodLink RX9 117 yX9_goesTo, Cond.instanceMethod yX9_goesTo, Cond.selects RX9 yX9_goesTo yX9_goesTo, Cond.code yX9_goesTo cX9_goesTo 3 none, Cond.methodLink RX9 106 yX9_of, Cond.instanceMethod yX9_of, Cond.selects RX9 yX9_of yX9_of, Cond.code yX9_of cX9_of 3 (some .int), Cond.methodLink RX9 110 yX9_add, Cond.instanceMethod yX9_add]
def wsX9_agrees_r2 : List Cond := [Cond.selects RX9 yX9_add yX9_add, Cond.code yX9_add cX9_add 4 none]
def wsX9_agrees : List Cond := .code yX9_agrees cX9_agrees 3 none :: ((wsX9_agrees_r1 ++ wsX9_agrees_r2) ++ wsX90)
def wsX9_bargains_r1 : List Cond := [Cond.methodLink RX9 137 yX9_ear, Cond.instanceMethod yX9_ear, Cond.selects RX9 yX9_ear yX9_ear, Cond.initialized RX9, Cond.code yX9_ear cX9_ear 3 (some .int), Cond.fieldLink RX9 28 "TwoModemsModel" "hears" "[I", Cond.methodLink RX9 106 yX9_of, Cond.instanceMethod yX9_of, Cond.selects RX9 yX9_of yX9_of, Cond.code yX9_of cX9_of 3 (some .int), Cond.fieldLink RX9 7 "TwoModemsModel" "ends" "[I", Cond.methodLink RX9 140 yX9_agrees, Cond.instanceMethod yX9_agrees, Cond.selects RX9 yX9_agrees yX9_agrees, Cond.code yX9_agrees cX9_agrees 3 none, Cond.methodLink RX9 114 yX9_put, Cond.instanceMethod yX9_put, Cond.selects RX9 yX9_put yX9_put, Cond.code yX9_put cX9_put 4 none, Cond.methodLink RX9 134 yX9_into, Cond.instanceMethod yX9_into, Cond.selects RX9 yX9_into yX9_into, Cond.code yX9_into cX9_into 4 none, Cond.fieldLink RX9 127 "TwoModemsModel" "isChanged" "Z"]
def wsX9_bargains_r2 : List Cond := [Cond.fieldLink RX9 131 "TwoModemsModel" "changes" "I", Cond.fieldLink RX9 13 "TwoModemsModel" "noted" "[I", Cond.fieldLink RX9 16 "TwoModemsModel" "learnts" "[I", Cond.methodLink RX9 117 yX9_goesTo, Cond.instanceMethod yX9_goesTo, Cond.selects RX9 yX9_goesTo yX9_goesTo, Cond.code yX9_goesTo cX9_goesTo 3 none, Cond.methodLink RX9 110 yX9_add, Cond.instanceMethod yX9_add, Cond.selects RX9 yX9_add yX9_add, Cond.code yX9_add cX9_add 4 none, Cond.methodLink RX9 143 yX9_hearsOffer, Cond.instanceMethod yX9_hearsOffer, Cond.selects RX9 yX9_hearsOffer yX9_hearsOffer, Cond.code yX9_hearsOffer cX9_hearsOffer 2 none]
def wsX9_bargains : List Cond := .code yX9_bargains cX9_bargains 3 none :: ((wsX9_bargains_r1 ++ wsX9_bargains_r2) ++ wsX90)
def wsX9_takesFrame : List Cond := .code yX9_takesFrame cX9_takesFrame 4 none :: ([.fieldLink RX9 25 "TwoModemsModel" "gotten" "[I", .fieldLink RX9 62 "TwoModemsModel" "letters" "[I", .fieldLink RX9 147 "TwoModemsModel" "grew" "Z", .methodLink RX9 137 yX9_ear, .instanceMethod yX9_ear, .selects RX9 yX9_ear yX9_ear, .initialized RX9, .code yX9_ear cX9_ear 3 (some .int), .fieldLink RX9 28 "TwoModemsModel" "hears" "[I", .methodLink RX9 106 yX9_of, .instanceMethod yX9_of, .selects RX9 yX9_of yX9_of, .code yX9_of cX9_of 3 (some .int), .fieldLink RX9 7 "TwoModemsModel" "ends" "[I", .methodLink RX9 110 yX9_add, .instanceMethod yX9_add, .selects RX9 yX9_add yX9_add, .code yX9_add cX9_add 4 none, .methodLink RX9 114 yX9_put, .instanceMethod yX9_put, .selects RX9 yX9_put yX9_put, .code yX9_put cX9_put 4 none] ++ wsX90)
def wsX9_hearsInData_r1 : List Cond := [Cond.fieldLink RX9 147 "TwoModemsModel" "grew" "Z", Cond.fieldLink RX9 127 "TwoModemsModel" "isChanged" "Z", Cond.methodLink RX9 106 yX9_of, Cond.instanceMethod yX9_of, Cond.selects RX9 yX9_of yX9_of, Cond.initialized RX9, Cond.code yX9_of cX9_of 3 (some .int), Cond.fieldLink RX9 7 "TwoModemsModel" "ends" "[I", Cond.methodLink RX9 137 yX9_ear, Cond.instanceMethod yX9_ear, Cond.selects RX9 yX9_ear yX9_ear, Cond.code yX9_ear cX9_ear 3 (some .int), Cond.fieldLink RX9 28 "TwoModemsModel" "hears" "[I", Cond.methodLink RX9 114 yX9_put, Cond.instanceMethod yX9_put, Cond.selects RX9 yX9_put yX9_put, Cond.code yX9_put cX9_put 4 none, Cond.methodLink RX9 143 yX9_hearsOffer, Cond.instanceMethod yX9_hearsOffer, Cond.selects RX9 yX9_hearsOffer yX9_hearsOffer, Cond.code yX9_hearsOffer cX9_hearsOffer 2 none, Cond.methodLink RX9 134 yX9_into, Cond.instanceMethod yX9_into, Cond.selects RX9 yX9_into yX9_into]
def wsX9_hearsInData_r2 : List Cond := [Cond.code yX9_into cX9_into 4 none, Cond.fieldLink RX9 131 "TwoModemsModel" "changes" "I", Cond.fieldLink RX9 13 "TwoModemsModel" "noted" "[I", Cond.fieldLink RX9 16 "TwoModemsModel" "learnts" "[I", Cond.methodLink RX9 117 yX9_goesTo, Cond.instanceMethod yX9_goesTo, Cond.selects RX9 yX9_goesTo yX9_goesTo, Cond.code yX9_goesTo cX9_goesTo 3 none, Cond.methodLink RX9 110 yX9_add, Cond.instanceMethod yX9_add, Cond.selects RX9 yX9_add yX9_add, Cond.code yX9_add cX9_add 4 none, Cond.methodLink RX9 150 yX9_takesFrame, Cond.instanceMethod yX9_takesFrame, Cond.selects RX9 yX9_takesFrame yX9_takesFrame, Cond.code yX9_takesFrame cX9_takesFrame 4 none, Cond.fieldLink RX9 25 "TwoModemsModel" "gotten" "[I", Cond.fieldLink RX9 62 "TwoModemsModel" "letters" "[I"]
def wsX9_hearsInData : List Cond := .code yX9_hearsInData cX9_hearsInData 2 none :: ((wsX9_hearsInData_r1 ++ wsX9_hearsInData_r2) ++ wsX90)
def wsX9_answers_r1 : List Cond := [Cond.methodLink RX9 137 yX9_ear, Cond.instanceMethod yX9_ear, Cond.selects RX9 yX9_ear yX9_ear, Cond.initialized RX9, Cond.code yX9_ear cX9_ear 3 (some .int), Cond.fieldLink RX9 28 "TwoModemsModel" "hears" "[I", Cond.methodLink RX9 134 yX9_into, Cond.instanceMethod yX9_into, Cond.selects RX9 yX9_into yX9_into, Cond.code yX9_into cX9_into 4 none, Cond.fieldLink RX9 127 "TwoModemsModel" "isChanged" "Z", Cond.fieldLink RX9 131 "TwoModemsModel" "changes" "I", Cond.fieldLink RX9 13 "TwoModemsModel" "noted" "[I", Cond.fieldLink RX9 16 "TwoModemsModel" "learnts" "[I", Cond.methodLink RX9 117 yX9_goesTo, Cond.instanceMethod yX9_goesTo, Cond.selects RX9 yX9_goesTo yX9_goesTo, Cond.code yX9_goesTo cX9_goesTo 3 none, Cond.methodLink RX9 114 yX9_put, Cond.instanceMethod yX9_put, Cond.selects RX9 yX9_put yX9_put, Cond.code yX9_put cX9_put 4 none, Cond.fieldLink RX9 7 "TwoModemsModel" "ends" "[I", Cond.methodLink RX9 106 yX9_of]
def wsX9_answers_r2 : List Cond := [Cond.instanceMethod yX9_of, Cond.selects RX9 yX9_of yX9_of, Cond.code yX9_of cX9_of 3 (some .int), Cond.methodLink RX9 110 yX9_add, Cond.instanceMethod yX9_add, Cond.selects RX9 yX9_add yX9_add, Cond.code yX9_add cX9_add 4 none, Cond.methodLink RX9 153 yX9_note, Cond.instanceMethod yX9_note, Cond.selects RX9 yX9_note yX9_note, Cond.code yX9_note cX9_note 2 none, Cond.fieldLink RX9 31 "TwoModemsModel" "quality" "[I"]
def wsX9_answers : List Cond := .code yX9_answers cX9_answers 2 none :: ((wsX9_answers_r1 ++ wsX9_answers_r2) ++ wsX90)
def wsX9_hearsInAgree_r1 : List Cond := [Cond.methodLink RX9 137 yX9_ear, Cond.instanceMethod yX9_ear, Cond.selects RX9 yX9_ear yX9_ear, Cond.initialized RX9, Cond.code yX9_ear cX9_ear 3 (some .int), Cond.fieldLink RX9 28 "TwoModemsModel" "hears" "[I", Cond.methodLink RX9 106 yX9_of, Cond.instanceMethod yX9_of, Cond.selects RX9 yX9_of yX9_of, Cond.code yX9_of cX9_of 3 (some .int), Cond.fieldLink RX9 7 "TwoModemsModel" "ends" "[I", Cond.methodLink RX9 134 yX9_into, Cond.instanceMethod yX9_into, Cond.selects RX9 yX9_into yX9_into, Cond.code yX9_into cX9_into 4 none, Cond.fieldLink RX9 127 "TwoModemsModel" "isChanged" "Z", Cond.fieldLink RX9 131 "TwoModemsModel" "changes" "I", Cond.fieldLink RX9 13 "TwoModemsModel" "noted" "[I", Cond.fieldLink RX9 16 "TwoModemsModel" "learnts" "[I", Cond.methodLink RX9 117 yX9_goesTo, Cond.instanceMethod yX9_goesTo, Cond.selects RX9 yX9_goesTo yX9_goesTo, Cond.code yX9_goesTo cX9_goesTo 3 none, Cond.methodLink RX9 114 yX9_put]
def wsX9_hearsInAgree_r2 : List Cond := [Cond.instanceMethod yX9_put, Cond.selects RX9 yX9_put yX9_put, Cond.code yX9_put cX9_put 4 none, Cond.methodLink RX9 110 yX9_add, Cond.instanceMethod yX9_add, Cond.selects RX9 yX9_add yX9_add, Cond.code yX9_add cX9_add 4 none, Cond.methodLink RX9 143 yX9_hearsOffer, Cond.instanceMethod yX9_hearsOffer, Cond.selects RX9 yX9_hearsOffer yX9_hearsOffer, Cond.code yX9_hearsOffer cX9_hearsOffer 2 none]
def wsX9_hearsInAgree : List Cond := .code yX9_hearsInAgree cX9_hearsInAgree 2 none :: ((wsX9_hearsInAgree_r1 ++ wsX9_hearsInAgree_r2) ++ wsX90)
def wsX9_hearsIn_r1 : List Cond := [Cond.methodLink RX9 106 yX9_of, Cond.instanceMethod yX9_of, Cond.selects RX9 yX9_of yX9_of, Cond.initialized RX9, Cond.code yX9_of cX9_of 3 (some .int), Cond.fieldLink RX9 7 "TwoModemsModel" "ends" "[I", Cond.methodLink RX9 137 yX9_ear, Cond.instanceMethod yX9_ear, Cond.selects RX9 yX9_ear yX9_ear, Cond.code yX9_ear cX9_ear 3 (some .int), Cond.fieldLink RX9 28 "TwoModemsModel" "hears" "[I", Cond.methodLink RX9 134 yX9_into, Cond.instanceMethod yX9_into, Cond.selects RX9 yX9_into yX9_into, Cond.code yX9_into cX9_into 4 none, Cond.fieldLink RX9 127 "TwoModemsModel" "isChanged" "Z", Cond.fieldLink RX9 131 "TwoModemsModel" "changes" "I", Cond.fieldLink RX9 13 "TwoModemsModel" "noted" "[I", Cond.fieldLink RX9 16 "TwoModemsModel" "learnts" "[I", Cond.methodLink RX9 117 yX9_goesTo, Cond.instanceMethod yX9_goesTo, Cond.selects RX9 yX9_goesTo yX9_goesTo, Cond.code yX9_goesTo cX9_goesTo 3 none, Cond.methodLink RX9 114 yX9_put]
def wsX9_hearsIn_r2 : List Cond := [Cond.instanceMethod yX9_put, Cond.selects RX9 yX9_put yX9_put, Cond.code yX9_put cX9_put 4 none, Cond.methodLink RX9 110 yX9_add, Cond.instanceMethod yX9_add, Cond.selects RX9 yX9_add yX9_add, Cond.code yX9_add cX9_add 4 none, Cond.methodLink RX9 156 yX9_answers, Cond.instanceMethod yX9_answers, Cond.selects RX9 yX9_answers yX9_answers, Cond.code yX9_answers cX9_answers 2 none, Cond.methodLink RX9 153 yX9_note, Cond.instanceMethod yX9_note, Cond.selects RX9 yX9_note yX9_note, Cond.code yX9_note cX9_note 2 none, Cond.fieldLink RX9 31 "TwoModemsModel" "quality" "[I", Cond.methodLink RX9 159 yX9_bargains, Cond.instanceMethod yX9_bargains, Cond.selects RX9 yX9_bargains yX9_bargains, Cond.code yX9_bargains cX9_bargains 3 none, Cond.methodLink RX9 140 yX9_agrees, Cond.instanceMethod yX9_agrees, Cond.selects RX9 yX9_agrees yX9_agrees, Cond.code yX9_agrees cX9_agrees 3 none]
def wsX9_hearsIn_r3 : List Cond := [Cond.methodLink RX9 143 yX9_hearsOffer, Cond.instanceMethod yX9_hearsOffer, Cond.selects RX9 yX9_hearsOffer yX9_hearsOffer, Cond.code yX9_hearsOffer cX9_hearsOffer 2 none, Cond.methodLink RX9 162 yX9_hearsInAgree, Cond.instanceMethod yX9_hearsInAgree, Cond.selects RX9 yX9_hearsInAgree yX9_hearsInAgree, Cond.code yX9_hearsInAgree cX9_hearsInAgree 2 none, Cond.methodLink RX9 165 yX9_hearsInData, Cond.instanceMethod yX9_hearsInData, Cond.selects RX9 yX9_hearsInData yX9_hearsInData, Cond.code yX9_hearsInData cX9_hearsInData 2 none, Cond.fieldLink RX9 147 "TwoModemsModel" "grew" "Z", Cond.methodLink RX9 150 yX9_takesFrame, Cond.instanceMethod yX9_takesFrame, Cond.selects RX9 yX9_takesFrame yX9_takesFrame, Cond.code yX9_takesFrame cX9_takesFrame 4 none, Cond.fieldLink RX9 25 "TwoModemsModel" "gotten" "[I", Cond.fieldLink RX9 62 "TwoModemsModel" "letters" "[I"]
def wsX9_hearsIn : List Cond := .code yX9_hearsIn cX9_hearsIn 2 none :: ((wsX9_hearsIn_r1 ++ (wsX9_hearsIn_r2 ++ wsX9_hearsIn_r3)) ++ wsX90)
def wsX9_size : List Cond := .code yX9_size cX9_size 1 (some .int) :: ([])
def wsX9_makeOffer : List Cond := .code yX9_makeOffer cX9_makeOffer 7 none :: ([.fieldLink RX9 19 "TwoModemsModel" "taps" "[I", .fieldLink RX9 16 "TwoModemsModel" "learnts" "[I", .fieldLink RX9 13 "TwoModemsModel" "noted" "[I", .methodLink RX9 168 yX9_size, .static yX9_size, .initialized RX9, .code yX9_size cX9_size 1 (some .int), .methodLink RX9 114 yX9_put, .instanceMethod yX9_put, .selects RX9 yX9_put yX9_put, .code yX9_put cX9_put 4 none, .fieldLink RX9 7 "TwoModemsModel" "ends" "[I"] ++ wsX90)
def wsX9_ones : List Cond := .code yX9_ones cX9_ones 3 (some .int) :: ([])
def wsX9_looksInData_r1 : List Cond := [Cond.fieldLink RX9 147 "TwoModemsModel" "grew" "Z", Cond.fieldLink RX9 34 "TwoModemsModel" "delay" "I", Cond.methodLink RX9 106 yX9_of, Cond.instanceMethod yX9_of, Cond.selects RX9 yX9_of yX9_of, Cond.initialized RX9, Cond.code yX9_of cX9_of 3 (some .int), Cond.fieldLink RX9 7 "TwoModemsModel" "ends" "[I", Cond.methodLink RX9 114 yX9_put, Cond.instanceMethod yX9_put, Cond.selects RX9 yX9_put yX9_put, Cond.code yX9_put cX9_put 4 none, Cond.methodLink RX9 171 yX9_ones, Cond.static yX9_ones, Cond.code yX9_ones cX9_ones 3 (some .int), Cond.methodLink RX9 110 yX9_add, Cond.instanceMethod yX9_add, Cond.selects RX9 yX9_add yX9_add, Cond.code yX9_add cX9_add 4 none, Cond.methodLink RX9 134 yX9_into, Cond.instanceMethod yX9_into, Cond.selects RX9 yX9_into yX9_into, Cond.code yX9_into cX9_into 4 none, Cond.fieldLink RX9 127 "TwoModemsModel" "isChanged" "Z"]
def wsX9_looksInData_r2 : List Cond := [Cond.fieldLink RX9 131 "TwoModemsModel" "changes" "I", Cond.fieldLink RX9 13 "TwoModemsModel" "noted" "[I", Cond.fieldLink RX9 16 "TwoModemsModel" "learnts" "[I", Cond.methodLink RX9 117 yX9_goesTo, Cond.instanceMethod yX9_goesTo, Cond.selects RX9 yX9_goesTo yX9_goesTo, Cond.code yX9_goesTo cX9_goesTo 3 none]
def wsX9_looksInData : List Cond := .code yX9_looksInData cX9_looksInData 2 none :: ((wsX9_looksInData_r1 ++ wsX9_looksInData_r2) ++ wsX90)
def wsX9_looksIn_r1 : List Cond := [Cond.fieldLink RX9 34 "TwoModemsModel" "delay" "I", Cond.methodLink RX9 106 yX9_of, Cond.instanceMethod yX9_of, Cond.selects RX9 yX9_of yX9_of, Cond.initialized RX9, Cond.code yX9_of cX9_of 3 (some .int), Cond.fieldLink RX9 7 "TwoModemsModel" "ends" "[I", Cond.methodLink RX9 134 yX9_into, Cond.instanceMethod yX9_into, Cond.selects RX9 yX9_into yX9_into, Cond.code yX9_into cX9_into 4 none, Cond.fieldLink RX9 127 "TwoModemsModel" "isChanged" "Z", Cond.fieldLink RX9 131 "TwoModemsModel" "changes" "I", Cond.fieldLink RX9 13 "TwoModemsModel" "noted" "[I", Cond.fieldLink RX9 16 "TwoModemsModel" "learnts" "[I", Cond.methodLink RX9 117 yX9_goesTo, Cond.instanceMethod yX9_goesTo, Cond.selects RX9 yX9_goesTo yX9_goesTo, Cond.code yX9_goesTo cX9_goesTo 3 none, Cond.methodLink RX9 114 yX9_put, Cond.instanceMethod yX9_put, Cond.selects RX9 yX9_put yX9_put, Cond.code yX9_put cX9_put 4 none, Cond.methodLink RX9 110 yX9_add]
def wsX9_looksIn_r2 : List Cond := [Cond.instanceMethod yX9_add, Cond.selects RX9 yX9_add yX9_add, Cond.code yX9_add cX9_add 4 none, Cond.methodLink RX9 174 yX9_makeOffer, Cond.instanceMethod yX9_makeOffer, Cond.selects RX9 yX9_makeOffer yX9_makeOffer, Cond.code yX9_makeOffer cX9_makeOffer 7 none, Cond.fieldLink RX9 19 "TwoModemsModel" "taps" "[I", Cond.methodLink RX9 168 yX9_size, Cond.static yX9_size, Cond.code yX9_size cX9_size 1 (some .int), Cond.methodLink RX9 177 yX9_looksInData, Cond.instanceMethod yX9_looksInData, Cond.selects RX9 yX9_looksInData yX9_looksInData, Cond.code yX9_looksInData cX9_looksInData 2 none, Cond.fieldLink RX9 147 "TwoModemsModel" "grew" "Z", Cond.methodLink RX9 171 yX9_ones, Cond.static yX9_ones, Cond.code yX9_ones cX9_ones 3 (some .int)]
def wsX9_looksIn : List Cond := .code yX9_looksIn cX9_looksIn 3 none :: ((wsX9_looksIn_r1 ++ wsX9_looksIn_r2) ++ wsX90)
def wsX9_send : List Cond := .code yX9_send cX9_send 7 none :: ([.fieldLink RX9 121 "TwoModemsModel" "tick" "I", .fieldLink RX9 34 "TwoModemsModel" "delay" "I", .fieldLink RX9 180 "TwoModemsModel" "sends" "I", .fieldLink RX9 41 "TwoModemsModel" "comes" "[I", .fieldLink RX9 44 "TwoModemsModel" "acks" "[I", .methodLink RX9 124 yX9_slot, .instanceMethod yX9_slot, .selects RX9 yX9_slot yX9_slot, .initialized RX9, .code yX9_slot cX9_slot 3 (some .int)] ++ wsX90)
def wsX9_signOf : List Cond := .code yX9_signOf cX9_signOf 1 (some .int) :: ([])
def wsX9_trains : List Cond := .code yX9_trains cX9_trains 5 none :: ([.fieldLink RX9 19 "TwoModemsModel" "taps" "[I", .fieldLink RX9 16 "TwoModemsModel" "learnts" "[I", .methodLink RX9 106 yX9_of, .instanceMethod yX9_of, .selects RX9 yX9_of yX9_of, .initialized RX9, .code yX9_of cX9_of 3 (some .int), .fieldLink RX9 7 "TwoModemsModel" "ends" "[I", .methodLink RX9 183 yX9_signOf, .static yX9_signOf, .code yX9_signOf cX9_signOf 1 (some .int)] ++ wsX90)
def wsX9_lesser : List Cond := .code yX9_lesser cX9_lesser 2 (some .int) :: ([])
def wsX9_sendsFrame_r1 : List Cond := [Cond.fieldLink RX9 41 "TwoModemsModel" "comes" "[I", Cond.fieldLink RX9 180 "TwoModemsModel" "sends" "I", Cond.fieldLink RX9 22 "TwoModemsModel" "said" "[I", Cond.fieldLink RX9 193 "TwoModemsModel" "sentAgain" "I", Cond.methodLink RX9 106 yX9_of, Cond.instanceMethod yX9_of, Cond.selects RX9 yX9_of yX9_of, Cond.initialized RX9, Cond.code yX9_of cX9_of 3 (some .int), Cond.fieldLink RX9 7 "TwoModemsModel" "ends" "[I", Cond.methodLink RX9 186 yX9_lesser, Cond.static yX9_lesser, Cond.code yX9_lesser cX9_lesser 2 (some .int), Cond.methodLink RX9 114 yX9_put, Cond.instanceMethod yX9_put, Cond.selects RX9 yX9_put yX9_put, Cond.code yX9_put cX9_put 4 none, Cond.methodLink RX9 189 yX9_send, Cond.instanceMethod yX9_send, Cond.selects RX9 yX9_send yX9_send, Cond.code yX9_send cX9_send 7 none, Cond.fieldLink RX9 121 "TwoModemsModel" "tick" "I", Cond.fieldLink RX9 34 "TwoModemsModel" "delay" "I", Cond.fieldLink RX9 44 "TwoModemsModel" "acks" "[I"]
def wsX9_sendsFrame_r2 : List Cond := [Cond.methodLink RX9 124 yX9_slot, Cond.instanceMethod yX9_slot, Cond.selects RX9 yX9_slot yX9_slot, Cond.code yX9_slot cX9_slot 3 (some .int), Cond.methodLink RX9 110 yX9_add, Cond.instanceMethod yX9_add, Cond.selects RX9 yX9_add yX9_add, Cond.code yX9_add cX9_add 4 none]
def wsX9_sendsFrame : List Cond := .code yX9_sendsFrame cX9_sendsFrame 5 none :: ((wsX9_sendsFrame_r1 ++ wsX9_sendsFrame_r2) ++ wsX90)
def wsX9_sendsIn_r1 : List Cond := [Cond.methodLink RX9 106 yX9_of, Cond.instanceMethod yX9_of, Cond.selects RX9 yX9_of yX9_of, Cond.initialized RX9, Cond.code yX9_of cX9_of 3 (some .int), Cond.fieldLink RX9 7 "TwoModemsModel" "ends" "[I", Cond.methodLink RX9 189 yX9_send, Cond.instanceMethod yX9_send, Cond.selects RX9 yX9_send yX9_send, Cond.code yX9_send cX9_send 7 none, Cond.fieldLink RX9 121 "TwoModemsModel" "tick" "I", Cond.fieldLink RX9 34 "TwoModemsModel" "delay" "I", Cond.fieldLink RX9 180 "TwoModemsModel" "sends" "I", Cond.fieldLink RX9 41 "TwoModemsModel" "comes" "[I", Cond.fieldLink RX9 44 "TwoModemsModel" "acks" "[I", Cond.methodLink RX9 124 yX9_slot, Cond.instanceMethod yX9_slot, Cond.selects RX9 yX9_slot yX9_slot, Cond.code yX9_slot cX9_slot 3 (some .int), Cond.methodLink RX9 196 yX9_trains, Cond.instanceMethod yX9_trains, Cond.selects RX9 yX9_trains yX9_trains, Cond.code yX9_trains cX9_trains 5 none, Cond.fieldLink RX9 19 "TwoModemsModel" "taps" "[I"]
def wsX9_sendsIn_r2 : List Cond := [Cond.fieldLink RX9 16 "TwoModemsModel" "learnts" "[I", Cond.methodLink RX9 183 yX9_signOf, Cond.static yX9_signOf, Cond.code yX9_signOf cX9_signOf 1 (some .int), Cond.methodLink RX9 199 yX9_sendsFrame, Cond.instanceMethod yX9_sendsFrame, Cond.selects RX9 yX9_sendsFrame yX9_sendsFrame, Cond.code yX9_sendsFrame cX9_sendsFrame 5 none, Cond.fieldLink RX9 22 "TwoModemsModel" "said" "[I", Cond.fieldLink RX9 193 "TwoModemsModel" "sentAgain" "I", Cond.methodLink RX9 186 yX9_lesser, Cond.static yX9_lesser, Cond.code yX9_lesser cX9_lesser 2 (some .int), Cond.methodLink RX9 114 yX9_put, Cond.instanceMethod yX9_put, Cond.selects RX9 yX9_put yX9_put, Cond.code yX9_put cX9_put 4 none, Cond.methodLink RX9 110 yX9_add, Cond.instanceMethod yX9_add, Cond.selects RX9 yX9_add yX9_add, Cond.code yX9_add cX9_add 4 none]
def wsX9_sendsIn : List Cond := .code yX9_sendsIn cX9_sendsIn 3 none :: ((wsX9_sendsIn_r1 ++ wsX9_sendsIn_r2) ++ wsX90)
def wsX9_does_r1 : List Cond := [Cond.fieldLink RX9 127 "TwoModemsModel" "isChanged" "Z", Cond.methodLink RX9 202 yX9_hear, Cond.instanceMethod yX9_hear, Cond.selects RX9 yX9_hear yX9_hear, Cond.initialized RX9, Cond.code yX9_hear cX9_hear 7 none, Cond.fieldLink RX9 121 "TwoModemsModel" "tick" "I", Cond.fieldLink RX9 41 "TwoModemsModel" "comes" "[I", Cond.fieldLink RX9 47 "TwoModemsModel" "came" "[I", Cond.fieldLink RX9 38 "TwoModemsModel" "hurts" "[I", Cond.fieldLink RX9 50 "TwoModemsModel" "wereHurt" "[I", Cond.fieldLink RX9 28 "TwoModemsModel" "hears" "[I", Cond.fieldLink RX9 44 "TwoModemsModel" "acks" "[I", Cond.fieldLink RX9 62 "TwoModemsModel" "letters" "[I", Cond.methodLink RX9 124 yX9_slot, Cond.instanceMethod yX9_slot, Cond.selects RX9 yX9_slot yX9_slot, Cond.code yX9_slot cX9_slot 3 (some .int), Cond.methodLink RX9 205 yX9_mayGiveUp, Cond.instanceMethod yX9_mayGiveUp, Cond.selects RX9 yX9_mayGiveUp yX9_mayGiveUp, Cond.code yX9_mayGiveUp cX9_mayGiveUp 4 none, Cond.methodLink RX9 106 yX9_of, Cond.instanceMethod yX9_of]
def wsX9_does_r2 : List Cond := [Cond.selects RX9 yX9_of yX9_of, Cond.code yX9_of cX9_of 3 (some .int), Cond.fieldLink RX9 7 "TwoModemsModel" "ends" "[I", Cond.methodLink RX9 110 yX9_add, Cond.instanceMethod yX9_add, Cond.selects RX9 yX9_add yX9_add, Cond.code yX9_add cX9_add 4 none, Cond.methodLink RX9 134 yX9_into, Cond.instanceMethod yX9_into, Cond.selects RX9 yX9_into yX9_into, Cond.code yX9_into cX9_into 4 none, Cond.fieldLink RX9 131 "TwoModemsModel" "changes" "I", Cond.fieldLink RX9 13 "TwoModemsModel" "noted" "[I", Cond.fieldLink RX9 16 "TwoModemsModel" "learnts" "[I", Cond.methodLink RX9 117 yX9_goesTo, Cond.instanceMethod yX9_goesTo, Cond.selects RX9 yX9_goesTo yX9_goesTo, Cond.code yX9_goesTo cX9_goesTo 3 none, Cond.methodLink RX9 114 yX9_put, Cond.instanceMethod yX9_put, Cond.selects RX9 yX9_put yX9_put, Cond.code yX9_put cX9_put 4 none, Cond.methodLink RX9 208 yX9_hearsIn, Cond.instanceMethod yX9_hearsIn]
def wsX9_does_r3 : List Cond := [Cond.selects RX9 yX9_hearsIn yX9_hearsIn, Cond.code yX9_hearsIn cX9_hearsIn 2 none, Cond.methodLink RX9 137 yX9_ear, Cond.instanceMethod yX9_ear, Cond.selects RX9 yX9_ear yX9_ear, Cond.code yX9_ear cX9_ear 3 (some .int), Cond.methodLink RX9 156 yX9_answers, Cond.instanceMethod yX9_answers, Cond.selects RX9 yX9_answers yX9_answers, Cond.code yX9_answers cX9_answers 2 none, Cond.methodLink RX9 153 yX9_note, Cond.instanceMethod yX9_note, Cond.selects RX9 yX9_note yX9_note, Cond.code yX9_note cX9_note 2 none, Cond.fieldLink RX9 31 "TwoModemsModel" "quality" "[I", Cond.methodLink RX9 159 yX9_bargains, Cond.instanceMethod yX9_bargains, Cond.selects RX9 yX9_bargains yX9_bargains, Cond.code yX9_bargains cX9_bargains 3 none, Cond.methodLink RX9 140 yX9_agrees, Cond.instanceMethod yX9_agrees, Cond.selects RX9 yX9_agrees yX9_agrees, Cond.code yX9_agrees cX9_agrees 3 none, Cond.methodLink RX9 143 yX9_hearsOffer]
def wsX9_does_r4 : List Cond := [Cond.instanceMethod yX9_hearsOffer, Cond.selects RX9 yX9_hearsOffer yX9_hearsOffer, Cond.code yX9_hearsOffer cX9_hearsOffer 2 none, Cond.methodLink RX9 162 yX9_hearsInAgree, Cond.instanceMethod yX9_hearsInAgree, Cond.selects RX9 yX9_hearsInAgree yX9_hearsInAgree, Cond.code yX9_hearsInAgree cX9_hearsInAgree 2 none, Cond.methodLink RX9 165 yX9_hearsInData, Cond.instanceMethod yX9_hearsInData, Cond.selects RX9 yX9_hearsInData yX9_hearsInData, Cond.code yX9_hearsInData cX9_hearsInData 2 none, Cond.fieldLink RX9 147 "TwoModemsModel" "grew" "Z", Cond.methodLink RX9 150 yX9_takesFrame, Cond.instanceMethod yX9_takesFrame, Cond.selects RX9 yX9_takesFrame yX9_takesFrame, Cond.code yX9_takesFrame cX9_takesFrame 4 none, Cond.fieldLink RX9 25 "TwoModemsModel" "gotten" "[I", Cond.methodLink RX9 211 yX9_looksIn, Cond.instanceMethod yX9_looksIn, Cond.selects RX9 yX9_looksIn yX9_looksIn, Cond.code yX9_looksIn cX9_looksIn 3 none, Cond.fieldLink RX9 34 "TwoModemsModel" "delay" "I", Cond.methodLink RX9 174 yX9_makeOffer, Cond.instanceMethod yX9_makeOffer]
def wsX9_does_r5 : List Cond := [Cond.selects RX9 yX9_makeOffer yX9_makeOffer, Cond.code yX9_makeOffer cX9_makeOffer 7 none, Cond.fieldLink RX9 19 "TwoModemsModel" "taps" "[I", Cond.methodLink RX9 168 yX9_size, Cond.static yX9_size, Cond.code yX9_size cX9_size 1 (some .int), Cond.methodLink RX9 177 yX9_looksInData, Cond.instanceMethod yX9_looksInData, Cond.selects RX9 yX9_looksInData yX9_looksInData, Cond.code yX9_looksInData cX9_looksInData 2 none, Cond.methodLink RX9 171 yX9_ones, Cond.static yX9_ones, Cond.code yX9_ones cX9_ones 3 (some .int), Cond.methodLink RX9 214 yX9_sendsIn, Cond.instanceMethod yX9_sendsIn, Cond.selects RX9 yX9_sendsIn yX9_sendsIn, Cond.code yX9_sendsIn cX9_sendsIn 3 none, Cond.methodLink RX9 189 yX9_send, Cond.instanceMethod yX9_send, Cond.selects RX9 yX9_send yX9_send, Cond.code yX9_send cX9_send 7 none, Cond.fieldLink RX9 180 "TwoModemsModel" "sends" "I", Cond.methodLink RX9 196 yX9_trains, Cond.instanceMethod yX9_trains]
def wsX9_does_r6 : List Cond := [Cond.selects RX9 yX9_trains yX9_trains, Cond.code yX9_trains cX9_trains 5 none, Cond.methodLink RX9 183 yX9_signOf, Cond.static yX9_signOf, Cond.code yX9_signOf cX9_signOf 1 (some .int), Cond.methodLink RX9 199 yX9_sendsFrame, Cond.instanceMethod yX9_sendsFrame, Cond.selects RX9 yX9_sendsFrame yX9_sendsFrame, Cond.code yX9_sendsFrame cX9_sendsFrame 5 none, Cond.fieldLink RX9 22 "TwoModemsModel" "said" "[I", Cond.fieldLink RX9 193 "TwoModemsModel" "sentAgain" "I", Cond.methodLink RX9 186 yX9_lesser, Cond.static yX9_lesser, Cond.code yX9_lesser cX9_lesser 2 (some .int)]
def wsX9_does : List Cond := .code yX9_does cX9_does 2 none :: ((wsX9_does_r1 ++ (wsX9_does_r2 ++ (wsX9_does_r3 ++ (wsX9_does_r4 ++ (wsX9_does_r5 ++ wsX9_does_r6))))) ++ wsX90)
def wsX9_go_r1 : List Cond := [Cond.fieldLink RX9 131 "TwoModemsModel" "changes" "I", Cond.fieldLink RX9 121 "TwoModemsModel" "tick" "I", Cond.methodLink RX9 65 yX9_within, Cond.static yX9_within, Cond.initialized RX9, Cond.code yX9_within cX9_within 3 (some .boolean), Cond.methodLink RX9 217 yX9_does, Cond.instanceMethod yX9_does, Cond.selects RX9 yX9_does yX9_does, Cond.code yX9_does cX9_does 2 none, Cond.fieldLink RX9 127 "TwoModemsModel" "isChanged" "Z", Cond.methodLink RX9 202 yX9_hear, Cond.instanceMethod yX9_hear, Cond.selects RX9 yX9_hear yX9_hear, Cond.code yX9_hear cX9_hear 7 none, Cond.fieldLink RX9 41 "TwoModemsModel" "comes" "[I", Cond.fieldLink RX9 47 "TwoModemsModel" "came" "[I", Cond.fieldLink RX9 38 "TwoModemsModel" "hurts" "[I", Cond.fieldLink RX9 50 "TwoModemsModel" "wereHurt" "[I", Cond.fieldLink RX9 28 "TwoModemsModel" "hears" "[I", Cond.fieldLink RX9 44 "TwoModemsModel" "acks" "[I", Cond.fieldLink RX9 62 "TwoModemsModel" "letters" "[I", Cond.methodLink RX9 124 yX9_slot, Cond.instanceMethod yX9_slot]
def wsX9_go_r2 : List Cond := [Cond.selects RX9 yX9_slot yX9_slot, Cond.code yX9_slot cX9_slot 3 (some .int), Cond.methodLink RX9 205 yX9_mayGiveUp, Cond.instanceMethod yX9_mayGiveUp, Cond.selects RX9 yX9_mayGiveUp yX9_mayGiveUp, Cond.code yX9_mayGiveUp cX9_mayGiveUp 4 none, Cond.methodLink RX9 106 yX9_of, Cond.instanceMethod yX9_of, Cond.selects RX9 yX9_of yX9_of, Cond.code yX9_of cX9_of 3 (some .int), Cond.fieldLink RX9 7 "TwoModemsModel" "ends" "[I", Cond.methodLink RX9 110 yX9_add, Cond.instanceMethod yX9_add, Cond.selects RX9 yX9_add yX9_add, Cond.code yX9_add cX9_add 4 none, Cond.methodLink RX9 134 yX9_into, Cond.instanceMethod yX9_into, Cond.selects RX9 yX9_into yX9_into, Cond.code yX9_into cX9_into 4 none, Cond.fieldLink RX9 13 "TwoModemsModel" "noted" "[I", Cond.fieldLink RX9 16 "TwoModemsModel" "learnts" "[I", Cond.methodLink RX9 117 yX9_goesTo, Cond.instanceMethod yX9_goesTo, Cond.selects RX9 yX9_goesTo yX9_goesTo]
def wsX9_go_r3 : List Cond := [Cond.code yX9_goesTo cX9_goesTo 3 none, Cond.methodLink RX9 114 yX9_put, Cond.instanceMethod yX9_put, Cond.selects RX9 yX9_put yX9_put, Cond.code yX9_put cX9_put 4 none, Cond.methodLink RX9 208 yX9_hearsIn, Cond.instanceMethod yX9_hearsIn, Cond.selects RX9 yX9_hearsIn yX9_hearsIn, Cond.code yX9_hearsIn cX9_hearsIn 2 none, Cond.methodLink RX9 137 yX9_ear, Cond.instanceMethod yX9_ear, Cond.selects RX9 yX9_ear yX9_ear, Cond.code yX9_ear cX9_ear 3 (some .int), Cond.methodLink RX9 156 yX9_answers, Cond.instanceMethod yX9_answers, Cond.selects RX9 yX9_answers yX9_answers, Cond.code yX9_answers cX9_answers 2 none, Cond.methodLink RX9 153 yX9_note, Cond.instanceMethod yX9_note, Cond.selects RX9 yX9_note yX9_note, Cond.code yX9_note cX9_note 2 none, Cond.fieldLink RX9 31 "TwoModemsModel" "quality" "[I", Cond.methodLink RX9 159 yX9_bargains, Cond.instanceMethod yX9_bargains]
def wsX9_go_r4 : List Cond := [Cond.selects RX9 yX9_bargains yX9_bargains, Cond.code yX9_bargains cX9_bargains 3 none, Cond.methodLink RX9 140 yX9_agrees, Cond.instanceMethod yX9_agrees, Cond.selects RX9 yX9_agrees yX9_agrees, Cond.code yX9_agrees cX9_agrees 3 none, Cond.methodLink RX9 143 yX9_hearsOffer, Cond.instanceMethod yX9_hearsOffer, Cond.selects RX9 yX9_hearsOffer yX9_hearsOffer, Cond.code yX9_hearsOffer cX9_hearsOffer 2 none, Cond.methodLink RX9 162 yX9_hearsInAgree, Cond.instanceMethod yX9_hearsInAgree, Cond.selects RX9 yX9_hearsInAgree yX9_hearsInAgree, Cond.code yX9_hearsInAgree cX9_hearsInAgree 2 none, Cond.methodLink RX9 165 yX9_hearsInData, Cond.instanceMethod yX9_hearsInData, Cond.selects RX9 yX9_hearsInData yX9_hearsInData, Cond.code yX9_hearsInData cX9_hearsInData 2 none, Cond.fieldLink RX9 147 "TwoModemsModel" "grew" "Z", Cond.methodLink RX9 150 yX9_takesFrame, Cond.instanceMethod yX9_takesFrame, Cond.selects RX9 yX9_takesFrame yX9_takesFrame, Cond.code yX9_takesFrame cX9_takesFrame 4 none, Cond.fieldLink RX9 25 "TwoModemsModel" "gotten" "[I"]
def wsX9_go_r5 : List Cond := [Cond.methodLink RX9 211 yX9_looksIn, Cond.instanceMethod yX9_looksIn, Cond.selects RX9 yX9_looksIn yX9_looksIn, Cond.code yX9_looksIn cX9_looksIn 3 none, Cond.fieldLink RX9 34 "TwoModemsModel" "delay" "I", Cond.methodLink RX9 174 yX9_makeOffer, Cond.instanceMethod yX9_makeOffer, Cond.selects RX9 yX9_makeOffer yX9_makeOffer, Cond.code yX9_makeOffer cX9_makeOffer 7 none, Cond.fieldLink RX9 19 "TwoModemsModel" "taps" "[I", Cond.methodLink RX9 168 yX9_size, Cond.static yX9_size, Cond.code yX9_size cX9_size 1 (some .int), Cond.methodLink RX9 177 yX9_looksInData, Cond.instanceMethod yX9_looksInData, Cond.selects RX9 yX9_looksInData yX9_looksInData, Cond.code yX9_looksInData cX9_looksInData 2 none, Cond.methodLink RX9 171 yX9_ones, Cond.static yX9_ones, Cond.code yX9_ones cX9_ones 3 (some .int), Cond.methodLink RX9 214 yX9_sendsIn, Cond.instanceMethod yX9_sendsIn, Cond.selects RX9 yX9_sendsIn yX9_sendsIn, Cond.code yX9_sendsIn cX9_sendsIn 3 none]
def wsX9_go_r6 : List Cond := [Cond.methodLink RX9 189 yX9_send, Cond.instanceMethod yX9_send, Cond.selects RX9 yX9_send yX9_send, Cond.code yX9_send cX9_send 7 none, Cond.fieldLink RX9 180 "TwoModemsModel" "sends" "I", Cond.methodLink RX9 196 yX9_trains, Cond.instanceMethod yX9_trains, Cond.selects RX9 yX9_trains yX9_trains, Cond.code yX9_trains cX9_trains 5 none, Cond.methodLink RX9 183 yX9_signOf, Cond.static yX9_signOf, Cond.code yX9_signOf cX9_signOf 1 (some .int), Cond.methodLink RX9 199 yX9_sendsFrame, Cond.instanceMethod yX9_sendsFrame, Cond.selects RX9 yX9_sendsFrame yX9_sendsFrame, Cond.code yX9_sendsFrame cX9_sendsFrame 5 none, Cond.fieldLink RX9 22 "TwoModemsModel" "said" "[I", Cond.fieldLink RX9 193 "TwoModemsModel" "sentAgain" "I", Cond.methodLink RX9 186 yX9_lesser, Cond.static yX9_lesser, Cond.code yX9_lesser cX9_lesser 2 (some .int)]
def wsX9_go : List Cond := .code yX9_go cX9_go 4 (some .int) :: ((wsX9_go_r1 ++ (wsX9_go_r2 ++ (wsX9_go_r3 ++ (wsX9_go_r4 ++ (wsX9_go_r5 ++ wsX9_go_r6))))) ++ wsX90)
def wsX9_end : List Cond := .code yX9_end cX9_end 3 (some .int) :: ([.methodLink RX9 103 yX9_isEnd, .static yX9_isEnd, .initialized RX9, .code yX9_isEnd cX9_isEnd 1 (some .boolean), .methodLink RX9 65 yX9_within, .static yX9_within, .code yX9_within cX9_within 3 (some .boolean), .methodLink RX9 106 yX9_of, .instanceMethod yX9_of, .selects RX9 yX9_of yX9_of, .code yX9_of cX9_of 3 (some .int), .fieldLink RX9 7 "TwoModemsModel" "ends" "[I"] ++ wsX90)
def wsX9_band : List Cond := .code yX9_band cX9_band 3 (some .int) :: ([.fieldLink RX9 13 "TwoModemsModel" "noted" "[I", .methodLink RX9 103 yX9_isEnd, .static yX9_isEnd, .initialized RX9, .code yX9_isEnd cX9_isEnd 1 (some .boolean), .methodLink RX9 65 yX9_within, .static yX9_within, .code yX9_within cX9_within 3 (some .boolean)] ++ wsX90)
def wsX9_learnt : List Cond := .code yX9_learnt cX9_learnt 3 (some .int) :: ([.fieldLink RX9 16 "TwoModemsModel" "learnts" "[I", .methodLink RX9 103 yX9_isEnd, .static yX9_isEnd, .initialized RX9, .code yX9_isEnd cX9_isEnd 1 (some .boolean), .methodLink RX9 65 yX9_within, .static yX9_within, .code yX9_within cX9_within 3 (some .boolean)] ++ wsX90)
def wsX9_got : List Cond := .code yX9_got cX9_got 3 (some .int) :: ([.fieldLink RX9 25 "TwoModemsModel" "gotten" "[I", .methodLink RX9 103 yX9_isEnd, .static yX9_isEnd, .initialized RX9, .code yX9_isEnd cX9_isEnd 1 (some .boolean), .methodLink RX9 65 yX9_within, .static yX9_within, .code yX9_within cX9_within 3 (some .boolean), .methodLink RX9 106 yX9_of, .instanceMethod yX9_of, .selects RX9 yX9_of yX9_of, .code yX9_of cX9_of 3 (some .int), .fieldLink RX9 7 "TwoModemsModel" "ends" "[I"] ++ wsX90)
def wsX9_heard : List Cond := .code yX9_heard cX9_heard 3 (some .int) :: ([.fieldLink RX9 28 "TwoModemsModel" "hears" "[I", .methodLink RX9 103 yX9_isEnd, .static yX9_isEnd, .initialized RX9, .code yX9_isEnd cX9_isEnd 1 (some .boolean), .methodLink RX9 65 yX9_within, .static yX9_within, .code yX9_within cX9_within 3 (some .boolean)] ++ wsX90)
def wsX9_onWay : List Cond := .code yX9_onWay cX9_onWay 3 (some .int) :: ([.fieldLink RX9 41 "TwoModemsModel" "comes" "[I"] ++ wsX90)
def wsX9_aboutNow : List Cond := .code yX9_aboutNow cX9_aboutNow 2 (some .int) :: ([.fieldLink RX9 34 "TwoModemsModel" "delay" "I", .fieldLink RX9 38 "TwoModemsModel" "hurts" "[I", .fieldLink RX9 31 "TwoModemsModel" "quality" "[I", .methodLink RX9 220 yX9_onWay, .instanceMethod yX9_onWay, .selects RX9 yX9_onWay yX9_onWay, .initialized RX9, .code yX9_onWay cX9_onWay 3 (some .int), .fieldLink RX9 41 "TwoModemsModel" "comes" "[I"] ++ wsX90)
def wsX9_about : List Cond := .code yX9_about cX9_about 2 (some .int) :: ([.methodLink RX9 65 yX9_within, .static yX9_within, .initialized RX9, .code yX9_within cX9_within 3 (some .boolean), .methodLink RX9 223 yX9_aboutNow, .instanceMethod yX9_aboutNow, .selects RX9 yX9_aboutNow yX9_aboutNow, .code yX9_aboutNow cX9_aboutNow 2 (some .int), .fieldLink RX9 34 "TwoModemsModel" "delay" "I", .fieldLink RX9 38 "TwoModemsModel" "hurts" "[I", .fieldLink RX9 31 "TwoModemsModel" "quality" "[I", .methodLink RX9 220 yX9_onWay, .instanceMethod yX9_onWay, .selects RX9 yX9_onWay yX9_onWay, .code yX9_onWay cX9_onWay 3 (some .int), .fieldLink RX9 41 "TwoModemsModel" "comes" "[I"] ++ wsX90)
def wsX9_howMany : List Cond := .code yX9_howMany cX9_howMany 2 (some .int) :: ([.fieldLink RX9 69 "TwoModemsModel" "pageLength" "I", .fieldLink RX9 121 "TwoModemsModel" "tick" "I", .fieldLink RX9 47 "TwoModemsModel" "came" "[I", .fieldLink RX9 50 "TwoModemsModel" "wereHurt" "[I", .fieldLink RX9 131 "TwoModemsModel" "changes" "I", .fieldLink RX9 100 "TwoModemsModel" "lines" "I", .fieldLink RX9 193 "TwoModemsModel" "sentAgain" "I"] ++ wsX90)
def wsX9_count : List Cond := .code yX9_count cX9_count 2 (some .int) :: ([.methodLink RX9 226 yX9_howMany, .instanceMethod yX9_howMany, .selects RX9 yX9_howMany yX9_howMany, .initialized RX9, .code yX9_howMany cX9_howMany 2 (some .int), .fieldLink RX9 69 "TwoModemsModel" "pageLength" "I", .fieldLink RX9 121 "TwoModemsModel" "tick" "I", .fieldLink RX9 47 "TwoModemsModel" "came" "[I", .fieldLink RX9 50 "TwoModemsModel" "wereHurt" "[I", .fieldLink RX9 131 "TwoModemsModel" "changes" "I", .fieldLink RX9 100 "TwoModemsModel" "lines" "I", .fieldLink RX9 193 "TwoModemsModel" "sentAgain" "I"] ++ wsX90)
def wsX9_mix : List Cond := .code yX9_mix cX9_mix 3 none :: ([.constantLong RX9 229 (31), .fieldLink RX9 231 "TwoModemsModel" "h" "J"] ++ wsX90)
def wsX9_mixEnd : List Cond := .code yX9_mixEnd cX9_mixEnd 3 none :: ([.fieldLink RX9 13 "TwoModemsModel" "noted" "[I", .fieldLink RX9 16 "TwoModemsModel" "learnts" "[I", .fieldLink RX9 19 "TwoModemsModel" "taps" "[I", .fieldLink RX9 28 "TwoModemsModel" "hears" "[I", .fieldLink RX9 25 "TwoModemsModel" "gotten" "[I", .methodLink RX9 106 yX9_of, .instanceMethod yX9_of, .selects RX9 yX9_of yX9_of, .initialized RX9, .code yX9_of cX9_of 3 (some .int), .fieldLink RX9 7 "TwoModemsModel" "ends" "[I", .methodLink RX9 235 yX9_mix, .instanceMethod yX9_mix, .selects RX9 yX9_mix yX9_mix, .code yX9_mix cX9_mix 3 none, .constantLong RX9 229 (31), .fieldLink RX9 231 "TwoModemsModel" "h" "J"] ++ wsX90)
def wsX9_digest_r1 : List Cond := [Cond.constantLong RX9 239 (1613), Cond.fieldLink RX9 231 "TwoModemsModel" "h" "J", Cond.fieldLink RX9 69 "TwoModemsModel" "pageLength" "I", Cond.fieldLink RX9 53 "TwoModemsModel" "page" "[I", Cond.methodLink RX9 241 yX9_mixEnd, Cond.instanceMethod yX9_mixEnd, Cond.selects RX9 yX9_mixEnd yX9_mixEnd, Cond.initialized RX9, Cond.code yX9_mixEnd cX9_mixEnd 3 none, Cond.fieldLink RX9 13 "TwoModemsModel" "noted" "[I", Cond.fieldLink RX9 16 "TwoModemsModel" "learnts" "[I", Cond.fieldLink RX9 19 "TwoModemsModel" "taps" "[I", Cond.fieldLink RX9 28 "TwoModemsModel" "hears" "[I", Cond.fieldLink RX9 25 "TwoModemsModel" "gotten" "[I", Cond.methodLink RX9 106 yX9_of, Cond.instanceMethod yX9_of, Cond.selects RX9 yX9_of yX9_of, Cond.code yX9_of cX9_of 3 (some .int), Cond.fieldLink RX9 7 "TwoModemsModel" "ends" "[I", Cond.methodLink RX9 235 yX9_mix, Cond.instanceMethod yX9_mix, Cond.selects RX9 yX9_mix yX9_mix, Cond.code yX9_mix cX9_mix 3 none, Cond.constantLong RX9 229 (31)]
def wsX9_digest_r2 : List Cond := [Cond.methodLink RX9 65 yX9_within, Cond.static yX9_within, Cond.code yX9_within cX9_within 3 (some .boolean), Cond.methodLink RX9 223 yX9_aboutNow, Cond.instanceMethod yX9_aboutNow, Cond.selects RX9 yX9_aboutNow yX9_aboutNow, Cond.code yX9_aboutNow cX9_aboutNow 2 (some .int), Cond.fieldLink RX9 34 "TwoModemsModel" "delay" "I", Cond.fieldLink RX9 38 "TwoModemsModel" "hurts" "[I", Cond.fieldLink RX9 31 "TwoModemsModel" "quality" "[I", Cond.methodLink RX9 220 yX9_onWay, Cond.instanceMethod yX9_onWay, Cond.selects RX9 yX9_onWay yX9_onWay, Cond.code yX9_onWay cX9_onWay 3 (some .int), Cond.fieldLink RX9 41 "TwoModemsModel" "comes" "[I", Cond.methodLink RX9 226 yX9_howMany, Cond.instanceMethod yX9_howMany, Cond.selects RX9 yX9_howMany yX9_howMany, Cond.code yX9_howMany cX9_howMany 2 (some .int), Cond.fieldLink RX9 121 "TwoModemsModel" "tick" "I", Cond.fieldLink RX9 47 "TwoModemsModel" "came" "[I", Cond.fieldLink RX9 50 "TwoModemsModel" "wereHurt" "[I", Cond.fieldLink RX9 131 "TwoModemsModel" "changes" "I", Cond.fieldLink RX9 100 "TwoModemsModel" "lines" "I"]
def wsX9_digest_r3 : List Cond := [Cond.fieldLink RX9 193 "TwoModemsModel" "sentAgain" "I"]
def wsX9_digest : List Cond := .code yX9_digest cX9_digest 2 (some .long) :: ((wsX9_digest_r1 ++ (wsX9_digest_r2 ++ wsX9_digest_r3)) ++ wsX90)
def wsJ9_abs_0f7a4 : List Cond := .code yJ9_abs_0f7a4 cJ9_abs_0f7a4 1 (some .int) :: ([])
def wsJ9_max_7cf53 : List Cond := .code yJ9_max_7cf53 cJ9_max_7cf53 2 (some .int) :: ([])
def wsJ9_min_7cf53 : List Cond := .code yJ9_min_7cf53 cJ9_min_7cf53 2 (some .int) :: ([])
def wsL_law_r1 : List Cond := [Cond.classLink RL 7 RX8, Cond.instantiable RX8 5, Cond.initialized RX8, Cond.classLink RL 10 RX9, Cond.instantiable RX9 30, Cond.initialized RX9, Cond.methodLink RL 9 yX8_init, Cond.instanceMethod yX8_init, Cond.code yX8_init cX8_init 2 none, Cond.methodLink RX8 1 objectInit, Cond.instanceMethod objectInit, Cond.code objectInit ⟨#[0xb1]⟩ 1 none, Cond.classLink RX8 7 RX1, Cond.instantiable RX1 4, Cond.initialized RX1, Cond.classLink RX8 10 RX4, Cond.instantiable RX4 2, Cond.initialized RX4, Cond.fieldLink RX8 13 "TwoModems" "page" "LTwoModems$Page;", Cond.fieldLink RX8 19 "TwoModems" "line" "LTwoModems$Line;", Cond.classLink RX8 23 RX3, Cond.instantiable RX3 20, Cond.initialized RX3, Cond.fieldLink RX8 25 "TwoModems$Line" "back" "LTwoModems$Way;"]
def wsL_law_r2 : List Cond := [Cond.fieldLink RX8 29 "TwoModems$Line" "forth" "LTwoModems$Way;", Cond.fieldLink RX8 35 "TwoModems" "zero" "LTwoModems$Modem;", Cond.fieldLink RX8 39 "TwoModems" "one" "LTwoModems$Modem;", Cond.fieldLink RX8 42 "TwoModems" "ticks" "I", Cond.instanceMethod yX1_init, Cond.code yX1_init cX1_init 1 none, Cond.methodLink RX1 3 objectInit, Cond.classLink RX1 9 RX7, Cond.instantiable RX7 8, Cond.initialized RX7, Cond.fieldLink RX1 12 "TwoModems$Line" "forth" "LTwoModems$Way;", Cond.fieldLink RX1 18 "TwoModems$Line" "back" "LTwoModems$Way;", Cond.fieldLink RX1 21 "TwoModems$Line" "delay" "I", Cond.fieldLink RX1 25 "TwoModems$Line" "readings" "I", Cond.methodLink RX1 11 yX7_init, Cond.instanceMethod yX7_init, Cond.code yX7_init cX7_init 2 none, Cond.methodLink RX7 5 objectInit, Cond.arrayClass .int, Cond.fieldLink RX7 11 "TwoModems$Way" "quality" "[I", Cond.fieldLink RX7 15 "TwoModems$Way" "latest" "[I", Cond.fieldLink RX7 18 "TwoModems$Way" "rows" "[I", Cond.arrayClass .boolean, Cond.fieldLink RX7 21 "TwoModems$Way" "full" "[Z"]
def wsL_law_r3 : List Cond := [Cond.fieldLink RX7 25 "TwoModems$Way" "hurt" "I", Cond.fieldLink RX7 29 "TwoModems$Way" "came" "I", Cond.fieldLink RX7 32 "TwoModems$Way" "harmed" "I", Cond.fieldLink RX7 35 "TwoModems$Way" "underWay" "I", Cond.instanceMethod yX4_init, Cond.code yX4_init cX4_init 1 none, Cond.methodLink RX4 3 objectInit, Cond.fieldLink RX4 11 "TwoModems$Page" "codes" "[I", Cond.fieldLink RX4 15 "TwoModems$Page" "size" "I", Cond.methodLink RX8 32 yX3_init, Cond.instanceMethod yX3_init, Cond.code yX3_init cX3_init 4 none, Cond.methodLink RX3 3 objectInit, Cond.classLink RX3 9 RX0, Cond.instantiable RX0 2, Cond.initialized RX0, Cond.fieldLink RX3 12 "TwoModems$Modem" "echo" "LTwoModems$Echo;", Cond.classLink RX3 18 RX2, Cond.instantiable RX2 8, Cond.initialized RX2, Cond.fieldLink RX3 21 "TwoModems$Modem" "mail" "LTwoModems$Mail;", Cond.fieldLink RX3 25 "TwoModems$Modem" "noted" "[I", Cond.fieldLink RX3 31 "TwoModems$Modem" "phase" "I", Cond.fieldLink RX3 35 "TwoModems$Modem" "changes" "I"]
def wsL_law_r4 : List Cond := [Cond.fieldLink RX3 38 "TwoModems$Modem" "lasted" "I", Cond.fieldLink RX3 41 "TwoModems$Modem" "silences" "I", Cond.fieldLink RX3 44 "TwoModems$Modem" "round" "I", Cond.fieldLink RX3 47 "TwoModems$Modem" "offer" "I", Cond.fieldLink RX3 50 "TwoModems$Modem" "rate" "I", Cond.fieldLink RX3 53 "TwoModems$Modem" "credit" "I", Cond.fieldLink RX3 56 "TwoModems$Modem" "waited" "I", Cond.fieldLink RX3 59 "TwoModems$Modem" "remains" "I", Cond.fieldLink RX3 62 "TwoModems$Modem" "losses" "I", Cond.fieldLink RX3 65 "TwoModems$Modem" "surrenders" "I", Cond.fieldLink RX3 68 "TwoModems$Modem" "agains" "I", Cond.fieldLink RX3 71 "TwoModems$Modem" "datas" "I", Cond.fieldLink RX3 74 "TwoModems$Modem" "line" "LTwoModems$Line;", Cond.fieldLink RX3 78 "TwoModems$Modem" "in" "LTwoModems$Way;", Cond.fieldLink RX3 82 "TwoModems$Modem" "out" "LTwoModems$Way;", Cond.instanceMethod yX0_init, Cond.code yX0_init cX0_init 1 none, Cond.methodLink RX0 3 objectInit, Cond.fieldLink RX0 9 "TwoModems$Echo" "taps" "[I", Cond.fieldLink RX0 15 "TwoModems$Echo" "learnt" "[I", Cond.instanceMethod yX2_init, Cond.code yX2_init cX2_init 1 none, Cond.methodLink RX2 1 objectInit, Cond.fieldLink RX2 9 "TwoModems$Mail" "toSend" "[I"]
def wsL_law_r5 : List Cond := [Cond.fieldLink RX2 13 "TwoModems$Mail" "takenCodes" "[I", Cond.fieldLink RX2 16 "TwoModems$Mail" "said" "I", Cond.fieldLink RX2 20 "TwoModems$Mail" "taken" "I", Cond.fieldLink RX2 23 "TwoModems$Mail" "told" "I", Cond.fieldLink RX2 26 "TwoModems$Mail" "next" "I", Cond.fieldLink RX2 29 "TwoModems$Mail" "repeated" "I", Cond.fieldLink RX2 32 "TwoModems$Mail" "sentBelow" "I", Cond.methodLink RL 12 yX9_init, Cond.instanceMethod yX9_init, Cond.code yX9_init cX9_init 2 none, Cond.methodLink RX9 1 objectInit, Cond.fieldLink RX9 7 "TwoModemsModel" "ends" "[I", Cond.fieldLink RX9 13 "TwoModemsModel" "noted" "[I", Cond.fieldLink RX9 16 "TwoModemsModel" "learnts" "[I", Cond.fieldLink RX9 19 "TwoModemsModel" "taps" "[I", Cond.fieldLink RX9 22 "TwoModemsModel" "said" "[I", Cond.fieldLink RX9 25 "TwoModemsModel" "gotten" "[I", Cond.fieldLink RX9 28 "TwoModemsModel" "hears" "[I", Cond.fieldLink RX9 31 "TwoModemsModel" "quality" "[I", Cond.fieldLink RX9 34 "TwoModemsModel" "delay" "I", Cond.fieldLink RX9 38 "TwoModemsModel" "hurts" "[I", Cond.fieldLink RX9 41 "TwoModemsModel" "comes" "[I", Cond.fieldLink RX9 44 "TwoModemsModel" "acks" "[I", Cond.fieldLink RX9 47 "TwoModemsModel" "came" "[I"]
def wsL_law_r6 : List Cond := [Cond.fieldLink RX9 50 "TwoModemsModel" "wereHurt" "[I", Cond.fieldLink RX9 53 "TwoModemsModel" "page" "[I", Cond.fieldLink RX9 56 "TwoModemsModel" "newQuality" "[I", Cond.fieldLink RX9 59 "TwoModemsModel" "newHurts" "[I", Cond.fieldLink RX9 62 "TwoModemsModel" "letters" "[I", Cond.methodLink RL 13 yX8_letter, Cond.instanceMethod yX8_letter, Cond.selects RX8 yX8_letter yX8_letter, Cond.code yX8_letter cX8_letter 2 (some .int), Cond.fieldLink RX8 46 "TwoModems$Page" "size" "I", Cond.methodLink RX8 49 yX4_add, Cond.instanceMethod yX4_add, Cond.selects RX4 yX4_add yX4_add, Cond.code yX4_add cX4_add 2 none, Cond.methodLink RL 17 yX9_letter, Cond.instanceMethod yX9_letter, Cond.selects RX9 yX9_letter yX9_letter, Cond.code yX9_letter cX9_letter 2 (some .int), Cond.fieldLink RX9 69 "TwoModemsModel" "pageLength" "I", Cond.methodLink RX9 65 yX9_within, Cond.static yX9_within, Cond.code yX9_within cX9_within 3 (some .boolean), Cond.methodLink RL 18 yX8_blank, Cond.instanceMethod yX8_blank]
def wsL_law_r7 : List Cond := [Cond.selects RX8 yX8_blank yX8_blank, Cond.code yX8_blank cX8_blank 2 (some .int), Cond.methodLink RL 22 yX9_blank, Cond.instanceMethod yX9_blank, Cond.selects RX9 yX9_blank yX9_blank, Cond.code yX9_blank cX9_blank 2 (some .int), Cond.methodLink RL 23 yX8_fault, Cond.instanceMethod yX8_fault, Cond.selects RX8 yX8_fault yX8_fault, Cond.code yX8_fault cX8_fault 1 (some .int), Cond.methodLink RX8 53 yX4_firstFault, Cond.instanceMethod yX4_firstFault, Cond.selects RX4 yX4_firstFault yX4_firstFault, Cond.code yX4_firstFault cX4_firstFault 2 (some .int), Cond.methodLink RX4 19 yX4_fits, Cond.instanceMethod yX4_fits, Cond.selects RX4 yX4_fits yX4_fits, Cond.code yX4_fits cX4_fits 3 (some .boolean), Cond.methodLink RX4 31 yX4_codeAt, Cond.instanceMethod yX4_codeAt, Cond.selects RX4 yX4_codeAt yX4_codeAt, Cond.code yX4_codeAt cX4_codeAt 2 (some .int), Cond.methodLink RX4 34 yX4_figure, Cond.instanceMethod yX4_figure]
def wsL_law_r8 : List Cond := [Cond.selects RX4 yX4_figure yX4_figure, Cond.code yX4_figure cX4_figure 2 (some .int), Cond.methodLink RX4 41 yX4_fitsHurt, Cond.instanceMethod yX4_fitsHurt, Cond.selects RX4 yX4_fitsHurt yX4_fitsHurt, Cond.code yX4_fitsHurt cX4_fitsHurt 6 (some .boolean), Cond.methodLink RX4 27 yX4_commaAhead, Cond.instanceMethod yX4_commaAhead, Cond.selects RX4 yX4_commaAhead yX4_commaAhead, Cond.code yX4_commaAhead cX4_commaAhead 3 (some .int), Cond.methodLink RX4 37 yX4_number, Cond.instanceMethod yX4_number, Cond.selects RX4 yX4_number yX4_number, Cond.code yX4_number cX4_number 5 (some .int), Cond.methodLink RL 26 yX9_fault, Cond.instanceMethod yX9_fault, Cond.selects RX9 yX9_fault yX9_fault, Cond.code yX9_fault cX9_fault 1 (some .int), Cond.methodLink RX9 96 yX9_read, Cond.instanceMethod yX9_read, Cond.selects RX9 yX9_read yX9_read, Cond.code yX9_read cX9_read 2 (some .int), Cond.fieldLink RX9 79 "TwoModemsModel" "hurtNow" "I", Cond.fieldLink RX9 76 "TwoModemsModel" "figures" "I"]
def wsL_law_r9 : List Cond := [Cond.methodLink RX9 93 yX9_takes, Cond.instanceMethod yX9_takes, Cond.selects RX9 yX9_takes yX9_takes, Cond.code yX9_takes cX9_takes 3 (some .boolean), Cond.fieldLink RX9 86 "TwoModemsModel" "newDelay" "I", Cond.methodLink RX9 82 yX9_takesQuality, Cond.instanceMethod yX9_takesQuality, Cond.selects RX9 yX9_takesQuality yX9_takesQuality, Cond.code yX9_takesQuality cX9_takesQuality 4 (some .boolean), Cond.methodLink RX9 72 yX9_sixteenth, Cond.static yX9_sixteenth, Cond.code yX9_sixteenth cX9_sixteenth 1 (some .int), Cond.methodLink RX9 89 yX9_takesHurt, Cond.instanceMethod yX9_takesHurt, Cond.selects RX9 yX9_takesHurt yX9_takesHurt, Cond.code yX9_takesHurt cX9_takesHurt 4 (some .boolean), Cond.methodLink RL 27 yX8_line, Cond.instanceMethod yX8_line, Cond.selects RX8 yX8_line yX8_line, Cond.code yX8_line cX8_line 1 (some .int), Cond.fieldLink RX8 65 "TwoModems$Line" "delay" "I", Cond.methodLink RX8 57 yX4_isLine, Cond.instanceMethod yX4_isLine, Cond.selects RX4 yX4_isLine yX4_isLine]
def wsL_law_r10 : List Cond := [Cond.code yX4_isLine cX4_isLine 2 (some .boolean), Cond.methodLink RX4 23 yX4_firstFault, Cond.methodLink RX8 61 yX1_read, Cond.instanceMethod yX1_read, Cond.selects RX1 yX1_read yX1_read, Cond.code yX1_read cX1_read 3 none, Cond.fieldLink RX1 28 "TwoModems$Way" "quality" "[I", Cond.fieldLink RX1 45 "TwoModems$Way" "hurt" "I", Cond.methodLink RX1 32 yX4_qualityAt, Cond.instanceMethod yX4_qualityAt, Cond.selects RX4 yX4_qualityAt yX4_qualityAt, Cond.code yX4_qualityAt cX4_qualityAt 3 (some .int), Cond.methodLink RX1 38 yX4_delay, Cond.instanceMethod yX4_delay, Cond.selects RX4 yX4_delay yX4_delay, Cond.code yX4_delay cX4_delay 1 (some .int), Cond.methodLink RX1 41 yX4_hurtOf, Cond.instanceMethod yX4_hurtOf, Cond.selects RX4 yX4_hurtOf yX4_hurtOf, Cond.code yX4_hurtOf cX4_hurtOf 3 (some .int), Cond.methodLink RL 30 yX9_line, Cond.instanceMethod yX9_line, Cond.selects RX9 yX9_line yX9_line, Cond.code yX9_line cX9_line 3 (some .int)]
def wsL_law_r11 : List Cond := [Cond.fieldLink RX9 100 "TwoModemsModel" "lines" "I", Cond.methodLink RL 31 yX8_say, Cond.instanceMethod yX8_say, Cond.selects RX8 yX8_say yX8_say, Cond.code yX8_say cX8_say 4 (some .int), Cond.fieldLink RX8 72 "TwoModems$Modem" "mail" "LTwoModems$Mail;", Cond.fieldLink RX8 76 "TwoModems$Mail" "said" "I", Cond.methodLink RX8 68 yX8_modemAt, Cond.instanceMethod yX8_modemAt, Cond.selects RX8 yX8_modemAt yX8_modemAt, Cond.code yX8_modemAt cX8_modemAt 2 (some (.object "TwoModems$Modem")), Cond.methodLink RX8 81 yX4_codeAt, Cond.methodLink RX8 85 yX2_add, Cond.instanceMethod yX2_add, Cond.selects RX2 yX2_add yX2_add, Cond.code yX2_add cX2_add 2 none, Cond.methodLink RL 34 yX9_say, Cond.instanceMethod yX9_say, Cond.selects RX9 yX9_say yX9_say, Cond.code yX9_say cX9_say 4 (some .int), Cond.methodLink RX9 103 yX9_isEnd, Cond.static yX9_isEnd, Cond.code yX9_isEnd cX9_isEnd 1 (some .boolean), Cond.methodLink RX9 106 yX9_of]
def wsL_law_r12 : List Cond := [Cond.instanceMethod yX9_of, Cond.selects RX9 yX9_of yX9_of, Cond.code yX9_of cX9_of 3 (some .int), Cond.methodLink RX9 110 yX9_add, Cond.instanceMethod yX9_add, Cond.selects RX9 yX9_add yX9_add, Cond.code yX9_add cX9_add 4 none, Cond.methodLink RL 35 yX8_echo, Cond.instanceMethod yX8_echo, Cond.selects RX8 yX8_echo yX8_echo, Cond.code yX8_echo cX8_echo 6 (some .int), Cond.fieldLink RX8 86 "TwoModems$Modem" "echo" "LTwoModems$Echo;", Cond.fieldLink RX8 90 "TwoModems$Echo" "taps" "[I", Cond.methodLink RL 39 yX9_echo, Cond.instanceMethod yX9_echo, Cond.selects RX9 yX9_echo yX9_echo, Cond.code yX9_echo cX9_echo 5 (some .int), Cond.methodLink RL 40 yX8_call, Cond.instanceMethod yX8_call, Cond.selects RX8 yX8_call yX8_call, Cond.code yX8_call cX8_call 3 (some .int), Cond.fieldLink RX8 96 "TwoModems$Modem" "phase" "I", Cond.methodLink RX8 101 yX3_force, Cond.instanceMethod yX3_force]
def wsL_law_r13 : List Cond := [Cond.selects RX3 yX3_force yX3_force, Cond.code yX3_force cX3_force 2 none, Cond.methodLink RL 43 yX9_call, Cond.instanceMethod yX9_call, Cond.selects RX9 yX9_call yX9_call, Cond.code yX9_call cX9_call 2 (some .int), Cond.methodLink RX9 117 yX9_goesTo, Cond.instanceMethod yX9_goesTo, Cond.selects RX9 yX9_goesTo yX9_goesTo, Cond.code yX9_goesTo cX9_goesTo 3 none, Cond.methodLink RX9 114 yX9_put, Cond.instanceMethod yX9_put, Cond.selects RX9 yX9_put yX9_put, Cond.code yX9_put cX9_put 4 none, Cond.methodLink RL 44 yX8_hang, Cond.instanceMethod yX8_hang, Cond.selects RX8 yX8_hang yX8_hang, Cond.code yX8_hang cX8_hang 4 (some .int), Cond.methodLink RL 47 yX9_hang, Cond.instanceMethod yX9_hang, Cond.selects RX9 yX9_hang yX9_hang, Cond.code yX9_hang cX9_hang 3 (some .int), Cond.methodLink RL 48 yX8_go, Cond.instanceMethod yX8_go]
def wsL_law_r14 : List Cond := [Cond.selects RX8 yX8_go yX8_go, Cond.code yX8_go cX8_go 4 (some .int), Cond.methodLink RX8 104 yX8_changes, Cond.instanceMethod yX8_changes, Cond.selects RX8 yX8_changes yX8_changes, Cond.code yX8_changes cX8_changes 1 (some .int), Cond.fieldLink RX8 168 "TwoModems$Modem" "changes" "I", Cond.methodLink RX8 107 yX3_live, Cond.instanceMethod yX3_live, Cond.selects RX3 yX3_live yX3_live, Cond.code yX3_live cX3_live 5 none, Cond.fieldLink RX3 91 "TwoModems$Mail" "told" "I", Cond.fieldLink RX3 117 "TwoModems$Line" "delay" "I", Cond.methodLink RX3 97 yX7_bring, Cond.instanceMethod yX7_bring, Cond.selects RX7 yX7_bring yX7_bring, Cond.code yX7_bring cX7_bring 5 none, Cond.methodLink RX3 103 yX3_surrender, Cond.instanceMethod yX3_surrender, Cond.selects RX3 yX3_surrender yX3_surrender, Cond.code yX3_surrender cX3_surrender 3 none, Cond.methodLink RX3 128 yX3_come, Cond.instanceMethod yX3_come, Cond.selects RX3 yX3_come yX3_come]
def wsL_law_r15 : List Cond := [Cond.code yX3_come cX3_come 3 none, Cond.fieldLink RX3 88 "TwoModems$Mail" "next" "I", Cond.methodLink RX3 125 yX0_forget, Cond.instanceMethod yX0_forget, Cond.selects RX0 yX0_forget yX0_forget, Cond.code yX0_forget cX0_forget 2 none, Cond.methodLink RX3 106 yX3_hear, Cond.instanceMethod yX3_hear, Cond.selects RX3 yX3_hear yX3_hear, Cond.code yX3_hear cX3_hear 2 none, Cond.methodLink RX3 113 yX7_sort, Cond.instanceMethod yX7_sort, Cond.selects RX7 yX7_sort yX7_sort, Cond.code yX7_sort cX7_sort 1 (some .int), Cond.methodLink RX3 133 yX7_first, Cond.instanceMethod yX7_first, Cond.selects RX7 yX7_first yX7_first, Cond.code yX7_first cX7_first 1 (some .int), Cond.methodLink RX3 136 yX3_note, Cond.instanceMethod yX3_note, Cond.selects RX3 yX3_note yX3_note, Cond.code yX3_note cX3_note 2 none, Cond.fieldLink RX3 152 "TwoModems$Way" "quality" "[I", Cond.methodLink RX3 139 yX3_hearInBargain]
def wsL_law_r16 : List Cond := [Cond.instanceMethod yX3_hearInBargain, Cond.selects RX3 yX3_hearInBargain yX3_hearInBargain, Cond.code yX3_hearInBargain cX3_hearInBargain 1 none, Cond.methodLink RX3 158 Lib.Math.min.name, Cond.static Lib.Math.min.name, Cond.initialized "java/lang/Math", Cond.code Lib.Math.min.name Lib.Math.min.code 2 (some .int), Cond.methodLink RX3 142 yX3_isOfRound, Cond.instanceMethod yX3_isOfRound, Cond.selects RX3 yX3_isOfRound yX3_isOfRound, Cond.code yX3_isOfRound cX3_isOfRound 2 (some .boolean), Cond.methodLink RX3 155 yX7_second, Cond.instanceMethod yX7_second, Cond.selects RX7 yX7_second yX7_second, Cond.code yX7_second cX7_second 1 (some .int), Cond.methodLink RX3 164 yX3_settle, Cond.instanceMethod yX3_settle, Cond.selects RX3 yX3_settle yX3_settle, Cond.code yX3_settle cX3_settle 2 none, Cond.methodLink RX3 146 yX3_hearGreaterRound, Cond.instanceMethod yX3_hearGreaterRound, Cond.selects RX3 yX3_hearGreaterRound yX3_hearGreaterRound, Cond.code yX3_hearGreaterRound cX3_hearGreaterRound 1 none, Cond.methodLink RX3 149 yX3_hearInData]
def wsL_law_r17 : List Cond := [Cond.instanceMethod yX3_hearInData, Cond.selects RX3 yX3_hearInData yX3_hearInData, Cond.code yX3_hearInData cX3_hearInData 1 none, Cond.methodLink RX3 167 yX2_take, Cond.instanceMethod yX2_take, Cond.selects RX2 yX2_take yX2_take, Cond.code yX2_take cX2_take 3 none, Cond.methodLink RX2 50 Lib.Math.max.name, Cond.static Lib.Math.max.name, Cond.code Lib.Math.max.name Lib.Math.max.code 2 (some .int), Cond.methodLink RX2 35 yX7_second, Cond.methodLink RX2 41 yX7_letters, Cond.instanceMethod yX7_letters, Cond.selects RX7 yX7_letters yX7_letters, Cond.code yX7_letters cX7_letters 1 (some .int), Cond.methodLink RX2 44 yX7_enclosed, Cond.instanceMethod yX7_enclosed, Cond.selects RX7 yX7_enclosed yX7_enclosed, Cond.code yX7_enclosed cX7_enclosed 2 (some .int), Cond.methodLink RX2 48 yX7_told, Cond.instanceMethod yX7_told, Cond.selects RX7 yX7_told yX7_told, Cond.code yX7_told cX7_told 1 (some .int), Cond.methodLink RX3 109 yX3_look]
def wsL_law_r18 : List Cond := [Cond.instanceMethod yX3_look, Cond.selects RX3 yX3_look yX3_look, Cond.code yX3_look cX3_look 2 none, Cond.methodLink RX3 171 yX3_makeOffer, Cond.instanceMethod yX3_makeOffer, Cond.selects RX3 yX3_makeOffer yX3_makeOffer, Cond.code yX3_makeOffer cX3_makeOffer 3 none, Cond.methodLink RX3 182 Lib.Math.max.name, Cond.methodLink RX3 180 yX0_remains, Cond.instanceMethod yX0_remains, Cond.selects RX0 yX0_remains yX0_remains, Cond.code yX0_remains cX0_remains 3 (some .int), Cond.methodLink RX0 22 Lib.Math.abs.name, Cond.static Lib.Math.abs.name, Cond.code Lib.Math.abs.name Lib.Math.abs.code 1 (some .int), Cond.methodLink RX3 174 yX3_lookAtWaiting, Cond.instanceMethod yX3_lookAtWaiting, Cond.selects RX3 yX3_lookAtWaiting yX3_lookAtWaiting, Cond.code yX3_lookAtWaiting cX3_lookAtWaiting 2 none, Cond.methodLink RX3 177 yX3_lookAtLosses, Cond.instanceMethod yX3_lookAtLosses, Cond.selects RX3 yX3_lookAtLosses yX3_lookAtLosses, Cond.code yX3_lookAtLosses cX3_lookAtLosses 1 none, Cond.methodLink RX3 185 yJ6_bitCount_0f7a4]
def wsL_law_r19 : List Cond := [Cond.static yJ6_bitCount_0f7a4, Cond.initialized RJ6, Cond.code yJ6_bitCount_0f7a4 cJ6_bitCount_0f7a4 1 (some .int), Cond.constant RJ6 265 (1431655765), Cond.constant RJ6 266 (858993459), Cond.constant RJ6 267 (252645135), Cond.methodLink RX3 122 yX3_speak, Cond.instanceMethod yX3_speak, Cond.selects RX3 yX3_speak yX3_speak, Cond.code yX3_speak cX3_speak 2 none, Cond.methodLink RX3 191 yX7_send, Cond.instanceMethod yX7_send, Cond.selects RX7 yX7_send yX7_send, Cond.code yX7_send cX7_send 9 none, Cond.methodLink RX3 195 yX3_speakProbe, Cond.instanceMethod yX3_speakProbe, Cond.selects RX3 yX3_speakProbe yX3_speakProbe, Cond.code yX3_speakProbe cX3_speakProbe 2 none, Cond.methodLink RX3 198 yX0_follow, Cond.instanceMethod yX0_follow, Cond.selects RX0 yX0_follow yX0_follow, Cond.code yX0_follow cX0_follow 4 none, Cond.methodLink RX0 18 yX0_sign, Cond.instanceMethod yX0_sign]
def wsL_law_r20 : List Cond := [Cond.selects RX0 yX0_sign yX0_sign, Cond.code yX0_sign cX0_sign 2 (some .int), Cond.methodLink RX3 201 yX3_speakFrame, Cond.instanceMethod yX3_speakFrame, Cond.selects RX3 yX3_speakFrame yX3_speakFrame, Cond.code yX3_speakFrame cX3_speakFrame 4 none, Cond.fieldLink RX3 94 "TwoModems$Mail" "taken" "I", Cond.methodLink RX3 204 yX2_ready, Cond.instanceMethod yX2_ready, Cond.selects RX2 yX2_ready yX2_ready, Cond.code yX2_ready cX2_ready 2 (some .int), Cond.methodLink RX2 56 Lib.Math.min.name, Cond.methodLink RX3 207 yX2_pass, Cond.instanceMethod yX2_pass, Cond.selects RX2 yX2_pass yX2_pass, Cond.code yX2_pass cX2_pass 2 (some .int), Cond.methodLink RX3 210 yX7_enclose, Cond.instanceMethod yX7_enclose, Cond.selects RX7 yX7_enclose yX7_enclose, Cond.code yX7_enclose cX7_enclose 4 none, Cond.methodLink RL 51 yX9_go, Cond.instanceMethod yX9_go, Cond.selects RX9 yX9_go yX9_go, Cond.code yX9_go cX9_go 4 (some .int)]
def wsL_law_r21 : List Cond := [Cond.fieldLink RX9 131 "TwoModemsModel" "changes" "I", Cond.fieldLink RX9 121 "TwoModemsModel" "tick" "I", Cond.methodLink RX9 217 yX9_does, Cond.instanceMethod yX9_does, Cond.selects RX9 yX9_does yX9_does, Cond.code yX9_does cX9_does 2 none, Cond.fieldLink RX9 127 "TwoModemsModel" "isChanged" "Z", Cond.methodLink RX9 202 yX9_hear, Cond.instanceMethod yX9_hear, Cond.selects RX9 yX9_hear yX9_hear, Cond.code yX9_hear cX9_hear 7 none, Cond.methodLink RX9 124 yX9_slot, Cond.instanceMethod yX9_slot, Cond.selects RX9 yX9_slot yX9_slot, Cond.code yX9_slot cX9_slot 3 (some .int), Cond.methodLink RX9 205 yX9_mayGiveUp, Cond.instanceMethod yX9_mayGiveUp, Cond.selects RX9 yX9_mayGiveUp yX9_mayGiveUp, Cond.code yX9_mayGiveUp cX9_mayGiveUp 4 none, Cond.methodLink RX9 134 yX9_into, Cond.instanceMethod yX9_into, Cond.selects RX9 yX9_into yX9_into, Cond.code yX9_into cX9_into 4 none, Cond.methodLink RX9 208 yX9_hearsIn]
def wsL_law_r22 : List Cond := [Cond.instanceMethod yX9_hearsIn, Cond.selects RX9 yX9_hearsIn yX9_hearsIn, Cond.code yX9_hearsIn cX9_hearsIn 2 none, Cond.methodLink RX9 137 yX9_ear, Cond.instanceMethod yX9_ear, Cond.selects RX9 yX9_ear yX9_ear, Cond.code yX9_ear cX9_ear 3 (some .int), Cond.methodLink RX9 156 yX9_answers, Cond.instanceMethod yX9_answers, Cond.selects RX9 yX9_answers yX9_answers, Cond.code yX9_answers cX9_answers 2 none, Cond.methodLink RX9 153 yX9_note, Cond.instanceMethod yX9_note, Cond.selects RX9 yX9_note yX9_note, Cond.code yX9_note cX9_note 2 none, Cond.methodLink RX9 159 yX9_bargains, Cond.instanceMethod yX9_bargains, Cond.selects RX9 yX9_bargains yX9_bargains, Cond.code yX9_bargains cX9_bargains 3 none, Cond.methodLink RX9 140 yX9_agrees, Cond.instanceMethod yX9_agrees, Cond.selects RX9 yX9_agrees yX9_agrees, Cond.code yX9_agrees cX9_agrees 3 none, Cond.methodLink RX9 143 yX9_hearsOffer]
def wsL_law_r23 : List Cond := [Cond.instanceMethod yX9_hearsOffer, Cond.selects RX9 yX9_hearsOffer yX9_hearsOffer, Cond.code yX9_hearsOffer cX9_hearsOffer 2 none, Cond.methodLink RX9 162 yX9_hearsInAgree, Cond.instanceMethod yX9_hearsInAgree, Cond.selects RX9 yX9_hearsInAgree yX9_hearsInAgree, Cond.code yX9_hearsInAgree cX9_hearsInAgree 2 none, Cond.methodLink RX9 165 yX9_hearsInData, Cond.instanceMethod yX9_hearsInData, Cond.selects RX9 yX9_hearsInData yX9_hearsInData, Cond.code yX9_hearsInData cX9_hearsInData 2 none, Cond.fieldLink RX9 147 "TwoModemsModel" "grew" "Z", Cond.methodLink RX9 150 yX9_takesFrame, Cond.instanceMethod yX9_takesFrame, Cond.selects RX9 yX9_takesFrame yX9_takesFrame, Cond.code yX9_takesFrame cX9_takesFrame 4 none, Cond.methodLink RX9 211 yX9_looksIn, Cond.instanceMethod yX9_looksIn, Cond.selects RX9 yX9_looksIn yX9_looksIn, Cond.code yX9_looksIn cX9_looksIn 3 none, Cond.methodLink RX9 174 yX9_makeOffer, Cond.instanceMethod yX9_makeOffer, Cond.selects RX9 yX9_makeOffer yX9_makeOffer, Cond.code yX9_makeOffer cX9_makeOffer 7 none]
def wsL_law_r24 : List Cond := [Cond.methodLink RX9 168 yX9_size, Cond.static yX9_size, Cond.code yX9_size cX9_size 1 (some .int), Cond.methodLink RX9 177 yX9_looksInData, Cond.instanceMethod yX9_looksInData, Cond.selects RX9 yX9_looksInData yX9_looksInData, Cond.code yX9_looksInData cX9_looksInData 2 none, Cond.methodLink RX9 171 yX9_ones, Cond.static yX9_ones, Cond.code yX9_ones cX9_ones 3 (some .int), Cond.methodLink RX9 214 yX9_sendsIn, Cond.instanceMethod yX9_sendsIn, Cond.selects RX9 yX9_sendsIn yX9_sendsIn, Cond.code yX9_sendsIn cX9_sendsIn 3 none, Cond.methodLink RX9 189 yX9_send, Cond.instanceMethod yX9_send, Cond.selects RX9 yX9_send yX9_send, Cond.code yX9_send cX9_send 7 none, Cond.fieldLink RX9 180 "TwoModemsModel" "sends" "I", Cond.methodLink RX9 196 yX9_trains, Cond.instanceMethod yX9_trains, Cond.selects RX9 yX9_trains yX9_trains, Cond.code yX9_trains cX9_trains 5 none, Cond.methodLink RX9 183 yX9_signOf]
def wsL_law_r25 : List Cond := [Cond.static yX9_signOf, Cond.code yX9_signOf cX9_signOf 1 (some .int), Cond.methodLink RX9 199 yX9_sendsFrame, Cond.instanceMethod yX9_sendsFrame, Cond.selects RX9 yX9_sendsFrame yX9_sendsFrame, Cond.code yX9_sendsFrame cX9_sendsFrame 5 none, Cond.fieldLink RX9 193 "TwoModemsModel" "sentAgain" "I", Cond.methodLink RX9 186 yX9_lesser, Cond.static yX9_lesser, Cond.code yX9_lesser cX9_lesser 2 (some .int), Cond.methodLink RL 52 yX8_end, Cond.instanceMethod yX8_end, Cond.selects RX8 yX8_end yX8_end, Cond.code yX8_end cX8_end 4 (some .int), Cond.methodLink RX8 110 yX3_fact, Cond.instanceMethod yX3_fact, Cond.selects RX3 yX3_fact yX3_fact, Cond.code yX3_fact cX3_fact 2 (some .int), Cond.fieldLink RX3 85 "TwoModems$Mail" "said" "I", Cond.methodLink RL 56 yX9_end, Cond.instanceMethod yX9_end, Cond.selects RX9 yX9_end yX9_end, Cond.code yX9_end cX9_end 3 (some .int), Cond.methodLink RL 57 yX8_band]
def wsL_law_r26 : List Cond := [Cond.instanceMethod yX8_band, Cond.selects RX8 yX8_band yX8_band, Cond.code yX8_band cX8_band 4 (some .int), Cond.fieldLink RX8 113 "TwoModems$Modem" "noted" "[I", Cond.methodLink RL 60 yX9_band, Cond.instanceMethod yX9_band, Cond.selects RX9 yX9_band yX9_band, Cond.code yX9_band cX9_band 3 (some .int), Cond.methodLink RL 61 yX8_learnt, Cond.instanceMethod yX8_learnt, Cond.selects RX8 yX8_learnt yX8_learnt, Cond.code yX8_learnt cX8_learnt 4 (some .int), Cond.fieldLink RX8 116 "TwoModems$Echo" "learnt" "[I", Cond.methodLink RL 64 yX9_learnt, Cond.instanceMethod yX9_learnt, Cond.selects RX9 yX9_learnt yX9_learnt, Cond.code yX9_learnt cX9_learnt 3 (some .int), Cond.methodLink RL 65 yX8_got, Cond.instanceMethod yX8_got, Cond.selects RX8 yX8_got yX8_got, Cond.code yX8_got cX8_got 4 (some .int), Cond.fieldLink RX8 119 "TwoModems$Mail" "taken" "I", Cond.methodLink RX8 122 yX2_takenAt, Cond.instanceMethod yX2_takenAt]
def wsL_law_r27 : List Cond := [Cond.selects RX2 yX2_takenAt yX2_takenAt, Cond.code yX2_takenAt cX2_takenAt 2 (some .int), Cond.methodLink RL 68 yX9_got, Cond.instanceMethod yX9_got, Cond.selects RX9 yX9_got yX9_got, Cond.code yX9_got cX9_got 3 (some .int), Cond.methodLink RL 69 yX8_heard, Cond.instanceMethod yX8_heard, Cond.selects RX8 yX8_heard yX8_heard, Cond.code yX8_heard cX8_heard 4 (some .int), Cond.fieldLink RX8 125 "TwoModems$Modem" "in" "LTwoModems$Way;", Cond.fieldLink RX8 128 "TwoModems$Way" "latest" "[I", Cond.methodLink RL 72 yX9_heard, Cond.instanceMethod yX9_heard, Cond.selects RX9 yX9_heard yX9_heard, Cond.code yX9_heard cX9_heard 3 (some .int), Cond.methodLink RL 73 yX8_about, Cond.instanceMethod yX8_about, Cond.selects RX8 yX8_about yX8_about, Cond.code yX8_about cX8_about 2 (some .int), Cond.fieldLink RX8 133 "TwoModems$Way" "quality" "[I", Cond.fieldLink RX8 136 "TwoModems$Way" "hurt" "I", Cond.fieldLink RX8 139 "TwoModems$Way" "underWay" "I", Cond.methodLink RL 76 yX9_about]
def wsL_law_r28 : List Cond := [Cond.instanceMethod yX9_about, Cond.selects RX9 yX9_about yX9_about, Cond.code yX9_about cX9_about 2 (some .int), Cond.methodLink RX9 223 yX9_aboutNow, Cond.instanceMethod yX9_aboutNow, Cond.selects RX9 yX9_aboutNow yX9_aboutNow, Cond.code yX9_aboutNow cX9_aboutNow 2 (some .int), Cond.methodLink RX9 220 yX9_onWay, Cond.instanceMethod yX9_onWay, Cond.selects RX9 yX9_onWay yX9_onWay, Cond.code yX9_onWay cX9_onWay 3 (some .int), Cond.methodLink RL 77 yX8_count, Cond.instanceMethod yX8_count, Cond.selects RX8 yX8_count yX8_count, Cond.code yX8_count cX8_count 2 (some .int), Cond.fieldLink RX8 142 "TwoModems$Way" "came" "I", Cond.fieldLink RX8 145 "TwoModems$Way" "harmed" "I", Cond.fieldLink RX8 148 "TwoModems$Line" "readings" "I", Cond.fieldLink RX8 151 "TwoModems$Mail" "repeated" "I", Cond.methodLink RL 80 yX9_count, Cond.instanceMethod yX9_count, Cond.selects RX9 yX9_count yX9_count, Cond.code yX9_count cX9_count 2 (some .int), Cond.methodLink RX9 226 yX9_howMany]
def wsL_law_r29 : List Cond := [Cond.instanceMethod yX9_howMany, Cond.selects RX9 yX9_howMany yX9_howMany, Cond.code yX9_howMany cX9_howMany 2 (some .int), Cond.methodLink RL 81 yX8_digest, Cond.instanceMethod yX8_digest, Cond.selects RX8 yX8_digest yX8_digest, Cond.code yX8_digest cX8_digest 4 (some .long), Cond.constantLong RX8 154 (1613), Cond.constantLong RX8 160 (31), Cond.methodLink RX8 156 yX8_digestOfEnd, Cond.instanceMethod yX8_digestOfEnd, Cond.selects RX8 yX8_digestOfEnd yX8_digestOfEnd, Cond.code yX8_digestOfEnd cX8_digestOfEnd 8 (some .long), Cond.methodLink RX8 162 yX8_about, Cond.methodLink RX8 165 yX8_count, Cond.methodLink RL 85 yX9_digest, Cond.instanceMethod yX9_digest, Cond.selects RX9 yX9_digest yX9_digest, Cond.code yX9_digest cX9_digest 2 (some .long), Cond.constantLong RX9 239 (1613), Cond.fieldLink RX9 231 "TwoModemsModel" "h" "J", Cond.methodLink RX9 241 yX9_mixEnd, Cond.instanceMethod yX9_mixEnd, Cond.selects RX9 yX9_mixEnd yX9_mixEnd]
def wsL_law_r30 : List Cond := [Cond.code yX9_mixEnd cX9_mixEnd 3 none, Cond.methodLink RX9 235 yX9_mix, Cond.instanceMethod yX9_mix, Cond.selects RX9 yX9_mix yX9_mix, Cond.code yX9_mix cX9_mix 3 none, Cond.constantLong RX9 229 (31)]
def wsL_law : List Cond := (wsL_law_r1 ++ (wsL_law_r2 ++ (wsL_law_r3 ++ (wsL_law_r4 ++ (wsL_law_r5 ++ (wsL_law_r6 ++ (wsL_law_r7 ++ (wsL_law_r8 ++ (wsL_law_r9 ++ (wsL_law_r10 ++ (wsL_law_r11 ++ (wsL_law_r12 ++ (wsL_law_r13 ++ (wsL_law_r14 ++ (wsL_law_r15 ++ (wsL_law_r16 ++ (wsL_law_r17 ++ (wsL_law_r18 ++ (wsL_law_r19 ++ (wsL_law_r20 ++ (wsL_law_r21 ++ (wsL_law_r22 ++ (wsL_law_r23 ++ (wsL_law_r24 ++ (wsL_law_r25 ++ (wsL_law_r26 ++ (wsL_law_r27 ++ (wsL_law_r28 ++ (wsL_law_r29 ++ wsL_law_r30))))))))))))))))))))))))))))) ++ wsX80 ++ wsX90 ++ wsX10 ++ wsX40 ++ wsX30 ++ wsX70 ++ wsX00 ++ wsX20 ++ ([] : List Cond)
end
section
theorem tb_0 {w : Cond} (h : w ∈ k2_sels lw_privs) : w ∈ lw_tbl := List.mem_append_left _ h
theorem tb_1 {w : Cond} (h : w ∈ tables_1_1) : w ∈ lw_tbl := List.mem_append_right _ (List.mem_append_left _ h)
theorem tb_2 {w : Cond} (h : w ∈ tables_1_2) : w ∈ lw_tbl := List.mem_append_right _ (List.mem_append_right _ (List.mem_append_left _ h))
theorem tb_3 {w : Cond} (h : w ∈ tables_1_3) : w ∈ lw_tbl := List.mem_append_right _ (List.mem_append_right _ (List.mem_append_right _ (List.mem_append_left _ h)))
theorem tb_4 {w : Cond} (h : w ∈ tables_1_4) : w ∈ lw_tbl := List.mem_append_right _ (List.mem_append_right _ (List.mem_append_right _ (List.mem_append_right _ h)))
set_option maxRecDepth 20000 in
theorem wsL_law_m1 : ∀ w ∈ wsL_law_r1, w ∈ lw_tbl := List.forall_mem_cons.mpr ⟨tb_1 (List.mem_of_getElem? (i := 11) (by decide +kernel)), List.forall_mem_cons.mpr ⟨tb_1 (List.mem_of_getElem? (i := 12) (by decide +kernel)), List.forall_mem_cons.mpr ⟨tb_1 (List.mem_of_getElem? (i := 1) (by decide +kernel)), List.forall_mem_cons.mpr ⟨tb_3 (List.mem_of_getElem? (i := 65) (by decide +kernel)), List.forall_mem_cons.mpr ⟨tb_3 (List.mem_of_getElem? (i := 66) (by decide +kernel)), List.forall_mem_cons.mpr ⟨tb_1 (List.mem_of_getElem? (i := 8) (by decide +kernel)), List.forall_mem_cons.mpr ⟨tb_1 (List.mem_of_getElem? (i := 13) (by decide +kernel)), List.forall_mem_cons.mpr ⟨tb_1 (List.mem_of_getElem? (i := 14) (by decide +kernel)), List.forall_mem_cons.mpr ⟨tb_1 (List.mem_of_getElem? (i := 15) (by decide +kernel)), List.forall_mem_cons.mpr ⟨tb_1 (List.mem_of_getElem? (i := 16) (by decide +kernel)), List.forall_mem_cons.mpr ⟨tb_1 (List.mem_of_getElem? (i := 17) (by decide +kernel)), List.forall_mem_cons.mpr ⟨tb_1 (List.mem_of_getElem? (i := 18) (by decide +kernel)), List.forall_mem_cons.mpr ⟨tb_1 (List.mem_of_getElem? (i := 19) (by decide +kernel)), List.forall_mem_cons.mpr ⟨tb_1 (List.mem_of_getElem? (i := 20) (by decide +kernel)), List.forall_mem_cons.mpr ⟨tb_1 (List.mem_of_getElem? (i := 2) (by decide +kernel)), List.forall_mem_cons.mpr ⟨tb_1 (List.mem_of_getElem? (i := 85) (by decide +kernel)), List.forall_mem_cons.mpr ⟨tb_1 (List.mem_of_getElem? (i := 86) (by decide +kernel)), List.forall_mem_cons.mpr ⟨tb_1 (List.mem_of_getElem? (i := 4) (by decide +kernel)), List.forall_mem_cons.mpr ⟨tb_1 (List.mem_of_getElem? (i := 225) (by decide +kernel)), List.forall_mem_cons.mpr ⟨tb_1 (List.mem_of_getElem? (i := 226) (by decide +kernel)), List.forall_mem_cons.mpr ⟨tb_1 (List.mem_of_getElem? (i := 99) (by decide +kernel)), List.forall_mem_cons.mpr ⟨tb_1 (List.mem_of_getElem? (i := 100) (by decide +kernel)), List.forall_mem_cons.mpr ⟨tb_1 (List.mem_of_getElem? (i := 5) (by decide +kernel)), List.forall_mem_cons.mpr ⟨tb_1 (List.mem_of_getElem? (i := 70) (by decide +kernel)), fun _ h => absurd h List.not_mem_nil⟩⟩⟩⟩⟩⟩⟩⟩⟩⟩⟩⟩⟩⟩⟩⟩⟩⟩⟩⟩⟩⟩⟩⟩
set_option maxRecDepth 20000 in
theorem wsL_law_m2 : ∀ w ∈ wsL_law_r2, w ∈ lw_tbl := List.forall_mem_cons.mpr ⟨tb_1 (List.mem_of_getElem? (i := 68) (by decide +kernel)), List.forall_mem_cons.mpr ⟨tb_1 (List.mem_of_getElem? (i := 227) (by decide +kernel)), List.forall_mem_cons.mpr ⟨tb_1 (List.mem_of_getElem? (i := 228) (by decide +kernel)), List.forall_mem_cons.mpr ⟨tb_1 (List.mem_of_getElem? (i := 229) (by decide +kernel)), List.forall_mem_cons.mpr ⟨tb_1 (List.mem_of_getElem? (i := 22) (by decide +kernel)), List.forall_mem_cons.mpr ⟨tb_1 (List.mem_of_getElem? (i := 23) (by decide +kernel)), List.forall_mem_cons.mpr ⟨tb_1 (List.mem_of_getElem? (i := 24) (by decide +kernel)), List.forall_mem_cons.mpr ⟨tb_1 (List.mem_of_getElem? (i := 25) (by decide +kernel)), List.forall_mem_cons.mpr ⟨tb_1 (List.mem_of_getElem? (i := 26) (by decide +kernel)), List.forall_mem_cons.mpr ⟨tb_1 (List.mem_of_getElem? (i := 3) (by decide +kernel)), List.forall_mem_cons.mpr ⟨tb_1 (List.mem_of_getElem? (i := 67) (by decide +kernel)), List.forall_mem_cons.mpr ⟨tb_1 (List.mem_of_getElem? (i := 69) (by decide +kernel)), List.forall_mem_cons.mpr ⟨tb_1 (List.mem_of_getElem? (i := 71) (by decide +kernel)), List.forall_mem_cons.mpr ⟨tb_1 (List.mem_of_getElem? (i := 74) (by decide +kernel)), List.forall_mem_cons.mpr ⟨tb_1 (List.mem_of_getElem? (i := 27) (by decide +kernel)), List.forall_mem_cons.mpr ⟨tb_1 (List.mem_of_getElem? (i := 28) (by decide +kernel)), List.forall_mem_cons.mpr ⟨tb_1 (List.mem_of_getElem? (i := 29) (by decide +kernel)), List.forall_mem_cons.mpr ⟨tb_1 (List.mem_of_getElem? (i := 30) (by decide +kernel)), List.forall_mem_cons.mpr ⟨tb_1 (List.mem_of_getElem? (i := 65) (by decide +kernel)), List.forall_mem_cons.mpr ⟨tb_1 (List.mem_of_getElem? (i := 31) (by decide +kernel)), List.forall_mem_cons.mpr ⟨tb_1 (List.mem_of_getElem? (i := 35) (by decide +kernel)), List.forall_mem_cons.mpr ⟨tb_1 (List.mem_of_getElem? (i := 37) (by decide +kernel)), List.forall_mem_cons.mpr ⟨tb_1 (List.mem_of_getElem? (i := 66) (by decide +kernel)), List.forall_mem_cons.mpr ⟨tb_1 (List.mem_of_getElem? (i := 38) (by decide +kernel)), fun _ h => absurd h List.not_mem_nil⟩⟩⟩⟩⟩⟩⟩⟩⟩⟩⟩⟩⟩⟩⟩⟩⟩⟩⟩⟩⟩⟩⟩⟩
set_option maxRecDepth 20000 in
theorem wsL_law_m3 : ∀ w ∈ wsL_law_r3, w ∈ lw_tbl := List.forall_mem_cons.mpr ⟨tb_1 (List.mem_of_getElem? (i := 39) (by decide +kernel)), List.forall_mem_cons.mpr ⟨tb_1 (List.mem_of_getElem? (i := 42) (by decide +kernel)), List.forall_mem_cons.mpr ⟨tb_1 (List.mem_of_getElem? (i := 44) (by decide +kernel)), List.forall_mem_cons.mpr ⟨tb_1 (List.mem_of_getElem? (i := 46) (by decide +kernel)), List.forall_mem_cons.mpr ⟨tb_1 (List.mem_of_getElem? (i := 88) (by decide +kernel)), List.forall_mem_cons.mpr ⟨tb_1 (List.mem_of_getElem? (i := 89) (by decide +kernel)), List.forall_mem_cons.mpr ⟨tb_1 (List.mem_of_getElem? (i := 90) (by decide +kernel)), List.forall_mem_cons.mpr ⟨tb_1 (List.mem_of_getElem? (i := 91) (by decide +kernel)), List.forall_mem_cons.mpr ⟨tb_1 (List.mem_of_getElem? (i := 92) (by decide +kernel)), List.forall_mem_cons.mpr ⟨tb_1 (List.mem_of_getElem? (i := 101) (by decide +kernel)), List.forall_mem_cons.mpr ⟨tb_1 (List.mem_of_getElem? (i := 102) (by decide +kernel)), List.forall_mem_cons.mpr ⟨tb_1 (List.mem_of_getElem? (i := 103) (by decide +kernel)), List.forall_mem_cons.mpr ⟨tb_1 (List.mem_of_getElem? (i := 104) (by decide +kernel)), List.forall_mem_cons.mpr ⟨tb_1 (List.mem_of_getElem? (i := 105) (by decide +kernel)), List.forall_mem_cons.mpr ⟨tb_1 (List.mem_of_getElem? (i := 106) (by decide +kernel)), List.forall_mem_cons.mpr ⟨tb_1 (List.mem_of_getElem? (i := 6) (by decide +kernel)), List.forall_mem_cons.mpr ⟨tb_1 (List.mem_of_getElem? (i := 162) (by decide +kernel)), List.forall_mem_cons.mpr ⟨tb_1 (List.mem_of_getElem? (i := 120) (by decide +kernel)), List.forall_mem_cons.mpr ⟨tb_1 (List.mem_of_getElem? (i := 121) (by decide +kernel)), List.forall_mem_cons.mpr ⟨tb_1 (List.mem_of_getElem? (i := 7) (by decide +kernel)), List.forall_mem_cons.mpr ⟨tb_1 (List.mem_of_getElem? (i := 164) (by decide +kernel)), List.forall_mem_cons.mpr ⟨tb_1 (List.mem_of_getElem? (i := 166) (by decide +kernel)), List.forall_mem_cons.mpr ⟨tb_1 (List.mem_of_getElem? (i := 168) (by decide +kernel)), List.forall_mem_cons.mpr ⟨tb_1 (List.mem_of_getElem? (i := 170) (by decide +kernel)), fun _ h => absurd h List.not_mem_nil⟩⟩⟩⟩⟩⟩⟩⟩⟩⟩⟩⟩⟩⟩⟩⟩⟩⟩⟩⟩⟩⟩⟩⟩
set_option maxRecDepth 20000 in
theorem wsL_law_m4 : ∀ w ∈ wsL_law_r4, w ∈ lw_tbl := List.forall_mem_cons.mpr ⟨tb_1 (List.mem_of_getElem? (i := 172) (by decide +kernel)), List.forall_mem_cons.mpr ⟨tb_1 (List.mem_of_getElem? (i := 173) (by decide +kernel)), List.forall_mem_cons.mpr ⟨tb_1 (List.mem_of_getElem? (i := 174) (by decide +kernel)), List.forall_mem_cons.mpr ⟨tb_1 (List.mem_of_getElem? (i := 175) (by decide +kernel)), List.forall_mem_cons.mpr ⟨tb_1 (List.mem_of_getElem? (i := 176) (by decide +kernel)), List.forall_mem_cons.mpr ⟨tb_1 (List.mem_of_getElem? (i := 177) (by decide +kernel)), List.forall_mem_cons.mpr ⟨tb_1 (List.mem_of_getElem? (i := 178) (by decide +kernel)), List.forall_mem_cons.mpr ⟨tb_1 (List.mem_of_getElem? (i := 179) (by decide +kernel)), List.forall_mem_cons.mpr ⟨tb_1 (List.mem_of_getElem? (i := 180) (by decide +kernel)), List.forall_mem_cons.mpr ⟨tb_1 (List.mem_of_getElem? (i := 181) (by decide +kernel)), List.forall_mem_cons.mpr ⟨tb_1 (List.mem_of_getElem? (i := 182) (by decide +kernel)), List.forall_mem_cons.mpr ⟨tb_1 (List.mem_of_getElem? (i := 183) (by decide +kernel)), List.forall_mem_cons.mpr ⟨tb_1 (List.mem_of_getElem? (i := 158) (by decide +kernel)), List.forall_mem_cons.mpr ⟨tb_1 (List.mem_of_getElem? (i := 159) (by decide +kernel)), List.forall_mem_cons.mpr ⟨tb_1 (List.mem_of_getElem? (i := 161) (by decide +kernel)), List.forall_mem_cons.mpr ⟨tb_1 (List.mem_of_getElem? (i := 108) (by decide +kernel)), List.forall_mem_cons.mpr ⟨tb_1 (List.mem_of_getElem? (i := 109) (by decide +kernel)), List.forall_mem_cons.mpr ⟨tb_1 (List.mem_of_getElem? (i := 110) (by decide +kernel)), List.forall_mem_cons.mpr ⟨tb_1 (List.mem_of_getElem? (i := 111) (by decide +kernel)), List.forall_mem_cons.mpr ⟨tb_1 (List.mem_of_getElem? (i := 113) (by decide +kernel)), List.forall_mem_cons.mpr ⟨tb_1 (List.mem_of_getElem? (i := 123) (by decide +kernel)), List.forall_mem_cons.mpr ⟨tb_1 (List.mem_of_getElem? (i := 124) (by decide +kernel)), List.forall_mem_cons.mpr ⟨tb_1 (List.mem_of_getElem? (i := 125) (by decide +kernel)), List.forall_mem_cons.mpr ⟨tb_1 (List.mem_of_getElem? (i := 126) (by decide +kernel)), fun _ h => absurd h List.not_mem_nil⟩⟩⟩⟩⟩⟩⟩⟩⟩⟩⟩⟩⟩⟩⟩⟩⟩⟩⟩⟩⟩⟩⟩⟩
set_option maxRecDepth 20000 in
theorem wsL_law_m5 : ∀ w ∈ wsL_law_r5, w ∈ lw_tbl := List.forall_mem_cons.mpr ⟨tb_1 (List.mem_of_getElem? (i := 127) (by decide +kernel)), List.forall_mem_cons.mpr ⟨tb_1 (List.mem_of_getElem? (i := 128) (by decide +kernel)), List.forall_mem_cons.mpr ⟨tb_1 (List.mem_of_getElem? (i := 131) (by decide +kernel)), List.forall_mem_cons.mpr ⟨tb_1 (List.mem_of_getElem? (i := 134) (by decide +kernel)), List.forall_mem_cons.mpr ⟨tb_1 (List.mem_of_getElem? (i := 136) (by decide +kernel)), List.forall_mem_cons.mpr ⟨tb_1 (List.mem_of_getElem? (i := 138) (by decide +kernel)), List.forall_mem_cons.mpr ⟨tb_1 (List.mem_of_getElem? (i := 140) (by decide +kernel)), List.forall_mem_cons.mpr ⟨tb_3 (List.mem_of_getElem? (i := 67) (by decide +kernel)), List.forall_mem_cons.mpr ⟨tb_3 (List.mem_of_getElem? (i := 68) (by decide +kernel)), List.forall_mem_cons.mpr ⟨tb_3 (List.mem_of_getElem? (i := 69) (by decide +kernel)), List.forall_mem_cons.mpr ⟨tb_3 (List.mem_of_getElem? (i := 70) (by decide +kernel)), List.forall_mem_cons.mpr ⟨tb_3 (List.mem_of_getElem? (i := 71) (by decide +kernel)), List.forall_mem_cons.mpr ⟨tb_3 (List.mem_of_getElem? (i := 72) (by decide +kernel)), List.forall_mem_cons.mpr ⟨tb_3 (List.mem_of_getElem? (i := 73) (by decide +kernel)), List.forall_mem_cons.mpr ⟨tb_3 (List.mem_of_getElem? (i := 74) (by decide +kernel)), List.forall_mem_cons.mpr ⟨tb_3 (List.mem_of_getElem? (i := 75) (by decide +kernel)), List.forall_mem_cons.mpr ⟨tb_3 (List.mem_of_getElem? (i := 76) (by decide +kernel)), List.forall_mem_cons.mpr ⟨tb_3 (List.mem_of_getElem? (i := 77) (by decide +kernel)), List.forall_mem_cons.mpr ⟨tb_3 (List.mem_of_getElem? (i := 78) (by decide +kernel)), List.forall_mem_cons.mpr ⟨tb_3 (List.mem_of_getElem? (i := 79) (by decide +kernel)), List.forall_mem_cons.mpr ⟨tb_3 (List.mem_of_getElem? (i := 80) (by decide +kernel)), List.forall_mem_cons.mpr ⟨tb_3 (List.mem_of_getElem? (i := 81) (by decide +kernel)), List.forall_mem_cons.mpr ⟨tb_3 (List.mem_of_getElem? (i := 82) (by decide +kernel)), List.forall_mem_cons.mpr ⟨tb_3 (List.mem_of_getElem? (i := 84) (by decide +kernel)), fun _ h => absurd h List.not_mem_nil⟩⟩⟩⟩⟩⟩⟩⟩⟩⟩⟩⟩⟩⟩⟩⟩⟩⟩⟩⟩⟩⟩⟩⟩
set_option maxRecDepth 20000 in
theorem wsL_law_m6 : ∀ w ∈ wsL_law_r6, w ∈ lw_tbl := List.forall_mem_cons.mpr ⟨tb_3 (List.mem_of_getElem? (i := 85) (by decide +kernel)), List.forall_mem_cons.mpr ⟨tb_3 (List.mem_of_getElem? (i := 90) (by decide +kernel)), List.forall_mem_cons.mpr ⟨tb_3 (List.mem_of_getElem? (i := 91) (by decide +kernel)), List.forall_mem_cons.mpr ⟨tb_3 (List.mem_of_getElem? (i := 93) (by decide +kernel)), List.forall_mem_cons.mpr ⟨tb_3 (List.mem_of_getElem? (i := 96) (by decide +kernel)), List.forall_mem_cons.mpr ⟨tb_2 (List.mem_of_getElem? (i := 1) (by decide +kernel)), List.forall_mem_cons.mpr ⟨tb_2 (List.mem_of_getElem? (i := 2) (by decide +kernel)), List.forall_mem_cons.mpr ⟨tb_2 (List.mem_of_getElem? (i := 3) (by decide +kernel)), List.forall_mem_cons.mpr ⟨tb_2 (List.mem_of_getElem? (i := 4) (by decide +kernel)), List.forall_mem_cons.mpr ⟨tb_1 (List.mem_of_getElem? (i := 93) (by decide +kernel)), List.forall_mem_cons.mpr ⟨tb_2 (List.mem_of_getElem? (i := 5) (by decide +kernel)), List.forall_mem_cons.mpr ⟨tb_2 (List.mem_of_getElem? (i := 6) (by decide +kernel)), List.forall_mem_cons.mpr ⟨tb_2 (List.mem_of_getElem? (i := 7) (by decide +kernel)), List.forall_mem_cons.mpr ⟨tb_2 (List.mem_of_getElem? (i := 8) (by decide +kernel)), List.forall_mem_cons.mpr ⟨tb_3 (List.mem_of_getElem? (i := 162) (by decide +kernel)), List.forall_mem_cons.mpr ⟨tb_3 (List.mem_of_getElem? (i := 163) (by decide +kernel)), List.forall_mem_cons.mpr ⟨tb_3 (List.mem_of_getElem? (i := 164) (by decide +kernel)), List.forall_mem_cons.mpr ⟨tb_3 (List.mem_of_getElem? (i := 165) (by decide +kernel)), List.forall_mem_cons.mpr ⟨tb_3 (List.mem_of_getElem? (i := 89) (by decide +kernel)), List.forall_mem_cons.mpr ⟨tb_3 (List.mem_of_getElem? (i := 166) (by decide +kernel)), List.forall_mem_cons.mpr ⟨tb_3 (List.mem_of_getElem? (i := 167) (by decide +kernel)), List.forall_mem_cons.mpr ⟨tb_3 (List.mem_of_getElem? (i := 168) (by decide +kernel)), List.forall_mem_cons.mpr ⟨tb_2 (List.mem_of_getElem? (i := 9) (by decide +kernel)), List.forall_mem_cons.mpr ⟨tb_2 (List.mem_of_getElem? (i := 10) (by decide +kernel)), fun _ h => absurd h List.not_mem_nil⟩⟩⟩⟩⟩⟩⟩⟩⟩⟩⟩⟩⟩⟩⟩⟩⟩⟩⟩⟩⟩⟩⟩⟩
set_option maxRecDepth 20000 in
theorem wsL_law_m7 : ∀ w ∈ wsL_law_r7, w ∈ lw_tbl := List.forall_mem_cons.mpr ⟨tb_2 (List.mem_of_getElem? (i := 11) (by decide +kernel)), List.forall_mem_cons.mpr ⟨tb_2 (List.mem_of_getElem? (i := 12) (by decide +kernel)), List.forall_mem_cons.mpr ⟨tb_3 (List.mem_of_getElem? (i := 169) (by decide +kernel)), List.forall_mem_cons.mpr ⟨tb_3 (List.mem_of_getElem? (i := 170) (by decide +kernel)), List.forall_mem_cons.mpr ⟨tb_3 (List.mem_of_getElem? (i := 171) (by decide +kernel)), List.forall_mem_cons.mpr ⟨tb_3 (List.mem_of_getElem? (i := 172) (by decide +kernel)), List.forall_mem_cons.mpr ⟨tb_2 (List.mem_of_getElem? (i := 13) (by decide +kernel)), List.forall_mem_cons.mpr ⟨tb_2 (List.mem_of_getElem? (i := 14) (by decide +kernel)), List.forall_mem_cons.mpr ⟨tb_2 (List.mem_of_getElem? (i := 15) (by decide +kernel)), List.forall_mem_cons.mpr ⟨tb_2 (List.mem_of_getElem? (i := 16) (by decide +kernel)), List.forall_mem_cons.mpr ⟨tb_2 (List.mem_of_getElem? (i := 17) (by decide +kernel)), List.forall_mem_cons.mpr ⟨tb_2 (List.mem_of_getElem? (i := 18) (by decide +kernel)), List.forall_mem_cons.mpr ⟨tb_2 (List.mem_of_getElem? (i := 19) (by decide +kernel)), List.forall_mem_cons.mpr ⟨tb_2 (List.mem_of_getElem? (i := 20) (by decide +kernel)), List.forall_mem_cons.mpr ⟨tb_2 (List.mem_of_getElem? (i := 21) (by decide +kernel)), List.forall_mem_cons.mpr ⟨tb_2 (List.mem_of_getElem? (i := 23) (by decide +kernel)), List.forall_mem_cons.mpr ⟨tb_0 (List.mem_of_getElem? (i := 0) (by decide +kernel)), List.forall_mem_cons.mpr ⟨tb_2 (List.mem_of_getElem? (i := 24) (by decide +kernel)), List.forall_mem_cons.mpr ⟨tb_2 (List.mem_of_getElem? (i := 25) (by decide +kernel)), List.forall_mem_cons.mpr ⟨tb_2 (List.mem_of_getElem? (i := 26) (by decide +kernel)), List.forall_mem_cons.mpr ⟨tb_2 (List.mem_of_getElem? (i := 27) (by decide +kernel)), List.forall_mem_cons.mpr ⟨tb_2 (List.mem_of_getElem? (i := 28) (by decide +kernel)), List.forall_mem_cons.mpr ⟨tb_2 (List.mem_of_getElem? (i := 29) (by decide +kernel)), List.forall_mem_cons.mpr ⟨tb_2 (List.mem_of_getElem? (i := 31) (by decide +kernel)), fun _ h => absurd h List.not_mem_nil⟩⟩⟩⟩⟩⟩⟩⟩⟩⟩⟩⟩⟩⟩⟩⟩⟩⟩⟩⟩⟩⟩⟩⟩
set_option maxRecDepth 20000 in
theorem wsL_law_m8 : ∀ w ∈ wsL_law_r8, w ∈ lw_tbl := List.forall_mem_cons.mpr ⟨tb_0 (List.mem_of_getElem? (i := 1) (by decide +kernel)), List.forall_mem_cons.mpr ⟨tb_2 (List.mem_of_getElem? (i := 32) (by decide +kernel)), List.forall_mem_cons.mpr ⟨tb_2 (List.mem_of_getElem? (i := 33) (by decide +kernel)), List.forall_mem_cons.mpr ⟨tb_2 (List.mem_of_getElem? (i := 35) (by decide +kernel)), List.forall_mem_cons.mpr ⟨tb_0 (List.mem_of_getElem? (i := 2) (by decide +kernel)), List.forall_mem_cons.mpr ⟨tb_2 (List.mem_of_getElem? (i := 36) (by decide +kernel)), List.forall_mem_cons.mpr ⟨tb_2 (List.mem_of_getElem? (i := 37) (by decide +kernel)), List.forall_mem_cons.mpr ⟨tb_2 (List.mem_of_getElem? (i := 39) (by decide +kernel)), List.forall_mem_cons.mpr ⟨tb_0 (List.mem_of_getElem? (i := 3) (by decide +kernel)), List.forall_mem_cons.mpr ⟨tb_2 (List.mem_of_getElem? (i := 40) (by decide +kernel)), List.forall_mem_cons.mpr ⟨tb_2 (List.mem_of_getElem? (i := 41) (by decide +kernel)), List.forall_mem_cons.mpr ⟨tb_2 (List.mem_of_getElem? (i := 43) (by decide +kernel)), List.forall_mem_cons.mpr ⟨tb_0 (List.mem_of_getElem? (i := 4) (by decide +kernel)), List.forall_mem_cons.mpr ⟨tb_2 (List.mem_of_getElem? (i := 44) (by decide +kernel)), List.forall_mem_cons.mpr ⟨tb_3 (List.mem_of_getElem? (i := 173) (by decide +kernel)), List.forall_mem_cons.mpr ⟨tb_3 (List.mem_of_getElem? (i := 174) (by decide +kernel)), List.forall_mem_cons.mpr ⟨tb_3 (List.mem_of_getElem? (i := 175) (by decide +kernel)), List.forall_mem_cons.mpr ⟨tb_3 (List.mem_of_getElem? (i := 176) (by decide +kernel)), List.forall_mem_cons.mpr ⟨tb_3 (List.mem_of_getElem? (i := 177) (by decide +kernel)), List.forall_mem_cons.mpr ⟨tb_3 (List.mem_of_getElem? (i := 179) (by decide +kernel)), List.forall_mem_cons.mpr ⟨tb_0 (List.mem_of_getElem? (i := 25) (by decide +kernel)), List.forall_mem_cons.mpr ⟨tb_3 (List.mem_of_getElem? (i := 180) (by decide +kernel)), List.forall_mem_cons.mpr ⟨tb_3 (List.mem_of_getElem? (i := 94) (by decide +kernel)), List.forall_mem_cons.mpr ⟨tb_3 (List.mem_of_getElem? (i := 95) (by decide +kernel)), fun _ h => absurd h List.not_mem_nil⟩⟩⟩⟩⟩⟩⟩⟩⟩⟩⟩⟩⟩⟩⟩⟩⟩⟩⟩⟩⟩⟩⟩⟩
set_option maxRecDepth 20000 in
theorem wsL_law_m9 : ∀ w ∈ wsL_law_r9, w ∈ lw_tbl := List.forall_mem_cons.mpr ⟨tb_3 (List.mem_of_getElem? (i := 181) (by decide +kernel)), List.forall_mem_cons.mpr ⟨tb_3 (List.mem_of_getElem? (i := 183) (by decide +kernel)), List.forall_mem_cons.mpr ⟨tb_0 (List.mem_of_getElem? (i := 26) (by decide +kernel)), List.forall_mem_cons.mpr ⟨tb_3 (List.mem_of_getElem? (i := 184) (by decide +kernel)), List.forall_mem_cons.mpr ⟨tb_3 (List.mem_of_getElem? (i := 92) (by decide +kernel)), List.forall_mem_cons.mpr ⟨tb_3 (List.mem_of_getElem? (i := 185) (by decide +kernel)), List.forall_mem_cons.mpr ⟨tb_3 (List.mem_of_getElem? (i := 187) (by decide +kernel)), List.forall_mem_cons.mpr ⟨tb_0 (List.mem_of_getElem? (i := 27) (by decide +kernel)), List.forall_mem_cons.mpr ⟨tb_3 (List.mem_of_getElem? (i := 188) (by decide +kernel)), List.forall_mem_cons.mpr ⟨tb_3 (List.mem_of_getElem? (i := 189) (by decide +kernel)), List.forall_mem_cons.mpr ⟨tb_3 (List.mem_of_getElem? (i := 190) (by decide +kernel)), List.forall_mem_cons.mpr ⟨tb_3 (List.mem_of_getElem? (i := 191) (by decide +kernel)), List.forall_mem_cons.mpr ⟨tb_3 (List.mem_of_getElem? (i := 192) (by decide +kernel)), List.forall_mem_cons.mpr ⟨tb_3 (List.mem_of_getElem? (i := 194) (by decide +kernel)), List.forall_mem_cons.mpr ⟨tb_0 (List.mem_of_getElem? (i := 28) (by decide +kernel)), List.forall_mem_cons.mpr ⟨tb_3 (List.mem_of_getElem? (i := 195) (by decide +kernel)), List.forall_mem_cons.mpr ⟨tb_2 (List.mem_of_getElem? (i := 45) (by decide +kernel)), List.forall_mem_cons.mpr ⟨tb_2 (List.mem_of_getElem? (i := 46) (by decide +kernel)), List.forall_mem_cons.mpr ⟨tb_2 (List.mem_of_getElem? (i := 47) (by decide +kernel)), List.forall_mem_cons.mpr ⟨tb_2 (List.mem_of_getElem? (i := 48) (by decide +kernel)), List.forall_mem_cons.mpr ⟨tb_1 (List.mem_of_getElem? (i := 73) (by decide +kernel)), List.forall_mem_cons.mpr ⟨tb_2 (List.mem_of_getElem? (i := 49) (by decide +kernel)), List.forall_mem_cons.mpr ⟨tb_2 (List.mem_of_getElem? (i := 50) (by decide +kernel)), List.forall_mem_cons.mpr ⟨tb_2 (List.mem_of_getElem? (i := 51) (by decide +kernel)), fun _ h => absurd h List.not_mem_nil⟩⟩⟩⟩⟩⟩⟩⟩⟩⟩⟩⟩⟩⟩⟩⟩⟩⟩⟩⟩⟩⟩⟩⟩
set_option maxRecDepth 20000 in
theorem wsL_law_m10 : ∀ w ∈ wsL_law_r10, w ∈ lw_tbl := List.forall_mem_cons.mpr ⟨tb_2 (List.mem_of_getElem? (i := 52) (by decide +kernel)), List.forall_mem_cons.mpr ⟨tb_2 (List.mem_of_getElem? (i := 53) (by decide +kernel)), List.forall_mem_cons.mpr ⟨tb_2 (List.mem_of_getElem? (i := 54) (by decide +kernel)), List.forall_mem_cons.mpr ⟨tb_2 (List.mem_of_getElem? (i := 55) (by decide +kernel)), List.forall_mem_cons.mpr ⟨tb_2 (List.mem_of_getElem? (i := 56) (by decide +kernel)), List.forall_mem_cons.mpr ⟨tb_2 (List.mem_of_getElem? (i := 57) (by decide +kernel)), List.forall_mem_cons.mpr ⟨tb_1 (List.mem_of_getElem? (i := 32) (by decide +kernel)), List.forall_mem_cons.mpr ⟨tb_1 (List.mem_of_getElem? (i := 40) (by decide +kernel)), List.forall_mem_cons.mpr ⟨tb_2 (List.mem_of_getElem? (i := 58) (by decide +kernel)), List.forall_mem_cons.mpr ⟨tb_2 (List.mem_of_getElem? (i := 59) (by decide +kernel)), List.forall_mem_cons.mpr ⟨tb_2 (List.mem_of_getElem? (i := 60) (by decide +kernel)), List.forall_mem_cons.mpr ⟨tb_2 (List.mem_of_getElem? (i := 61) (by decide +kernel)), List.forall_mem_cons.mpr ⟨tb_2 (List.mem_of_getElem? (i := 62) (by decide +kernel)), List.forall_mem_cons.mpr ⟨tb_2 (List.mem_of_getElem? (i := 63) (by decide +kernel)), List.forall_mem_cons.mpr ⟨tb_2 (List.mem_of_getElem? (i := 64) (by decide +kernel)), List.forall_mem_cons.mpr ⟨tb_2 (List.mem_of_getElem? (i := 65) (by decide +kernel)), List.forall_mem_cons.mpr ⟨tb_2 (List.mem_of_getElem? (i := 66) (by decide +kernel)), List.forall_mem_cons.mpr ⟨tb_2 (List.mem_of_getElem? (i := 67) (by decide +kernel)), List.forall_mem_cons.mpr ⟨tb_2 (List.mem_of_getElem? (i := 68) (by decide +kernel)), List.forall_mem_cons.mpr ⟨tb_2 (List.mem_of_getElem? (i := 69) (by decide +kernel)), List.forall_mem_cons.mpr ⟨tb_3 (List.mem_of_getElem? (i := 196) (by decide +kernel)), List.forall_mem_cons.mpr ⟨tb_3 (List.mem_of_getElem? (i := 197) (by decide +kernel)), List.forall_mem_cons.mpr ⟨tb_3 (List.mem_of_getElem? (i := 198) (by decide +kernel)), List.forall_mem_cons.mpr ⟨tb_3 (List.mem_of_getElem? (i := 199) (by decide +kernel)), fun _ h => absurd h List.not_mem_nil⟩⟩⟩⟩⟩⟩⟩⟩⟩⟩⟩⟩⟩⟩⟩⟩⟩⟩⟩⟩⟩⟩⟩⟩
set_option maxRecDepth 20000 in
theorem wsL_law_m11 : ∀ w ∈ wsL_law_r11, w ∈ lw_tbl := List.forall_mem_cons.mpr ⟨tb_3 (List.mem_of_getElem? (i := 87) (by decide +kernel)), List.forall_mem_cons.mpr ⟨tb_2 (List.mem_of_getElem? (i := 70) (by decide +kernel)), List.forall_mem_cons.mpr ⟨tb_2 (List.mem_of_getElem? (i := 71) (by decide +kernel)), List.forall_mem_cons.mpr ⟨tb_2 (List.mem_of_getElem? (i := 72) (by decide +kernel)), List.forall_mem_cons.mpr ⟨tb_2 (List.mem_of_getElem? (i := 73) (by decide +kernel)), List.forall_mem_cons.mpr ⟨tb_1 (List.mem_of_getElem? (i := 165) (by decide +kernel)), List.forall_mem_cons.mpr ⟨tb_1 (List.mem_of_getElem? (i := 130) (by decide +kernel)), List.forall_mem_cons.mpr ⟨tb_2 (List.mem_of_getElem? (i := 74) (by decide +kernel)), List.forall_mem_cons.mpr ⟨tb_2 (List.mem_of_getElem? (i := 76) (by decide +kernel)), List.forall_mem_cons.mpr ⟨tb_0 (List.mem_of_getElem? (i := 5) (by decide +kernel)), List.forall_mem_cons.mpr ⟨tb_2 (List.mem_of_getElem? (i := 77) (by decide +kernel)), List.forall_mem_cons.mpr ⟨tb_2 (List.mem_of_getElem? (i := 78) (by decide +kernel)), List.forall_mem_cons.mpr ⟨tb_2 (List.mem_of_getElem? (i := 79) (by decide +kernel)), List.forall_mem_cons.mpr ⟨tb_2 (List.mem_of_getElem? (i := 80) (by decide +kernel)), List.forall_mem_cons.mpr ⟨tb_2 (List.mem_of_getElem? (i := 81) (by decide +kernel)), List.forall_mem_cons.mpr ⟨tb_2 (List.mem_of_getElem? (i := 82) (by decide +kernel)), List.forall_mem_cons.mpr ⟨tb_3 (List.mem_of_getElem? (i := 200) (by decide +kernel)), List.forall_mem_cons.mpr ⟨tb_3 (List.mem_of_getElem? (i := 201) (by decide +kernel)), List.forall_mem_cons.mpr ⟨tb_3 (List.mem_of_getElem? (i := 202) (by decide +kernel)), List.forall_mem_cons.mpr ⟨tb_3 (List.mem_of_getElem? (i := 203) (by decide +kernel)), List.forall_mem_cons.mpr ⟨tb_3 (List.mem_of_getElem? (i := 204) (by decide +kernel)), List.forall_mem_cons.mpr ⟨tb_3 (List.mem_of_getElem? (i := 205) (by decide +kernel)), List.forall_mem_cons.mpr ⟨tb_3 (List.mem_of_getElem? (i := 206) (by decide +kernel)), List.forall_mem_cons.mpr ⟨tb_3 (List.mem_of_getElem? (i := 207) (by decide +kernel)), fun _ h => absurd h List.not_mem_nil⟩⟩⟩⟩⟩⟩⟩⟩⟩⟩⟩⟩⟩⟩⟩⟩⟩⟩⟩⟩⟩⟩⟩⟩
set_option maxRecDepth 20000 in
theorem wsL_law_m12 : ∀ w ∈ wsL_law_r12, w ∈ lw_tbl := List.forall_mem_cons.mpr ⟨tb_3 (List.mem_of_getElem? (i := 209) (by decide +kernel)), List.forall_mem_cons.mpr ⟨tb_0 (List.mem_of_getElem? (i := 29) (by decide +kernel)), List.forall_mem_cons.mpr ⟨tb_3 (List.mem_of_getElem? (i := 210) (by decide +kernel)), List.forall_mem_cons.mpr ⟨tb_3 (List.mem_of_getElem? (i := 211) (by decide +kernel)), List.forall_mem_cons.mpr ⟨tb_3 (List.mem_of_getElem? (i := 213) (by decide +kernel)), List.forall_mem_cons.mpr ⟨tb_0 (List.mem_of_getElem? (i := 30) (by decide +kernel)), List.forall_mem_cons.mpr ⟨tb_3 (List.mem_of_getElem? (i := 214) (by decide +kernel)), List.forall_mem_cons.mpr ⟨tb_2 (List.mem_of_getElem? (i := 83) (by decide +kernel)), List.forall_mem_cons.mpr ⟨tb_2 (List.mem_of_getElem? (i := 84) (by decide +kernel)), List.forall_mem_cons.mpr ⟨tb_2 (List.mem_of_getElem? (i := 85) (by decide +kernel)), List.forall_mem_cons.mpr ⟨tb_2 (List.mem_of_getElem? (i := 86) (by decide +kernel)), List.forall_mem_cons.mpr ⟨tb_1 (List.mem_of_getElem? (i := 163) (by decide +kernel)), List.forall_mem_cons.mpr ⟨tb_1 (List.mem_of_getElem? (i := 112) (by decide +kernel)), List.forall_mem_cons.mpr ⟨tb_3 (List.mem_of_getElem? (i := 215) (by decide +kernel)), List.forall_mem_cons.mpr ⟨tb_3 (List.mem_of_getElem? (i := 216) (by decide +kernel)), List.forall_mem_cons.mpr ⟨tb_3 (List.mem_of_getElem? (i := 217) (by decide +kernel)), List.forall_mem_cons.mpr ⟨tb_3 (List.mem_of_getElem? (i := 218) (by decide +kernel)), List.forall_mem_cons.mpr ⟨tb_2 (List.mem_of_getElem? (i := 87) (by decide +kernel)), List.forall_mem_cons.mpr ⟨tb_2 (List.mem_of_getElem? (i := 88) (by decide +kernel)), List.forall_mem_cons.mpr ⟨tb_2 (List.mem_of_getElem? (i := 89) (by decide +kernel)), List.forall_mem_cons.mpr ⟨tb_2 (List.mem_of_getElem? (i := 90) (by decide +kernel)), List.forall_mem_cons.mpr ⟨tb_1 (List.mem_of_getElem? (i := 169) (by decide +kernel)), List.forall_mem_cons.mpr ⟨tb_2 (List.mem_of_getElem? (i := 91) (by decide +kernel)), List.forall_mem_cons.mpr ⟨tb_2 (List.mem_of_getElem? (i := 92) (by decide +kernel)), fun _ h => absurd h List.not_mem_nil⟩⟩⟩⟩⟩⟩⟩⟩⟩⟩⟩⟩⟩⟩⟩⟩⟩⟩⟩⟩⟩⟩⟩⟩
set_option maxRecDepth 20000 in
theorem wsL_law_m13 : ∀ w ∈ wsL_law_r13, w ∈ lw_tbl := List.forall_mem_cons.mpr ⟨tb_2 (List.mem_of_getElem? (i := 93) (by decide +kernel)), List.forall_mem_cons.mpr ⟨tb_2 (List.mem_of_getElem? (i := 94) (by decide +kernel)), List.forall_mem_cons.mpr ⟨tb_3 (List.mem_of_getElem? (i := 219) (by decide +kernel)), List.forall_mem_cons.mpr ⟨tb_3 (List.mem_of_getElem? (i := 220) (by decide +kernel)), List.forall_mem_cons.mpr ⟨tb_3 (List.mem_of_getElem? (i := 221) (by decide +kernel)), List.forall_mem_cons.mpr ⟨tb_3 (List.mem_of_getElem? (i := 222) (by decide +kernel)), List.forall_mem_cons.mpr ⟨tb_3 (List.mem_of_getElem? (i := 223) (by decide +kernel)), List.forall_mem_cons.mpr ⟨tb_3 (List.mem_of_getElem? (i := 225) (by decide +kernel)), List.forall_mem_cons.mpr ⟨tb_0 (List.mem_of_getElem? (i := 31) (by decide +kernel)), List.forall_mem_cons.mpr ⟨tb_3 (List.mem_of_getElem? (i := 226) (by decide +kernel)), List.forall_mem_cons.mpr ⟨tb_3 (List.mem_of_getElem? (i := 227) (by decide +kernel)), List.forall_mem_cons.mpr ⟨tb_3 (List.mem_of_getElem? (i := 229) (by decide +kernel)), List.forall_mem_cons.mpr ⟨tb_0 (List.mem_of_getElem? (i := 32) (by decide +kernel)), List.forall_mem_cons.mpr ⟨tb_3 (List.mem_of_getElem? (i := 230) (by decide +kernel)), List.forall_mem_cons.mpr ⟨tb_2 (List.mem_of_getElem? (i := 95) (by decide +kernel)), List.forall_mem_cons.mpr ⟨tb_2 (List.mem_of_getElem? (i := 96) (by decide +kernel)), List.forall_mem_cons.mpr ⟨tb_2 (List.mem_of_getElem? (i := 97) (by decide +kernel)), List.forall_mem_cons.mpr ⟨tb_2 (List.mem_of_getElem? (i := 98) (by decide +kernel)), List.forall_mem_cons.mpr ⟨tb_3 (List.mem_of_getElem? (i := 231) (by decide +kernel)), List.forall_mem_cons.mpr ⟨tb_3 (List.mem_of_getElem? (i := 232) (by decide +kernel)), List.forall_mem_cons.mpr ⟨tb_3 (List.mem_of_getElem? (i := 233) (by decide +kernel)), List.forall_mem_cons.mpr ⟨tb_3 (List.mem_of_getElem? (i := 234) (by decide +kernel)), List.forall_mem_cons.mpr ⟨tb_2 (List.mem_of_getElem? (i := 99) (by decide +kernel)), List.forall_mem_cons.mpr ⟨tb_2 (List.mem_of_getElem? (i := 100) (by decide +kernel)), fun _ h => absurd h List.not_mem_nil⟩⟩⟩⟩⟩⟩⟩⟩⟩⟩⟩⟩⟩⟩⟩⟩⟩⟩⟩⟩⟩⟩⟩⟩
set_option maxRecDepth 20000 in
theorem wsL_law_m14 : ∀ w ∈ wsL_law_r14, w ∈ lw_tbl := List.forall_mem_cons.mpr ⟨tb_2 (List.mem_of_getElem? (i := 101) (by decide +kernel)), List.forall_mem_cons.mpr ⟨tb_2 (List.mem_of_getElem? (i := 102) (by decide +kernel)), List.forall_mem_cons.mpr ⟨tb_2 (List.mem_of_getElem? (i := 103) (by decide +kernel)), List.forall_mem_cons.mpr ⟨tb_2 (List.mem_of_getElem? (i := 105) (by decide +kernel)), List.forall_mem_cons.mpr ⟨tb_0 (List.mem_of_getElem? (i := 6) (by decide +kernel)), List.forall_mem_cons.mpr ⟨tb_2 (List.mem_of_getElem? (i := 106) (by decide +kernel)), List.forall_mem_cons.mpr ⟨tb_1 (List.mem_of_getElem? (i := 171) (by decide +kernel)), List.forall_mem_cons.mpr ⟨tb_2 (List.mem_of_getElem? (i := 107) (by decide +kernel)), List.forall_mem_cons.mpr ⟨tb_2 (List.mem_of_getElem? (i := 108) (by decide +kernel)), List.forall_mem_cons.mpr ⟨tb_2 (List.mem_of_getElem? (i := 109) (by decide +kernel)), List.forall_mem_cons.mpr ⟨tb_2 (List.mem_of_getElem? (i := 110) (by decide +kernel)), List.forall_mem_cons.mpr ⟨tb_1 (List.mem_of_getElem? (i := 135) (by decide +kernel)), List.forall_mem_cons.mpr ⟨tb_1 (List.mem_of_getElem? (i := 72) (by decide +kernel)), List.forall_mem_cons.mpr ⟨tb_2 (List.mem_of_getElem? (i := 111) (by decide +kernel)), List.forall_mem_cons.mpr ⟨tb_2 (List.mem_of_getElem? (i := 112) (by decide +kernel)), List.forall_mem_cons.mpr ⟨tb_2 (List.mem_of_getElem? (i := 113) (by decide +kernel)), List.forall_mem_cons.mpr ⟨tb_2 (List.mem_of_getElem? (i := 114) (by decide +kernel)), List.forall_mem_cons.mpr ⟨tb_2 (List.mem_of_getElem? (i := 115) (by decide +kernel)), List.forall_mem_cons.mpr ⟨tb_2 (List.mem_of_getElem? (i := 117) (by decide +kernel)), List.forall_mem_cons.mpr ⟨tb_0 (List.mem_of_getElem? (i := 7) (by decide +kernel)), List.forall_mem_cons.mpr ⟨tb_2 (List.mem_of_getElem? (i := 118) (by decide +kernel)), List.forall_mem_cons.mpr ⟨tb_2 (List.mem_of_getElem? (i := 119) (by decide +kernel)), List.forall_mem_cons.mpr ⟨tb_2 (List.mem_of_getElem? (i := 121) (by decide +kernel)), List.forall_mem_cons.mpr ⟨tb_0 (List.mem_of_getElem? (i := 8) (by decide +kernel)), fun _ h => absurd h List.not_mem_nil⟩⟩⟩⟩⟩⟩⟩⟩⟩⟩⟩⟩⟩⟩⟩⟩⟩⟩⟩⟩⟩⟩⟩⟩
set_option maxRecDepth 20000 in
theorem wsL_law_m15 : ∀ w ∈ wsL_law_r15, w ∈ lw_tbl := List.forall_mem_cons.mpr ⟨tb_2 (List.mem_of_getElem? (i := 122) (by decide +kernel)), List.forall_mem_cons.mpr ⟨tb_1 (List.mem_of_getElem? (i := 137) (by decide +kernel)), List.forall_mem_cons.mpr ⟨tb_2 (List.mem_of_getElem? (i := 123) (by decide +kernel)), List.forall_mem_cons.mpr ⟨tb_2 (List.mem_of_getElem? (i := 124) (by decide +kernel)), List.forall_mem_cons.mpr ⟨tb_2 (List.mem_of_getElem? (i := 125) (by decide +kernel)), List.forall_mem_cons.mpr ⟨tb_2 (List.mem_of_getElem? (i := 126) (by decide +kernel)), List.forall_mem_cons.mpr ⟨tb_2 (List.mem_of_getElem? (i := 127) (by decide +kernel)), List.forall_mem_cons.mpr ⟨tb_2 (List.mem_of_getElem? (i := 129) (by decide +kernel)), List.forall_mem_cons.mpr ⟨tb_0 (List.mem_of_getElem? (i := 9) (by decide +kernel)), List.forall_mem_cons.mpr ⟨tb_2 (List.mem_of_getElem? (i := 130) (by decide +kernel)), List.forall_mem_cons.mpr ⟨tb_2 (List.mem_of_getElem? (i := 131) (by decide +kernel)), List.forall_mem_cons.mpr ⟨tb_2 (List.mem_of_getElem? (i := 132) (by decide +kernel)), List.forall_mem_cons.mpr ⟨tb_2 (List.mem_of_getElem? (i := 133) (by decide +kernel)), List.forall_mem_cons.mpr ⟨tb_2 (List.mem_of_getElem? (i := 134) (by decide +kernel)), List.forall_mem_cons.mpr ⟨tb_2 (List.mem_of_getElem? (i := 135) (by decide +kernel)), List.forall_mem_cons.mpr ⟨tb_2 (List.mem_of_getElem? (i := 136) (by decide +kernel)), List.forall_mem_cons.mpr ⟨tb_2 (List.mem_of_getElem? (i := 137) (by decide +kernel)), List.forall_mem_cons.mpr ⟨tb_2 (List.mem_of_getElem? (i := 138) (by decide +kernel)), List.forall_mem_cons.mpr ⟨tb_2 (List.mem_of_getElem? (i := 139) (by decide +kernel)), List.forall_mem_cons.mpr ⟨tb_2 (List.mem_of_getElem? (i := 141) (by decide +kernel)), List.forall_mem_cons.mpr ⟨tb_0 (List.mem_of_getElem? (i := 10) (by decide +kernel)), List.forall_mem_cons.mpr ⟨tb_2 (List.mem_of_getElem? (i := 142) (by decide +kernel)), List.forall_mem_cons.mpr ⟨tb_1 (List.mem_of_getElem? (i := 33) (by decide +kernel)), List.forall_mem_cons.mpr ⟨tb_2 (List.mem_of_getElem? (i := 143) (by decide +kernel)), fun _ h => absurd h List.not_mem_nil⟩⟩⟩⟩⟩⟩⟩⟩⟩⟩⟩⟩⟩⟩⟩⟩⟩⟩⟩⟩⟩⟩⟩⟩
set_option maxRecDepth 20000 in
theorem wsL_law_m16 : ∀ w ∈ wsL_law_r16, w ∈ lw_tbl := List.forall_mem_cons.mpr ⟨tb_2 (List.mem_of_getElem? (i := 145) (by decide +kernel)), List.forall_mem_cons.mpr ⟨tb_0 (List.mem_of_getElem? (i := 11) (by decide +kernel)), List.forall_mem_cons.mpr ⟨tb_2 (List.mem_of_getElem? (i := 146) (by decide +kernel)), List.forall_mem_cons.mpr ⟨tb_2 (List.mem_of_getElem? (i := 155) (by decide +kernel)), List.forall_mem_cons.mpr ⟨tb_2 (List.mem_of_getElem? (i := 156) (by decide +kernel)), List.forall_mem_cons.mpr ⟨tb_1 (List.mem_of_getElem? (i := 9) (by decide +kernel)), List.forall_mem_cons.mpr ⟨tb_2 (List.mem_of_getElem? (i := 157) (by decide +kernel)), List.forall_mem_cons.mpr ⟨tb_2 (List.mem_of_getElem? (i := 147) (by decide +kernel)), List.forall_mem_cons.mpr ⟨tb_2 (List.mem_of_getElem? (i := 149) (by decide +kernel)), List.forall_mem_cons.mpr ⟨tb_0 (List.mem_of_getElem? (i := 12) (by decide +kernel)), List.forall_mem_cons.mpr ⟨tb_2 (List.mem_of_getElem? (i := 150) (by decide +kernel)), List.forall_mem_cons.mpr ⟨tb_2 (List.mem_of_getElem? (i := 151) (by decide +kernel)), List.forall_mem_cons.mpr ⟨tb_2 (List.mem_of_getElem? (i := 152) (by decide +kernel)), List.forall_mem_cons.mpr ⟨tb_2 (List.mem_of_getElem? (i := 153) (by decide +kernel)), List.forall_mem_cons.mpr ⟨tb_2 (List.mem_of_getElem? (i := 154) (by decide +kernel)), List.forall_mem_cons.mpr ⟨tb_2 (List.mem_of_getElem? (i := 158) (by decide +kernel)), List.forall_mem_cons.mpr ⟨tb_2 (List.mem_of_getElem? (i := 160) (by decide +kernel)), List.forall_mem_cons.mpr ⟨tb_0 (List.mem_of_getElem? (i := 13) (by decide +kernel)), List.forall_mem_cons.mpr ⟨tb_2 (List.mem_of_getElem? (i := 161) (by decide +kernel)), List.forall_mem_cons.mpr ⟨tb_2 (List.mem_of_getElem? (i := 162) (by decide +kernel)), List.forall_mem_cons.mpr ⟨tb_2 (List.mem_of_getElem? (i := 164) (by decide +kernel)), List.forall_mem_cons.mpr ⟨tb_0 (List.mem_of_getElem? (i := 14) (by decide +kernel)), List.forall_mem_cons.mpr ⟨tb_2 (List.mem_of_getElem? (i := 165) (by decide +kernel)), List.forall_mem_cons.mpr ⟨tb_2 (List.mem_of_getElem? (i := 166) (by decide +kernel)), fun _ h => absurd h List.not_mem_nil⟩⟩⟩⟩⟩⟩⟩⟩⟩⟩⟩⟩⟩⟩⟩⟩⟩⟩⟩⟩⟩⟩⟩⟩
set_option maxRecDepth 20000 in
theorem wsL_law_m17 : ∀ w ∈ wsL_law_r17, w ∈ lw_tbl := List.forall_mem_cons.mpr ⟨tb_2 (List.mem_of_getElem? (i := 168) (by decide +kernel)), List.forall_mem_cons.mpr ⟨tb_0 (List.mem_of_getElem? (i := 15) (by decide +kernel)), List.forall_mem_cons.mpr ⟨tb_2 (List.mem_of_getElem? (i := 169) (by decide +kernel)), List.forall_mem_cons.mpr ⟨tb_2 (List.mem_of_getElem? (i := 170) (by decide +kernel)), List.forall_mem_cons.mpr ⟨tb_2 (List.mem_of_getElem? (i := 171) (by decide +kernel)), List.forall_mem_cons.mpr ⟨tb_2 (List.mem_of_getElem? (i := 172) (by decide +kernel)), List.forall_mem_cons.mpr ⟨tb_2 (List.mem_of_getElem? (i := 173) (by decide +kernel)), List.forall_mem_cons.mpr ⟨tb_2 (List.mem_of_getElem? (i := 187) (by decide +kernel)), List.forall_mem_cons.mpr ⟨tb_2 (List.mem_of_getElem? (i := 188) (by decide +kernel)), List.forall_mem_cons.mpr ⟨tb_2 (List.mem_of_getElem? (i := 189) (by decide +kernel)), List.forall_mem_cons.mpr ⟨tb_2 (List.mem_of_getElem? (i := 174) (by decide +kernel)), List.forall_mem_cons.mpr ⟨tb_2 (List.mem_of_getElem? (i := 175) (by decide +kernel)), List.forall_mem_cons.mpr ⟨tb_2 (List.mem_of_getElem? (i := 176) (by decide +kernel)), List.forall_mem_cons.mpr ⟨tb_2 (List.mem_of_getElem? (i := 177) (by decide +kernel)), List.forall_mem_cons.mpr ⟨tb_2 (List.mem_of_getElem? (i := 178) (by decide +kernel)), List.forall_mem_cons.mpr ⟨tb_2 (List.mem_of_getElem? (i := 179) (by decide +kernel)), List.forall_mem_cons.mpr ⟨tb_2 (List.mem_of_getElem? (i := 180) (by decide +kernel)), List.forall_mem_cons.mpr ⟨tb_2 (List.mem_of_getElem? (i := 181) (by decide +kernel)), List.forall_mem_cons.mpr ⟨tb_2 (List.mem_of_getElem? (i := 182) (by decide +kernel)), List.forall_mem_cons.mpr ⟨tb_2 (List.mem_of_getElem? (i := 183) (by decide +kernel)), List.forall_mem_cons.mpr ⟨tb_2 (List.mem_of_getElem? (i := 184) (by decide +kernel)), List.forall_mem_cons.mpr ⟨tb_2 (List.mem_of_getElem? (i := 185) (by decide +kernel)), List.forall_mem_cons.mpr ⟨tb_2 (List.mem_of_getElem? (i := 186) (by decide +kernel)), List.forall_mem_cons.mpr ⟨tb_2 (List.mem_of_getElem? (i := 190) (by decide +kernel)), fun _ h => absurd h List.not_mem_nil⟩⟩⟩⟩⟩⟩⟩⟩⟩⟩⟩⟩⟩⟩⟩⟩⟩⟩⟩⟩⟩⟩⟩⟩
set_option maxRecDepth 20000 in
theorem wsL_law_m18 : ∀ w ∈ wsL_law_r18, w ∈ lw_tbl := List.forall_mem_cons.mpr ⟨tb_2 (List.mem_of_getElem? (i := 192) (by decide +kernel)), List.forall_mem_cons.mpr ⟨tb_0 (List.mem_of_getElem? (i := 16) (by decide +kernel)), List.forall_mem_cons.mpr ⟨tb_2 (List.mem_of_getElem? (i := 193) (by decide +kernel)), List.forall_mem_cons.mpr ⟨tb_2 (List.mem_of_getElem? (i := 194) (by decide +kernel)), List.forall_mem_cons.mpr ⟨tb_2 (List.mem_of_getElem? (i := 196) (by decide +kernel)), List.forall_mem_cons.mpr ⟨tb_0 (List.mem_of_getElem? (i := 17) (by decide +kernel)), List.forall_mem_cons.mpr ⟨tb_2 (List.mem_of_getElem? (i := 197) (by decide +kernel)), List.forall_mem_cons.mpr ⟨tb_2 (List.mem_of_getElem? (i := 205) (by decide +kernel)), List.forall_mem_cons.mpr ⟨tb_2 (List.mem_of_getElem? (i := 198) (by decide +kernel)), List.forall_mem_cons.mpr ⟨tb_2 (List.mem_of_getElem? (i := 199) (by decide +kernel)), List.forall_mem_cons.mpr ⟨tb_2 (List.mem_of_getElem? (i := 200) (by decide +kernel)), List.forall_mem_cons.mpr ⟨tb_2 (List.mem_of_getElem? (i := 201) (by decide +kernel)), List.forall_mem_cons.mpr ⟨tb_2 (List.mem_of_getElem? (i := 202) (by decide +kernel)), List.forall_mem_cons.mpr ⟨tb_2 (List.mem_of_getElem? (i := 203) (by decide +kernel)), List.forall_mem_cons.mpr ⟨tb_2 (List.mem_of_getElem? (i := 204) (by decide +kernel)), List.forall_mem_cons.mpr ⟨tb_2 (List.mem_of_getElem? (i := 206) (by decide +kernel)), List.forall_mem_cons.mpr ⟨tb_2 (List.mem_of_getElem? (i := 208) (by decide +kernel)), List.forall_mem_cons.mpr ⟨tb_0 (List.mem_of_getElem? (i := 18) (by decide +kernel)), List.forall_mem_cons.mpr ⟨tb_2 (List.mem_of_getElem? (i := 209) (by decide +kernel)), List.forall_mem_cons.mpr ⟨tb_2 (List.mem_of_getElem? (i := 210) (by decide +kernel)), List.forall_mem_cons.mpr ⟨tb_2 (List.mem_of_getElem? (i := 212) (by decide +kernel)), List.forall_mem_cons.mpr ⟨tb_0 (List.mem_of_getElem? (i := 19) (by decide +kernel)), List.forall_mem_cons.mpr ⟨tb_2 (List.mem_of_getElem? (i := 213) (by decide +kernel)), List.forall_mem_cons.mpr ⟨tb_2 (List.mem_of_getElem? (i := 214) (by decide +kernel)), fun _ h => absurd h List.not_mem_nil⟩⟩⟩⟩⟩⟩⟩⟩⟩⟩⟩⟩⟩⟩⟩⟩⟩⟩⟩⟩⟩⟩⟩⟩
set_option maxRecDepth 20000 in
theorem wsL_law_m19 : ∀ w ∈ wsL_law_r19, w ∈ lw_tbl := List.forall_mem_cons.mpr ⟨tb_2 (List.mem_of_getElem? (i := 215) (by decide +kernel)), List.forall_mem_cons.mpr ⟨tb_1 (List.mem_of_getElem? (i := 10) (by decide +kernel)), List.forall_mem_cons.mpr ⟨tb_2 (List.mem_of_getElem? (i := 216) (by decide +kernel)), List.forall_mem_cons.mpr ⟨tb_2 (List.mem_of_getElem? (i := 217) (by decide +kernel)), List.forall_mem_cons.mpr ⟨tb_2 (List.mem_of_getElem? (i := 218) (by decide +kernel)), List.forall_mem_cons.mpr ⟨tb_2 (List.mem_of_getElem? (i := 219) (by decide +kernel)), List.forall_mem_cons.mpr ⟨tb_2 (List.mem_of_getElem? (i := 220) (by decide +kernel)), List.forall_mem_cons.mpr ⟨tb_2 (List.mem_of_getElem? (i := 222) (by decide +kernel)), List.forall_mem_cons.mpr ⟨tb_0 (List.mem_of_getElem? (i := 20) (by decide +kernel)), List.forall_mem_cons.mpr ⟨tb_2 (List.mem_of_getElem? (i := 223) (by decide +kernel)), List.forall_mem_cons.mpr ⟨tb_2 (List.mem_of_getElem? (i := 224) (by decide +kernel)), List.forall_mem_cons.mpr ⟨tb_2 (List.mem_of_getElem? (i := 225) (by decide +kernel)), List.forall_mem_cons.mpr ⟨tb_2 (List.mem_of_getElem? (i := 226) (by decide +kernel)), List.forall_mem_cons.mpr ⟨tb_2 (List.mem_of_getElem? (i := 227) (by decide +kernel)), List.forall_mem_cons.mpr ⟨tb_2 (List.mem_of_getElem? (i := 228) (by decide +kernel)), List.forall_mem_cons.mpr ⟨tb_2 (List.mem_of_getElem? (i := 230) (by decide +kernel)), List.forall_mem_cons.mpr ⟨tb_0 (List.mem_of_getElem? (i := 21) (by decide +kernel)), List.forall_mem_cons.mpr ⟨tb_2 (List.mem_of_getElem? (i := 231) (by decide +kernel)), List.forall_mem_cons.mpr ⟨tb_2 (List.mem_of_getElem? (i := 232) (by decide +kernel)), List.forall_mem_cons.mpr ⟨tb_2 (List.mem_of_getElem? (i := 233) (by decide +kernel)), List.forall_mem_cons.mpr ⟨tb_2 (List.mem_of_getElem? (i := 234) (by decide +kernel)), List.forall_mem_cons.mpr ⟨tb_2 (List.mem_of_getElem? (i := 235) (by decide +kernel)), List.forall_mem_cons.mpr ⟨tb_2 (List.mem_of_getElem? (i := 236) (by decide +kernel)), List.forall_mem_cons.mpr ⟨tb_2 (List.mem_of_getElem? (i := 238) (by decide +kernel)), fun _ h => absurd h List.not_mem_nil⟩⟩⟩⟩⟩⟩⟩⟩⟩⟩⟩⟩⟩⟩⟩⟩⟩⟩⟩⟩⟩⟩⟩⟩
set_option maxRecDepth 20000 in
theorem wsL_law_m20 : ∀ w ∈ wsL_law_r20, w ∈ lw_tbl := List.forall_mem_cons.mpr ⟨tb_0 (List.mem_of_getElem? (i := 22) (by decide +kernel)), List.forall_mem_cons.mpr ⟨tb_2 (List.mem_of_getElem? (i := 239) (by decide +kernel)), List.forall_mem_cons.mpr ⟨tb_3 (List.mem_of_getElem? (i := 0) (by decide +kernel)), List.forall_mem_cons.mpr ⟨tb_3 (List.mem_of_getElem? (i := 2) (by decide +kernel)), List.forall_mem_cons.mpr ⟨tb_0 (List.mem_of_getElem? (i := 23) (by decide +kernel)), List.forall_mem_cons.mpr ⟨tb_3 (List.mem_of_getElem? (i := 3) (by decide +kernel)), List.forall_mem_cons.mpr ⟨tb_1 (List.mem_of_getElem? (i := 132) (by decide +kernel)), List.forall_mem_cons.mpr ⟨tb_3 (List.mem_of_getElem? (i := 4) (by decide +kernel)), List.forall_mem_cons.mpr ⟨tb_3 (List.mem_of_getElem? (i := 5) (by decide +kernel)), List.forall_mem_cons.mpr ⟨tb_3 (List.mem_of_getElem? (i := 6) (by decide +kernel)), List.forall_mem_cons.mpr ⟨tb_3 (List.mem_of_getElem? (i := 7) (by decide +kernel)), List.forall_mem_cons.mpr ⟨tb_3 (List.mem_of_getElem? (i := 8) (by decide +kernel)), List.forall_mem_cons.mpr ⟨tb_3 (List.mem_of_getElem? (i := 9) (by decide +kernel)), List.forall_mem_cons.mpr ⟨tb_3 (List.mem_of_getElem? (i := 10) (by decide +kernel)), List.forall_mem_cons.mpr ⟨tb_3 (List.mem_of_getElem? (i := 11) (by decide +kernel)), List.forall_mem_cons.mpr ⟨tb_3 (List.mem_of_getElem? (i := 12) (by decide +kernel)), List.forall_mem_cons.mpr ⟨tb_3 (List.mem_of_getElem? (i := 13) (by decide +kernel)), List.forall_mem_cons.mpr ⟨tb_3 (List.mem_of_getElem? (i := 14) (by decide +kernel)), List.forall_mem_cons.mpr ⟨tb_3 (List.mem_of_getElem? (i := 15) (by decide +kernel)), List.forall_mem_cons.mpr ⟨tb_3 (List.mem_of_getElem? (i := 16) (by decide +kernel)), List.forall_mem_cons.mpr ⟨tb_3 (List.mem_of_getElem? (i := 235) (by decide +kernel)), List.forall_mem_cons.mpr ⟨tb_3 (List.mem_of_getElem? (i := 236) (by decide +kernel)), List.forall_mem_cons.mpr ⟨tb_3 (List.mem_of_getElem? (i := 237) (by decide +kernel)), List.forall_mem_cons.mpr ⟨tb_3 (List.mem_of_getElem? (i := 238) (by decide +kernel)), fun _ h => absurd h List.not_mem_nil⟩⟩⟩⟩⟩⟩⟩⟩⟩⟩⟩⟩⟩⟩⟩⟩⟩⟩⟩⟩⟩⟩⟩⟩
set_option maxRecDepth 20000 in
theorem wsL_law_m21 : ∀ w ∈ wsL_law_r21, w ∈ lw_tbl := List.forall_mem_cons.mpr ⟨tb_3 (List.mem_of_getElem? (i := 86) (by decide +kernel)), List.forall_mem_cons.mpr ⟨tb_3 (List.mem_of_getElem? (i := 83) (by decide +kernel)), List.forall_mem_cons.mpr ⟨tb_3 (List.mem_of_getElem? (i := 239) (by decide +kernel)), List.forall_mem_cons.mpr ⟨tb_4 (List.mem_of_getElem? (i := 1) (by decide +kernel)), List.forall_mem_cons.mpr ⟨tb_0 (List.mem_of_getElem? (i := 33) (by decide +kernel)), List.forall_mem_cons.mpr ⟨tb_4 (List.mem_of_getElem? (i := 2) (by decide +kernel)), List.forall_mem_cons.mpr ⟨tb_3 (List.mem_of_getElem? (i := 97) (by decide +kernel)), List.forall_mem_cons.mpr ⟨tb_4 (List.mem_of_getElem? (i := 3) (by decide +kernel)), List.forall_mem_cons.mpr ⟨tb_4 (List.mem_of_getElem? (i := 5) (by decide +kernel)), List.forall_mem_cons.mpr ⟨tb_0 (List.mem_of_getElem? (i := 34) (by decide +kernel)), List.forall_mem_cons.mpr ⟨tb_4 (List.mem_of_getElem? (i := 6) (by decide +kernel)), List.forall_mem_cons.mpr ⟨tb_4 (List.mem_of_getElem? (i := 7) (by decide +kernel)), List.forall_mem_cons.mpr ⟨tb_4 (List.mem_of_getElem? (i := 9) (by decide +kernel)), List.forall_mem_cons.mpr ⟨tb_0 (List.mem_of_getElem? (i := 35) (by decide +kernel)), List.forall_mem_cons.mpr ⟨tb_4 (List.mem_of_getElem? (i := 10) (by decide +kernel)), List.forall_mem_cons.mpr ⟨tb_4 (List.mem_of_getElem? (i := 11) (by decide +kernel)), List.forall_mem_cons.mpr ⟨tb_4 (List.mem_of_getElem? (i := 13) (by decide +kernel)), List.forall_mem_cons.mpr ⟨tb_0 (List.mem_of_getElem? (i := 36) (by decide +kernel)), List.forall_mem_cons.mpr ⟨tb_4 (List.mem_of_getElem? (i := 14) (by decide +kernel)), List.forall_mem_cons.mpr ⟨tb_4 (List.mem_of_getElem? (i := 15) (by decide +kernel)), List.forall_mem_cons.mpr ⟨tb_4 (List.mem_of_getElem? (i := 17) (by decide +kernel)), List.forall_mem_cons.mpr ⟨tb_0 (List.mem_of_getElem? (i := 37) (by decide +kernel)), List.forall_mem_cons.mpr ⟨tb_4 (List.mem_of_getElem? (i := 18) (by decide +kernel)), List.forall_mem_cons.mpr ⟨tb_4 (List.mem_of_getElem? (i := 19) (by decide +kernel)), fun _ h => absurd h List.not_mem_nil⟩⟩⟩⟩⟩⟩⟩⟩⟩⟩⟩⟩⟩⟩⟩⟩⟩⟩⟩⟩⟩⟩⟩⟩
set_option maxRecDepth 20000 in
theorem wsL_law_m22 : ∀ w ∈ wsL_law_r22, w ∈ lw_tbl := List.forall_mem_cons.mpr ⟨tb_4 (List.mem_of_getElem? (i := 21) (by decide +kernel)), List.forall_mem_cons.mpr ⟨tb_0 (List.mem_of_getElem? (i := 38) (by decide +kernel)), List.forall_mem_cons.mpr ⟨tb_4 (List.mem_of_getElem? (i := 22) (by decide +kernel)), List.forall_mem_cons.mpr ⟨tb_4 (List.mem_of_getElem? (i := 23) (by decide +kernel)), List.forall_mem_cons.mpr ⟨tb_4 (List.mem_of_getElem? (i := 25) (by decide +kernel)), List.forall_mem_cons.mpr ⟨tb_0 (List.mem_of_getElem? (i := 39) (by decide +kernel)), List.forall_mem_cons.mpr ⟨tb_4 (List.mem_of_getElem? (i := 26) (by decide +kernel)), List.forall_mem_cons.mpr ⟨tb_4 (List.mem_of_getElem? (i := 27) (by decide +kernel)), List.forall_mem_cons.mpr ⟨tb_4 (List.mem_of_getElem? (i := 29) (by decide +kernel)), List.forall_mem_cons.mpr ⟨tb_0 (List.mem_of_getElem? (i := 40) (by decide +kernel)), List.forall_mem_cons.mpr ⟨tb_4 (List.mem_of_getElem? (i := 30) (by decide +kernel)), List.forall_mem_cons.mpr ⟨tb_4 (List.mem_of_getElem? (i := 31) (by decide +kernel)), List.forall_mem_cons.mpr ⟨tb_4 (List.mem_of_getElem? (i := 33) (by decide +kernel)), List.forall_mem_cons.mpr ⟨tb_0 (List.mem_of_getElem? (i := 41) (by decide +kernel)), List.forall_mem_cons.mpr ⟨tb_4 (List.mem_of_getElem? (i := 34) (by decide +kernel)), List.forall_mem_cons.mpr ⟨tb_4 (List.mem_of_getElem? (i := 35) (by decide +kernel)), List.forall_mem_cons.mpr ⟨tb_4 (List.mem_of_getElem? (i := 37) (by decide +kernel)), List.forall_mem_cons.mpr ⟨tb_0 (List.mem_of_getElem? (i := 42) (by decide +kernel)), List.forall_mem_cons.mpr ⟨tb_4 (List.mem_of_getElem? (i := 38) (by decide +kernel)), List.forall_mem_cons.mpr ⟨tb_4 (List.mem_of_getElem? (i := 39) (by decide +kernel)), List.forall_mem_cons.mpr ⟨tb_4 (List.mem_of_getElem? (i := 41) (by decide +kernel)), List.forall_mem_cons.mpr ⟨tb_0 (List.mem_of_getElem? (i := 43) (by decide +kernel)), List.forall_mem_cons.mpr ⟨tb_4 (List.mem_of_getElem? (i := 42) (by decide +kernel)), List.forall_mem_cons.mpr ⟨tb_4 (List.mem_of_getElem? (i := 43) (by decide +kernel)), fun _ h => absurd h List.not_mem_nil⟩⟩⟩⟩⟩⟩⟩⟩⟩⟩⟩⟩⟩⟩⟩⟩⟩⟩⟩⟩⟩⟩⟩⟩
set_option maxRecDepth 20000 in
theorem wsL_law_m23 : ∀ w ∈ wsL_law_r23, w ∈ lw_tbl := List.forall_mem_cons.mpr ⟨tb_4 (List.mem_of_getElem? (i := 45) (by decide +kernel)), List.forall_mem_cons.mpr ⟨tb_0 (List.mem_of_getElem? (i := 44) (by decide +kernel)), List.forall_mem_cons.mpr ⟨tb_4 (List.mem_of_getElem? (i := 46) (by decide +kernel)), List.forall_mem_cons.mpr ⟨tb_4 (List.mem_of_getElem? (i := 47) (by decide +kernel)), List.forall_mem_cons.mpr ⟨tb_4 (List.mem_of_getElem? (i := 49) (by decide +kernel)), List.forall_mem_cons.mpr ⟨tb_0 (List.mem_of_getElem? (i := 45) (by decide +kernel)), List.forall_mem_cons.mpr ⟨tb_4 (List.mem_of_getElem? (i := 50) (by decide +kernel)), List.forall_mem_cons.mpr ⟨tb_4 (List.mem_of_getElem? (i := 51) (by decide +kernel)), List.forall_mem_cons.mpr ⟨tb_4 (List.mem_of_getElem? (i := 53) (by decide +kernel)), List.forall_mem_cons.mpr ⟨tb_0 (List.mem_of_getElem? (i := 46) (by decide +kernel)), List.forall_mem_cons.mpr ⟨tb_4 (List.mem_of_getElem? (i := 54) (by decide +kernel)), List.forall_mem_cons.mpr ⟨tb_3 (List.mem_of_getElem? (i := 98) (by decide +kernel)), List.forall_mem_cons.mpr ⟨tb_4 (List.mem_of_getElem? (i := 55) (by decide +kernel)), List.forall_mem_cons.mpr ⟨tb_4 (List.mem_of_getElem? (i := 57) (by decide +kernel)), List.forall_mem_cons.mpr ⟨tb_0 (List.mem_of_getElem? (i := 47) (by decide +kernel)), List.forall_mem_cons.mpr ⟨tb_4 (List.mem_of_getElem? (i := 58) (by decide +kernel)), List.forall_mem_cons.mpr ⟨tb_4 (List.mem_of_getElem? (i := 59) (by decide +kernel)), List.forall_mem_cons.mpr ⟨tb_4 (List.mem_of_getElem? (i := 61) (by decide +kernel)), List.forall_mem_cons.mpr ⟨tb_0 (List.mem_of_getElem? (i := 48) (by decide +kernel)), List.forall_mem_cons.mpr ⟨tb_4 (List.mem_of_getElem? (i := 62) (by decide +kernel)), List.forall_mem_cons.mpr ⟨tb_4 (List.mem_of_getElem? (i := 63) (by decide +kernel)), List.forall_mem_cons.mpr ⟨tb_4 (List.mem_of_getElem? (i := 65) (by decide +kernel)), List.forall_mem_cons.mpr ⟨tb_0 (List.mem_of_getElem? (i := 49) (by decide +kernel)), List.forall_mem_cons.mpr ⟨tb_4 (List.mem_of_getElem? (i := 66) (by decide +kernel)), fun _ h => absurd h List.not_mem_nil⟩⟩⟩⟩⟩⟩⟩⟩⟩⟩⟩⟩⟩⟩⟩⟩⟩⟩⟩⟩⟩⟩⟩⟩
set_option maxRecDepth 20000 in
theorem wsL_law_m24 : ∀ w ∈ wsL_law_r24, w ∈ lw_tbl := List.forall_mem_cons.mpr ⟨tb_4 (List.mem_of_getElem? (i := 67) (by decide +kernel)), List.forall_mem_cons.mpr ⟨tb_4 (List.mem_of_getElem? (i := 68) (by decide +kernel)), List.forall_mem_cons.mpr ⟨tb_4 (List.mem_of_getElem? (i := 69) (by decide +kernel)), List.forall_mem_cons.mpr ⟨tb_4 (List.mem_of_getElem? (i := 70) (by decide +kernel)), List.forall_mem_cons.mpr ⟨tb_4 (List.mem_of_getElem? (i := 72) (by decide +kernel)), List.forall_mem_cons.mpr ⟨tb_0 (List.mem_of_getElem? (i := 50) (by decide +kernel)), List.forall_mem_cons.mpr ⟨tb_4 (List.mem_of_getElem? (i := 73) (by decide +kernel)), List.forall_mem_cons.mpr ⟨tb_4 (List.mem_of_getElem? (i := 74) (by decide +kernel)), List.forall_mem_cons.mpr ⟨tb_4 (List.mem_of_getElem? (i := 75) (by decide +kernel)), List.forall_mem_cons.mpr ⟨tb_4 (List.mem_of_getElem? (i := 76) (by decide +kernel)), List.forall_mem_cons.mpr ⟨tb_4 (List.mem_of_getElem? (i := 77) (by decide +kernel)), List.forall_mem_cons.mpr ⟨tb_4 (List.mem_of_getElem? (i := 79) (by decide +kernel)), List.forall_mem_cons.mpr ⟨tb_0 (List.mem_of_getElem? (i := 51) (by decide +kernel)), List.forall_mem_cons.mpr ⟨tb_4 (List.mem_of_getElem? (i := 80) (by decide +kernel)), List.forall_mem_cons.mpr ⟨tb_4 (List.mem_of_getElem? (i := 81) (by decide +kernel)), List.forall_mem_cons.mpr ⟨tb_4 (List.mem_of_getElem? (i := 83) (by decide +kernel)), List.forall_mem_cons.mpr ⟨tb_0 (List.mem_of_getElem? (i := 52) (by decide +kernel)), List.forall_mem_cons.mpr ⟨tb_4 (List.mem_of_getElem? (i := 84) (by decide +kernel)), List.forall_mem_cons.mpr ⟨tb_3 (List.mem_of_getElem? (i := 99) (by decide +kernel)), List.forall_mem_cons.mpr ⟨tb_4 (List.mem_of_getElem? (i := 85) (by decide +kernel)), List.forall_mem_cons.mpr ⟨tb_4 (List.mem_of_getElem? (i := 87) (by decide +kernel)), List.forall_mem_cons.mpr ⟨tb_0 (List.mem_of_getElem? (i := 53) (by decide +kernel)), List.forall_mem_cons.mpr ⟨tb_4 (List.mem_of_getElem? (i := 88) (by decide +kernel)), List.forall_mem_cons.mpr ⟨tb_4 (List.mem_of_getElem? (i := 89) (by decide +kernel)), fun _ h => absurd h List.not_mem_nil⟩⟩⟩⟩⟩⟩⟩⟩⟩⟩⟩⟩⟩⟩⟩⟩⟩⟩⟩⟩⟩⟩⟩⟩
set_option maxRecDepth 20000 in
theorem wsL_law_m25 : ∀ w ∈ wsL_law_r25, w ∈ lw_tbl := List.forall_mem_cons.mpr ⟨tb_4 (List.mem_of_getElem? (i := 90) (by decide +kernel)), List.forall_mem_cons.mpr ⟨tb_4 (List.mem_of_getElem? (i := 91) (by decide +kernel)), List.forall_mem_cons.mpr ⟨tb_4 (List.mem_of_getElem? (i := 92) (by decide +kernel)), List.forall_mem_cons.mpr ⟨tb_4 (List.mem_of_getElem? (i := 94) (by decide +kernel)), List.forall_mem_cons.mpr ⟨tb_0 (List.mem_of_getElem? (i := 54) (by decide +kernel)), List.forall_mem_cons.mpr ⟨tb_4 (List.mem_of_getElem? (i := 95) (by decide +kernel)), List.forall_mem_cons.mpr ⟨tb_3 (List.mem_of_getElem? (i := 88) (by decide +kernel)), List.forall_mem_cons.mpr ⟨tb_4 (List.mem_of_getElem? (i := 96) (by decide +kernel)), List.forall_mem_cons.mpr ⟨tb_4 (List.mem_of_getElem? (i := 97) (by decide +kernel)), List.forall_mem_cons.mpr ⟨tb_4 (List.mem_of_getElem? (i := 98) (by decide +kernel)), List.forall_mem_cons.mpr ⟨tb_3 (List.mem_of_getElem? (i := 17) (by decide +kernel)), List.forall_mem_cons.mpr ⟨tb_3 (List.mem_of_getElem? (i := 18) (by decide +kernel)), List.forall_mem_cons.mpr ⟨tb_3 (List.mem_of_getElem? (i := 19) (by decide +kernel)), List.forall_mem_cons.mpr ⟨tb_3 (List.mem_of_getElem? (i := 20) (by decide +kernel)), List.forall_mem_cons.mpr ⟨tb_3 (List.mem_of_getElem? (i := 21) (by decide +kernel)), List.forall_mem_cons.mpr ⟨tb_3 (List.mem_of_getElem? (i := 22) (by decide +kernel)), List.forall_mem_cons.mpr ⟨tb_3 (List.mem_of_getElem? (i := 23) (by decide +kernel)), List.forall_mem_cons.mpr ⟨tb_3 (List.mem_of_getElem? (i := 24) (by decide +kernel)), List.forall_mem_cons.mpr ⟨tb_1 (List.mem_of_getElem? (i := 129) (by decide +kernel)), List.forall_mem_cons.mpr ⟨tb_4 (List.mem_of_getElem? (i := 99) (by decide +kernel)), List.forall_mem_cons.mpr ⟨tb_4 (List.mem_of_getElem? (i := 100) (by decide +kernel)), List.forall_mem_cons.mpr ⟨tb_4 (List.mem_of_getElem? (i := 101) (by decide +kernel)), List.forall_mem_cons.mpr ⟨tb_4 (List.mem_of_getElem? (i := 102) (by decide +kernel)), List.forall_mem_cons.mpr ⟨tb_3 (List.mem_of_getElem? (i := 25) (by decide +kernel)), fun _ h => absurd h List.not_mem_nil⟩⟩⟩⟩⟩⟩⟩⟩⟩⟩⟩⟩⟩⟩⟩⟩⟩⟩⟩⟩⟩⟩⟩⟩
set_option maxRecDepth 20000 in
theorem wsL_law_m26 : ∀ w ∈ wsL_law_r26, w ∈ lw_tbl := List.forall_mem_cons.mpr ⟨tb_3 (List.mem_of_getElem? (i := 26) (by decide +kernel)), List.forall_mem_cons.mpr ⟨tb_3 (List.mem_of_getElem? (i := 27) (by decide +kernel)), List.forall_mem_cons.mpr ⟨tb_3 (List.mem_of_getElem? (i := 28) (by decide +kernel)), List.forall_mem_cons.mpr ⟨tb_1 (List.mem_of_getElem? (i := 167) (by decide +kernel)), List.forall_mem_cons.mpr ⟨tb_4 (List.mem_of_getElem? (i := 103) (by decide +kernel)), List.forall_mem_cons.mpr ⟨tb_4 (List.mem_of_getElem? (i := 104) (by decide +kernel)), List.forall_mem_cons.mpr ⟨tb_4 (List.mem_of_getElem? (i := 105) (by decide +kernel)), List.forall_mem_cons.mpr ⟨tb_4 (List.mem_of_getElem? (i := 106) (by decide +kernel)), List.forall_mem_cons.mpr ⟨tb_3 (List.mem_of_getElem? (i := 29) (by decide +kernel)), List.forall_mem_cons.mpr ⟨tb_3 (List.mem_of_getElem? (i := 30) (by decide +kernel)), List.forall_mem_cons.mpr ⟨tb_3 (List.mem_of_getElem? (i := 31) (by decide +kernel)), List.forall_mem_cons.mpr ⟨tb_3 (List.mem_of_getElem? (i := 32) (by decide +kernel)), List.forall_mem_cons.mpr ⟨tb_1 (List.mem_of_getElem? (i := 114) (by decide +kernel)), List.forall_mem_cons.mpr ⟨tb_4 (List.mem_of_getElem? (i := 107) (by decide +kernel)), List.forall_mem_cons.mpr ⟨tb_4 (List.mem_of_getElem? (i := 108) (by decide +kernel)), List.forall_mem_cons.mpr ⟨tb_4 (List.mem_of_getElem? (i := 109) (by decide +kernel)), List.forall_mem_cons.mpr ⟨tb_4 (List.mem_of_getElem? (i := 110) (by decide +kernel)), List.forall_mem_cons.mpr ⟨tb_3 (List.mem_of_getElem? (i := 33) (by decide +kernel)), List.forall_mem_cons.mpr ⟨tb_3 (List.mem_of_getElem? (i := 34) (by decide +kernel)), List.forall_mem_cons.mpr ⟨tb_3 (List.mem_of_getElem? (i := 35) (by decide +kernel)), List.forall_mem_cons.mpr ⟨tb_3 (List.mem_of_getElem? (i := 36) (by decide +kernel)), List.forall_mem_cons.mpr ⟨tb_1 (List.mem_of_getElem? (i := 133) (by decide +kernel)), List.forall_mem_cons.mpr ⟨tb_3 (List.mem_of_getElem? (i := 37) (by decide +kernel)), List.forall_mem_cons.mpr ⟨tb_3 (List.mem_of_getElem? (i := 38) (by decide +kernel)), fun _ h => absurd h List.not_mem_nil⟩⟩⟩⟩⟩⟩⟩⟩⟩⟩⟩⟩⟩⟩⟩⟩⟩⟩⟩⟩⟩⟩⟩⟩
set_option maxRecDepth 20000 in
theorem wsL_law_m27 : ∀ w ∈ wsL_law_r27, w ∈ lw_tbl := List.forall_mem_cons.mpr ⟨tb_3 (List.mem_of_getElem? (i := 39) (by decide +kernel)), List.forall_mem_cons.mpr ⟨tb_3 (List.mem_of_getElem? (i := 40) (by decide +kernel)), List.forall_mem_cons.mpr ⟨tb_4 (List.mem_of_getElem? (i := 111) (by decide +kernel)), List.forall_mem_cons.mpr ⟨tb_4 (List.mem_of_getElem? (i := 112) (by decide +kernel)), List.forall_mem_cons.mpr ⟨tb_4 (List.mem_of_getElem? (i := 113) (by decide +kernel)), List.forall_mem_cons.mpr ⟨tb_4 (List.mem_of_getElem? (i := 114) (by decide +kernel)), List.forall_mem_cons.mpr ⟨tb_3 (List.mem_of_getElem? (i := 41) (by decide +kernel)), List.forall_mem_cons.mpr ⟨tb_3 (List.mem_of_getElem? (i := 42) (by decide +kernel)), List.forall_mem_cons.mpr ⟨tb_3 (List.mem_of_getElem? (i := 43) (by decide +kernel)), List.forall_mem_cons.mpr ⟨tb_3 (List.mem_of_getElem? (i := 44) (by decide +kernel)), List.forall_mem_cons.mpr ⟨tb_1 (List.mem_of_getElem? (i := 160) (by decide +kernel)), List.forall_mem_cons.mpr ⟨tb_1 (List.mem_of_getElem? (i := 36) (by decide +kernel)), List.forall_mem_cons.mpr ⟨tb_4 (List.mem_of_getElem? (i := 115) (by decide +kernel)), List.forall_mem_cons.mpr ⟨tb_4 (List.mem_of_getElem? (i := 116) (by decide +kernel)), List.forall_mem_cons.mpr ⟨tb_4 (List.mem_of_getElem? (i := 117) (by decide +kernel)), List.forall_mem_cons.mpr ⟨tb_4 (List.mem_of_getElem? (i := 118) (by decide +kernel)), List.forall_mem_cons.mpr ⟨tb_3 (List.mem_of_getElem? (i := 45) (by decide +kernel)), List.forall_mem_cons.mpr ⟨tb_3 (List.mem_of_getElem? (i := 46) (by decide +kernel)), List.forall_mem_cons.mpr ⟨tb_3 (List.mem_of_getElem? (i := 47) (by decide +kernel)), List.forall_mem_cons.mpr ⟨tb_3 (List.mem_of_getElem? (i := 48) (by decide +kernel)), List.forall_mem_cons.mpr ⟨tb_1 (List.mem_of_getElem? (i := 34) (by decide +kernel)), List.forall_mem_cons.mpr ⟨tb_1 (List.mem_of_getElem? (i := 41) (by decide +kernel)), List.forall_mem_cons.mpr ⟨tb_1 (List.mem_of_getElem? (i := 47) (by decide +kernel)), List.forall_mem_cons.mpr ⟨tb_4 (List.mem_of_getElem? (i := 119) (by decide +kernel)), fun _ h => absurd h List.not_mem_nil⟩⟩⟩⟩⟩⟩⟩⟩⟩⟩⟩⟩⟩⟩⟩⟩⟩⟩⟩⟩⟩⟩⟩⟩
set_option maxRecDepth 20000 in
theorem wsL_law_m28 : ∀ w ∈ wsL_law_r28, w ∈ lw_tbl := List.forall_mem_cons.mpr ⟨tb_4 (List.mem_of_getElem? (i := 120) (by decide +kernel)), List.forall_mem_cons.mpr ⟨tb_4 (List.mem_of_getElem? (i := 121) (by decide +kernel)), List.forall_mem_cons.mpr ⟨tb_4 (List.mem_of_getElem? (i := 122) (by decide +kernel)), List.forall_mem_cons.mpr ⟨tb_4 (List.mem_of_getElem? (i := 123) (by decide +kernel)), List.forall_mem_cons.mpr ⟨tb_4 (List.mem_of_getElem? (i := 125) (by decide +kernel)), List.forall_mem_cons.mpr ⟨tb_0 (List.mem_of_getElem? (i := 55) (by decide +kernel)), List.forall_mem_cons.mpr ⟨tb_4 (List.mem_of_getElem? (i := 126) (by decide +kernel)), List.forall_mem_cons.mpr ⟨tb_4 (List.mem_of_getElem? (i := 127) (by decide +kernel)), List.forall_mem_cons.mpr ⟨tb_4 (List.mem_of_getElem? (i := 129) (by decide +kernel)), List.forall_mem_cons.mpr ⟨tb_0 (List.mem_of_getElem? (i := 56) (by decide +kernel)), List.forall_mem_cons.mpr ⟨tb_4 (List.mem_of_getElem? (i := 130) (by decide +kernel)), List.forall_mem_cons.mpr ⟨tb_3 (List.mem_of_getElem? (i := 49) (by decide +kernel)), List.forall_mem_cons.mpr ⟨tb_3 (List.mem_of_getElem? (i := 50) (by decide +kernel)), List.forall_mem_cons.mpr ⟨tb_3 (List.mem_of_getElem? (i := 51) (by decide +kernel)), List.forall_mem_cons.mpr ⟨tb_3 (List.mem_of_getElem? (i := 52) (by decide +kernel)), List.forall_mem_cons.mpr ⟨tb_1 (List.mem_of_getElem? (i := 43) (by decide +kernel)), List.forall_mem_cons.mpr ⟨tb_1 (List.mem_of_getElem? (i := 45) (by decide +kernel)), List.forall_mem_cons.mpr ⟨tb_1 (List.mem_of_getElem? (i := 75) (by decide +kernel)), List.forall_mem_cons.mpr ⟨tb_1 (List.mem_of_getElem? (i := 139) (by decide +kernel)), List.forall_mem_cons.mpr ⟨tb_4 (List.mem_of_getElem? (i := 131) (by decide +kernel)), List.forall_mem_cons.mpr ⟨tb_4 (List.mem_of_getElem? (i := 132) (by decide +kernel)), List.forall_mem_cons.mpr ⟨tb_4 (List.mem_of_getElem? (i := 133) (by decide +kernel)), List.forall_mem_cons.mpr ⟨tb_4 (List.mem_of_getElem? (i := 134) (by decide +kernel)), List.forall_mem_cons.mpr ⟨tb_4 (List.mem_of_getElem? (i := 135) (by decide +kernel)), fun _ h => absurd h List.not_mem_nil⟩⟩⟩⟩⟩⟩⟩⟩⟩⟩⟩⟩⟩⟩⟩⟩⟩⟩⟩⟩⟩⟩⟩⟩
set_option maxRecDepth 20000 in
theorem wsL_law_m29 : ∀ w ∈ wsL_law_r29, w ∈ lw_tbl := List.forall_mem_cons.mpr ⟨tb_4 (List.mem_of_getElem? (i := 137) (by decide +kernel)), List.forall_mem_cons.mpr ⟨tb_0 (List.mem_of_getElem? (i := 57) (by decide +kernel)), List.forall_mem_cons.mpr ⟨tb_4 (List.mem_of_getElem? (i := 138) (by decide +kernel)), List.forall_mem_cons.mpr ⟨tb_3 (List.mem_of_getElem? (i := 53) (by decide +kernel)), List.forall_mem_cons.mpr ⟨tb_3 (List.mem_of_getElem? (i := 54) (by decide +kernel)), List.forall_mem_cons.mpr ⟨tb_3 (List.mem_of_getElem? (i := 55) (by decide +kernel)), List.forall_mem_cons.mpr ⟨tb_3 (List.mem_of_getElem? (i := 56) (by decide +kernel)), List.forall_mem_cons.mpr ⟨tb_3 (List.mem_of_getElem? (i := 57) (by decide +kernel)), List.forall_mem_cons.mpr ⟨tb_3 (List.mem_of_getElem? (i := 62) (by decide +kernel)), List.forall_mem_cons.mpr ⟨tb_3 (List.mem_of_getElem? (i := 58) (by decide +kernel)), List.forall_mem_cons.mpr ⟨tb_3 (List.mem_of_getElem? (i := 60) (by decide +kernel)), List.forall_mem_cons.mpr ⟨tb_0 (List.mem_of_getElem? (i := 24) (by decide +kernel)), List.forall_mem_cons.mpr ⟨tb_3 (List.mem_of_getElem? (i := 61) (by decide +kernel)), List.forall_mem_cons.mpr ⟨tb_3 (List.mem_of_getElem? (i := 63) (by decide +kernel)), List.forall_mem_cons.mpr ⟨tb_3 (List.mem_of_getElem? (i := 64) (by decide +kernel)), List.forall_mem_cons.mpr ⟨tb_4 (List.mem_of_getElem? (i := 139) (by decide +kernel)), List.forall_mem_cons.mpr ⟨tb_4 (List.mem_of_getElem? (i := 140) (by decide +kernel)), List.forall_mem_cons.mpr ⟨tb_4 (List.mem_of_getElem? (i := 141) (by decide +kernel)), List.forall_mem_cons.mpr ⟨tb_4 (List.mem_of_getElem? (i := 142) (by decide +kernel)), List.forall_mem_cons.mpr ⟨tb_4 (List.mem_of_getElem? (i := 143) (by decide +kernel)), List.forall_mem_cons.mpr ⟨tb_3 (List.mem_of_getElem? (i := 100) (by decide +kernel)), List.forall_mem_cons.mpr ⟨tb_4 (List.mem_of_getElem? (i := 144) (by decide +kernel)), List.forall_mem_cons.mpr ⟨tb_4 (List.mem_of_getElem? (i := 146) (by decide +kernel)), List.forall_mem_cons.mpr ⟨tb_0 (List.mem_of_getElem? (i := 58) (by decide +kernel)), fun _ h => absurd h List.not_mem_nil⟩⟩⟩⟩⟩⟩⟩⟩⟩⟩⟩⟩⟩⟩⟩⟩⟩⟩⟩⟩⟩⟩⟩⟩
set_option maxRecDepth 20000 in
theorem wsL_law_m30 : ∀ w ∈ wsL_law_r30, w ∈ lw_tbl := List.forall_mem_cons.mpr ⟨tb_4 (List.mem_of_getElem? (i := 147) (by decide +kernel)), List.forall_mem_cons.mpr ⟨tb_4 (List.mem_of_getElem? (i := 148) (by decide +kernel)), List.forall_mem_cons.mpr ⟨tb_4 (List.mem_of_getElem? (i := 150) (by decide +kernel)), List.forall_mem_cons.mpr ⟨tb_0 (List.mem_of_getElem? (i := 59) (by decide +kernel)), List.forall_mem_cons.mpr ⟨tb_4 (List.mem_of_getElem? (i := 151) (by decide +kernel)), List.forall_mem_cons.mpr ⟨tb_4 (List.mem_of_getElem? (i := 152) (by decide +kernel)), fun _ h => absurd h List.not_mem_nil⟩⟩⟩⟩⟩⟩
set_option maxRecDepth 20000 in
theorem wsL_law_kwsX80 : ∀ w ∈ wsX80, w ∈ lw_tbl := by decide +kernel
set_option maxRecDepth 20000 in
theorem wsL_law_kwsX90 : ∀ w ∈ wsX90, w ∈ lw_tbl := by decide +kernel
set_option maxRecDepth 20000 in
theorem wsL_law_kwsX10 : ∀ w ∈ wsX10, w ∈ lw_tbl := by decide +kernel
set_option maxRecDepth 20000 in
theorem wsL_law_kwsX40 : ∀ w ∈ wsX40, w ∈ lw_tbl := by decide +kernel
set_option maxRecDepth 20000 in
theorem wsL_law_kwsX30 : ∀ w ∈ wsX30, w ∈ lw_tbl := by decide +kernel
set_option maxRecDepth 20000 in
theorem wsL_law_kwsX70 : ∀ w ∈ wsX70, w ∈ lw_tbl := by decide +kernel
set_option maxRecDepth 20000 in
theorem wsL_law_kwsX00 : ∀ w ∈ wsX00, w ∈ lw_tbl := by decide +kernel
set_option maxRecDepth 20000 in
theorem wsL_law_kwsX20 : ∀ w ∈ wsX20, w ∈ lw_tbl := by decide +kernel
theorem wsL_law_in : ∀ w ∈ wsL_law, w ∈ lw_tbl := by
  unfold wsL_law
  exact List.forall_mem_append.mpr ⟨List.forall_mem_append.mpr ⟨List.forall_mem_append.mpr ⟨List.forall_mem_append.mpr ⟨List.forall_mem_append.mpr ⟨List.forall_mem_append.mpr ⟨List.forall_mem_append.mpr ⟨List.forall_mem_append.mpr ⟨List.forall_mem_append.mpr ⟨List.forall_mem_append.mpr ⟨wsL_law_m1, List.forall_mem_append.mpr ⟨wsL_law_m2, List.forall_mem_append.mpr ⟨wsL_law_m3, List.forall_mem_append.mpr ⟨wsL_law_m4, List.forall_mem_append.mpr ⟨wsL_law_m5, List.forall_mem_append.mpr ⟨wsL_law_m6, List.forall_mem_append.mpr ⟨wsL_law_m7, List.forall_mem_append.mpr ⟨wsL_law_m8, List.forall_mem_append.mpr ⟨wsL_law_m9, List.forall_mem_append.mpr ⟨wsL_law_m10, List.forall_mem_append.mpr ⟨wsL_law_m11, List.forall_mem_append.mpr ⟨wsL_law_m12, List.forall_mem_append.mpr ⟨wsL_law_m13, List.forall_mem_append.mpr ⟨wsL_law_m14, List.forall_mem_append.mpr ⟨wsL_law_m15, List.forall_mem_append.mpr ⟨wsL_law_m16, List.forall_mem_append.mpr ⟨wsL_law_m17, List.forall_mem_append.mpr ⟨wsL_law_m18, List.forall_mem_append.mpr ⟨wsL_law_m19, List.forall_mem_append.mpr ⟨wsL_law_m20, List.forall_mem_append.mpr ⟨wsL_law_m21, List.forall_mem_append.mpr ⟨wsL_law_m22, List.forall_mem_append.mpr ⟨wsL_law_m23, List.forall_mem_append.mpr ⟨wsL_law_m24, List.forall_mem_append.mpr ⟨wsL_law_m25, List.forall_mem_append.mpr ⟨wsL_law_m26, List.forall_mem_append.mpr ⟨wsL_law_m27, List.forall_mem_append.mpr ⟨wsL_law_m28, List.forall_mem_append.mpr ⟨wsL_law_m29, wsL_law_m30⟩⟩⟩⟩⟩⟩⟩⟩⟩⟩⟩⟩⟩⟩⟩⟩⟩⟩⟩⟩⟩⟩⟩⟩⟩⟩⟩⟩⟩, wsL_law_kwsX80⟩, wsL_law_kwsX90⟩, wsL_law_kwsX10⟩, wsL_law_kwsX40⟩, wsL_law_kwsX30⟩, wsL_law_kwsX70⟩, wsL_law_kwsX00⟩, wsL_law_kwsX20⟩, fun _ h => absurd h List.not_mem_nil⟩
end
section
theorem inlX0 : ∀ w ∈ wsX00, w ∈ wsL_law := fun _ h => List.mem_append_left _ (List.mem_append_left _ (List.mem_append_right _ h))
theorem inX0 : ∀ w ∈ wsX00, w ∈ lw_tbl := fun w h => wsL_law_in w (inlX0 w h)
theorem inlX1 : ∀ w ∈ wsX10, w ∈ wsL_law := fun _ h => List.mem_append_left _ (List.mem_append_left _ (List.mem_append_left _ (List.mem_append_left _ (List.mem_append_left _ (List.mem_append_left _ (List.mem_append_right _ h))))))
theorem inX1 : ∀ w ∈ wsX10, w ∈ lw_tbl := fun w h => wsL_law_in w (inlX1 w h)
theorem inlX2 : ∀ w ∈ wsX20, w ∈ wsL_law := fun _ h => List.mem_append_left _ (List.mem_append_right _ h)
theorem inX2 : ∀ w ∈ wsX20, w ∈ lw_tbl := fun w h => wsL_law_in w (inlX2 w h)
theorem inlX3 : ∀ w ∈ wsX30, w ∈ wsL_law := fun _ h => List.mem_append_left _ (List.mem_append_left _ (List.mem_append_left _ (List.mem_append_left _ (List.mem_append_right _ h))))
theorem inX3 : ∀ w ∈ wsX30, w ∈ lw_tbl := fun w h => wsL_law_in w (inlX3 w h)
theorem inlX4 : ∀ w ∈ wsX40, w ∈ wsL_law := fun _ h => List.mem_append_left _ (List.mem_append_left _ (List.mem_append_left _ (List.mem_append_left _ (List.mem_append_left _ (List.mem_append_right _ h)))))
theorem inX4 : ∀ w ∈ wsX40, w ∈ lw_tbl := fun w h => wsL_law_in w (inlX4 w h)
theorem inX5 : ∀ w ∈ wsX50, w ∈ lw_tbl := by decide +kernel
theorem inX6 : ∀ w ∈ wsX60, w ∈ lw_tbl := by decide +kernel
theorem inlX7 : ∀ w ∈ wsX70, w ∈ wsL_law := fun _ h => List.mem_append_left _ (List.mem_append_left _ (List.mem_append_left _ (List.mem_append_right _ h)))
theorem inX7 : ∀ w ∈ wsX70, w ∈ lw_tbl := fun w h => wsL_law_in w (inlX7 w h)
theorem inlX8 : ∀ w ∈ wsX80, w ∈ wsL_law := fun _ h => List.mem_append_left _ (List.mem_append_left _ (List.mem_append_left _ (List.mem_append_left _ (List.mem_append_left _ (List.mem_append_left _ (List.mem_append_left _ (List.mem_append_left _ (List.mem_append_right _ h))))))))
theorem inX8 : ∀ w ∈ wsX80, w ∈ lw_tbl := fun w h => wsL_law_in w (inlX8 w h)
theorem inlX9 : ∀ w ∈ wsX90, w ∈ wsL_law := fun _ h => List.mem_append_left _ (List.mem_append_left _ (List.mem_append_left _ (List.mem_append_left _ (List.mem_append_left _ (List.mem_append_left _ (List.mem_append_left _ (List.mem_append_right _ h)))))))
theorem inX9 : ∀ w ∈ wsX90, w ∈ lw_tbl := fun w h => wsL_law_in w (inlX9 w h)
theorem inJ6 : ∀ w ∈ wsJ60, w ∈ lw_tbl := by decide +kernel
theorem inJ9 : ∀ w ∈ wsJ90, w ∈ lw_tbl := by decide +kernel
theorem dX0_init_0 : decode cX0_init 0 = .ok (.aload_n 0, 1) := by decide +kernel
theorem dX0_init_1 : decode cX0_init 1 = .ok (.invokespecial 3, 3) := by decide +kernel
theorem dX0_init_4 : decode cX0_init 4 = .ok (.aload_n 0, 1) := by decide +kernel
theorem dX0_init_5 : decode cX0_init 5 = .ok (.iconst 4, 1) := by decide +kernel
theorem dX0_init_6 : decode cX0_init 6 = .ok (.newarray .int, 2) := by decide +kernel
theorem dX0_init_8 : decode cX0_init 8 = .ok (.putfield 9, 3) := by decide +kernel
theorem dX0_init_11 : decode cX0_init 11 = .ok (.aload_n 0, 1) := by decide +kernel
theorem dX0_init_12 : decode cX0_init 12 = .ok (.iconst 4, 1) := by decide +kernel
theorem dX0_init_13 : decode cX0_init 13 = .ok (.newarray .int, 2) := by decide +kernel
theorem dX0_init_15 : decode cX0_init 15 = .ok (.putfield 15, 3) := by decide +kernel
theorem dX0_init_18 : decode cX0_init 18 = .ok (.return_, 1) := by decide +kernel
theorem dX0_forget_0 : decode cX0_forget 0 = .ok (.iconst 0, 1) := by decide +kernel
theorem dX0_forget_1 : decode cX0_forget 1 = .ok (.istore_n 1, 1) := by decide +kernel
theorem dX0_forget_2 : decode cX0_forget 2 = .ok (.iload_n 1, 1) := by decide +kernel
theorem dX0_forget_3 : decode cX0_forget 3 = .ok (.iconst 4, 1) := by decide +kernel
theorem dX0_forget_4 : decode cX0_forget 4 = .ok (.if_icmp .ge 16, 3) := by decide +kernel
theorem dX0_forget_7 : decode cX0_forget 7 = .ok (.aload_n 0, 1) := by decide +kernel
theorem dX0_forget_8 : decode cX0_forget 8 = .ok (.getfield 15, 3) := by decide +kernel
theorem dX0_forget_11 : decode cX0_forget 11 = .ok (.iload_n 1, 1) := by decide +kernel
theorem dX0_forget_12 : decode cX0_forget 12 = .ok (.iconst 0, 1) := by decide +kernel
theorem dX0_forget_13 : decode cX0_forget 13 = .ok (.iastore, 1) := by decide +kernel
theorem dX0_forget_14 : decode cX0_forget 14 = .ok (.iinc 1 1, 3) := by decide +kernel
theorem dX0_forget_17 : decode cX0_forget 17 = .ok (.goto (-15), 3) := by decide +kernel
theorem dX0_forget_20 : decode cX0_forget 20 = .ok (.return_, 1) := by decide +kernel
set_option maxRecDepth 20000 in
theorem ggX0_follow_X0_sign : GoodIn wsX0_follow wsX0_sign := goodIn_r _ [7] (by decide +kernel) (by decide +kernel)
set_option maxRecDepth 20000 in
theorem gX0_follow_X0_sign : GoodIn wsX0_follow (wsV RX0 18 RX0 yX0_sign wsX0_sign) := goodIn_app (goodIn_of _ (by decide +kernel)) ggX0_follow_X0_sign
theorem dX0_follow_0 : decode cX0_follow 0 = .ok (.iconst 0, 1) := by decide +kernel
theorem dX0_follow_1 : decode cX0_follow 1 = .ok (.istore_n 2, 1) := by decide +kernel
theorem dX0_follow_2 : decode cX0_follow 2 = .ok (.iconst 0, 1) := by decide +kernel
theorem dX0_follow_3 : decode cX0_follow 3 = .ok (.istore_n 3, 1) := by decide +kernel
theorem dX0_follow_4 : decode cX0_follow 4 = .ok (.iload_n 3, 1) := by decide +kernel
theorem dX0_follow_5 : decode cX0_follow 5 = .ok (.iconst 4, 1) := by decide +kernel
theorem dX0_follow_6 : decode cX0_follow 6 = .ok (.if_icmp .ge 36, 3) := by decide +kernel
theorem dX0_follow_9 : decode cX0_follow 9 = .ok (.iload_n 2, 1) := by decide +kernel
theorem dX0_follow_10 : decode cX0_follow 10 = .ok (.bipush 16, 2) := by decide +kernel
theorem dX0_follow_12 : decode cX0_follow 12 = .ok (.aload_n 0, 1) := by decide +kernel
theorem dX0_follow_13 : decode cX0_follow 13 = .ok (.getfield 9, 3) := by decide +kernel
theorem dX0_follow_16 : decode cX0_follow 16 = .ok (.iload_n 3, 1) := by decide +kernel
theorem dX0_follow_17 : decode cX0_follow 17 = .ok (.iaload, 1) := by decide +kernel
theorem dX0_follow_18 : decode cX0_follow 18 = .ok (.imul, 1) := by decide +kernel
theorem dX0_follow_19 : decode cX0_follow 19 = .ok (.aload_n 0, 1) := by decide +kernel
theorem dX0_follow_20 : decode cX0_follow 20 = .ok (.getfield 15, 3) := by decide +kernel
theorem dX0_follow_23 : decode cX0_follow 23 = .ok (.iload_n 3, 1) := by decide +kernel
theorem dX0_follow_24 : decode cX0_follow 24 = .ok (.iaload, 1) := by decide +kernel
theorem dX0_follow_25 : decode cX0_follow 25 = .ok (.isub, 1) := by decide +kernel
theorem dX0_follow_26 : decode cX0_follow 26 = .ok (.aload_n 0, 1) := by decide +kernel
theorem dX0_follow_27 : decode cX0_follow 27 = .ok (.iload_n 1, 1) := by decide +kernel
theorem dX0_follow_28 : decode cX0_follow 28 = .ok (.iload_n 3, 1) := by decide +kernel
theorem dX0_follow_29 : decode cX0_follow 29 = .ok (.isub, 1) := by decide +kernel
theorem dX0_follow_30 : decode cX0_follow 30 = .ok (.invokevirtual 18, 3) := by decide +kernel
theorem dX0_follow_33 : decode cX0_follow 33 = .ok (.imul, 1) := by decide +kernel
theorem dX0_follow_34 : decode cX0_follow 34 = .ok (.iadd, 1) := by decide +kernel
theorem dX0_follow_35 : decode cX0_follow 35 = .ok (.istore_n 2, 1) := by decide +kernel
theorem dX0_follow_36 : decode cX0_follow 36 = .ok (.iinc 3 1, 3) := by decide +kernel
theorem dX0_follow_39 : decode cX0_follow 39 = .ok (.goto (-35), 3) := by decide +kernel
theorem dX0_follow_42 : decode cX0_follow 42 = .ok (.iconst 0, 1) := by decide +kernel
theorem dX0_follow_43 : decode cX0_follow 43 = .ok (.istore_n 3, 1) := by decide +kernel
theorem dX0_follow_44 : decode cX0_follow 44 = .ok (.iload_n 3, 1) := by decide +kernel
theorem dX0_follow_45 : decode cX0_follow 45 = .ok (.iconst 4, 1) := by decide +kernel
theorem dX0_follow_46 : decode cX0_follow 46 = .ok (.if_icmp .ge 30, 3) := by decide +kernel
theorem dX0_follow_49 : decode cX0_follow 49 = .ok (.aload_n 0, 1) := by decide +kernel
theorem dX0_follow_50 : decode cX0_follow 50 = .ok (.getfield 15, 3) := by decide +kernel
theorem dX0_follow_53 : decode cX0_follow 53 = .ok (.iload_n 3, 1) := by decide +kernel
theorem dX0_follow_54 : decode cX0_follow 54 = .ok (.dup2, 1) := by decide +kernel
theorem dX0_follow_55 : decode cX0_follow 55 = .ok (.iaload, 1) := by decide +kernel
theorem dX0_follow_56 : decode cX0_follow 56 = .ok (.iload_n 2, 1) := by decide +kernel
theorem dX0_follow_57 : decode cX0_follow 57 = .ok (.aload_n 0, 1) := by decide +kernel
theorem dX0_follow_58 : decode cX0_follow 58 = .ok (.iload_n 1, 1) := by decide +kernel
theorem dX0_follow_59 : decode cX0_follow 59 = .ok (.iload_n 3, 1) := by decide +kernel
theorem dX0_follow_60 : decode cX0_follow 60 = .ok (.isub, 1) := by decide +kernel
theorem dX0_follow_61 : decode cX0_follow 61 = .ok (.invokevirtual 18, 3) := by decide +kernel
theorem dX0_follow_64 : decode cX0_follow 64 = .ok (.imul, 1) := by decide +kernel
theorem dX0_follow_65 : decode cX0_follow 65 = .ok (.bipush 8, 2) := by decide +kernel
theorem dX0_follow_67 : decode cX0_follow 67 = .ok (.idiv, 1) := by decide +kernel
theorem dX0_follow_68 : decode cX0_follow 68 = .ok (.iadd, 1) := by decide +kernel
theorem dX0_follow_69 : decode cX0_follow 69 = .ok (.iastore, 1) := by decide +kernel
theorem dX0_follow_70 : decode cX0_follow 70 = .ok (.iinc 3 1, 3) := by decide +kernel
theorem dX0_follow_73 : decode cX0_follow 73 = .ok (.goto (-29), 3) := by decide +kernel
theorem dX0_follow_76 : decode cX0_follow 76 = .ok (.return_, 1) := by decide +kernel
theorem dX0_remains_0 : decode cX0_remains 0 = .ok (.iconst 0, 1) := by decide +kernel
theorem dX0_remains_1 : decode cX0_remains 1 = .ok (.istore_n 1, 1) := by decide +kernel
theorem dX0_remains_2 : decode cX0_remains 2 = .ok (.iconst 0, 1) := by decide +kernel
theorem dX0_remains_3 : decode cX0_remains 3 = .ok (.istore_n 2, 1) := by decide +kernel
theorem dX0_remains_4 : decode cX0_remains 4 = .ok (.iload_n 2, 1) := by decide +kernel
theorem dX0_remains_5 : decode cX0_remains 5 = .ok (.iconst 4, 1) := by decide +kernel
theorem dX0_remains_6 : decode cX0_remains 6 = .ok (.if_icmp .ge 31, 3) := by decide +kernel
theorem dX0_remains_9 : decode cX0_remains 9 = .ok (.iload_n 1, 1) := by decide +kernel
theorem dX0_remains_10 : decode cX0_remains 10 = .ok (.bipush 16, 2) := by decide +kernel
theorem dX0_remains_12 : decode cX0_remains 12 = .ok (.aload_n 0, 1) := by decide +kernel
theorem dX0_remains_13 : decode cX0_remains 13 = .ok (.getfield 9, 3) := by decide +kernel
theorem dX0_remains_16 : decode cX0_remains 16 = .ok (.iload_n 2, 1) := by decide +kernel
theorem dX0_remains_17 : decode cX0_remains 17 = .ok (.iaload, 1) := by decide +kernel
theorem dX0_remains_18 : decode cX0_remains 18 = .ok (.imul, 1) := by decide +kernel
theorem dX0_remains_19 : decode cX0_remains 19 = .ok (.aload_n 0, 1) := by decide +kernel
theorem dX0_remains_20 : decode cX0_remains 20 = .ok (.getfield 15, 3) := by decide +kernel
theorem dX0_remains_23 : decode cX0_remains 23 = .ok (.iload_n 2, 1) := by decide +kernel
theorem dX0_remains_24 : decode cX0_remains 24 = .ok (.iaload, 1) := by decide +kernel
theorem dX0_remains_25 : decode cX0_remains 25 = .ok (.isub, 1) := by decide +kernel
theorem dX0_remains_26 : decode cX0_remains 26 = .ok (.invokestatic 22, 3) := by decide +kernel
theorem dX0_remains_29 : decode cX0_remains 29 = .ok (.iadd, 1) := by decide +kernel
theorem dX0_remains_30 : decode cX0_remains 30 = .ok (.istore_n 1, 1) := by decide +kernel
theorem dX0_remains_31 : decode cX0_remains 31 = .ok (.iinc 2 1, 3) := by decide +kernel
theorem dX0_remains_34 : decode cX0_remains 34 = .ok (.goto (-30), 3) := by decide +kernel
theorem dX0_remains_37 : decode cX0_remains 37 = .ok (.iload_n 1, 1) := by decide +kernel
theorem dX0_remains_38 : decode cX0_remains 38 = .ok (.bipush 16, 2) := by decide +kernel
theorem dX0_remains_40 : decode cX0_remains 40 = .ok (.idiv, 1) := by decide +kernel
theorem dX0_remains_41 : decode cX0_remains 41 = .ok (.ireturn, 1) := by decide +kernel
theorem dX0_sign_0 : decode cX0_sign 0 = .ok (.iload_n 1, 1) := by decide +kernel
theorem dX0_sign_1 : decode cX0_sign 1 = .ok (.ifCond .ge 5, 3) := by decide +kernel
theorem dX0_sign_4 : decode cX0_sign 4 = .ok (.iconst 0, 1) := by decide +kernel
theorem dX0_sign_5 : decode cX0_sign 5 = .ok (.ireturn, 1) := by decide +kernel
theorem dX0_sign_6 : decode cX0_sign 6 = .ok (.iload_n 1, 1) := by decide +kernel
theorem dX0_sign_7 : decode cX0_sign 7 = .ok (.iconst 3, 1) := by decide +kernel
theorem dX0_sign_8 : decode cX0_sign 8 = .ok (.irem, 1) := by decide +kernel
theorem dX0_sign_9 : decode cX0_sign 9 = .ok (.ifCond .eq 9, 3) := by decide +kernel
theorem dX0_sign_12 : decode cX0_sign 12 = .ok (.iload_n 1, 1) := by decide +kernel
theorem dX0_sign_13 : decode cX0_sign 13 = .ok (.iconst 5, 1) := by decide +kernel
theorem dX0_sign_14 : decode cX0_sign 14 = .ok (.irem, 1) := by decide +kernel
theorem dX0_sign_15 : decode cX0_sign 15 = .ok (.ifCond .ne 7, 3) := by decide +kernel
theorem dX0_sign_18 : decode cX0_sign 18 = .ok (.iconst 1, 1) := by decide +kernel
theorem dX0_sign_19 : decode cX0_sign 19 = .ok (.goto 4, 3) := by decide +kernel
theorem dX0_sign_22 : decode cX0_sign 22 = .ok (.iconst (-1), 1) := by decide +kernel
theorem dX0_sign_23 : decode cX0_sign 23 = .ok (.ireturn, 1) := by decide +kernel
set_option maxRecDepth 20000 in
theorem ggX1_init_X7_init : GoodIn wsX1_init wsX7_init := goodIn_r _ [13, 14, 2, 3, 15, 16, 17, 18, 19, 20, 21, 22, 23, 24, 25, 26, 27, 28, 29, 30, 31, 32] (by decide +kernel) (by decide +kernel)
set_option maxRecDepth 20000 in
theorem gX1_init_X7_init : GoodIn wsX1_init (wsX7_init) := ggX1_init_X7_init
theorem dX1_init_0 : decode cX1_init 0 = .ok (.aload_n 0, 1) := by decide +kernel
theorem dX1_init_1 : decode cX1_init 1 = .ok (.invokespecial 3, 3) := by decide +kernel
theorem dX1_init_4 : decode cX1_init 4 = .ok (.aload_n 0, 1) := by decide +kernel
theorem dX1_init_5 : decode cX1_init 5 = .ok (.new 9, 3) := by decide +kernel
theorem dX1_init_8 : decode cX1_init 8 = .ok (.dup, 1) := by decide +kernel
theorem dX1_init_9 : decode cX1_init 9 = .ok (.invokespecial 11, 3) := by decide +kernel
theorem dX1_init_12 : decode cX1_init 12 = .ok (.putfield 12, 3) := by decide +kernel
theorem dX1_init_15 : decode cX1_init 15 = .ok (.aload_n 0, 1) := by decide +kernel
theorem dX1_init_16 : decode cX1_init 16 = .ok (.new 9, 3) := by decide +kernel
theorem dX1_init_19 : decode cX1_init 19 = .ok (.dup, 1) := by decide +kernel
theorem dX1_init_20 : decode cX1_init 20 = .ok (.invokespecial 11, 3) := by decide +kernel
theorem dX1_init_23 : decode cX1_init 23 = .ok (.putfield 18, 3) := by decide +kernel
theorem dX1_init_26 : decode cX1_init 26 = .ok (.aload_n 0, 1) := by decide +kernel
theorem dX1_init_27 : decode cX1_init 27 = .ok (.iconst 2, 1) := by decide +kernel
theorem dX1_init_28 : decode cX1_init 28 = .ok (.putfield 21, 3) := by decide +kernel
theorem dX1_init_31 : decode cX1_init 31 = .ok (.aload_n 0, 1) := by decide +kernel
theorem dX1_init_32 : decode cX1_init 32 = .ok (.iconst 0, 1) := by decide +kernel
theorem dX1_init_33 : decode cX1_init 33 = .ok (.putfield 25, 3) := by decide +kernel
theorem dX1_init_36 : decode cX1_init 36 = .ok (.return_, 1) := by decide +kernel
set_option maxRecDepth 20000 in
theorem ggX1_read_X4_qualityAt : GoodIn wsX1_read wsX4_qualityAt := goodIn_r _ [11, 12, 13, 14, 10, 15, 16, 17, 18, 19, 20, 21, 50, 51] (by decide +kernel) (by decide +kernel)
set_option maxRecDepth 20000 in
theorem gX1_read_X4_qualityAt : GoodIn wsX1_read (wsV RX1 32 RX4 yX4_qualityAt wsX4_qualityAt) := goodIn_app (goodIn_of _ (by decide +kernel)) ggX1_read_X4_qualityAt
set_option maxRecDepth 20000 in
theorem ggX1_read_X4_delay : GoodIn wsX1_read wsX4_delay := goodIn_r _ [25, 12, 13, 14, 10, 15, 16, 17, 50, 51] (by decide +kernel) (by decide +kernel)
set_option maxRecDepth 20000 in
theorem gX1_read_X4_delay : GoodIn wsX1_read (wsV RX1 38 RX4 yX4_delay wsX4_delay) := goodIn_app (goodIn_of _ (by decide +kernel)) ggX1_read_X4_delay
set_option maxRecDepth 20000 in
theorem ggX1_read_X4_hurtOf : GoodIn wsX1_read wsX4_hurtOf := goodIn_r _ [29, 16, 30, 31, 32, 10, 33, 12, 13, 14, 15, 17, 34, 35, 36, 37, 50, 51] (by decide +kernel) (by decide +kernel)
set_option maxRecDepth 20000 in
theorem gX1_read_X4_hurtOf : GoodIn wsX1_read (wsV RX1 41 RX4 yX4_hurtOf wsX4_hurtOf) := goodIn_app (goodIn_of _ (by decide +kernel)) ggX1_read_X4_hurtOf
theorem dX1_read_0 : decode cX1_read 0 = .ok (.iconst 0, 1) := by decide +kernel
theorem dX1_read_1 : decode cX1_read 1 = .ok (.istore_n 2, 1) := by decide +kernel
theorem dX1_read_2 : decode cX1_read 2 = .ok (.iload_n 2, 1) := by decide +kernel
theorem dX1_read_3 : decode cX1_read 3 = .ok (.bipush 8, 2) := by decide +kernel
theorem dX1_read_5 : decode cX1_read 5 = .ok (.if_icmp .ge 39, 3) := by decide +kernel
theorem dX1_read_8 : decode cX1_read 8 = .ok (.aload_n 0, 1) := by decide +kernel
theorem dX1_read_9 : decode cX1_read 9 = .ok (.getfield 12, 3) := by decide +kernel
theorem dX1_read_12 : decode cX1_read 12 = .ok (.getfield 28, 3) := by decide +kernel
theorem dX1_read_15 : decode cX1_read 15 = .ok (.iload_n 2, 1) := by decide +kernel
theorem dX1_read_16 : decode cX1_read 16 = .ok (.aload_n 1, 1) := by decide +kernel
theorem dX1_read_17 : decode cX1_read 17 = .ok (.iconst 0, 1) := by decide +kernel
theorem dX1_read_18 : decode cX1_read 18 = .ok (.iload_n 2, 1) := by decide +kernel
theorem dX1_read_19 : decode cX1_read 19 = .ok (.invokevirtual 32, 3) := by decide +kernel
theorem dX1_read_22 : decode cX1_read 22 = .ok (.iastore, 1) := by decide +kernel
theorem dX1_read_23 : decode cX1_read 23 = .ok (.aload_n 0, 1) := by decide +kernel
theorem dX1_read_24 : decode cX1_read 24 = .ok (.getfield 18, 3) := by decide +kernel
theorem dX1_read_27 : decode cX1_read 27 = .ok (.getfield 28, 3) := by decide +kernel
theorem dX1_read_30 : decode cX1_read 30 = .ok (.iload_n 2, 1) := by decide +kernel
theorem dX1_read_31 : decode cX1_read 31 = .ok (.aload_n 1, 1) := by decide +kernel
theorem dX1_read_32 : decode cX1_read 32 = .ok (.iconst 1, 1) := by decide +kernel
theorem dX1_read_33 : decode cX1_read 33 = .ok (.iload_n 2, 1) := by decide +kernel
theorem dX1_read_34 : decode cX1_read 34 = .ok (.invokevirtual 32, 3) := by decide +kernel
theorem dX1_read_37 : decode cX1_read 37 = .ok (.iastore, 1) := by decide +kernel
theorem dX1_read_38 : decode cX1_read 38 = .ok (.iinc 2 1, 3) := by decide +kernel
theorem dX1_read_41 : decode cX1_read 41 = .ok (.goto (-39), 3) := by decide +kernel
theorem dX1_read_44 : decode cX1_read 44 = .ok (.aload_n 0, 1) := by decide +kernel
theorem dX1_read_45 : decode cX1_read 45 = .ok (.aload_n 1, 1) := by decide +kernel
theorem dX1_read_46 : decode cX1_read 46 = .ok (.invokevirtual 38, 3) := by decide +kernel
theorem dX1_read_49 : decode cX1_read 49 = .ok (.putfield 21, 3) := by decide +kernel
theorem dX1_read_52 : decode cX1_read 52 = .ok (.aload_n 0, 1) := by decide +kernel
theorem dX1_read_53 : decode cX1_read 53 = .ok (.getfield 12, 3) := by decide +kernel
theorem dX1_read_56 : decode cX1_read 56 = .ok (.aload_n 1, 1) := by decide +kernel
theorem dX1_read_57 : decode cX1_read 57 = .ok (.iconst 0, 1) := by decide +kernel
theorem dX1_read_58 : decode cX1_read 58 = .ok (.invokevirtual 41, 3) := by decide +kernel
theorem dX1_read_61 : decode cX1_read 61 = .ok (.putfield 45, 3) := by decide +kernel
theorem dX1_read_64 : decode cX1_read 64 = .ok (.aload_n 0, 1) := by decide +kernel
theorem dX1_read_65 : decode cX1_read 65 = .ok (.getfield 18, 3) := by decide +kernel
theorem dX1_read_68 : decode cX1_read 68 = .ok (.aload_n 1, 1) := by decide +kernel
theorem dX1_read_69 : decode cX1_read 69 = .ok (.iconst 1, 1) := by decide +kernel
theorem dX1_read_70 : decode cX1_read 70 = .ok (.invokevirtual 41, 3) := by decide +kernel
theorem dX1_read_73 : decode cX1_read 73 = .ok (.putfield 45, 3) := by decide +kernel
theorem dX1_read_76 : decode cX1_read 76 = .ok (.aload_n 0, 1) := by decide +kernel
theorem dX1_read_77 : decode cX1_read 77 = .ok (.dup, 1) := by decide +kernel
theorem dX1_read_78 : decode cX1_read 78 = .ok (.getfield 25, 3) := by decide +kernel
theorem dX1_read_81 : decode cX1_read 81 = .ok (.iconst 1, 1) := by decide +kernel
theorem dX1_read_82 : decode cX1_read 82 = .ok (.iadd, 1) := by decide +kernel
theorem dX1_read_83 : decode cX1_read 83 = .ok (.putfield 25, 3) := by decide +kernel
theorem dX1_read_86 : decode cX1_read 86 = .ok (.return_, 1) := by decide +kernel
theorem dX2_init_0 : decode cX2_init 0 = .ok (.aload_n 0, 1) := by decide +kernel
theorem dX2_init_1 : decode cX2_init 1 = .ok (.invokespecial 1, 3) := by decide +kernel
theorem dX2_init_4 : decode cX2_init 4 = .ok (.aload_n 0, 1) := by decide +kernel
theorem dX2_init_5 : decode cX2_init 5 = .ok (.sipush 200, 3) := by decide +kernel
theorem dX2_init_8 : decode cX2_init 8 = .ok (.newarray .int, 2) := by decide +kernel
theorem dX2_init_10 : decode cX2_init 10 = .ok (.putfield 9, 3) := by decide +kernel
theorem dX2_init_13 : decode cX2_init 13 = .ok (.aload_n 0, 1) := by decide +kernel
theorem dX2_init_14 : decode cX2_init 14 = .ok (.sipush 200, 3) := by decide +kernel
theorem dX2_init_17 : decode cX2_init 17 = .ok (.newarray .int, 2) := by decide +kernel
theorem dX2_init_19 : decode cX2_init 19 = .ok (.putfield 13, 3) := by decide +kernel
theorem dX2_init_22 : decode cX2_init 22 = .ok (.aload_n 0, 1) := by decide +kernel
theorem dX2_init_23 : decode cX2_init 23 = .ok (.iconst 0, 1) := by decide +kernel
theorem dX2_init_24 : decode cX2_init 24 = .ok (.putfield 16, 3) := by decide +kernel
theorem dX2_init_27 : decode cX2_init 27 = .ok (.aload_n 0, 1) := by decide +kernel
theorem dX2_init_28 : decode cX2_init 28 = .ok (.iconst 0, 1) := by decide +kernel
theorem dX2_init_29 : decode cX2_init 29 = .ok (.putfield 20, 3) := by decide +kernel
theorem dX2_init_32 : decode cX2_init 32 = .ok (.aload_n 0, 1) := by decide +kernel
theorem dX2_init_33 : decode cX2_init 33 = .ok (.iconst 0, 1) := by decide +kernel
theorem dX2_init_34 : decode cX2_init 34 = .ok (.putfield 23, 3) := by decide +kernel
theorem dX2_init_37 : decode cX2_init 37 = .ok (.aload_n 0, 1) := by decide +kernel
theorem dX2_init_38 : decode cX2_init 38 = .ok (.iconst 0, 1) := by decide +kernel
theorem dX2_init_39 : decode cX2_init 39 = .ok (.putfield 26, 3) := by decide +kernel
theorem dX2_init_42 : decode cX2_init 42 = .ok (.aload_n 0, 1) := by decide +kernel
theorem dX2_init_43 : decode cX2_init 43 = .ok (.iconst 0, 1) := by decide +kernel
theorem dX2_init_44 : decode cX2_init 44 = .ok (.putfield 29, 3) := by decide +kernel
theorem dX2_init_47 : decode cX2_init 47 = .ok (.aload_n 0, 1) := by decide +kernel
theorem dX2_init_48 : decode cX2_init 48 = .ok (.iconst 0, 1) := by decide +kernel
theorem dX2_init_49 : decode cX2_init 49 = .ok (.putfield 32, 3) := by decide +kernel
theorem dX2_init_52 : decode cX2_init 52 = .ok (.return_, 1) := by decide +kernel
theorem dX2_add_0 : decode cX2_add 0 = .ok (.aload_n 0, 1) := by decide +kernel
theorem dX2_add_1 : decode cX2_add 1 = .ok (.getfield 16, 3) := by decide +kernel
theorem dX2_add_4 : decode cX2_add 4 = .ok (.ifCond .lt 33, 3) := by decide +kernel
theorem dX2_add_7 : decode cX2_add 7 = .ok (.aload_n 0, 1) := by decide +kernel
theorem dX2_add_8 : decode cX2_add 8 = .ok (.getfield 16, 3) := by decide +kernel
theorem dX2_add_11 : decode cX2_add 11 = .ok (.sipush 200, 3) := by decide +kernel
theorem dX2_add_14 : decode cX2_add 14 = .ok (.if_icmp .ge 23, 3) := by decide +kernel
theorem dX2_add_17 : decode cX2_add 17 = .ok (.aload_n 0, 1) := by decide +kernel
theorem dX2_add_18 : decode cX2_add 18 = .ok (.getfield 9, 3) := by decide +kernel
theorem dX2_add_21 : decode cX2_add 21 = .ok (.aload_n 0, 1) := by decide +kernel
theorem dX2_add_22 : decode cX2_add 22 = .ok (.getfield 16, 3) := by decide +kernel
theorem dX2_add_25 : decode cX2_add 25 = .ok (.iload_n 1, 1) := by decide +kernel
theorem dX2_add_26 : decode cX2_add 26 = .ok (.iastore, 1) := by decide +kernel
theorem dX2_add_27 : decode cX2_add 27 = .ok (.aload_n 0, 1) := by decide +kernel
theorem dX2_add_28 : decode cX2_add 28 = .ok (.dup, 1) := by decide +kernel
theorem dX2_add_29 : decode cX2_add 29 = .ok (.getfield 16, 3) := by decide +kernel
theorem dX2_add_32 : decode cX2_add 32 = .ok (.iconst 1, 1) := by decide +kernel
theorem dX2_add_33 : decode cX2_add 33 = .ok (.iadd, 1) := by decide +kernel
theorem dX2_add_34 : decode cX2_add 34 = .ok (.putfield 16, 3) := by decide +kernel
theorem dX2_add_37 : decode cX2_add 37 = .ok (.return_, 1) := by decide +kernel
theorem dX2_takenAt_0 : decode cX2_takenAt 0 = .ok (.iload_n 1, 1) := by decide +kernel
theorem dX2_takenAt_1 : decode cX2_takenAt 1 = .ok (.ifCond .lt 27, 3) := by decide +kernel
theorem dX2_takenAt_4 : decode cX2_takenAt 4 = .ok (.iload_n 1, 1) := by decide +kernel
theorem dX2_takenAt_5 : decode cX2_takenAt 5 = .ok (.aload_n 0, 1) := by decide +kernel
theorem dX2_takenAt_6 : decode cX2_takenAt 6 = .ok (.getfield 20, 3) := by decide +kernel
theorem dX2_takenAt_9 : decode cX2_takenAt 9 = .ok (.if_icmp .ge 19, 3) := by decide +kernel
theorem dX2_takenAt_12 : decode cX2_takenAt 12 = .ok (.iload_n 1, 1) := by decide +kernel
theorem dX2_takenAt_13 : decode cX2_takenAt 13 = .ok (.sipush 200, 3) := by decide +kernel
theorem dX2_takenAt_16 : decode cX2_takenAt 16 = .ok (.if_icmp .ge 12, 3) := by decide +kernel
theorem dX2_takenAt_19 : decode cX2_takenAt 19 = .ok (.aload_n 0, 1) := by decide +kernel
theorem dX2_takenAt_20 : decode cX2_takenAt 20 = .ok (.getfield 13, 3) := by decide +kernel
theorem dX2_takenAt_23 : decode cX2_takenAt 23 = .ok (.iload_n 1, 1) := by decide +kernel
theorem dX2_takenAt_24 : decode cX2_takenAt 24 = .ok (.iaload, 1) := by decide +kernel
theorem dX2_takenAt_25 : decode cX2_takenAt 25 = .ok (.goto 4, 3) := by decide +kernel
theorem dX2_takenAt_28 : decode cX2_takenAt 28 = .ok (.iconst 0, 1) := by decide +kernel
theorem dX2_takenAt_29 : decode cX2_takenAt 29 = .ok (.ireturn, 1) := by decide +kernel
set_option maxRecDepth 20000 in
theorem ggX2_take_X7_second : GoodIn wsX2_take wsX7_second := goodIn_r _ [12, 13, 34, 35, 36, 37, 38, 39, 40, 41] (by decide +kernel) (by decide +kernel)
set_option maxRecDepth 20000 in
theorem gX2_take_X7_second : GoodIn wsX2_take (wsV RX2 35 RX7 yX7_second wsX7_second) := goodIn_app (goodIn_of _ (by decide +kernel)) ggX2_take_X7_second
set_option maxRecDepth 20000 in
theorem ggX2_take_X7_letters : GoodIn wsX2_take wsX7_letters := goodIn_r _ [17, 13, 34, 35, 36, 37, 38, 39, 40, 41] (by decide +kernel) (by decide +kernel)
set_option maxRecDepth 20000 in
theorem gX2_take_X7_letters : GoodIn wsX2_take (wsV RX2 41 RX7 yX7_letters wsX7_letters) := goodIn_app (goodIn_of _ (by decide +kernel)) ggX2_take_X7_letters
set_option maxRecDepth 20000 in
theorem ggX2_take_X7_enclosed : GoodIn wsX2_take wsX7_enclosed := goodIn_r _ [21, 13, 34, 35, 36, 37, 38, 39, 40, 41] (by decide +kernel) (by decide +kernel)
set_option maxRecDepth 20000 in
theorem gX2_take_X7_enclosed : GoodIn wsX2_take (wsV RX2 44 RX7 yX7_enclosed wsX7_enclosed) := goodIn_app (goodIn_of _ (by decide +kernel)) ggX2_take_X7_enclosed
set_option maxRecDepth 20000 in
theorem ggX2_take_X7_told : GoodIn wsX2_take wsX7_told := goodIn_r _ [25, 13, 34, 35, 36, 37, 38, 39, 40, 41] (by decide +kernel) (by decide +kernel)
set_option maxRecDepth 20000 in
theorem gX2_take_X7_told : GoodIn wsX2_take (wsV RX2 48 RX7 yX7_told wsX7_told) := goodIn_app (goodIn_of _ (by decide +kernel)) ggX2_take_X7_told
theorem dX2_take_0 : decode cX2_take 0 = .ok (.aload_n 1, 1) := by decide +kernel
theorem dX2_take_1 : decode cX2_take 1 = .ok (.invokevirtual 35, 3) := by decide +kernel
theorem dX2_take_4 : decode cX2_take 4 = .ok (.aload_n 0, 1) := by decide +kernel
theorem dX2_take_5 : decode cX2_take 5 = .ok (.getfield 20, 3) := by decide +kernel
theorem dX2_take_8 : decode cX2_take 8 = .ok (.if_icmp .ne 60, 3) := by decide +kernel
theorem dX2_take_11 : decode cX2_take 11 = .ok (.iconst 0, 1) := by decide +kernel
theorem dX2_take_12 : decode cX2_take 12 = .ok (.istore_n 2, 1) := by decide +kernel
theorem dX2_take_13 : decode cX2_take 13 = .ok (.iload_n 2, 1) := by decide +kernel
theorem dX2_take_14 : decode cX2_take 14 = .ok (.aload_n 1, 1) := by decide +kernel
theorem dX2_take_15 : decode cX2_take 15 = .ok (.invokevirtual 41, 3) := by decide +kernel
theorem dX2_take_18 : decode cX2_take 18 = .ok (.if_icmp .ge 50, 3) := by decide +kernel
theorem dX2_take_21 : decode cX2_take 21 = .ok (.aload_n 0, 1) := by decide +kernel
theorem dX2_take_22 : decode cX2_take 22 = .ok (.getfield 20, 3) := by decide +kernel
theorem dX2_take_25 : decode cX2_take 25 = .ok (.ifCond .lt 43, 3) := by decide +kernel
theorem dX2_take_28 : decode cX2_take 28 = .ok (.aload_n 0, 1) := by decide +kernel
theorem dX2_take_29 : decode cX2_take 29 = .ok (.getfield 20, 3) := by decide +kernel
theorem dX2_take_32 : decode cX2_take 32 = .ok (.sipush 200, 3) := by decide +kernel
theorem dX2_take_35 : decode cX2_take 35 = .ok (.if_icmp .ge 33, 3) := by decide +kernel
theorem dX2_take_38 : decode cX2_take 38 = .ok (.aload_n 0, 1) := by decide +kernel
theorem dX2_take_39 : decode cX2_take 39 = .ok (.getfield 13, 3) := by decide +kernel
theorem dX2_take_42 : decode cX2_take 42 = .ok (.aload_n 0, 1) := by decide +kernel
theorem dX2_take_43 : decode cX2_take 43 = .ok (.getfield 20, 3) := by decide +kernel
theorem dX2_take_46 : decode cX2_take 46 = .ok (.aload_n 1, 1) := by decide +kernel
theorem dX2_take_47 : decode cX2_take 47 = .ok (.iload_n 2, 1) := by decide +kernel
theorem dX2_take_48 : decode cX2_take 48 = .ok (.invokevirtual 44, 3) := by decide +kernel
theorem dX2_take_51 : decode cX2_take 51 = .ok (.iastore, 1) := by decide +kernel
theorem dX2_take_52 : decode cX2_take 52 = .ok (.aload_n 0, 1) := by decide +kernel
theorem dX2_take_53 : decode cX2_take 53 = .ok (.dup, 1) := by decide +kernel
theorem dX2_take_54 : decode cX2_take 54 = .ok (.getfield 20, 3) := by decide +kernel
theorem dX2_take_57 : decode cX2_take 57 = .ok (.iconst 1, 1) := by decide +kernel
theorem dX2_take_58 : decode cX2_take 58 = .ok (.iadd, 1) := by decide +kernel
theorem dX2_take_59 : decode cX2_take 59 = .ok (.putfield 20, 3) := by decide +kernel
theorem dX2_take_62 : decode cX2_take 62 = .ok (.iinc 2 1, 3) := by decide +kernel
theorem dX2_take_65 : decode cX2_take 65 = .ok (.goto (-52), 3) := by decide +kernel
theorem dX2_take_68 : decode cX2_take 68 = .ok (.aload_n 0, 1) := by decide +kernel
theorem dX2_take_69 : decode cX2_take 69 = .ok (.aload_n 0, 1) := by decide +kernel
theorem dX2_take_70 : decode cX2_take 70 = .ok (.getfield 23, 3) := by decide +kernel
theorem dX2_take_73 : decode cX2_take 73 = .ok (.aload_n 1, 1) := by decide +kernel
theorem dX2_take_74 : decode cX2_take 74 = .ok (.invokevirtual 48, 3) := by decide +kernel
theorem dX2_take_77 : decode cX2_take 77 = .ok (.invokestatic 50, 3) := by decide +kernel
theorem dX2_take_80 : decode cX2_take 80 = .ok (.putfield 23, 3) := by decide +kernel
theorem dX2_take_83 : decode cX2_take 83 = .ok (.return_, 1) := by decide +kernel
theorem dX2_ready_0 : decode cX2_ready 0 = .ok (.iload_n 1, 1) := by decide +kernel
theorem dX2_ready_1 : decode cX2_ready 1 = .ok (.aload_n 0, 1) := by decide +kernel
theorem dX2_ready_2 : decode cX2_ready 2 = .ok (.getfield 16, 3) := by decide +kernel
theorem dX2_ready_5 : decode cX2_ready 5 = .ok (.aload_n 0, 1) := by decide +kernel
theorem dX2_ready_6 : decode cX2_ready 6 = .ok (.getfield 26, 3) := by decide +kernel
theorem dX2_ready_9 : decode cX2_ready 9 = .ok (.isub, 1) := by decide +kernel
theorem dX2_ready_10 : decode cX2_ready 10 = .ok (.aload_n 0, 1) := by decide +kernel
theorem dX2_ready_11 : decode cX2_ready 11 = .ok (.getfield 23, 3) := by decide +kernel
theorem dX2_ready_14 : decode cX2_ready 14 = .ok (.bipush 64, 2) := by decide +kernel
theorem dX2_ready_16 : decode cX2_ready 16 = .ok (.iadd, 1) := by decide +kernel
theorem dX2_ready_17 : decode cX2_ready 17 = .ok (.aload_n 0, 1) := by decide +kernel
theorem dX2_ready_18 : decode cX2_ready 18 = .ok (.getfield 26, 3) := by decide +kernel
theorem dX2_ready_21 : decode cX2_ready 21 = .ok (.isub, 1) := by decide +kernel
theorem dX2_ready_22 : decode cX2_ready 22 = .ok (.invokestatic 56, 3) := by decide +kernel
theorem dX2_ready_25 : decode cX2_ready 25 = .ok (.invokestatic 56, 3) := by decide +kernel
theorem dX2_ready_28 : decode cX2_ready 28 = .ok (.ireturn, 1) := by decide +kernel
theorem dX2_pass_0 : decode cX2_pass 0 = .ok (.aload_n 0, 1) := by decide +kernel
theorem dX2_pass_1 : decode cX2_pass 1 = .ok (.getfield 26, 3) := by decide +kernel
theorem dX2_pass_4 : decode cX2_pass 4 = .ok (.ifCond .lt 25, 3) := by decide +kernel
theorem dX2_pass_7 : decode cX2_pass 7 = .ok (.aload_n 0, 1) := by decide +kernel
theorem dX2_pass_8 : decode cX2_pass 8 = .ok (.getfield 26, 3) := by decide +kernel
theorem dX2_pass_11 : decode cX2_pass 11 = .ok (.sipush 200, 3) := by decide +kernel
theorem dX2_pass_14 : decode cX2_pass 14 = .ok (.if_icmp .ge 15, 3) := by decide +kernel
theorem dX2_pass_17 : decode cX2_pass 17 = .ok (.aload_n 0, 1) := by decide +kernel
theorem dX2_pass_18 : decode cX2_pass 18 = .ok (.getfield 9, 3) := by decide +kernel
theorem dX2_pass_21 : decode cX2_pass 21 = .ok (.aload_n 0, 1) := by decide +kernel
theorem dX2_pass_22 : decode cX2_pass 22 = .ok (.getfield 26, 3) := by decide +kernel
theorem dX2_pass_25 : decode cX2_pass 25 = .ok (.iaload, 1) := by decide +kernel
theorem dX2_pass_26 : decode cX2_pass 26 = .ok (.goto 4, 3) := by decide +kernel
theorem dX2_pass_29 : decode cX2_pass 29 = .ok (.iconst 0, 1) := by decide +kernel
theorem dX2_pass_30 : decode cX2_pass 30 = .ok (.istore_n 1, 1) := by decide +kernel
theorem dX2_pass_31 : decode cX2_pass 31 = .ok (.aload_n 0, 1) := by decide +kernel
theorem dX2_pass_32 : decode cX2_pass 32 = .ok (.getfield 26, 3) := by decide +kernel
theorem dX2_pass_35 : decode cX2_pass 35 = .ok (.aload_n 0, 1) := by decide +kernel
theorem dX2_pass_36 : decode cX2_pass 36 = .ok (.getfield 32, 3) := by decide +kernel
theorem dX2_pass_39 : decode cX2_pass 39 = .ok (.if_icmp .ge 13, 3) := by decide +kernel
theorem dX2_pass_42 : decode cX2_pass 42 = .ok (.aload_n 0, 1) := by decide +kernel
theorem dX2_pass_43 : decode cX2_pass 43 = .ok (.dup, 1) := by decide +kernel
theorem dX2_pass_44 : decode cX2_pass 44 = .ok (.getfield 29, 3) := by decide +kernel
theorem dX2_pass_47 : decode cX2_pass 47 = .ok (.iconst 1, 1) := by decide +kernel
theorem dX2_pass_48 : decode cX2_pass 48 = .ok (.iadd, 1) := by decide +kernel
theorem dX2_pass_49 : decode cX2_pass 49 = .ok (.putfield 29, 3) := by decide +kernel
theorem dX2_pass_52 : decode cX2_pass 52 = .ok (.aload_n 0, 1) := by decide +kernel
theorem dX2_pass_53 : decode cX2_pass 53 = .ok (.dup, 1) := by decide +kernel
theorem dX2_pass_54 : decode cX2_pass 54 = .ok (.getfield 26, 3) := by decide +kernel
theorem dX2_pass_57 : decode cX2_pass 57 = .ok (.iconst 1, 1) := by decide +kernel
theorem dX2_pass_58 : decode cX2_pass 58 = .ok (.iadd, 1) := by decide +kernel
theorem dX2_pass_59 : decode cX2_pass 59 = .ok (.putfield 26, 3) := by decide +kernel
theorem dX2_pass_62 : decode cX2_pass 62 = .ok (.aload_n 0, 1) := by decide +kernel
theorem dX2_pass_63 : decode cX2_pass 63 = .ok (.aload_n 0, 1) := by decide +kernel
theorem dX2_pass_64 : decode cX2_pass 64 = .ok (.getfield 32, 3) := by decide +kernel
theorem dX2_pass_67 : decode cX2_pass 67 = .ok (.aload_n 0, 1) := by decide +kernel
theorem dX2_pass_68 : decode cX2_pass 68 = .ok (.getfield 26, 3) := by decide +kernel
theorem dX2_pass_71 : decode cX2_pass 71 = .ok (.invokestatic 50, 3) := by decide +kernel
theorem dX2_pass_74 : decode cX2_pass 74 = .ok (.putfield 32, 3) := by decide +kernel
theorem dX2_pass_77 : decode cX2_pass 77 = .ok (.iload_n 1, 1) := by decide +kernel
theorem dX2_pass_78 : decode cX2_pass 78 = .ok (.ireturn, 1) := by decide +kernel
set_option maxRecDepth 20000 in
theorem ggX3_init_X0_init : GoodIn wsX3_init wsX0_init := goodIn_r _ [32, 33, 2, 3, 12, 34, 35, 47, 48] (by decide +kernel) (by decide +kernel)
set_option maxRecDepth 20000 in
theorem gX3_init_X0_init_n11 : GoodIn wsX3_init (wsX0_init) := ggX3_init_X0_init
set_option maxRecDepth 20000 in
theorem ggX3_init_X2_init : GoodIn wsX3_init wsX2_init := goodIn_r _ [37, 38, 2, 3, 12, 39, 40, 41, 42, 43, 44, 45, 46, 69, 70, 71, 72, 73, 74, 75, 76] (by decide +kernel) (by decide +kernel)
set_option maxRecDepth 20000 in
theorem gX3_init_X2_init_n20 : GoodIn wsX3_init (wsX2_init) := ggX3_init_X2_init
theorem dX3_init_0 : decode cX3_init 0 = .ok (.aload_n 0, 1) := by decide +kernel
theorem dX3_init_1 : decode cX3_init 1 = .ok (.invokespecial 3, 3) := by decide +kernel
theorem dX3_init_4 : decode cX3_init 4 = .ok (.aload_n 0, 1) := by decide +kernel
theorem dX3_init_5 : decode cX3_init 5 = .ok (.new 9, 3) := by decide +kernel
theorem dX3_init_8 : decode cX3_init 8 = .ok (.dup, 1) := by decide +kernel
theorem dX3_init_9 : decode cX3_init 9 = .ok (.invokespecial 11, 3) := by decide +kernel
theorem dX3_init_12 : decode cX3_init 12 = .ok (.putfield 12, 3) := by decide +kernel
theorem dX3_init_15 : decode cX3_init 15 = .ok (.aload_n 0, 1) := by decide +kernel
theorem dX3_init_16 : decode cX3_init 16 = .ok (.new 18, 3) := by decide +kernel
theorem dX3_init_19 : decode cX3_init 19 = .ok (.dup, 1) := by decide +kernel
theorem dX3_init_20 : decode cX3_init 20 = .ok (.invokespecial 20, 3) := by decide +kernel
theorem dX3_init_23 : decode cX3_init 23 = .ok (.putfield 21, 3) := by decide +kernel
theorem dX3_init_26 : decode cX3_init 26 = .ok (.aload_n 0, 1) := by decide +kernel
theorem dX3_init_27 : decode cX3_init 27 = .ok (.bipush 8, 2) := by decide +kernel
theorem dX3_init_29 : decode cX3_init 29 = .ok (.newarray .int, 2) := by decide +kernel
theorem dX3_init_31 : decode cX3_init 31 = .ok (.putfield 25, 3) := by decide +kernel
theorem dX3_init_34 : decode cX3_init 34 = .ok (.aload_n 0, 1) := by decide +kernel
theorem dX3_init_35 : decode cX3_init 35 = .ok (.iconst 0, 1) := by decide +kernel
theorem dX3_init_36 : decode cX3_init 36 = .ok (.putfield 31, 3) := by decide +kernel
theorem dX3_init_39 : decode cX3_init 39 = .ok (.aload_n 0, 1) := by decide +kernel
theorem dX3_init_40 : decode cX3_init 40 = .ok (.iconst 0, 1) := by decide +kernel
theorem dX3_init_41 : decode cX3_init 41 = .ok (.putfield 35, 3) := by decide +kernel
theorem dX3_init_44 : decode cX3_init 44 = .ok (.aload_n 0, 1) := by decide +kernel
theorem dX3_init_45 : decode cX3_init 45 = .ok (.iconst 0, 1) := by decide +kernel
theorem dX3_init_46 : decode cX3_init 46 = .ok (.putfield 38, 3) := by decide +kernel
theorem dX3_init_49 : decode cX3_init 49 = .ok (.aload_n 0, 1) := by decide +kernel
theorem dX3_init_50 : decode cX3_init 50 = .ok (.iconst 0, 1) := by decide +kernel
theorem dX3_init_51 : decode cX3_init 51 = .ok (.putfield 41, 3) := by decide +kernel
theorem dX3_init_54 : decode cX3_init 54 = .ok (.aload_n 0, 1) := by decide +kernel
theorem dX3_init_55 : decode cX3_init 55 = .ok (.iconst 0, 1) := by decide +kernel
theorem dX3_init_56 : decode cX3_init 56 = .ok (.putfield 44, 3) := by decide +kernel
theorem dX3_init_59 : decode cX3_init 59 = .ok (.aload_n 0, 1) := by decide +kernel
theorem dX3_init_60 : decode cX3_init 60 = .ok (.iconst 0, 1) := by decide +kernel
theorem dX3_init_61 : decode cX3_init 61 = .ok (.putfield 47, 3) := by decide +kernel
theorem dX3_init_64 : decode cX3_init 64 = .ok (.aload_n 0, 1) := by decide +kernel
theorem dX3_init_65 : decode cX3_init 65 = .ok (.iconst 0, 1) := by decide +kernel
theorem dX3_init_66 : decode cX3_init 66 = .ok (.putfield 50, 3) := by decide +kernel
theorem dX3_init_69 : decode cX3_init 69 = .ok (.aload_n 0, 1) := by decide +kernel
theorem dX3_init_70 : decode cX3_init 70 = .ok (.iconst 0, 1) := by decide +kernel
theorem dX3_init_71 : decode cX3_init 71 = .ok (.putfield 53, 3) := by decide +kernel
theorem dX3_init_74 : decode cX3_init 74 = .ok (.aload_n 0, 1) := by decide +kernel
theorem dX3_init_75 : decode cX3_init 75 = .ok (.iconst 0, 1) := by decide +kernel
theorem dX3_init_76 : decode cX3_init 76 = .ok (.putfield 56, 3) := by decide +kernel
theorem dX3_init_79 : decode cX3_init 79 = .ok (.aload_n 0, 1) := by decide +kernel
theorem dX3_init_80 : decode cX3_init 80 = .ok (.iconst 0, 1) := by decide +kernel
theorem dX3_init_81 : decode cX3_init 81 = .ok (.putfield 59, 3) := by decide +kernel
theorem dX3_init_84 : decode cX3_init 84 = .ok (.aload_n 0, 1) := by decide +kernel
theorem dX3_init_85 : decode cX3_init 85 = .ok (.iconst 0, 1) := by decide +kernel
theorem dX3_init_86 : decode cX3_init 86 = .ok (.putfield 62, 3) := by decide +kernel
theorem dX3_init_89 : decode cX3_init 89 = .ok (.aload_n 0, 1) := by decide +kernel
theorem dX3_init_90 : decode cX3_init 90 = .ok (.iconst 0, 1) := by decide +kernel
theorem dX3_init_91 : decode cX3_init 91 = .ok (.putfield 65, 3) := by decide +kernel
theorem dX3_init_94 : decode cX3_init 94 = .ok (.aload_n 0, 1) := by decide +kernel
theorem dX3_init_95 : decode cX3_init 95 = .ok (.iconst 0, 1) := by decide +kernel
theorem dX3_init_96 : decode cX3_init 96 = .ok (.putfield 68, 3) := by decide +kernel
theorem dX3_init_99 : decode cX3_init 99 = .ok (.aload_n 0, 1) := by decide +kernel
theorem dX3_init_100 : decode cX3_init 100 = .ok (.iconst 0, 1) := by decide +kernel
theorem dX3_init_101 : decode cX3_init 101 = .ok (.putfield 71, 3) := by decide +kernel
theorem dX3_init_104 : decode cX3_init 104 = .ok (.aload_n 0, 1) := by decide +kernel
theorem dX3_init_105 : decode cX3_init 105 = .ok (.aload_n 1, 1) := by decide +kernel
theorem dX3_init_106 : decode cX3_init 106 = .ok (.putfield 74, 3) := by decide +kernel
theorem dX3_init_109 : decode cX3_init 109 = .ok (.aload_n 0, 1) := by decide +kernel
theorem dX3_init_110 : decode cX3_init 110 = .ok (.aload_n 2, 1) := by decide +kernel
theorem dX3_init_111 : decode cX3_init 111 = .ok (.putfield 78, 3) := by decide +kernel
theorem dX3_init_114 : decode cX3_init 114 = .ok (.aload_n 0, 1) := by decide +kernel
theorem dX3_init_115 : decode cX3_init 115 = .ok (.aload_n 3, 1) := by decide +kernel
theorem dX3_init_116 : decode cX3_init 116 = .ok (.putfield 82, 3) := by decide +kernel
theorem dX3_init_119 : decode cX3_init 119 = .ok (.return_, 1) := by decide +kernel
theorem dX3_fact_0 : decode cX3_fact 0 = .ok (.iload_n 1, 1) := by decide +kernel
theorem dX3_fact_1 : decode cX3_fact 1 = .ok (.tableswitch 171 0 15 #[79, 84, 89, 94, 99, 104, 109, 117, 125, 133, 141, 146, 151, 156, 161, 166], 79) := by decide +kernel
theorem dX3_fact_80 : decode cX3_fact 80 = .ok (.aload_n 0, 1) := by decide +kernel
theorem dX3_fact_81 : decode cX3_fact 81 = .ok (.getfield 31, 3) := by decide +kernel
theorem dX3_fact_84 : decode cX3_fact 84 = .ok (.ireturn, 1) := by decide +kernel
theorem dX3_fact_85 : decode cX3_fact 85 = .ok (.aload_n 0, 1) := by decide +kernel
theorem dX3_fact_86 : decode cX3_fact 86 = .ok (.getfield 38, 3) := by decide +kernel
theorem dX3_fact_89 : decode cX3_fact 89 = .ok (.ireturn, 1) := by decide +kernel
theorem dX3_fact_90 : decode cX3_fact 90 = .ok (.aload_n 0, 1) := by decide +kernel
theorem dX3_fact_91 : decode cX3_fact 91 = .ok (.getfield 44, 3) := by decide +kernel
theorem dX3_fact_94 : decode cX3_fact 94 = .ok (.ireturn, 1) := by decide +kernel
theorem dX3_fact_95 : decode cX3_fact 95 = .ok (.aload_n 0, 1) := by decide +kernel
theorem dX3_fact_96 : decode cX3_fact 96 = .ok (.getfield 47, 3) := by decide +kernel
theorem dX3_fact_99 : decode cX3_fact 99 = .ok (.ireturn, 1) := by decide +kernel
theorem dX3_fact_100 : decode cX3_fact 100 = .ok (.aload_n 0, 1) := by decide +kernel
theorem dX3_fact_101 : decode cX3_fact 101 = .ok (.getfield 50, 3) := by decide +kernel
theorem dX3_fact_104 : decode cX3_fact 104 = .ok (.ireturn, 1) := by decide +kernel
theorem dX3_fact_105 : decode cX3_fact 105 = .ok (.aload_n 0, 1) := by decide +kernel
theorem dX3_fact_106 : decode cX3_fact 106 = .ok (.getfield 53, 3) := by decide +kernel
theorem dX3_fact_109 : decode cX3_fact 109 = .ok (.ireturn, 1) := by decide +kernel
theorem dX3_fact_110 : decode cX3_fact 110 = .ok (.aload_n 0, 1) := by decide +kernel
theorem dX3_fact_111 : decode cX3_fact 111 = .ok (.getfield 21, 3) := by decide +kernel
theorem dX3_fact_114 : decode cX3_fact 114 = .ok (.getfield 85, 3) := by decide +kernel
theorem dX3_fact_117 : decode cX3_fact 117 = .ok (.ireturn, 1) := by decide +kernel
theorem dX3_fact_118 : decode cX3_fact 118 = .ok (.aload_n 0, 1) := by decide +kernel
theorem dX3_fact_119 : decode cX3_fact 119 = .ok (.getfield 21, 3) := by decide +kernel
theorem dX3_fact_122 : decode cX3_fact 122 = .ok (.getfield 88, 3) := by decide +kernel
theorem dX3_fact_125 : decode cX3_fact 125 = .ok (.ireturn, 1) := by decide +kernel
theorem dX3_fact_126 : decode cX3_fact 126 = .ok (.aload_n 0, 1) := by decide +kernel
theorem dX3_fact_127 : decode cX3_fact 127 = .ok (.getfield 21, 3) := by decide +kernel
theorem dX3_fact_130 : decode cX3_fact 130 = .ok (.getfield 91, 3) := by decide +kernel
theorem dX3_fact_133 : decode cX3_fact 133 = .ok (.ireturn, 1) := by decide +kernel
theorem dX3_fact_134 : decode cX3_fact 134 = .ok (.aload_n 0, 1) := by decide +kernel
theorem dX3_fact_135 : decode cX3_fact 135 = .ok (.getfield 21, 3) := by decide +kernel
theorem dX3_fact_138 : decode cX3_fact 138 = .ok (.getfield 94, 3) := by decide +kernel
theorem dX3_fact_141 : decode cX3_fact 141 = .ok (.ireturn, 1) := by decide +kernel
theorem dX3_fact_142 : decode cX3_fact 142 = .ok (.aload_n 0, 1) := by decide +kernel
theorem dX3_fact_143 : decode cX3_fact 143 = .ok (.getfield 56, 3) := by decide +kernel
theorem dX3_fact_146 : decode cX3_fact 146 = .ok (.ireturn, 1) := by decide +kernel
theorem dX3_fact_147 : decode cX3_fact 147 = .ok (.aload_n 0, 1) := by decide +kernel
theorem dX3_fact_148 : decode cX3_fact 148 = .ok (.getfield 59, 3) := by decide +kernel
theorem dX3_fact_151 : decode cX3_fact 151 = .ok (.ireturn, 1) := by decide +kernel
theorem dX3_fact_152 : decode cX3_fact 152 = .ok (.aload_n 0, 1) := by decide +kernel
theorem dX3_fact_153 : decode cX3_fact 153 = .ok (.getfield 65, 3) := by decide +kernel
theorem dX3_fact_156 : decode cX3_fact 156 = .ok (.ireturn, 1) := by decide +kernel
theorem dX3_fact_157 : decode cX3_fact 157 = .ok (.aload_n 0, 1) := by decide +kernel
theorem dX3_fact_158 : decode cX3_fact 158 = .ok (.getfield 68, 3) := by decide +kernel
theorem dX3_fact_161 : decode cX3_fact 161 = .ok (.ireturn, 1) := by decide +kernel
theorem dX3_fact_162 : decode cX3_fact 162 = .ok (.aload_n 0, 1) := by decide +kernel
theorem dX3_fact_163 : decode cX3_fact 163 = .ok (.getfield 71, 3) := by decide +kernel
theorem dX3_fact_166 : decode cX3_fact 166 = .ok (.ireturn, 1) := by decide +kernel
theorem dX3_fact_167 : decode cX3_fact 167 = .ok (.aload_n 0, 1) := by decide +kernel
theorem dX3_fact_168 : decode cX3_fact 168 = .ok (.getfield 62, 3) := by decide +kernel
theorem dX3_fact_171 : decode cX3_fact 171 = .ok (.ireturn, 1) := by decide +kernel
theorem dX3_fact_172 : decode cX3_fact 172 = .ok (.sipush (-1002), 3) := by decide +kernel
theorem dX3_fact_175 : decode cX3_fact 175 = .ok (.ireturn, 1) := by decide +kernel
theorem dX3_force_0 : decode cX3_force 0 = .ok (.aload_n 0, 1) := by decide +kernel
theorem dX3_force_1 : decode cX3_force 1 = .ok (.iload_n 1, 1) := by decide +kernel
theorem dX3_force_2 : decode cX3_force 2 = .ok (.putfield 31, 3) := by decide +kernel
theorem dX3_force_5 : decode cX3_force 5 = .ok (.aload_n 0, 1) := by decide +kernel
theorem dX3_force_6 : decode cX3_force 6 = .ok (.iconst 0, 1) := by decide +kernel
theorem dX3_force_7 : decode cX3_force 7 = .ok (.putfield 38, 3) := by decide +kernel
theorem dX3_force_10 : decode cX3_force 10 = .ok (.return_, 1) := by decide +kernel
set_option maxRecDepth 20000 in
theorem ggX3_live_X7_bring : GoodIn wsX3_live wsX7_bring := goodIn_r _ [14, 15, 16, 17, 18, 19, 20, 21, 227, 228, 229, 230, 231, 232, 233, 234] (by decide +kernel) (by decide +kernel)
set_option maxRecDepth 20000 in
theorem gX3_live_X7_bring : GoodIn wsX3_live (wsV RX3 97 RX7 yX7_bring wsX7_bring) := goodIn_app (goodIn_of _ (by decide +kernel)) ggX3_live_X7_bring
set_option maxRecDepth 20000 in
theorem ggX3_live_X3_surrender : GoodIn wsX3_live wsX3_surrender := goodIn_r _ [26, 1, 9, 6, 27, 28, 29, 30, 25, 31, 2, 32, 33, 34, 35, 36, 3, 4, 37, 38, 39, 40, 41, 42, 43, 44, 195, 196, 197, 198, 199, 200, 201, 202, 203, 204, 205, 206, 207, 208, 209, 210, 211, 212, 213, 214, 215, 216, 217, 218, 219, 220, 221, 222, 235, 236] (by decide +kernel) (by decide +kernel)
set_option maxRecDepth 20000 in
theorem gX3_live_X3_surrender : GoodIn wsX3_live (wsV RX3 103 RX3 yX3_surrender wsX3_surrender) := goodIn_app (goodIn_of _ (by decide +kernel)) ggX3_live_X3_surrender
set_option maxRecDepth 20000 in
theorem ggX3_live_X3_hear : GoodIn wsX3_live wsX3_hear := goodIn_r _ [48, 5, 1, 49, 50, 51, 13, 52, 20, 28, 29, 30, 25, 31, 9, 2, 32, 33, 34, 35, 36, 3, 4, 37, 38, 39, 40, 41, 42, 43, 44, 53, 54, 55, 56, 57, 58, 59, 60, 61, 62, 63, 64, 65, 66, 67, 68, 69, 70, 71, 72, 73, 74, 75, 76, 77, 78, 79, 80, 81, 82, 83, 84, 85, 86, 87, 88, 89, 90, 91, 92, 93, 94, 95, 96, 97, 98, 99, 100, 101, 102, 103, 104, 105, 106, 107, 108, 109, 110, 111, 112, 113, 114, 115, 116, 195, 196, 197, 198, 199, 200, 201, 202, 203, 204, 205, 206, 207, 208, 209, 210, 211, 212, 213, 214, 227, 228, 229, 230, 231, 232, 233, 234, 215, 216, 217, 218, 219, 220, 221, 222, 235, 236] (by decide +kernel) (by decide +kernel)
set_option maxRecDepth 20000 in
theorem gX3_live_X3_hear : GoodIn wsX3_live (wsV RX3 106 RX3 yX3_hear wsX3_hear) := goodIn_app (goodIn_of _ (by decide +kernel)) ggX3_live_X3_hear
set_option maxRecDepth 20000 in
theorem ggX3_live_X3_look : GoodIn wsX3_live wsX3_look := goodIn_r _ [120, 1, 9, 7, 8, 75, 28, 29, 30, 25, 31, 2, 32, 33, 34, 35, 36, 3, 4, 37, 38, 39, 40, 41, 42, 43, 44, 121, 122, 123, 124, 125, 66, 126, 102, 69, 103, 67, 68, 70, 127, 128, 129, 130, 131, 132, 133, 134, 135, 136, 137, 138, 139, 140, 141, 142, 143, 144, 145, 146, 147, 148, 149, 150, 195, 196, 197, 198, 199, 200, 201, 202, 203, 204, 205, 206, 207, 208, 209, 210, 211, 212, 213, 214, 223, 224, 225, 226, 215, 216, 217, 218, 219, 220, 221, 222, 235, 236] (by decide +kernel) (by decide +kernel)
set_option maxRecDepth 20000 in
theorem gX3_live_X3_look : GoodIn wsX3_live (wsV RX3 109 RX3 yX3_look wsX3_look) := goodIn_app (goodIn_of _ (by decide +kernel)) ggX3_live_X3_look
set_option maxRecDepth 20000 in
theorem ggX3_live_X7_sort : GoodIn wsX3_live wsX7_sort := goodIn_r _ [52, 20, 227, 228, 229, 230, 231, 232, 233, 234] (by decide +kernel) (by decide +kernel)
set_option maxRecDepth 20000 in
theorem gX3_live_X7_sort : GoodIn wsX3_live (wsV RX3 113 RX7 yX7_sort wsX7_sort) := goodIn_app (goodIn_of _ (by decide +kernel)) ggX3_live_X7_sort
set_option maxRecDepth 20000 in
theorem ggX3_live_X3_speak : GoodIn wsX3_live wsX3_speak := goodIn_r _ [154, 1, 155, 33, 9, 75, 66, 84, 156, 157, 158, 13, 159, 15, 16, 21, 160, 161, 162, 25, 163, 164, 165, 166, 42, 167, 131, 44, 168, 169, 170, 171, 172, 173, 174, 175, 34, 67, 68, 69, 70, 3, 37, 176, 177, 178, 179, 96, 180, 181, 182, 100, 183, 184, 185, 186, 187, 188, 189, 190, 101, 102, 103, 191, 192, 193, 194, 195, 196, 197, 198, 199, 200, 201, 202, 203, 204, 205, 206, 207, 208, 209, 210, 211, 212, 213, 214, 227, 228, 229, 230, 231, 232, 233, 234, 235, 236, 215, 216, 217, 218, 219, 220, 221, 222] (by decide +kernel) (by decide +kernel)
set_option maxRecDepth 20000 in
theorem gX3_live_X3_speak : GoodIn wsX3_live (wsV RX3 122 RX3 yX3_speak wsX3_speak) := goodIn_app (goodIn_of _ (by decide +kernel)) ggX3_live_X3_speak
theorem dX3_live_0 : decode cX3_live 0 = .ok (.aload_n 0, 1) := by decide +kernel
theorem dX3_live_1 : decode cX3_live 1 = .ok (.getfield 31, 3) := by decide +kernel
theorem dX3_live_4 : decode cX3_live 4 = .ok (.bipush 7, 2) := by decide +kernel
theorem dX3_live_6 : decode cX3_live 6 = .ok (.if_icmp .ne 7, 3) := by decide +kernel
theorem dX3_live_9 : decode cX3_live 9 = .ok (.iconst 1, 1) := by decide +kernel
theorem dX3_live_10 : decode cX3_live 10 = .ok (.goto 4, 3) := by decide +kernel
theorem dX3_live_13 : decode cX3_live 13 = .ok (.iconst 0, 1) := by decide +kernel
theorem dX3_live_14 : decode cX3_live 14 = .ok (.istore_n 2, 1) := by decide +kernel
theorem dX3_live_15 : decode cX3_live 15 = .ok (.aload_n 0, 1) := by decide +kernel
theorem dX3_live_16 : decode cX3_live 16 = .ok (.getfield 35, 3) := by decide +kernel
theorem dX3_live_19 : decode cX3_live 19 = .ok (.istore_n 3, 1) := by decide +kernel
theorem dX3_live_20 : decode cX3_live 20 = .ok (.aload_n 0, 1) := by decide +kernel
theorem dX3_live_21 : decode cX3_live 21 = .ok (.getfield 21, 3) := by decide +kernel
theorem dX3_live_24 : decode cX3_live 24 = .ok (.getfield 91, 3) := by decide +kernel
theorem dX3_live_27 : decode cX3_live 27 = .ok (.istore 4, 2) := by decide +kernel
theorem dX3_live_29 : decode cX3_live 29 = .ok (.aload_n 0, 1) := by decide +kernel
theorem dX3_live_30 : decode cX3_live 30 = .ok (.getfield 78, 3) := by decide +kernel
theorem dX3_live_33 : decode cX3_live 33 = .ok (.iload_n 1, 1) := by decide +kernel
theorem dX3_live_34 : decode cX3_live 34 = .ok (.invokevirtual 97, 3) := by decide +kernel
theorem dX3_live_37 : decode cX3_live 37 = .ok (.aload_n 0, 1) := by decide +kernel
theorem dX3_live_38 : decode cX3_live 38 = .ok (.invokevirtual 103, 3) := by decide +kernel
theorem dX3_live_41 : decode cX3_live 41 = .ok (.aload_n 0, 1) := by decide +kernel
theorem dX3_live_42 : decode cX3_live 42 = .ok (.getfield 35, 3) := by decide +kernel
theorem dX3_live_45 : decode cX3_live 45 = .ok (.iload_n 3, 1) := by decide +kernel
theorem dX3_live_46 : decode cX3_live 46 = .ok (.if_icmp .ne 7, 3) := by decide +kernel
theorem dX3_live_49 : decode cX3_live 49 = .ok (.aload_n 0, 1) := by decide +kernel
theorem dX3_live_50 : decode cX3_live 50 = .ok (.invokevirtual 106, 3) := by decide +kernel
theorem dX3_live_53 : decode cX3_live 53 = .ok (.aload_n 0, 1) := by decide +kernel
theorem dX3_live_54 : decode cX3_live 54 = .ok (.getfield 35, 3) := by decide +kernel
theorem dX3_live_57 : decode cX3_live 57 = .ok (.iload_n 3, 1) := by decide +kernel
theorem dX3_live_58 : decode cX3_live 58 = .ok (.if_icmp .ne 24, 3) := by decide +kernel
theorem dX3_live_61 : decode cX3_live 61 = .ok (.aload_n 0, 1) := by decide +kernel
theorem dX3_live_62 : decode cX3_live 62 = .ok (.aload_n 0, 1) := by decide +kernel
theorem dX3_live_63 : decode cX3_live 63 = .ok (.getfield 21, 3) := by decide +kernel
theorem dX3_live_66 : decode cX3_live 66 = .ok (.getfield 91, 3) := by decide +kernel
theorem dX3_live_69 : decode cX3_live 69 = .ok (.iload 4, 2) := by decide +kernel
theorem dX3_live_71 : decode cX3_live 71 = .ok (.if_icmp .le 7, 3) := by decide +kernel
theorem dX3_live_74 : decode cX3_live 74 = .ok (.iconst 1, 1) := by decide +kernel
theorem dX3_live_75 : decode cX3_live 75 = .ok (.goto 4, 3) := by decide +kernel
theorem dX3_live_78 : decode cX3_live 78 = .ok (.iconst 0, 1) := by decide +kernel
theorem dX3_live_79 : decode cX3_live 79 = .ok (.invokevirtual 109, 3) := by decide +kernel
theorem dX3_live_82 : decode cX3_live 82 = .ok (.aload_n 0, 1) := by decide +kernel
theorem dX3_live_83 : decode cX3_live 83 = .ok (.iload_n 2, 1) := by decide +kernel
theorem dX3_live_84 : decode cX3_live 84 = .ok (.ifCond .eq 22, 3) := by decide +kernel
theorem dX3_live_87 : decode cX3_live 87 = .ok (.aload_n 0, 1) := by decide +kernel
theorem dX3_live_88 : decode cX3_live 88 = .ok (.getfield 78, 3) := by decide +kernel
theorem dX3_live_91 : decode cX3_live 91 = .ok (.invokevirtual 113, 3) := by decide +kernel
theorem dX3_live_94 : decode cX3_live 94 = .ok (.ifCond .ne 12, 3) := by decide +kernel
theorem dX3_live_97 : decode cX3_live 97 = .ok (.aload_n 0, 1) := by decide +kernel
theorem dX3_live_98 : decode cX3_live 98 = .ok (.getfield 41, 3) := by decide +kernel
theorem dX3_live_101 : decode cX3_live 101 = .ok (.iconst 1, 1) := by decide +kernel
theorem dX3_live_102 : decode cX3_live 102 = .ok (.iadd, 1) := by decide +kernel
theorem dX3_live_103 : decode cX3_live 103 = .ok (.goto 4, 3) := by decide +kernel
theorem dX3_live_106 : decode cX3_live 106 = .ok (.iconst 0, 1) := by decide +kernel
theorem dX3_live_107 : decode cX3_live 107 = .ok (.putfield 41, 3) := by decide +kernel
theorem dX3_live_110 : decode cX3_live 110 = .ok (.aload_n 0, 1) := by decide +kernel
theorem dX3_live_111 : decode cX3_live 111 = .ok (.iload_n 1, 1) := by decide +kernel
theorem dX3_live_112 : decode cX3_live 112 = .ok (.aload_n 0, 1) := by decide +kernel
theorem dX3_live_113 : decode cX3_live 113 = .ok (.getfield 74, 3) := by decide +kernel
theorem dX3_live_116 : decode cX3_live 116 = .ok (.getfield 117, 3) := by decide +kernel
theorem dX3_live_119 : decode cX3_live 119 = .ok (.iadd, 1) := by decide +kernel
theorem dX3_live_120 : decode cX3_live 120 = .ok (.invokevirtual 122, 3) := by decide +kernel
theorem dX3_live_123 : decode cX3_live 123 = .ok (.aload_n 0, 1) := by decide +kernel
theorem dX3_live_124 : decode cX3_live 124 = .ok (.dup, 1) := by decide +kernel
theorem dX3_live_125 : decode cX3_live 125 = .ok (.getfield 38, 3) := by decide +kernel
theorem dX3_live_128 : decode cX3_live 128 = .ok (.iconst 1, 1) := by decide +kernel
theorem dX3_live_129 : decode cX3_live 129 = .ok (.iadd, 1) := by decide +kernel
theorem dX3_live_130 : decode cX3_live 130 = .ok (.putfield 38, 3) := by decide +kernel
theorem dX3_live_133 : decode cX3_live 133 = .ok (.return_, 1) := by decide +kernel
set_option maxRecDepth 20000 in
theorem ggX3_come_X0_forget : GoodIn wsX3_come wsX0_forget := goodIn_r _ [17, 18, 47, 48] (by decide +kernel) (by decide +kernel)
set_option maxRecDepth 20000 in
theorem gX3_come_X0_forget : GoodIn wsX3_come (wsV RX3 125 RX0 yX0_forget wsX0_forget) := goodIn_app (goodIn_of _ (by decide +kernel)) ggX3_come_X0_forget
theorem dX3_come_0 : decode cX3_come 0 = .ok (.aload_n 0, 1) := by decide +kernel
theorem dX3_come_1 : decode cX3_come 1 = .ok (.iload_n 1, 1) := by decide +kernel
theorem dX3_come_2 : decode cX3_come 2 = .ok (.putfield 31, 3) := by decide +kernel
theorem dX3_come_5 : decode cX3_come 5 = .ok (.aload_n 0, 1) := by decide +kernel
theorem dX3_come_6 : decode cX3_come 6 = .ok (.iconst 0, 1) := by decide +kernel
theorem dX3_come_7 : decode cX3_come 7 = .ok (.putfield 38, 3) := by decide +kernel
theorem dX3_come_10 : decode cX3_come 10 = .ok (.aload_n 0, 1) := by decide +kernel
theorem dX3_come_11 : decode cX3_come 11 = .ok (.dup, 1) := by decide +kernel
theorem dX3_come_12 : decode cX3_come 12 = .ok (.getfield 35, 3) := by decide +kernel
theorem dX3_come_15 : decode cX3_come 15 = .ok (.iconst 1, 1) := by decide +kernel
theorem dX3_come_16 : decode cX3_come 16 = .ok (.iadd, 1) := by decide +kernel
theorem dX3_come_17 : decode cX3_come 17 = .ok (.putfield 35, 3) := by decide +kernel
theorem dX3_come_20 : decode cX3_come 20 = .ok (.iload_n 1, 1) := by decide +kernel
theorem dX3_come_21 : decode cX3_come 21 = .ok (.iconst 3, 1) := by decide +kernel
theorem dX3_come_22 : decode cX3_come 22 = .ok (.if_icmp .ne 27, 3) := by decide +kernel
theorem dX3_come_25 : decode cX3_come 25 = .ok (.iconst 0, 1) := by decide +kernel
theorem dX3_come_26 : decode cX3_come 26 = .ok (.istore_n 2, 1) := by decide +kernel
theorem dX3_come_27 : decode cX3_come 27 = .ok (.iload_n 2, 1) := by decide +kernel
theorem dX3_come_28 : decode cX3_come 28 = .ok (.bipush 8, 2) := by decide +kernel
theorem dX3_come_30 : decode cX3_come 30 = .ok (.if_icmp .ge 16, 3) := by decide +kernel
theorem dX3_come_33 : decode cX3_come 33 = .ok (.aload_n 0, 1) := by decide +kernel
theorem dX3_come_34 : decode cX3_come 34 = .ok (.getfield 25, 3) := by decide +kernel
theorem dX3_come_37 : decode cX3_come 37 = .ok (.iload_n 2, 1) := by decide +kernel
theorem dX3_come_38 : decode cX3_come 38 = .ok (.iconst 0, 1) := by decide +kernel
theorem dX3_come_39 : decode cX3_come 39 = .ok (.iastore, 1) := by decide +kernel
theorem dX3_come_40 : decode cX3_come 40 = .ok (.iinc 2 1, 3) := by decide +kernel
theorem dX3_come_43 : decode cX3_come 43 = .ok (.goto (-16), 3) := by decide +kernel
theorem dX3_come_46 : decode cX3_come 46 = .ok (.goto 63, 3) := by decide +kernel
theorem dX3_come_49 : decode cX3_come 49 = .ok (.iload_n 1, 1) := by decide +kernel
theorem dX3_come_50 : decode cX3_come 50 = .ok (.iconst 4, 1) := by decide +kernel
theorem dX3_come_51 : decode cX3_come 51 = .ok (.if_icmp .ne 13, 3) := by decide +kernel
theorem dX3_come_54 : decode cX3_come 54 = .ok (.aload_n 0, 1) := by decide +kernel
theorem dX3_come_55 : decode cX3_come 55 = .ok (.getfield 12, 3) := by decide +kernel
theorem dX3_come_58 : decode cX3_come 58 = .ok (.invokevirtual 125, 3) := by decide +kernel
theorem dX3_come_61 : decode cX3_come 61 = .ok (.goto 48, 3) := by decide +kernel
theorem dX3_come_64 : decode cX3_come 64 = .ok (.iload_n 1, 1) := by decide +kernel
theorem dX3_come_65 : decode cX3_come 65 = .ok (.bipush 7, 2) := by decide +kernel
theorem dX3_come_67 : decode cX3_come 67 = .ok (.if_icmp .ne 42, 3) := by decide +kernel
theorem dX3_come_70 : decode cX3_come 70 = .ok (.aload_n 0, 1) := by decide +kernel
theorem dX3_come_71 : decode cX3_come 71 = .ok (.iconst 0, 1) := by decide +kernel
theorem dX3_come_72 : decode cX3_come 72 = .ok (.putfield 53, 3) := by decide +kernel
theorem dX3_come_75 : decode cX3_come 75 = .ok (.aload_n 0, 1) := by decide +kernel
theorem dX3_come_76 : decode cX3_come 76 = .ok (.iconst 0, 1) := by decide +kernel
theorem dX3_come_77 : decode cX3_come 77 = .ok (.putfield 56, 3) := by decide +kernel
theorem dX3_come_80 : decode cX3_come 80 = .ok (.aload_n 0, 1) := by decide +kernel
theorem dX3_come_81 : decode cX3_come 81 = .ok (.iconst 0, 1) := by decide +kernel
theorem dX3_come_82 : decode cX3_come 82 = .ok (.putfield 62, 3) := by decide +kernel
theorem dX3_come_85 : decode cX3_come 85 = .ok (.aload_n 0, 1) := by decide +kernel
theorem dX3_come_86 : decode cX3_come 86 = .ok (.getfield 21, 3) := by decide +kernel
theorem dX3_come_89 : decode cX3_come 89 = .ok (.aload_n 0, 1) := by decide +kernel
theorem dX3_come_90 : decode cX3_come 90 = .ok (.getfield 21, 3) := by decide +kernel
theorem dX3_come_93 : decode cX3_come 93 = .ok (.getfield 91, 3) := by decide +kernel
theorem dX3_come_96 : decode cX3_come 96 = .ok (.putfield 88, 3) := by decide +kernel
theorem dX3_come_99 : decode cX3_come 99 = .ok (.aload_n 0, 1) := by decide +kernel
theorem dX3_come_100 : decode cX3_come 100 = .ok (.dup, 1) := by decide +kernel
theorem dX3_come_101 : decode cX3_come 101 = .ok (.getfield 71, 3) := by decide +kernel
theorem dX3_come_104 : decode cX3_come 104 = .ok (.iconst 1, 1) := by decide +kernel
theorem dX3_come_105 : decode cX3_come 105 = .ok (.iadd, 1) := by decide +kernel
theorem dX3_come_106 : decode cX3_come 106 = .ok (.putfield 71, 3) := by decide +kernel
theorem dX3_come_109 : decode cX3_come 109 = .ok (.return_, 1) := by decide +kernel
set_option maxRecDepth 20000 in
theorem ggX3_surrender_X3_come : GoodIn wsX3_surrender wsX3_come := goodIn_r _ [9, 1, 2, 10, 11, 12, 13, 14, 15, 16, 17, 18, 19, 20, 21, 22, 23, 24, 25, 26, 27, 28, 29, 30, 31, 32, 33, 34, 35, 36, 37, 38, 39, 40, 41, 42, 43, 44, 45, 46, 47, 48, 49, 50, 51, 52, 53, 54, 55] (by decide +kernel) (by decide +kernel)
set_option maxRecDepth 20000 in
theorem gX3_surrender_X3_come : GoodIn wsX3_surrender (wsV RX3 128 RX3 yX3_come wsX3_come) := goodIn_app (goodIn_of _ (by decide +kernel)) ggX3_surrender_X3_come
theorem dX3_surrender_0 : decode cX3_surrender 0 = .ok (.aload_n 0, 1) := by decide +kernel
theorem dX3_surrender_1 : decode cX3_surrender 1 = .ok (.getfield 31, 3) := by decide +kernel
theorem dX3_surrender_4 : decode cX3_surrender 4 = .ok (.bipush 7, 2) := by decide +kernel
theorem dX3_surrender_6 : decode cX3_surrender 6 = .ok (.if_icmp .ne 7, 3) := by decide +kernel
theorem dX3_surrender_9 : decode cX3_surrender 9 = .ok (.iconst 1, 1) := by decide +kernel
theorem dX3_surrender_10 : decode cX3_surrender 10 = .ok (.goto 4, 3) := by decide +kernel
theorem dX3_surrender_13 : decode cX3_surrender 13 = .ok (.iconst 0, 1) := by decide +kernel
theorem dX3_surrender_14 : decode cX3_surrender 14 = .ok (.istore_n 1, 1) := by decide +kernel
theorem dX3_surrender_15 : decode cX3_surrender 15 = .ok (.aload_n 0, 1) := by decide +kernel
theorem dX3_surrender_16 : decode cX3_surrender 16 = .ok (.getfield 31, 3) := by decide +kernel
theorem dX3_surrender_19 : decode cX3_surrender 19 = .ok (.ifCond .eq 20, 3) := by decide +kernel
theorem dX3_surrender_22 : decode cX3_surrender 22 = .ok (.iload_n 1, 1) := by decide +kernel
theorem dX3_surrender_23 : decode cX3_surrender 23 = .ok (.ifCond .ne 16, 3) := by decide +kernel
theorem dX3_surrender_26 : decode cX3_surrender 26 = .ok (.aload_n 0, 1) := by decide +kernel
theorem dX3_surrender_27 : decode cX3_surrender 27 = .ok (.getfield 38, 3) := by decide +kernel
theorem dX3_surrender_30 : decode cX3_surrender 30 = .ok (.bipush 60, 2) := by decide +kernel
theorem dX3_surrender_32 : decode cX3_surrender 32 = .ok (.if_icmp .lt 7, 3) := by decide +kernel
theorem dX3_surrender_35 : decode cX3_surrender 35 = .ok (.iconst 1, 1) := by decide +kernel
theorem dX3_surrender_36 : decode cX3_surrender 36 = .ok (.goto 4, 3) := by decide +kernel
theorem dX3_surrender_39 : decode cX3_surrender 39 = .ok (.iconst 0, 1) := by decide +kernel
theorem dX3_surrender_40 : decode cX3_surrender 40 = .ok (.istore_n 2, 1) := by decide +kernel
theorem dX3_surrender_41 : decode cX3_surrender 41 = .ok (.iload_n 2, 1) := by decide +kernel
theorem dX3_surrender_42 : decode cX3_surrender 42 = .ok (.ifCond .ne 16, 3) := by decide +kernel
theorem dX3_surrender_45 : decode cX3_surrender 45 = .ok (.iload_n 1, 1) := by decide +kernel
theorem dX3_surrender_46 : decode cX3_surrender 46 = .ok (.ifCond .eq 27, 3) := by decide +kernel
theorem dX3_surrender_49 : decode cX3_surrender 49 = .ok (.aload_n 0, 1) := by decide +kernel
theorem dX3_surrender_50 : decode cX3_surrender 50 = .ok (.getfield 41, 3) := by decide +kernel
theorem dX3_surrender_53 : decode cX3_surrender 53 = .ok (.bipush 16, 2) := by decide +kernel
theorem dX3_surrender_55 : decode cX3_surrender 55 = .ok (.if_icmp .lt 18, 3) := by decide +kernel
theorem dX3_surrender_58 : decode cX3_surrender 58 = .ok (.aload_n 0, 1) := by decide +kernel
theorem dX3_surrender_59 : decode cX3_surrender 59 = .ok (.dup, 1) := by decide +kernel
theorem dX3_surrender_60 : decode cX3_surrender 60 = .ok (.getfield 65, 3) := by decide +kernel
theorem dX3_surrender_63 : decode cX3_surrender 63 = .ok (.iconst 1, 1) := by decide +kernel
theorem dX3_surrender_64 : decode cX3_surrender 64 = .ok (.iadd, 1) := by decide +kernel
theorem dX3_surrender_65 : decode cX3_surrender 65 = .ok (.putfield 65, 3) := by decide +kernel
theorem dX3_surrender_68 : decode cX3_surrender 68 = .ok (.aload_n 0, 1) := by decide +kernel
theorem dX3_surrender_69 : decode cX3_surrender 69 = .ok (.iconst 0, 1) := by decide +kernel
theorem dX3_surrender_70 : decode cX3_surrender 70 = .ok (.invokevirtual 128, 3) := by decide +kernel
theorem dX3_surrender_73 : decode cX3_surrender 73 = .ok (.return_, 1) := by decide +kernel
set_option maxRecDepth 20000 in
theorem ggX3_hear_X7_sort : GoodIn wsX3_hear wsX7_sort := goodIn_r _ [7, 8, 115, 116, 117, 118, 119, 120, 121, 122] (by decide +kernel) (by decide +kernel)
set_option maxRecDepth 20000 in
theorem gX3_hear_X7_sort : GoodIn wsX3_hear (wsV RX3 113 RX7 yX7_sort wsX7_sort) := goodIn_app (goodIn_of _ (by decide +kernel)) ggX3_hear_X7_sort
set_option maxRecDepth 20000 in
theorem ggX3_hear_X3_come : GoodIn wsX3_hear wsX3_come := goodIn_r _ [13, 2, 14, 15, 16, 17, 18, 19, 20, 21, 22, 23, 24, 25, 26, 27, 28, 29, 30, 95, 96, 97, 98, 99, 100, 101, 102, 103, 104, 105, 106, 107, 108, 109, 110, 111, 112, 113, 114, 123, 124, 125, 126, 127, 128, 129, 130, 131, 132] (by decide +kernel) (by decide +kernel)
set_option maxRecDepth 20000 in
theorem gX3_hear_X3_come : GoodIn wsX3_hear (wsV RX3 128 RX3 yX3_come wsX3_come) := goodIn_app (goodIn_of _ (by decide +kernel)) ggX3_hear_X3_come
set_option maxRecDepth 20000 in
theorem ggX3_hear_X7_first : GoodIn wsX3_hear wsX7_first := goodIn_r _ [34, 8, 115, 116, 117, 118, 119, 120, 121, 122] (by decide +kernel) (by decide +kernel)
set_option maxRecDepth 20000 in
theorem gX3_hear_X7_first : GoodIn wsX3_hear (wsV RX3 133 RX7 yX7_first wsX7_first) := goodIn_app (goodIn_of _ (by decide +kernel)) ggX3_hear_X7_first
set_option maxRecDepth 20000 in
theorem ggX3_hear_X3_note : GoodIn wsX3_hear wsX3_note := goodIn_r _ [38, 16, 1, 39, 95, 96, 97, 98, 99, 100, 101, 102, 103, 104, 105, 106, 107, 108, 109, 110, 111, 112, 113, 114, 115, 116, 117, 118, 119, 120, 121, 122] (by decide +kernel) (by decide +kernel)
set_option maxRecDepth 20000 in
theorem gX3_hear_X3_note : GoodIn wsX3_hear (wsV RX3 136 RX3 yX3_note wsX3_note) := goodIn_app (goodIn_of _ (by decide +kernel)) ggX3_hear_X3_note
set_option maxRecDepth 20000 in
theorem ggX3_hear_X3_hearInBargain : GoodIn wsX3_hear wsX3_hearInBargain := goodIn_r _ [43, 1, 44, 45, 46, 47, 48, 49, 50, 51, 12, 52, 53, 3, 4, 5, 6, 7, 8, 31, 32, 33, 34, 54, 55, 56, 57, 58, 59, 60, 61, 62, 9, 10, 11, 13, 2, 14, 15, 16, 17, 18, 19, 20, 21, 22, 23, 24, 25, 26, 27, 28, 29, 30, 63, 64, 65, 66, 95, 96, 97, 98, 99, 100, 101, 102, 103, 104, 105, 106, 107, 108, 109, 110, 111, 112, 113, 114, 115, 116, 117, 118, 119, 120, 121, 122, 123, 124, 125, 126, 127, 128, 129, 130, 131, 132] (by decide +kernel) (by decide +kernel)
set_option maxRecDepth 20000 in
theorem gX3_hear_X3_hearInBargain : GoodIn wsX3_hear (wsV RX3 139 RX3 yX3_hearInBargain wsX3_hearInBargain) := goodIn_app (goodIn_of _ (by decide +kernel)) ggX3_hear_X3_hearInBargain
set_option maxRecDepth 20000 in
theorem ggX3_hear_X3_isOfRound : GoodIn wsX3_hear wsX3_isOfRound := goodIn_r _ [52, 1, 53, 3, 4, 5, 6, 7, 8, 31, 32, 33, 34, 95, 96, 97, 98, 99, 100, 101, 102, 103, 104, 105, 106, 107, 108, 109, 110, 111, 112, 113, 114, 115, 116, 117, 118, 119, 120, 121, 122] (by decide +kernel) (by decide +kernel)
set_option maxRecDepth 20000 in
theorem gX3_hear_X3_isOfRound : GoodIn wsX3_hear (wsV RX3 142 RX3 yX3_isOfRound wsX3_isOfRound) := goodIn_app (goodIn_of _ (by decide +kernel)) ggX3_hear_X3_isOfRound
set_option maxRecDepth 20000 in
theorem ggX3_hear_X3_hearGreaterRound : GoodIn wsX3_hear wsX3_hearGreaterRound := goodIn_r _ [66, 1, 53, 3, 4, 5, 6, 7, 8, 31, 32, 33, 34, 9, 10, 11, 12, 13, 2, 14, 15, 16, 17, 18, 19, 20, 21, 22, 23, 24, 25, 26, 27, 28, 29, 30, 95, 96, 97, 98, 99, 100, 101, 102, 103, 104, 105, 106, 107, 108, 109, 110, 111, 112, 113, 114, 115, 116, 117, 118, 119, 120, 121, 122, 123, 124, 125, 126, 127, 128, 129, 130, 131, 132] (by decide +kernel) (by decide +kernel)
set_option maxRecDepth 20000 in
theorem gX3_hear_X3_hearGreaterRound : GoodIn wsX3_hear (wsV RX3 146 RX3 yX3_hearGreaterRound wsX3_hearGreaterRound) := goodIn_app (goodIn_of _ (by decide +kernel)) ggX3_hear_X3_hearGreaterRound
set_option maxRecDepth 20000 in
theorem ggX3_hear_X3_hearInData : GoodIn wsX3_hear wsX3_hearInData := goodIn_r _ [70, 20, 1, 21, 3, 4, 5, 6, 7, 8, 49, 50, 51, 12, 52, 53, 31, 32, 33, 34, 71, 72, 73, 74, 75, 76, 77, 78, 79, 80, 47, 81, 82, 55, 56, 57, 83, 84, 85, 86, 87, 88, 89, 90, 91, 92, 93, 94, 63, 64, 65, 66, 9, 10, 11, 13, 2, 14, 15, 16, 17, 18, 19, 22, 23, 24, 25, 26, 27, 28, 29, 30, 95, 96, 97, 98, 99, 100, 101, 102, 103, 104, 105, 106, 107, 108, 109, 110, 111, 112, 113, 114, 115, 116, 117, 118, 119, 120, 121, 122, 123, 124, 125, 126, 127, 128, 129, 130, 131, 132] (by decide +kernel) (by decide +kernel)
set_option maxRecDepth 20000 in
theorem gX3_hear_X3_hearInData : GoodIn wsX3_hear (wsV RX3 149 RX3 yX3_hearInData wsX3_hearInData) := goodIn_app (goodIn_of _ (by decide +kernel)) ggX3_hear_X3_hearInData
theorem dX3_hear_0 : decode cX3_hear 0 = .ok (.aload_n 0, 1) := by decide +kernel
theorem dX3_hear_1 : decode cX3_hear 1 = .ok (.getfield 78, 3) := by decide +kernel
theorem dX3_hear_4 : decode cX3_hear 4 = .ok (.invokevirtual 113, 3) := by decide +kernel
theorem dX3_hear_7 : decode cX3_hear 7 = .ok (.istore_n 1, 1) := by decide +kernel
theorem dX3_hear_8 : decode cX3_hear 8 = .ok (.aload_n 0, 1) := by decide +kernel
theorem dX3_hear_9 : decode cX3_hear 9 = .ok (.getfield 31, 3) := by decide +kernel
theorem dX3_hear_12 : decode cX3_hear 12 = .ok (.tableswitch 165 0 7 #[48, 61, 74, 98, 165, 117, 124, 158], 48) := by decide +kernel
theorem dX3_hear_60 : decode cX3_hear 60 = .ok (.iload_n 1, 1) := by decide +kernel
theorem dX3_hear_61 : decode cX3_hear 61 = .ok (.iconst 1, 1) := by decide +kernel
theorem dX3_hear_62 : decode cX3_hear 62 = .ok (.if_icmp .ne 115, 3) := by decide +kernel
theorem dX3_hear_65 : decode cX3_hear 65 = .ok (.aload_n 0, 1) := by decide +kernel
theorem dX3_hear_66 : decode cX3_hear 66 = .ok (.iconst 2, 1) := by decide +kernel
theorem dX3_hear_67 : decode cX3_hear 67 = .ok (.invokevirtual 128, 3) := by decide +kernel
theorem dX3_hear_70 : decode cX3_hear 70 = .ok (.goto 107, 3) := by decide +kernel
theorem dX3_hear_73 : decode cX3_hear 73 = .ok (.iload_n 1, 1) := by decide +kernel
theorem dX3_hear_74 : decode cX3_hear 74 = .ok (.iconst 2, 1) := by decide +kernel
theorem dX3_hear_75 : decode cX3_hear 75 = .ok (.if_icmp .ne 102, 3) := by decide +kernel
theorem dX3_hear_78 : decode cX3_hear 78 = .ok (.aload_n 0, 1) := by decide +kernel
theorem dX3_hear_79 : decode cX3_hear 79 = .ok (.iconst 3, 1) := by decide +kernel
theorem dX3_hear_80 : decode cX3_hear 80 = .ok (.invokevirtual 128, 3) := by decide +kernel
theorem dX3_hear_83 : decode cX3_hear 83 = .ok (.goto 94, 3) := by decide +kernel
theorem dX3_hear_86 : decode cX3_hear 86 = .ok (.iload_n 1, 1) := by decide +kernel
theorem dX3_hear_87 : decode cX3_hear 87 = .ok (.iconst 3, 1) := by decide +kernel
theorem dX3_hear_88 : decode cX3_hear 88 = .ok (.if_icmp .ne 89, 3) := by decide +kernel
theorem dX3_hear_91 : decode cX3_hear 91 = .ok (.aload_n 0, 1) := by decide +kernel
theorem dX3_hear_92 : decode cX3_hear 92 = .ok (.iconst 3, 1) := by decide +kernel
theorem dX3_hear_93 : decode cX3_hear 93 = .ok (.invokevirtual 128, 3) := by decide +kernel
theorem dX3_hear_96 : decode cX3_hear 96 = .ok (.aload_n 0, 1) := by decide +kernel
theorem dX3_hear_97 : decode cX3_hear 97 = .ok (.aload_n 0, 1) := by decide +kernel
theorem dX3_hear_98 : decode cX3_hear 98 = .ok (.getfield 78, 3) := by decide +kernel
theorem dX3_hear_101 : decode cX3_hear 101 = .ok (.invokevirtual 133, 3) := by decide +kernel
theorem dX3_hear_104 : decode cX3_hear 104 = .ok (.invokevirtual 136, 3) := by decide +kernel
theorem dX3_hear_107 : decode cX3_hear 107 = .ok (.goto 70, 3) := by decide +kernel
theorem dX3_hear_110 : decode cX3_hear 110 = .ok (.iload_n 1, 1) := by decide +kernel
theorem dX3_hear_111 : decode cX3_hear 111 = .ok (.iconst 3, 1) := by decide +kernel
theorem dX3_hear_112 : decode cX3_hear 112 = .ok (.if_icmp .ne 65, 3) := by decide +kernel
theorem dX3_hear_115 : decode cX3_hear 115 = .ok (.aload_n 0, 1) := by decide +kernel
theorem dX3_hear_116 : decode cX3_hear 116 = .ok (.aload_n 0, 1) := by decide +kernel
theorem dX3_hear_117 : decode cX3_hear 117 = .ok (.getfield 78, 3) := by decide +kernel
theorem dX3_hear_120 : decode cX3_hear 120 = .ok (.invokevirtual 133, 3) := by decide +kernel
theorem dX3_hear_123 : decode cX3_hear 123 = .ok (.invokevirtual 136, 3) := by decide +kernel
theorem dX3_hear_126 : decode cX3_hear 126 = .ok (.goto 51, 3) := by decide +kernel
theorem dX3_hear_129 : decode cX3_hear 129 = .ok (.aload_n 0, 1) := by decide +kernel
theorem dX3_hear_130 : decode cX3_hear 130 = .ok (.invokevirtual 139, 3) := by decide +kernel
theorem dX3_hear_133 : decode cX3_hear 133 = .ok (.goto 44, 3) := by decide +kernel
theorem dX3_hear_136 : decode cX3_hear 136 = .ok (.aload_n 0, 1) := by decide +kernel
theorem dX3_hear_137 : decode cX3_hear 137 = .ok (.bipush 6, 2) := by decide +kernel
theorem dX3_hear_139 : decode cX3_hear 139 = .ok (.invokevirtual 142, 3) := by decide +kernel
theorem dX3_hear_142 : decode cX3_hear 142 = .ok (.ifCond .ne 12, 3) := by decide +kernel
theorem dX3_hear_145 : decode cX3_hear 145 = .ok (.aload_n 0, 1) := by decide +kernel
theorem dX3_hear_146 : decode cX3_hear 146 = .ok (.bipush 7, 2) := by decide +kernel
theorem dX3_hear_148 : decode cX3_hear 148 = .ok (.invokevirtual 142, 3) := by decide +kernel
theorem dX3_hear_151 : decode cX3_hear 151 = .ok (.ifCond .eq 12, 3) := by decide +kernel
theorem dX3_hear_154 : decode cX3_hear 154 = .ok (.aload_n 0, 1) := by decide +kernel
theorem dX3_hear_155 : decode cX3_hear 155 = .ok (.bipush 7, 2) := by decide +kernel
theorem dX3_hear_157 : decode cX3_hear 157 = .ok (.invokevirtual 128, 3) := by decide +kernel
theorem dX3_hear_160 : decode cX3_hear 160 = .ok (.goto 17, 3) := by decide +kernel
theorem dX3_hear_163 : decode cX3_hear 163 = .ok (.aload_n 0, 1) := by decide +kernel
theorem dX3_hear_164 : decode cX3_hear 164 = .ok (.invokevirtual 146, 3) := by decide +kernel
theorem dX3_hear_167 : decode cX3_hear 167 = .ok (.goto 10, 3) := by decide +kernel
theorem dX3_hear_170 : decode cX3_hear 170 = .ok (.aload_n 0, 1) := by decide +kernel
theorem dX3_hear_171 : decode cX3_hear 171 = .ok (.invokevirtual 149, 3) := by decide +kernel
theorem dX3_hear_174 : decode cX3_hear 174 = .ok (.goto 3, 3) := by decide +kernel
theorem dX3_hear_177 : decode cX3_hear 177 = .ok (.return_, 1) := by decide +kernel
theorem dX3_note_0 : decode cX3_note 0 = .ok (.iload_n 1, 1) := by decide +kernel
theorem dX3_note_1 : decode cX3_note 1 = .ok (.ifCond .lt 24, 3) := by decide +kernel
theorem dX3_note_4 : decode cX3_note 4 = .ok (.iload_n 1, 1) := by decide +kernel
theorem dX3_note_5 : decode cX3_note 5 = .ok (.bipush 8, 2) := by decide +kernel
theorem dX3_note_7 : decode cX3_note 7 = .ok (.if_icmp .ge 18, 3) := by decide +kernel
theorem dX3_note_10 : decode cX3_note 10 = .ok (.aload_n 0, 1) := by decide +kernel
theorem dX3_note_11 : decode cX3_note 11 = .ok (.getfield 25, 3) := by decide +kernel
theorem dX3_note_14 : decode cX3_note 14 = .ok (.iload_n 1, 1) := by decide +kernel
theorem dX3_note_15 : decode cX3_note 15 = .ok (.aload_n 0, 1) := by decide +kernel
theorem dX3_note_16 : decode cX3_note 16 = .ok (.getfield 78, 3) := by decide +kernel
theorem dX3_note_19 : decode cX3_note 19 = .ok (.getfield 152, 3) := by decide +kernel
theorem dX3_note_22 : decode cX3_note 22 = .ok (.iload_n 1, 1) := by decide +kernel
theorem dX3_note_23 : decode cX3_note 23 = .ok (.iaload, 1) := by decide +kernel
theorem dX3_note_24 : decode cX3_note 24 = .ok (.iastore, 1) := by decide +kernel
theorem dX3_note_25 : decode cX3_note 25 = .ok (.return_, 1) := by decide +kernel
set_option maxRecDepth 20000 in
theorem ggX3_isOfRound_X7_sort : GoodIn wsX3_isOfRound wsX7_sort := goodIn_r _ [7, 8, 33, 34, 35, 36, 37, 38, 39, 40] (by decide +kernel) (by decide +kernel)
set_option maxRecDepth 20000 in
theorem gX3_isOfRound_X7_sort : GoodIn wsX3_isOfRound (wsV RX3 113 RX7 yX7_sort wsX7_sort) := goodIn_app (goodIn_of _ (by decide +kernel)) ggX3_isOfRound_X7_sort
set_option maxRecDepth 20000 in
theorem ggX3_isOfRound_X7_first : GoodIn wsX3_isOfRound wsX7_first := goodIn_r _ [12, 8, 33, 34, 35, 36, 37, 38, 39, 40] (by decide +kernel) (by decide +kernel)
set_option maxRecDepth 20000 in
theorem gX3_isOfRound_X7_first : GoodIn wsX3_isOfRound (wsV RX3 133 RX7 yX7_first wsX7_first) := goodIn_app (goodIn_of _ (by decide +kernel)) ggX3_isOfRound_X7_first
theorem dX3_isOfRound_0 : decode cX3_isOfRound 0 = .ok (.aload_n 0, 1) := by decide +kernel
theorem dX3_isOfRound_1 : decode cX3_isOfRound 1 = .ok (.getfield 78, 3) := by decide +kernel
theorem dX3_isOfRound_4 : decode cX3_isOfRound 4 = .ok (.invokevirtual 113, 3) := by decide +kernel
theorem dX3_isOfRound_7 : decode cX3_isOfRound 7 = .ok (.iload_n 1, 1) := by decide +kernel
theorem dX3_isOfRound_8 : decode cX3_isOfRound 8 = .ok (.if_icmp .ne 21, 3) := by decide +kernel
theorem dX3_isOfRound_11 : decode cX3_isOfRound 11 = .ok (.aload_n 0, 1) := by decide +kernel
theorem dX3_isOfRound_12 : decode cX3_isOfRound 12 = .ok (.getfield 78, 3) := by decide +kernel
theorem dX3_isOfRound_15 : decode cX3_isOfRound 15 = .ok (.invokevirtual 133, 3) := by decide +kernel
theorem dX3_isOfRound_18 : decode cX3_isOfRound 18 = .ok (.aload_n 0, 1) := by decide +kernel
theorem dX3_isOfRound_19 : decode cX3_isOfRound 19 = .ok (.getfield 44, 3) := by decide +kernel
theorem dX3_isOfRound_22 : decode cX3_isOfRound 22 = .ok (.if_icmp .ne 7, 3) := by decide +kernel
theorem dX3_isOfRound_25 : decode cX3_isOfRound 25 = .ok (.iconst 1, 1) := by decide +kernel
theorem dX3_isOfRound_26 : decode cX3_isOfRound 26 = .ok (.goto 4, 3) := by decide +kernel
theorem dX3_isOfRound_29 : decode cX3_isOfRound 29 = .ok (.iconst 0, 1) := by decide +kernel
theorem dX3_isOfRound_30 : decode cX3_isOfRound 30 = .ok (.ireturn, 1) := by decide +kernel
set_option maxRecDepth 20000 in
theorem ggX3_hearGreaterRound_X7_sort : GoodIn wsX3_hearGreaterRound wsX7_sort := goodIn_r _ [7, 8, 56, 57, 58, 59, 60, 61, 62, 63] (by decide +kernel) (by decide +kernel)
set_option maxRecDepth 20000 in
theorem gX3_hearGreaterRound_X7_sort : GoodIn wsX3_hearGreaterRound (wsV RX3 113 RX7 yX7_sort wsX7_sort) := goodIn_app (goodIn_of _ (by decide +kernel)) ggX3_hearGreaterRound_X7_sort
set_option maxRecDepth 20000 in
theorem ggX3_hearGreaterRound_X7_first : GoodIn wsX3_hearGreaterRound wsX7_first := goodIn_r _ [12, 8, 56, 57, 58, 59, 60, 61, 62, 63] (by decide +kernel) (by decide +kernel)
set_option maxRecDepth 20000 in
theorem gX3_hearGreaterRound_X7_first : GoodIn wsX3_hearGreaterRound (wsV RX3 133 RX7 yX7_first wsX7_first) := goodIn_app (goodIn_of _ (by decide +kernel)) ggX3_hearGreaterRound_X7_first
set_option maxRecDepth 20000 in
theorem ggX3_hearGreaterRound_X3_come : GoodIn wsX3_hearGreaterRound wsX3_come := goodIn_r _ [17, 18, 19, 20, 21, 22, 23, 24, 25, 26, 27, 28, 29, 30, 31, 32, 33, 34, 35, 36, 37, 38, 39, 40, 41, 42, 43, 44, 45, 46, 47, 48, 49, 50, 51, 52, 53, 54, 55, 64, 65, 66, 67, 68, 69, 70, 71, 72, 73] (by decide +kernel) (by decide +kernel)
set_option maxRecDepth 20000 in
theorem gX3_hearGreaterRound_X3_come : GoodIn wsX3_hearGreaterRound (wsV RX3 128 RX3 yX3_come wsX3_come) := goodIn_app (goodIn_of _ (by decide +kernel)) ggX3_hearGreaterRound_X3_come
theorem dX3_hearGreaterRound_0 : decode cX3_hearGreaterRound 0 = .ok (.aload_n 0, 1) := by decide +kernel
theorem dX3_hearGreaterRound_1 : decode cX3_hearGreaterRound 1 = .ok (.getfield 78, 3) := by decide +kernel
theorem dX3_hearGreaterRound_4 : decode cX3_hearGreaterRound 4 = .ok (.invokevirtual 113, 3) := by decide +kernel
theorem dX3_hearGreaterRound_7 : decode cX3_hearGreaterRound 7 = .ok (.iconst 5, 1) := by decide +kernel
theorem dX3_hearGreaterRound_8 : decode cX3_hearGreaterRound 8 = .ok (.if_icmp .ne 33, 3) := by decide +kernel
theorem dX3_hearGreaterRound_11 : decode cX3_hearGreaterRound 11 = .ok (.aload_n 0, 1) := by decide +kernel
theorem dX3_hearGreaterRound_12 : decode cX3_hearGreaterRound 12 = .ok (.getfield 78, 3) := by decide +kernel
theorem dX3_hearGreaterRound_15 : decode cX3_hearGreaterRound 15 = .ok (.invokevirtual 133, 3) := by decide +kernel
theorem dX3_hearGreaterRound_18 : decode cX3_hearGreaterRound 18 = .ok (.aload_n 0, 1) := by decide +kernel
theorem dX3_hearGreaterRound_19 : decode cX3_hearGreaterRound 19 = .ok (.getfield 44, 3) := by decide +kernel
theorem dX3_hearGreaterRound_22 : decode cX3_hearGreaterRound 22 = .ok (.if_icmp .le 19, 3) := by decide +kernel
theorem dX3_hearGreaterRound_25 : decode cX3_hearGreaterRound 25 = .ok (.aload_n 0, 1) := by decide +kernel
theorem dX3_hearGreaterRound_26 : decode cX3_hearGreaterRound 26 = .ok (.aload_n 0, 1) := by decide +kernel
theorem dX3_hearGreaterRound_27 : decode cX3_hearGreaterRound 27 = .ok (.getfield 78, 3) := by decide +kernel
theorem dX3_hearGreaterRound_30 : decode cX3_hearGreaterRound 30 = .ok (.invokevirtual 133, 3) := by decide +kernel
theorem dX3_hearGreaterRound_33 : decode cX3_hearGreaterRound 33 = .ok (.putfield 44, 3) := by decide +kernel
theorem dX3_hearGreaterRound_36 : decode cX3_hearGreaterRound 36 = .ok (.aload_n 0, 1) := by decide +kernel
theorem dX3_hearGreaterRound_37 : decode cX3_hearGreaterRound 37 = .ok (.iconst 5, 1) := by decide +kernel
theorem dX3_hearGreaterRound_38 : decode cX3_hearGreaterRound 38 = .ok (.invokevirtual 128, 3) := by decide +kernel
theorem dX3_hearGreaterRound_41 : decode cX3_hearGreaterRound 41 = .ok (.return_, 1) := by decide +kernel
set_option maxRecDepth 20000 in
theorem ggX3_hearInBargain_X3_isOfRound : GoodIn wsX3_hearInBargain wsX3_isOfRound := goodIn_r _ [11, 1, 12, 13, 14, 15, 16, 17, 18, 19, 20, 21, 22, 58, 59, 60, 61, 62, 63, 64, 65, 66, 67, 68, 69, 70, 71, 72, 73, 74, 75, 76, 77, 78, 79, 80, 81, 82, 83, 84, 85] (by decide +kernel) (by decide +kernel)
set_option maxRecDepth 20000 in
theorem gX3_hearInBargain_X3_isOfRound : GoodIn wsX3_hearInBargain (wsV RX3 142 RX3 yX3_isOfRound wsX3_isOfRound) := goodIn_app (goodIn_of _ (by decide +kernel)) ggX3_hearInBargain_X3_isOfRound
set_option maxRecDepth 20000 in
theorem ggX3_hearInBargain_X7_second : GoodIn wsX3_hearInBargain wsX7_second := goodIn_r _ [26, 18, 78, 79, 80, 81, 82, 83, 84, 85] (by decide +kernel) (by decide +kernel)
set_option maxRecDepth 20000 in
theorem gX3_hearInBargain_X7_second : GoodIn wsX3_hearInBargain (wsV RX3 155 RX7 yX7_second wsX7_second) := goodIn_app (goodIn_of _ (by decide +kernel)) ggX3_hearInBargain_X7_second
set_option maxRecDepth 20000 in
theorem ggX3_hearInBargain_X3_settle : GoodIn wsX3_hearInBargain wsX3_settle := goodIn_r _ [30, 31, 32, 33, 34, 10, 35, 36, 37, 38, 39, 40, 41, 42, 43, 44, 45, 46, 47, 48, 49, 50, 51, 52, 53, 58, 59, 60, 61, 62, 63, 64, 65, 66, 67, 68, 69, 70, 71, 72, 73, 74, 75, 76, 77, 86, 87, 88, 89, 90, 91, 92, 93, 94, 95] (by decide +kernel) (by decide +kernel)
set_option maxRecDepth 20000 in
theorem gX3_hearInBargain_X3_settle : GoodIn wsX3_hearInBargain (wsV RX3 164 RX3 yX3_settle wsX3_settle) := goodIn_app (goodIn_of _ (by decide +kernel)) ggX3_hearInBargain_X3_settle
set_option maxRecDepth 20000 in
theorem ggX3_hearInBargain_X3_hearGreaterRound : GoodIn wsX3_hearInBargain wsX3_hearGreaterRound := goodIn_r _ [57, 1, 12, 13, 14, 15, 16, 17, 18, 19, 20, 21, 22, 32, 33, 34, 10, 35, 36, 37, 38, 39, 40, 41, 42, 43, 44, 45, 46, 47, 48, 49, 50, 51, 52, 53, 58, 59, 60, 61, 62, 63, 64, 65, 66, 67, 68, 69, 70, 71, 72, 73, 74, 75, 76, 77, 78, 79, 80, 81, 82, 83, 84, 85, 86, 87, 88, 89, 90, 91, 92, 93, 94, 95] (by decide +kernel) (by decide +kernel)
set_option maxRecDepth 20000 in
theorem gX3_hearInBargain_X3_hearGreaterRound : GoodIn wsX3_hearInBargain (wsV RX3 146 RX3 yX3_hearGreaterRound wsX3_hearGreaterRound) := goodIn_app (goodIn_of _ (by decide +kernel)) ggX3_hearInBargain_X3_hearGreaterRound
theorem dX3_hearInBargain_0 : decode cX3_hearInBargain 0 = .ok (.aload_n 0, 1) := by decide +kernel
theorem dX3_hearInBargain_1 : decode cX3_hearInBargain 1 = .ok (.iconst 5, 1) := by decide +kernel
theorem dX3_hearInBargain_2 : decode cX3_hearInBargain 2 = .ok (.invokevirtual 142, 3) := by decide +kernel
theorem dX3_hearInBargain_5 : decode cX3_hearInBargain 5 = .ok (.ifCond .eq 24, 3) := by decide +kernel
theorem dX3_hearInBargain_8 : decode cX3_hearInBargain 8 = .ok (.aload_n 0, 1) := by decide +kernel
theorem dX3_hearInBargain_9 : decode cX3_hearInBargain 9 = .ok (.aload_n 0, 1) := by decide +kernel
theorem dX3_hearInBargain_10 : decode cX3_hearInBargain 10 = .ok (.getfield 78, 3) := by decide +kernel
theorem dX3_hearInBargain_13 : decode cX3_hearInBargain 13 = .ok (.invokevirtual 155, 3) := by decide +kernel
theorem dX3_hearInBargain_16 : decode cX3_hearInBargain 16 = .ok (.aload_n 0, 1) := by decide +kernel
theorem dX3_hearInBargain_17 : decode cX3_hearInBargain 17 = .ok (.getfield 47, 3) := by decide +kernel
theorem dX3_hearInBargain_20 : decode cX3_hearInBargain 20 = .ok (.invokestatic 158, 3) := by decide +kernel
theorem dX3_hearInBargain_23 : decode cX3_hearInBargain 23 = .ok (.invokevirtual 164, 3) := by decide +kernel
theorem dX3_hearInBargain_26 : decode cX3_hearInBargain 26 = .ok (.goto 30, 3) := by decide +kernel
theorem dX3_hearInBargain_29 : decode cX3_hearInBargain 29 = .ok (.aload_n 0, 1) := by decide +kernel
theorem dX3_hearInBargain_30 : decode cX3_hearInBargain 30 = .ok (.bipush 6, 2) := by decide +kernel
theorem dX3_hearInBargain_32 : decode cX3_hearInBargain 32 = .ok (.invokevirtual 142, 3) := by decide +kernel
theorem dX3_hearInBargain_35 : decode cX3_hearInBargain 35 = .ok (.ifCond .eq 17, 3) := by decide +kernel
theorem dX3_hearInBargain_38 : decode cX3_hearInBargain 38 = .ok (.aload_n 0, 1) := by decide +kernel
theorem dX3_hearInBargain_39 : decode cX3_hearInBargain 39 = .ok (.aload_n 0, 1) := by decide +kernel
theorem dX3_hearInBargain_40 : decode cX3_hearInBargain 40 = .ok (.getfield 78, 3) := by decide +kernel
theorem dX3_hearInBargain_43 : decode cX3_hearInBargain 43 = .ok (.invokevirtual 155, 3) := by decide +kernel
theorem dX3_hearInBargain_46 : decode cX3_hearInBargain 46 = .ok (.invokevirtual 164, 3) := by decide +kernel
theorem dX3_hearInBargain_49 : decode cX3_hearInBargain 49 = .ok (.goto 7, 3) := by decide +kernel
theorem dX3_hearInBargain_52 : decode cX3_hearInBargain 52 = .ok (.aload_n 0, 1) := by decide +kernel
theorem dX3_hearInBargain_53 : decode cX3_hearInBargain 53 = .ok (.invokevirtual 146, 3) := by decide +kernel
theorem dX3_hearInBargain_56 : decode cX3_hearInBargain 56 = .ok (.return_, 1) := by decide +kernel
set_option maxRecDepth 20000 in
theorem ggX3_settle_X3_come : GoodIn wsX3_settle wsX3_come := goodIn_r _ [6, 7, 8, 9, 10, 11, 12, 13, 14, 15, 16, 17, 18, 19, 20, 21, 22, 23, 24, 25, 26, 27, 28, 29, 30, 31, 32, 33, 34, 35, 36, 37, 38, 39, 40, 41, 42, 43, 44, 45, 46, 47, 48, 49, 50, 51, 52, 53, 54] (by decide +kernel) (by decide +kernel)
set_option maxRecDepth 20000 in
theorem gX3_settle_X3_come : GoodIn wsX3_settle (wsV RX3 128 RX3 yX3_come wsX3_come) := goodIn_app (goodIn_of _ (by decide +kernel)) ggX3_settle_X3_come
theorem dX3_settle_0 : decode cX3_settle 0 = .ok (.aload_n 0, 1) := by decide +kernel
theorem dX3_settle_1 : decode cX3_settle 1 = .ok (.iload_n 1, 1) := by decide +kernel
theorem dX3_settle_2 : decode cX3_settle 2 = .ok (.putfield 50, 3) := by decide +kernel
theorem dX3_settle_5 : decode cX3_settle 5 = .ok (.aload_n 0, 1) := by decide +kernel
theorem dX3_settle_6 : decode cX3_settle 6 = .ok (.aload_n 0, 1) := by decide +kernel
theorem dX3_settle_7 : decode cX3_settle 7 = .ok (.getfield 50, 3) := by decide +kernel
theorem dX3_settle_10 : decode cX3_settle 10 = .ok (.ifCond .ne 7, 3) := by decide +kernel
theorem dX3_settle_13 : decode cX3_settle 13 = .ok (.iconst 0, 1) := by decide +kernel
theorem dX3_settle_14 : decode cX3_settle 14 = .ok (.goto 5, 3) := by decide +kernel
theorem dX3_settle_17 : decode cX3_settle 17 = .ok (.bipush 6, 2) := by decide +kernel
theorem dX3_settle_19 : decode cX3_settle 19 = .ok (.invokevirtual 128, 3) := by decide +kernel
theorem dX3_settle_22 : decode cX3_settle 22 = .ok (.return_, 1) := by decide +kernel
set_option maxRecDepth 20000 in
theorem ggX3_hearInData_X7_sort : GoodIn wsX3_hearInData wsX7_sort := goodIn_r _ [8, 9, 92, 93, 94, 95, 96, 97, 98, 99] (by decide +kernel) (by decide +kernel)
set_option maxRecDepth 20000 in
theorem gX3_hearInData_X7_sort : GoodIn wsX3_hearInData (wsV RX3 113 RX7 yX7_sort wsX7_sort) := goodIn_app (goodIn_of _ (by decide +kernel)) ggX3_hearInData_X7_sort
set_option maxRecDepth 20000 in
theorem ggX3_hearInData_X3_isOfRound : GoodIn wsX3_hearInData wsX3_isOfRound := goodIn_r _ [14, 2, 15, 4, 5, 6, 7, 8, 9, 16, 17, 18, 19, 72, 73, 74, 75, 76, 77, 78, 79, 80, 81, 82, 83, 84, 85, 86, 87, 88, 89, 90, 91, 92, 93, 94, 95, 96, 97, 98, 99] (by decide +kernel) (by decide +kernel)
set_option maxRecDepth 20000 in
theorem gX3_hearInData_X3_isOfRound : GoodIn wsX3_hearInData (wsV RX3 142 RX3 yX3_isOfRound wsX3_isOfRound) := goodIn_app (goodIn_of _ (by decide +kernel)) ggX3_hearInData_X3_isOfRound
set_option maxRecDepth 20000 in
theorem ggX3_hearInData_X2_take : GoodIn wsX3_hearInData wsX2_take := goodIn_r _ [24, 25, 26, 27, 28, 29, 30, 31, 32, 33, 34, 7, 35, 9, 36, 37, 38, 39, 40, 41, 42, 43, 44, 45, 46, 47, 100, 101, 102, 103, 104, 105, 106, 107, 92, 93, 94, 95, 96, 97, 98, 99] (by decide +kernel) (by decide +kernel)
set_option maxRecDepth 20000 in
theorem gX3_hearInData_X2_take : GoodIn wsX3_hearInData (wsV RX3 167 RX2 yX2_take wsX2_take) := goodIn_app (goodIn_of _ (by decide +kernel)) ggX3_hearInData_X2_take
set_option maxRecDepth 20000 in
theorem ggX3_hearInData_X3_hearGreaterRound : GoodIn wsX3_hearInData wsX3_hearGreaterRound := goodIn_r _ [51, 2, 15, 4, 5, 6, 7, 8, 9, 16, 17, 18, 19, 52, 53, 54, 13, 55, 56, 57, 58, 59, 60, 61, 62, 1, 3, 63, 64, 65, 66, 67, 68, 69, 70, 71, 72, 73, 74, 75, 76, 77, 78, 79, 80, 81, 82, 83, 84, 85, 86, 87, 88, 89, 90, 91, 92, 93, 94, 95, 96, 97, 98, 99, 100, 101, 102, 103, 104, 105, 106, 107, 108, 109] (by decide +kernel) (by decide +kernel)
set_option maxRecDepth 20000 in
theorem gX3_hearInData_X3_hearGreaterRound : GoodIn wsX3_hearInData (wsV RX3 146 RX3 yX3_hearGreaterRound wsX3_hearGreaterRound) := goodIn_app (goodIn_of _ (by decide +kernel)) ggX3_hearInData_X3_hearGreaterRound
theorem dX3_hearInData_0 : decode cX3_hearInData 0 = .ok (.aload_n 0, 1) := by decide +kernel
theorem dX3_hearInData_1 : decode cX3_hearInData 1 = .ok (.iconst 2, 1) := by decide +kernel
theorem dX3_hearInData_2 : decode cX3_hearInData 2 = .ok (.aload_n 0, 1) := by decide +kernel
theorem dX3_hearInData_3 : decode cX3_hearInData 3 = .ok (.getfield 62, 3) := by decide +kernel
theorem dX3_hearInData_6 : decode cX3_hearInData 6 = .ok (.imul, 1) := by decide +kernel
theorem dX3_hearInData_7 : decode cX3_hearInData 7 = .ok (.aload_n 0, 1) := by decide +kernel
theorem dX3_hearInData_8 : decode cX3_hearInData 8 = .ok (.getfield 78, 3) := by decide +kernel
theorem dX3_hearInData_11 : decode cX3_hearInData 11 = .ok (.invokevirtual 113, 3) := by decide +kernel
theorem dX3_hearInData_14 : decode cX3_hearInData 14 = .ok (.ifCond .ne 7, 3) := by decide +kernel
theorem dX3_hearInData_17 : decode cX3_hearInData 17 = .ok (.iconst 1, 1) := by decide +kernel
theorem dX3_hearInData_18 : decode cX3_hearInData 18 = .ok (.goto 4, 3) := by decide +kernel
theorem dX3_hearInData_21 : decode cX3_hearInData 21 = .ok (.iconst 0, 1) := by decide +kernel
theorem dX3_hearInData_22 : decode cX3_hearInData 22 = .ok (.iadd, 1) := by decide +kernel
theorem dX3_hearInData_23 : decode cX3_hearInData 23 = .ok (.sipush 255, 3) := by decide +kernel
theorem dX3_hearInData_26 : decode cX3_hearInData 26 = .ok (.iand, 1) := by decide +kernel
theorem dX3_hearInData_27 : decode cX3_hearInData 27 = .ok (.putfield 62, 3) := by decide +kernel
theorem dX3_hearInData_30 : decode cX3_hearInData 30 = .ok (.aload_n 0, 1) := by decide +kernel
theorem dX3_hearInData_31 : decode cX3_hearInData 31 = .ok (.bipush 7, 2) := by decide +kernel
theorem dX3_hearInData_33 : decode cX3_hearInData 33 = .ok (.invokevirtual 142, 3) := by decide +kernel
theorem dX3_hearInData_36 : decode cX3_hearInData 36 = .ok (.ifCond .eq 17, 3) := by decide +kernel
theorem dX3_hearInData_39 : decode cX3_hearInData 39 = .ok (.aload_n 0, 1) := by decide +kernel
theorem dX3_hearInData_40 : decode cX3_hearInData 40 = .ok (.getfield 21, 3) := by decide +kernel
theorem dX3_hearInData_43 : decode cX3_hearInData 43 = .ok (.aload_n 0, 1) := by decide +kernel
theorem dX3_hearInData_44 : decode cX3_hearInData 44 = .ok (.getfield 78, 3) := by decide +kernel
theorem dX3_hearInData_47 : decode cX3_hearInData 47 = .ok (.invokevirtual 167, 3) := by decide +kernel
theorem dX3_hearInData_50 : decode cX3_hearInData 50 = .ok (.goto 7, 3) := by decide +kernel
theorem dX3_hearInData_53 : decode cX3_hearInData 53 = .ok (.aload_n 0, 1) := by decide +kernel
theorem dX3_hearInData_54 : decode cX3_hearInData 54 = .ok (.invokevirtual 146, 3) := by decide +kernel
theorem dX3_hearInData_57 : decode cX3_hearInData 57 = .ok (.return_, 1) := by decide +kernel
set_option maxRecDepth 20000 in
theorem ggX3_look_X3_come : GoodIn wsX3_look wsX3_come := goodIn_r _ [10, 1, 2, 11, 12, 13, 14, 15, 16, 17, 18, 19, 20, 21, 22, 23, 24, 25, 26, 64, 65, 66, 67, 68, 69, 70, 71, 72, 73, 74, 75, 76, 77, 78, 79, 80, 81, 82, 83, 88, 89, 90, 91, 92, 93, 94, 95, 96, 97] (by decide +kernel) (by decide +kernel)
set_option maxRecDepth 20000 in
theorem gX3_look_X3_come : GoodIn wsX3_look (wsV RX3 128 RX3 yX3_come wsX3_come) := goodIn_app (goodIn_of _ (by decide +kernel)) ggX3_look_X3_come
set_option maxRecDepth 20000 in
theorem ggX3_look_X3_makeOffer : GoodIn wsX3_look wsX3_makeOffer := goodIn_r _ [30, 13, 31, 32, 12, 33, 34, 35, 36, 37, 38, 39, 40, 41, 42, 24, 43, 44, 26, 45, 46, 47, 64, 65, 66, 67, 68, 69, 70, 71, 72, 73, 74, 75, 76, 77, 78, 79, 80, 81, 82, 83, 96, 97] (by decide +kernel) (by decide +kernel)
set_option maxRecDepth 20000 in
theorem gX3_look_X3_makeOffer : GoodIn wsX3_look (wsV RX3 171 RX3 yX3_makeOffer wsX3_makeOffer) := goodIn_app (goodIn_of _ (by decide +kernel)) ggX3_look_X3_makeOffer
set_option maxRecDepth 20000 in
theorem ggX3_look_X3_lookAtWaiting : GoodIn wsX3_look wsX3_lookAtWaiting := goodIn_r _ [51, 17, 18, 19, 15, 3, 4, 64, 65, 66, 67, 68, 69, 70, 71, 72, 73, 74, 75, 76, 77, 78, 79, 80, 81, 82, 83, 88, 89, 90, 91, 92, 93, 94, 95, 84, 85, 86, 87] (by decide +kernel) (by decide +kernel)
set_option maxRecDepth 20000 in
theorem gX3_look_X3_lookAtWaiting : GoodIn wsX3_look (wsV RX3 174 RX3 yX3_lookAtWaiting wsX3_lookAtWaiting) := goodIn_app (goodIn_of _ (by decide +kernel)) ggX3_look_X3_lookAtWaiting
set_option maxRecDepth 20000 in
theorem ggX3_look_X3_lookAtLosses : GoodIn wsX3_look wsX3_lookAtLosses := goodIn_r _ [55, 16, 32, 2, 56, 5, 57, 58, 59, 60, 61, 62, 63, 6, 7, 8, 9, 10, 1, 11, 12, 13, 14, 15, 17, 18, 19, 20, 21, 22, 23, 24, 25, 26, 64, 65, 66, 67, 68, 69, 70, 71, 72, 73, 74, 75, 76, 77, 78, 79, 80, 81, 82, 83, 88, 89, 90, 91, 92, 93, 94, 95, 96, 97] (by decide +kernel) (by decide +kernel)
set_option maxRecDepth 20000 in
theorem gX3_look_X3_lookAtLosses : GoodIn wsX3_look (wsV RX3 177 RX3 yX3_lookAtLosses wsX3_lookAtLosses) := goodIn_app (goodIn_of _ (by decide +kernel)) ggX3_look_X3_lookAtLosses
theorem dX3_look_0 : decode cX3_look 0 = .ok (.aload_n 0, 1) := by decide +kernel
theorem dX3_look_1 : decode cX3_look 1 = .ok (.getfield 31, 3) := by decide +kernel
theorem dX3_look_4 : decode cX3_look 4 = .ok (.iconst 3, 1) := by decide +kernel
theorem dX3_look_5 : decode cX3_look 5 = .ok (.if_icmp .ne 30, 3) := by decide +kernel
theorem dX3_look_8 : decode cX3_look 8 = .ok (.aload_n 0, 1) := by decide +kernel
theorem dX3_look_9 : decode cX3_look 9 = .ok (.getfield 38, 3) := by decide +kernel
theorem dX3_look_12 : decode cX3_look 12 = .ok (.bipush 10, 2) := by decide +kernel
theorem dX3_look_14 : decode cX3_look 14 = .ok (.iconst 2, 1) := by decide +kernel
theorem dX3_look_15 : decode cX3_look 15 = .ok (.aload_n 0, 1) := by decide +kernel
theorem dX3_look_16 : decode cX3_look 16 = .ok (.getfield 74, 3) := by decide +kernel
theorem dX3_look_19 : decode cX3_look 19 = .ok (.getfield 117, 3) := by decide +kernel
theorem dX3_look_22 : decode cX3_look 22 = .ok (.imul, 1) := by decide +kernel
theorem dX3_look_23 : decode cX3_look 23 = .ok (.iadd, 1) := by decide +kernel
theorem dX3_look_24 : decode cX3_look 24 = .ok (.if_icmp .lt 11, 3) := by decide +kernel
theorem dX3_look_27 : decode cX3_look 27 = .ok (.aload_n 0, 1) := by decide +kernel
theorem dX3_look_28 : decode cX3_look 28 = .ok (.iconst 4, 1) := by decide +kernel
theorem dX3_look_29 : decode cX3_look 29 = .ok (.invokevirtual 128, 3) := by decide +kernel
theorem dX3_look_32 : decode cX3_look 32 = .ok (.goto 55, 3) := by decide +kernel
theorem dX3_look_35 : decode cX3_look 35 = .ok (.aload_n 0, 1) := by decide +kernel
theorem dX3_look_36 : decode cX3_look 36 = .ok (.getfield 31, 3) := by decide +kernel
theorem dX3_look_39 : decode cX3_look 39 = .ok (.iconst 4, 1) := by decide +kernel
theorem dX3_look_40 : decode cX3_look 40 = .ok (.if_icmp .ne 29, 3) := by decide +kernel
theorem dX3_look_43 : decode cX3_look 43 = .ok (.aload_n 0, 1) := by decide +kernel
theorem dX3_look_44 : decode cX3_look 44 = .ok (.getfield 38, 3) := by decide +kernel
theorem dX3_look_47 : decode cX3_look 47 = .ok (.bipush 32, 2) := by decide +kernel
theorem dX3_look_49 : decode cX3_look 49 = .ok (.if_icmp .lt 20, 3) := by decide +kernel
theorem dX3_look_52 : decode cX3_look 52 = .ok (.aload_n 0, 1) := by decide +kernel
theorem dX3_look_53 : decode cX3_look 53 = .ok (.iconst 1, 1) := by decide +kernel
theorem dX3_look_54 : decode cX3_look 54 = .ok (.putfield 44, 3) := by decide +kernel
theorem dX3_look_57 : decode cX3_look 57 = .ok (.aload_n 0, 1) := by decide +kernel
theorem dX3_look_58 : decode cX3_look 58 = .ok (.invokevirtual 171, 3) := by decide +kernel
theorem dX3_look_61 : decode cX3_look 61 = .ok (.aload_n 0, 1) := by decide +kernel
theorem dX3_look_62 : decode cX3_look 62 = .ok (.iconst 5, 1) := by decide +kernel
theorem dX3_look_63 : decode cX3_look 63 = .ok (.invokevirtual 128, 3) := by decide +kernel
theorem dX3_look_66 : decode cX3_look 66 = .ok (.goto 21, 3) := by decide +kernel
theorem dX3_look_69 : decode cX3_look 69 = .ok (.aload_n 0, 1) := by decide +kernel
theorem dX3_look_70 : decode cX3_look 70 = .ok (.getfield 31, 3) := by decide +kernel
theorem dX3_look_73 : decode cX3_look 73 = .ok (.bipush 7, 2) := by decide +kernel
theorem dX3_look_75 : decode cX3_look 75 = .ok (.if_icmp .ne 12, 3) := by decide +kernel
theorem dX3_look_78 : decode cX3_look 78 = .ok (.aload_n 0, 1) := by decide +kernel
theorem dX3_look_79 : decode cX3_look 79 = .ok (.iload_n 1, 1) := by decide +kernel
theorem dX3_look_80 : decode cX3_look 80 = .ok (.invokevirtual 174, 3) := by decide +kernel
theorem dX3_look_83 : decode cX3_look 83 = .ok (.aload_n 0, 1) := by decide +kernel
theorem dX3_look_84 : decode cX3_look 84 = .ok (.invokevirtual 177, 3) := by decide +kernel
theorem dX3_look_87 : decode cX3_look 87 = .ok (.return_, 1) := by decide +kernel
set_option maxRecDepth 20000 in
theorem ggX3_makeOffer_X0_remains : GoodIn wsX3_makeOffer wsX0_remains := goodIn_r _ [16, 17, 18, 19, 20, 7, 21, 42, 43] (by decide +kernel) (by decide +kernel)
set_option maxRecDepth 20000 in
theorem gX3_makeOffer_X0_remains : GoodIn wsX3_makeOffer (wsV RX3 180 RX0 yX0_remains wsX0_remains) := goodIn_app (goodIn_of _ (by decide +kernel)) ggX3_makeOffer_X0_remains
theorem dX3_makeOffer_0 : decode cX3_makeOffer 0 = .ok (.aload_n 0, 1) := by decide +kernel
theorem dX3_makeOffer_1 : decode cX3_makeOffer 1 = .ok (.aload_n 0, 1) := by decide +kernel
theorem dX3_makeOffer_2 : decode cX3_makeOffer 2 = .ok (.getfield 12, 3) := by decide +kernel
theorem dX3_makeOffer_5 : decode cX3_makeOffer 5 = .ok (.invokevirtual 180, 3) := by decide +kernel
theorem dX3_makeOffer_8 : decode cX3_makeOffer 8 = .ok (.putfield 59, 3) := by decide +kernel
theorem dX3_makeOffer_11 : decode cX3_makeOffer 11 = .ok (.aload_n 0, 1) := by decide +kernel
theorem dX3_makeOffer_12 : decode cX3_makeOffer 12 = .ok (.iconst 0, 1) := by decide +kernel
theorem dX3_makeOffer_13 : decode cX3_makeOffer 13 = .ok (.putfield 47, 3) := by decide +kernel
theorem dX3_makeOffer_16 : decode cX3_makeOffer 16 = .ok (.iconst 0, 1) := by decide +kernel
theorem dX3_makeOffer_17 : decode cX3_makeOffer 17 = .ok (.istore_n 1, 1) := by decide +kernel
theorem dX3_makeOffer_18 : decode cX3_makeOffer 18 = .ok (.iload_n 1, 1) := by decide +kernel
theorem dX3_makeOffer_19 : decode cX3_makeOffer 19 = .ok (.bipush 8, 2) := by decide +kernel
theorem dX3_makeOffer_21 : decode cX3_makeOffer 21 = .ok (.if_icmp .ge 44, 3) := by decide +kernel
theorem dX3_makeOffer_24 : decode cX3_makeOffer 24 = .ok (.iconst 0, 1) := by decide +kernel
theorem dX3_makeOffer_25 : decode cX3_makeOffer 25 = .ok (.aload_n 0, 1) := by decide +kernel
theorem dX3_makeOffer_26 : decode cX3_makeOffer 26 = .ok (.getfield 25, 3) := by decide +kernel
theorem dX3_makeOffer_29 : decode cX3_makeOffer 29 = .ok (.iload_n 1, 1) := by decide +kernel
theorem dX3_makeOffer_30 : decode cX3_makeOffer 30 = .ok (.iaload, 1) := by decide +kernel
theorem dX3_makeOffer_31 : decode cX3_makeOffer 31 = .ok (.aload_n 0, 1) := by decide +kernel
theorem dX3_makeOffer_32 : decode cX3_makeOffer 32 = .ok (.getfield 59, 3) := by decide +kernel
theorem dX3_makeOffer_35 : decode cX3_makeOffer 35 = .ok (.bipush 20, 2) := by decide +kernel
theorem dX3_makeOffer_37 : decode cX3_makeOffer 37 = .ok (.idiv, 1) := by decide +kernel
theorem dX3_makeOffer_38 : decode cX3_makeOffer 38 = .ok (.isub, 1) := by decide +kernel
theorem dX3_makeOffer_39 : decode cX3_makeOffer 39 = .ok (.invokestatic 182, 3) := by decide +kernel
theorem dX3_makeOffer_42 : decode cX3_makeOffer 42 = .ok (.istore_n 2, 1) := by decide +kernel
theorem dX3_makeOffer_43 : decode cX3_makeOffer 43 = .ok (.aload_n 0, 1) := by decide +kernel
theorem dX3_makeOffer_44 : decode cX3_makeOffer 44 = .ok (.dup, 1) := by decide +kernel
theorem dX3_makeOffer_45 : decode cX3_makeOffer 45 = .ok (.getfield 47, 3) := by decide +kernel
theorem dX3_makeOffer_48 : decode cX3_makeOffer 48 = .ok (.iconst 3, 1) := by decide +kernel
theorem dX3_makeOffer_49 : decode cX3_makeOffer 49 = .ok (.iload_n 2, 1) := by decide +kernel
theorem dX3_makeOffer_50 : decode cX3_makeOffer 50 = .ok (.iconst 4, 1) := by decide +kernel
theorem dX3_makeOffer_51 : decode cX3_makeOffer 51 = .ok (.idiv, 1) := by decide +kernel
theorem dX3_makeOffer_52 : decode cX3_makeOffer 52 = .ok (.invokestatic 158, 3) := by decide +kernel
theorem dX3_makeOffer_55 : decode cX3_makeOffer 55 = .ok (.iadd, 1) := by decide +kernel
theorem dX3_makeOffer_56 : decode cX3_makeOffer 56 = .ok (.putfield 47, 3) := by decide +kernel
theorem dX3_makeOffer_59 : decode cX3_makeOffer 59 = .ok (.iinc 1 1, 3) := by decide +kernel
theorem dX3_makeOffer_62 : decode cX3_makeOffer 62 = .ok (.goto (-44), 3) := by decide +kernel
theorem dX3_makeOffer_65 : decode cX3_makeOffer 65 = .ok (.return_, 1) := by decide +kernel
theorem dX3_lookAtWaiting_0 : decode cX3_lookAtWaiting 0 = .ok (.aload_n 0, 1) := by decide +kernel
theorem dX3_lookAtWaiting_1 : decode cX3_lookAtWaiting 1 = .ok (.aload_n 0, 1) := by decide +kernel
theorem dX3_lookAtWaiting_2 : decode cX3_lookAtWaiting 2 = .ok (.getfield 21, 3) := by decide +kernel
theorem dX3_lookAtWaiting_5 : decode cX3_lookAtWaiting 5 = .ok (.getfield 91, 3) := by decide +kernel
theorem dX3_lookAtWaiting_8 : decode cX3_lookAtWaiting 8 = .ok (.aload_n 0, 1) := by decide +kernel
theorem dX3_lookAtWaiting_9 : decode cX3_lookAtWaiting 9 = .ok (.getfield 21, 3) := by decide +kernel
theorem dX3_lookAtWaiting_12 : decode cX3_lookAtWaiting 12 = .ok (.getfield 88, 3) := by decide +kernel
theorem dX3_lookAtWaiting_15 : decode cX3_lookAtWaiting 15 = .ok (.if_icmp .ge 16, 3) := by decide +kernel
theorem dX3_lookAtWaiting_18 : decode cX3_lookAtWaiting 18 = .ok (.iload_n 1, 1) := by decide +kernel
theorem dX3_lookAtWaiting_19 : decode cX3_lookAtWaiting 19 = .ok (.ifCond .ne 12, 3) := by decide +kernel
theorem dX3_lookAtWaiting_22 : decode cX3_lookAtWaiting 22 = .ok (.aload_n 0, 1) := by decide +kernel
theorem dX3_lookAtWaiting_23 : decode cX3_lookAtWaiting 23 = .ok (.getfield 56, 3) := by decide +kernel
theorem dX3_lookAtWaiting_26 : decode cX3_lookAtWaiting 26 = .ok (.iconst 1, 1) := by decide +kernel
theorem dX3_lookAtWaiting_27 : decode cX3_lookAtWaiting 27 = .ok (.iadd, 1) := by decide +kernel
theorem dX3_lookAtWaiting_28 : decode cX3_lookAtWaiting 28 = .ok (.goto 4, 3) := by decide +kernel
theorem dX3_lookAtWaiting_31 : decode cX3_lookAtWaiting 31 = .ok (.iconst 0, 1) := by decide +kernel
theorem dX3_lookAtWaiting_32 : decode cX3_lookAtWaiting 32 = .ok (.putfield 56, 3) := by decide +kernel
theorem dX3_lookAtWaiting_35 : decode cX3_lookAtWaiting 35 = .ok (.aload_n 0, 1) := by decide +kernel
theorem dX3_lookAtWaiting_36 : decode cX3_lookAtWaiting 36 = .ok (.getfield 56, 3) := by decide +kernel
theorem dX3_lookAtWaiting_39 : decode cX3_lookAtWaiting 39 = .ok (.iconst 2, 1) := by decide +kernel
theorem dX3_lookAtWaiting_40 : decode cX3_lookAtWaiting 40 = .ok (.aload_n 0, 1) := by decide +kernel
theorem dX3_lookAtWaiting_41 : decode cX3_lookAtWaiting 41 = .ok (.getfield 74, 3) := by decide +kernel
theorem dX3_lookAtWaiting_44 : decode cX3_lookAtWaiting 44 = .ok (.getfield 117, 3) := by decide +kernel
theorem dX3_lookAtWaiting_47 : decode cX3_lookAtWaiting 47 = .ok (.imul, 1) := by decide +kernel
theorem dX3_lookAtWaiting_48 : decode cX3_lookAtWaiting 48 = .ok (.iconst 4, 1) := by decide +kernel
theorem dX3_lookAtWaiting_49 : decode cX3_lookAtWaiting 49 = .ok (.iadd, 1) := by decide +kernel
theorem dX3_lookAtWaiting_50 : decode cX3_lookAtWaiting 50 = .ok (.if_icmp .lt 22, 3) := by decide +kernel
theorem dX3_lookAtWaiting_53 : decode cX3_lookAtWaiting 53 = .ok (.aload_n 0, 1) := by decide +kernel
theorem dX3_lookAtWaiting_54 : decode cX3_lookAtWaiting 54 = .ok (.iconst 0, 1) := by decide +kernel
theorem dX3_lookAtWaiting_55 : decode cX3_lookAtWaiting 55 = .ok (.putfield 56, 3) := by decide +kernel
theorem dX3_lookAtWaiting_58 : decode cX3_lookAtWaiting 58 = .ok (.aload_n 0, 1) := by decide +kernel
theorem dX3_lookAtWaiting_59 : decode cX3_lookAtWaiting 59 = .ok (.getfield 21, 3) := by decide +kernel
theorem dX3_lookAtWaiting_62 : decode cX3_lookAtWaiting 62 = .ok (.aload_n 0, 1) := by decide +kernel
theorem dX3_lookAtWaiting_63 : decode cX3_lookAtWaiting 63 = .ok (.getfield 21, 3) := by decide +kernel
theorem dX3_lookAtWaiting_66 : decode cX3_lookAtWaiting 66 = .ok (.getfield 91, 3) := by decide +kernel
theorem dX3_lookAtWaiting_69 : decode cX3_lookAtWaiting 69 = .ok (.putfield 88, 3) := by decide +kernel
theorem dX3_lookAtWaiting_72 : decode cX3_lookAtWaiting 72 = .ok (.return_, 1) := by decide +kernel
set_option maxRecDepth 20000 in
theorem ggX3_lookAtLosses_J6_bitCount_0f7a4 : GoodIn wsX3_lookAtLosses wsJ6_bitCount_0f7a4 := goodIn_r _ [9, 10, 11, 12] (by decide +kernel) (by decide +kernel)
set_option maxRecDepth 20000 in
theorem gX3_lookAtLosses_J6_bitCount_0f7a4 : GoodIn wsX3_lookAtLosses (va_wsS RX3 185 yJ6_bitCount_0f7a4 wsJ6_bitCount_0f7a4) := goodIn_app (goodIn_of _ (by decide +kernel)) ggX3_lookAtLosses_J6_bitCount_0f7a4
set_option maxRecDepth 20000 in
theorem ggX3_lookAtLosses_X3_come : GoodIn wsX3_lookAtLosses wsX3_come := goodIn_r _ [17, 18, 3, 19, 20, 21, 22, 23, 1, 24, 25, 26, 27, 28, 29, 30, 31, 32, 33, 34, 35, 36, 37, 38, 39, 40, 41, 42, 43, 44, 45, 46, 47, 48, 49, 50, 51, 52, 53, 54, 55, 56, 57, 58, 59, 60, 61, 62, 63] (by decide +kernel) (by decide +kernel)
set_option maxRecDepth 20000 in
theorem gX3_lookAtLosses_X3_come : GoodIn wsX3_lookAtLosses (wsV RX3 128 RX3 yX3_come wsX3_come) := goodIn_app (goodIn_of _ (by decide +kernel)) ggX3_lookAtLosses_X3_come
theorem dX3_lookAtLosses_0 : decode cX3_lookAtLosses 0 = .ok (.aload_n 0, 1) := by decide +kernel
theorem dX3_lookAtLosses_1 : decode cX3_lookAtLosses 1 = .ok (.getfield 62, 3) := by decide +kernel
theorem dX3_lookAtLosses_4 : decode cX3_lookAtLosses 4 = .ok (.invokestatic 185, 3) := by decide +kernel
theorem dX3_lookAtLosses_7 : decode cX3_lookAtLosses 7 = .ok (.iconst 3, 1) := by decide +kernel
theorem dX3_lookAtLosses_8 : decode cX3_lookAtLosses 8 = .ok (.if_icmp .lt 55, 3) := by decide +kernel
theorem dX3_lookAtLosses_11 : decode cX3_lookAtLosses 11 = .ok (.aload_n 0, 1) := by decide +kernel
theorem dX3_lookAtLosses_12 : decode cX3_lookAtLosses 12 = .ok (.getfield 47, 3) := by decide +kernel
theorem dX3_lookAtLosses_15 : decode cX3_lookAtLosses 15 = .ok (.iconst 1, 1) := by decide +kernel
theorem dX3_lookAtLosses_16 : decode cX3_lookAtLosses 16 = .ok (.if_icmp .le 47, 3) := by decide +kernel
theorem dX3_lookAtLosses_19 : decode cX3_lookAtLosses 19 = .ok (.aload_n 0, 1) := by decide +kernel
theorem dX3_lookAtLosses_20 : decode cX3_lookAtLosses 20 = .ok (.getfield 38, 3) := by decide +kernel
theorem dX3_lookAtLosses_23 : decode cX3_lookAtLosses 23 = .ok (.bipush 8, 2) := by decide +kernel
theorem dX3_lookAtLosses_25 : decode cX3_lookAtLosses 25 = .ok (.if_icmp .lt 38, 3) := by decide +kernel
theorem dX3_lookAtLosses_28 : decode cX3_lookAtLosses 28 = .ok (.aload_n 0, 1) := by decide +kernel
theorem dX3_lookAtLosses_29 : decode cX3_lookAtLosses 29 = .ok (.dup, 1) := by decide +kernel
theorem dX3_lookAtLosses_30 : decode cX3_lookAtLosses 30 = .ok (.getfield 68, 3) := by decide +kernel
theorem dX3_lookAtLosses_33 : decode cX3_lookAtLosses 33 = .ok (.iconst 1, 1) := by decide +kernel
theorem dX3_lookAtLosses_34 : decode cX3_lookAtLosses 34 = .ok (.iadd, 1) := by decide +kernel
theorem dX3_lookAtLosses_35 : decode cX3_lookAtLosses 35 = .ok (.putfield 68, 3) := by decide +kernel
theorem dX3_lookAtLosses_38 : decode cX3_lookAtLosses 38 = .ok (.aload_n 0, 1) := by decide +kernel
theorem dX3_lookAtLosses_39 : decode cX3_lookAtLosses 39 = .ok (.dup, 1) := by decide +kernel
theorem dX3_lookAtLosses_40 : decode cX3_lookAtLosses 40 = .ok (.getfield 44, 3) := by decide +kernel
theorem dX3_lookAtLosses_43 : decode cX3_lookAtLosses 43 = .ok (.iconst 1, 1) := by decide +kernel
theorem dX3_lookAtLosses_44 : decode cX3_lookAtLosses 44 = .ok (.iadd, 1) := by decide +kernel
theorem dX3_lookAtLosses_45 : decode cX3_lookAtLosses 45 = .ok (.putfield 44, 3) := by decide +kernel
theorem dX3_lookAtLosses_48 : decode cX3_lookAtLosses 48 = .ok (.aload_n 0, 1) := by decide +kernel
theorem dX3_lookAtLosses_49 : decode cX3_lookAtLosses 49 = .ok (.dup, 1) := by decide +kernel
theorem dX3_lookAtLosses_50 : decode cX3_lookAtLosses 50 = .ok (.getfield 47, 3) := by decide +kernel
theorem dX3_lookAtLosses_53 : decode cX3_lookAtLosses 53 = .ok (.iconst 1, 1) := by decide +kernel
theorem dX3_lookAtLosses_54 : decode cX3_lookAtLosses 54 = .ok (.isub, 1) := by decide +kernel
theorem dX3_lookAtLosses_55 : decode cX3_lookAtLosses 55 = .ok (.putfield 47, 3) := by decide +kernel
theorem dX3_lookAtLosses_58 : decode cX3_lookAtLosses 58 = .ok (.aload_n 0, 1) := by decide +kernel
theorem dX3_lookAtLosses_59 : decode cX3_lookAtLosses 59 = .ok (.iconst 5, 1) := by decide +kernel
theorem dX3_lookAtLosses_60 : decode cX3_lookAtLosses 60 = .ok (.invokevirtual 128, 3) := by decide +kernel
theorem dX3_lookAtLosses_63 : decode cX3_lookAtLosses 63 = .ok (.return_, 1) := by decide +kernel
set_option maxRecDepth 20000 in
theorem ggX3_speak_X7_send : GoodIn wsX3_speak wsX7_send := goodIn_r _ [12, 13, 14, 15, 87, 88, 89, 90, 91, 92, 93, 94] (by decide +kernel) (by decide +kernel)
set_option maxRecDepth 20000 in
theorem gX3_speak_X7_send : GoodIn wsX3_speak (wsV RX3 191 RX7 yX7_send wsX7_send) := goodIn_app (goodIn_of _ (by decide +kernel)) ggX3_speak_X7_send
set_option maxRecDepth 20000 in
theorem ggX3_speak_X3_speakProbe : GoodIn wsX3_speak wsX3_speakProbe := goodIn_r _ [20, 4, 2, 8, 9, 10, 11, 12, 13, 14, 15, 67, 68, 69, 70, 71, 72, 73, 74, 75, 76, 77, 78, 79, 80, 81, 82, 83, 84, 85, 86, 87, 88, 89, 90, 91, 92, 93, 94] (by decide +kernel) (by decide +kernel)
set_option maxRecDepth 20000 in
theorem gX3_speak_X3_speakProbe : GoodIn wsX3_speak (wsV RX3 195 RX3 yX3_speakProbe wsX3_speakProbe) := goodIn_app (goodIn_of _ (by decide +kernel)) ggX3_speak_X3_speakProbe
set_option maxRecDepth 20000 in
theorem ggX3_speak_X0_follow : GoodIn wsX3_speak wsX0_follow := goodIn_r _ [25, 26, 27, 28, 29, 30, 24, 31, 95, 96] (by decide +kernel) (by decide +kernel)
set_option maxRecDepth 20000 in
theorem gX3_speak_X0_follow : GoodIn wsX3_speak (wsV RX3 198 RX0 yX0_follow wsX0_follow) := goodIn_app (goodIn_of _ (by decide +kernel)) ggX3_speak_X0_follow
set_option maxRecDepth 20000 in
theorem ggX3_speak_X3_speakFrame : GoodIn wsX3_speak wsX3_speakFrame := goodIn_r _ [35, 36, 7, 37, 38, 39, 40, 41, 2, 5, 42, 43, 44, 45, 46, 47, 48, 49, 50, 51, 52, 8, 9, 10, 11, 12, 13, 14, 15, 53, 54, 55, 56, 57, 58, 59, 60, 61, 62, 63, 64, 65, 66, 67, 68, 69, 70, 71, 72, 73, 74, 75, 76, 77, 78, 79, 80, 81, 82, 83, 84, 85, 86, 97, 98, 99, 100, 101, 102, 103, 104, 87, 88, 89, 90, 91, 92, 93, 94] (by decide +kernel) (by decide +kernel)
set_option maxRecDepth 20000 in
theorem gX3_speak_X3_speakFrame : GoodIn wsX3_speak (wsV RX3 201 RX3 yX3_speakFrame wsX3_speakFrame) := goodIn_app (goodIn_of _ (by decide +kernel)) ggX3_speak_X3_speakFrame
theorem dX3_speak_0 : decode cX3_speak 0 = .ok (.aload_n 0, 1) := by decide +kernel
theorem dX3_speak_1 : decode cX3_speak 1 = .ok (.getfield 31, 3) := by decide +kernel
theorem dX3_speak_4 : decode cX3_speak 4 = .ok (.tableswitch 164 1 7 #[44, 60, 76, 84, 111, 133, 156], 44) := by decide +kernel
theorem dX3_speak_48 : decode cX3_speak 48 = .ok (.aload_n 0, 1) := by decide +kernel
theorem dX3_speak_49 : decode cX3_speak 49 = .ok (.getfield 82, 3) := by decide +kernel
theorem dX3_speak_52 : decode cX3_speak 52 = .ok (.iload_n 1, 1) := by decide +kernel
theorem dX3_speak_53 : decode cX3_speak 53 = .ok (.iconst 1, 1) := by decide +kernel
theorem dX3_speak_54 : decode cX3_speak 54 = .ok (.iconst 0, 1) := by decide +kernel
theorem dX3_speak_55 : decode cX3_speak 55 = .ok (.iconst 0, 1) := by decide +kernel
theorem dX3_speak_56 : decode cX3_speak 56 = .ok (.iconst 0, 1) := by decide +kernel
theorem dX3_speak_57 : decode cX3_speak 57 = .ok (.iconst 0, 1) := by decide +kernel
theorem dX3_speak_58 : decode cX3_speak 58 = .ok (.invokevirtual 191, 3) := by decide +kernel
theorem dX3_speak_61 : decode cX3_speak 61 = .ok (.goto 120, 3) := by decide +kernel
theorem dX3_speak_64 : decode cX3_speak 64 = .ok (.aload_n 0, 1) := by decide +kernel
theorem dX3_speak_65 : decode cX3_speak 65 = .ok (.getfield 82, 3) := by decide +kernel
theorem dX3_speak_68 : decode cX3_speak 68 = .ok (.iload_n 1, 1) := by decide +kernel
theorem dX3_speak_69 : decode cX3_speak 69 = .ok (.iconst 2, 1) := by decide +kernel
theorem dX3_speak_70 : decode cX3_speak 70 = .ok (.iconst 0, 1) := by decide +kernel
theorem dX3_speak_71 : decode cX3_speak 71 = .ok (.iconst 0, 1) := by decide +kernel
theorem dX3_speak_72 : decode cX3_speak 72 = .ok (.iconst 0, 1) := by decide +kernel
theorem dX3_speak_73 : decode cX3_speak 73 = .ok (.iconst 0, 1) := by decide +kernel
theorem dX3_speak_74 : decode cX3_speak 74 = .ok (.invokevirtual 191, 3) := by decide +kernel
theorem dX3_speak_77 : decode cX3_speak 77 = .ok (.goto 104, 3) := by decide +kernel
theorem dX3_speak_80 : decode cX3_speak 80 = .ok (.aload_n 0, 1) := by decide +kernel
theorem dX3_speak_81 : decode cX3_speak 81 = .ok (.iload_n 1, 1) := by decide +kernel
theorem dX3_speak_82 : decode cX3_speak 82 = .ok (.invokevirtual 195, 3) := by decide +kernel
theorem dX3_speak_85 : decode cX3_speak 85 = .ok (.goto 96, 3) := by decide +kernel
theorem dX3_speak_88 : decode cX3_speak 88 = .ok (.aload_n 0, 1) := by decide +kernel
theorem dX3_speak_89 : decode cX3_speak 89 = .ok (.getfield 82, 3) := by decide +kernel
theorem dX3_speak_92 : decode cX3_speak 92 = .ok (.iload_n 1, 1) := by decide +kernel
theorem dX3_speak_93 : decode cX3_speak 93 = .ok (.iconst 4, 1) := by decide +kernel
theorem dX3_speak_94 : decode cX3_speak 94 = .ok (.iconst 0, 1) := by decide +kernel
theorem dX3_speak_95 : decode cX3_speak 95 = .ok (.iconst 0, 1) := by decide +kernel
theorem dX3_speak_96 : decode cX3_speak 96 = .ok (.iconst 0, 1) := by decide +kernel
theorem dX3_speak_97 : decode cX3_speak 97 = .ok (.iconst 0, 1) := by decide +kernel
theorem dX3_speak_98 : decode cX3_speak 98 = .ok (.invokevirtual 191, 3) := by decide +kernel
theorem dX3_speak_101 : decode cX3_speak 101 = .ok (.aload_n 0, 1) := by decide +kernel
theorem dX3_speak_102 : decode cX3_speak 102 = .ok (.getfield 12, 3) := by decide +kernel
theorem dX3_speak_105 : decode cX3_speak 105 = .ok (.aload_n 0, 1) := by decide +kernel
theorem dX3_speak_106 : decode cX3_speak 106 = .ok (.getfield 38, 3) := by decide +kernel
theorem dX3_speak_109 : decode cX3_speak 109 = .ok (.invokevirtual 198, 3) := by decide +kernel
theorem dX3_speak_112 : decode cX3_speak 112 = .ok (.goto 69, 3) := by decide +kernel
theorem dX3_speak_115 : decode cX3_speak 115 = .ok (.aload_n 0, 1) := by decide +kernel
theorem dX3_speak_116 : decode cX3_speak 116 = .ok (.getfield 82, 3) := by decide +kernel
theorem dX3_speak_119 : decode cX3_speak 119 = .ok (.iload_n 1, 1) := by decide +kernel
theorem dX3_speak_120 : decode cX3_speak 120 = .ok (.iconst 5, 1) := by decide +kernel
theorem dX3_speak_121 : decode cX3_speak 121 = .ok (.aload_n 0, 1) := by decide +kernel
theorem dX3_speak_122 : decode cX3_speak 122 = .ok (.getfield 44, 3) := by decide +kernel
theorem dX3_speak_125 : decode cX3_speak 125 = .ok (.aload_n 0, 1) := by decide +kernel
theorem dX3_speak_126 : decode cX3_speak 126 = .ok (.getfield 47, 3) := by decide +kernel
theorem dX3_speak_129 : decode cX3_speak 129 = .ok (.iconst 0, 1) := by decide +kernel
theorem dX3_speak_130 : decode cX3_speak 130 = .ok (.iconst 0, 1) := by decide +kernel
theorem dX3_speak_131 : decode cX3_speak 131 = .ok (.invokevirtual 191, 3) := by decide +kernel
theorem dX3_speak_134 : decode cX3_speak 134 = .ok (.goto 47, 3) := by decide +kernel
theorem dX3_speak_137 : decode cX3_speak 137 = .ok (.aload_n 0, 1) := by decide +kernel
theorem dX3_speak_138 : decode cX3_speak 138 = .ok (.getfield 82, 3) := by decide +kernel
theorem dX3_speak_141 : decode cX3_speak 141 = .ok (.iload_n 1, 1) := by decide +kernel
theorem dX3_speak_142 : decode cX3_speak 142 = .ok (.bipush 6, 2) := by decide +kernel
theorem dX3_speak_144 : decode cX3_speak 144 = .ok (.aload_n 0, 1) := by decide +kernel
theorem dX3_speak_145 : decode cX3_speak 145 = .ok (.getfield 44, 3) := by decide +kernel
theorem dX3_speak_148 : decode cX3_speak 148 = .ok (.aload_n 0, 1) := by decide +kernel
theorem dX3_speak_149 : decode cX3_speak 149 = .ok (.getfield 50, 3) := by decide +kernel
theorem dX3_speak_152 : decode cX3_speak 152 = .ok (.iconst 0, 1) := by decide +kernel
theorem dX3_speak_153 : decode cX3_speak 153 = .ok (.iconst 0, 1) := by decide +kernel
theorem dX3_speak_154 : decode cX3_speak 154 = .ok (.invokevirtual 191, 3) := by decide +kernel
theorem dX3_speak_157 : decode cX3_speak 157 = .ok (.goto 24, 3) := by decide +kernel
theorem dX3_speak_160 : decode cX3_speak 160 = .ok (.aload_n 0, 1) := by decide +kernel
theorem dX3_speak_161 : decode cX3_speak 161 = .ok (.iload_n 1, 1) := by decide +kernel
theorem dX3_speak_162 : decode cX3_speak 162 = .ok (.invokevirtual 201, 3) := by decide +kernel
theorem dX3_speak_165 : decode cX3_speak 165 = .ok (.goto 16, 3) := by decide +kernel
theorem dX3_speak_168 : decode cX3_speak 168 = .ok (.aload_n 0, 1) := by decide +kernel
theorem dX3_speak_169 : decode cX3_speak 169 = .ok (.getfield 82, 3) := by decide +kernel
theorem dX3_speak_172 : decode cX3_speak 172 = .ok (.iload_n 1, 1) := by decide +kernel
theorem dX3_speak_173 : decode cX3_speak 173 = .ok (.iconst 0, 1) := by decide +kernel
theorem dX3_speak_174 : decode cX3_speak 174 = .ok (.iconst 0, 1) := by decide +kernel
theorem dX3_speak_175 : decode cX3_speak 175 = .ok (.iconst 0, 1) := by decide +kernel
theorem dX3_speak_176 : decode cX3_speak 176 = .ok (.iconst 0, 1) := by decide +kernel
theorem dX3_speak_177 : decode cX3_speak 177 = .ok (.iconst 0, 1) := by decide +kernel
theorem dX3_speak_178 : decode cX3_speak 178 = .ok (.invokevirtual 191, 3) := by decide +kernel
theorem dX3_speak_181 : decode cX3_speak 181 = .ok (.return_, 1) := by decide +kernel
set_option maxRecDepth 20000 in
theorem ggX3_speakProbe_X7_send : GoodIn wsX3_speakProbe wsX7_send := goodIn_r _ [7, 8, 9, 10, 31, 32, 33, 34, 35, 36, 37, 38] (by decide +kernel) (by decide +kernel)
set_option maxRecDepth 20000 in
theorem gX3_speakProbe_X7_send : GoodIn wsX3_speakProbe (wsV RX3 191 RX7 yX7_send wsX7_send) := goodIn_app (goodIn_of _ (by decide +kernel)) ggX3_speakProbe_X7_send
theorem dX3_speakProbe_0 : decode cX3_speakProbe 0 = .ok (.aload_n 0, 1) := by decide +kernel
theorem dX3_speakProbe_1 : decode cX3_speakProbe 1 = .ok (.getfield 38, 3) := by decide +kernel
theorem dX3_speakProbe_4 : decode cX3_speakProbe 4 = .ok (.bipush 8, 2) := by decide +kernel
theorem dX3_speakProbe_6 : decode cX3_speakProbe 6 = .ok (.if_icmp .ge 22, 3) := by decide +kernel
theorem dX3_speakProbe_9 : decode cX3_speakProbe 9 = .ok (.aload_n 0, 1) := by decide +kernel
theorem dX3_speakProbe_10 : decode cX3_speakProbe 10 = .ok (.getfield 82, 3) := by decide +kernel
theorem dX3_speakProbe_13 : decode cX3_speakProbe 13 = .ok (.iload_n 1, 1) := by decide +kernel
theorem dX3_speakProbe_14 : decode cX3_speakProbe 14 = .ok (.iconst 3, 1) := by decide +kernel
theorem dX3_speakProbe_15 : decode cX3_speakProbe 15 = .ok (.aload_n 0, 1) := by decide +kernel
theorem dX3_speakProbe_16 : decode cX3_speakProbe 16 = .ok (.getfield 38, 3) := by decide +kernel
theorem dX3_speakProbe_19 : decode cX3_speakProbe 19 = .ok (.iconst 0, 1) := by decide +kernel
theorem dX3_speakProbe_20 : decode cX3_speakProbe 20 = .ok (.iconst 0, 1) := by decide +kernel
theorem dX3_speakProbe_21 : decode cX3_speakProbe 21 = .ok (.iconst 0, 1) := by decide +kernel
theorem dX3_speakProbe_22 : decode cX3_speakProbe 22 = .ok (.invokevirtual 191, 3) := by decide +kernel
theorem dX3_speakProbe_25 : decode cX3_speakProbe 25 = .ok (.goto 16, 3) := by decide +kernel
theorem dX3_speakProbe_28 : decode cX3_speakProbe 28 = .ok (.aload_n 0, 1) := by decide +kernel
theorem dX3_speakProbe_29 : decode cX3_speakProbe 29 = .ok (.getfield 82, 3) := by decide +kernel
theorem dX3_speakProbe_32 : decode cX3_speakProbe 32 = .ok (.iload_n 1, 1) := by decide +kernel
theorem dX3_speakProbe_33 : decode cX3_speakProbe 33 = .ok (.iconst 0, 1) := by decide +kernel
theorem dX3_speakProbe_34 : decode cX3_speakProbe 34 = .ok (.iconst 0, 1) := by decide +kernel
theorem dX3_speakProbe_35 : decode cX3_speakProbe 35 = .ok (.iconst 0, 1) := by decide +kernel
theorem dX3_speakProbe_36 : decode cX3_speakProbe 36 = .ok (.iconst 0, 1) := by decide +kernel
theorem dX3_speakProbe_37 : decode cX3_speakProbe 37 = .ok (.iconst 0, 1) := by decide +kernel
theorem dX3_speakProbe_38 : decode cX3_speakProbe 38 = .ok (.invokevirtual 191, 3) := by decide +kernel
theorem dX3_speakProbe_41 : decode cX3_speakProbe 41 = .ok (.return_, 1) := by decide +kernel
set_option maxRecDepth 20000 in
theorem ggX3_speakFrame_X2_ready : GoodIn wsX3_speakFrame wsX2_ready := goodIn_r _ [16, 17, 18, 19, 20, 4, 5, 6, 63, 64, 65, 66, 67, 68, 69, 70] (by decide +kernel) (by decide +kernel)
set_option maxRecDepth 20000 in
theorem gX3_speakFrame_X2_ready : GoodIn wsX3_speakFrame (wsV RX3 204 RX2 yX2_ready wsX2_ready) := goodIn_app (goodIn_of _ (by decide +kernel)) ggX3_speakFrame_X2_ready
set_option maxRecDepth 20000 in
theorem ggX3_speakFrame_X7_send : GoodIn wsX3_speakFrame wsX7_send := goodIn_r _ [25, 26, 27, 28, 71, 72, 73, 74, 75, 76, 77, 78] (by decide +kernel) (by decide +kernel)
set_option maxRecDepth 20000 in
theorem gX3_speakFrame_X7_send : GoodIn wsX3_speakFrame (wsV RX3 191 RX7 yX7_send wsX7_send) := goodIn_app (goodIn_of _ (by decide +kernel)) ggX3_speakFrame_X7_send
set_option maxRecDepth 20000 in
theorem ggX3_speakFrame_X2_pass : GoodIn wsX3_speakFrame wsX2_pass := goodIn_r _ [32, 18, 33, 34, 35, 36, 37, 5, 38, 63, 64, 65, 66, 67, 68, 69, 70] (by decide +kernel) (by decide +kernel)
set_option maxRecDepth 20000 in
theorem gX3_speakFrame_X2_pass : GoodIn wsX3_speakFrame (wsV RX3 207 RX2 yX2_pass wsX2_pass) := goodIn_app (goodIn_of _ (by decide +kernel)) ggX3_speakFrame_X2_pass
set_option maxRecDepth 20000 in
theorem ggX3_speakFrame_X7_enclose : GoodIn wsX3_speakFrame wsX7_enclose := goodIn_r _ [42, 28, 71, 72, 73, 74, 75, 76, 77, 78] (by decide +kernel) (by decide +kernel)
set_option maxRecDepth 20000 in
theorem gX3_speakFrame_X7_enclose : GoodIn wsX3_speakFrame (wsV RX3 210 RX7 yX7_enclose wsX7_enclose) := goodIn_app (goodIn_of _ (by decide +kernel)) ggX3_speakFrame_X7_enclose
theorem dX3_speakFrame_0 : decode cX3_speakFrame 0 = .ok (.aload_n 0, 1) := by decide +kernel
theorem dX3_speakFrame_1 : decode cX3_speakFrame 1 = .ok (.bipush 24, 2) := by decide +kernel
theorem dX3_speakFrame_3 : decode cX3_speakFrame 3 = .ok (.aload_n 0, 1) := by decide +kernel
theorem dX3_speakFrame_4 : decode cX3_speakFrame 4 = .ok (.getfield 53, 3) := by decide +kernel
theorem dX3_speakFrame_7 : decode cX3_speakFrame 7 = .ok (.aload_n 0, 1) := by decide +kernel
theorem dX3_speakFrame_8 : decode cX3_speakFrame 8 = .ok (.getfield 50, 3) := by decide +kernel
theorem dX3_speakFrame_11 : decode cX3_speakFrame 11 = .ok (.iadd, 1) := by decide +kernel
theorem dX3_speakFrame_12 : decode cX3_speakFrame 12 = .ok (.invokestatic 158, 3) := by decide +kernel
theorem dX3_speakFrame_15 : decode cX3_speakFrame 15 = .ok (.putfield 53, 3) := by decide +kernel
theorem dX3_speakFrame_18 : decode cX3_speakFrame 18 = .ok (.aload_n 0, 1) := by decide +kernel
theorem dX3_speakFrame_19 : decode cX3_speakFrame 19 = .ok (.getfield 21, 3) := by decide +kernel
theorem dX3_speakFrame_22 : decode cX3_speakFrame 22 = .ok (.aload_n 0, 1) := by decide +kernel
theorem dX3_speakFrame_23 : decode cX3_speakFrame 23 = .ok (.getfield 53, 3) := by decide +kernel
theorem dX3_speakFrame_26 : decode cX3_speakFrame 26 = .ok (.bipush 8, 2) := by decide +kernel
theorem dX3_speakFrame_28 : decode cX3_speakFrame 28 = .ok (.idiv, 1) := by decide +kernel
theorem dX3_speakFrame_29 : decode cX3_speakFrame 29 = .ok (.invokevirtual 204, 3) := by decide +kernel
theorem dX3_speakFrame_32 : decode cX3_speakFrame 32 = .ok (.istore_n 2, 1) := by decide +kernel
theorem dX3_speakFrame_33 : decode cX3_speakFrame 33 = .ok (.aload_n 0, 1) := by decide +kernel
theorem dX3_speakFrame_34 : decode cX3_speakFrame 34 = .ok (.getfield 82, 3) := by decide +kernel
theorem dX3_speakFrame_37 : decode cX3_speakFrame 37 = .ok (.iload_n 1, 1) := by decide +kernel
theorem dX3_speakFrame_38 : decode cX3_speakFrame 38 = .ok (.bipush 7, 2) := by decide +kernel
theorem dX3_speakFrame_40 : decode cX3_speakFrame 40 = .ok (.aload_n 0, 1) := by decide +kernel
theorem dX3_speakFrame_41 : decode cX3_speakFrame 41 = .ok (.getfield 44, 3) := by decide +kernel
theorem dX3_speakFrame_44 : decode cX3_speakFrame 44 = .ok (.aload_n 0, 1) := by decide +kernel
theorem dX3_speakFrame_45 : decode cX3_speakFrame 45 = .ok (.getfield 21, 3) := by decide +kernel
theorem dX3_speakFrame_48 : decode cX3_speakFrame 48 = .ok (.getfield 88, 3) := by decide +kernel
theorem dX3_speakFrame_51 : decode cX3_speakFrame 51 = .ok (.iload_n 2, 1) := by decide +kernel
theorem dX3_speakFrame_52 : decode cX3_speakFrame 52 = .ok (.aload_n 0, 1) := by decide +kernel
theorem dX3_speakFrame_53 : decode cX3_speakFrame 53 = .ok (.getfield 21, 3) := by decide +kernel
theorem dX3_speakFrame_56 : decode cX3_speakFrame 56 = .ok (.getfield 94, 3) := by decide +kernel
theorem dX3_speakFrame_59 : decode cX3_speakFrame 59 = .ok (.invokevirtual 191, 3) := by decide +kernel
theorem dX3_speakFrame_62 : decode cX3_speakFrame 62 = .ok (.iconst 0, 1) := by decide +kernel
theorem dX3_speakFrame_63 : decode cX3_speakFrame 63 = .ok (.istore_n 3, 1) := by decide +kernel
theorem dX3_speakFrame_64 : decode cX3_speakFrame 64 = .ok (.iload_n 3, 1) := by decide +kernel
theorem dX3_speakFrame_65 : decode cX3_speakFrame 65 = .ok (.iload_n 2, 1) := by decide +kernel
theorem dX3_speakFrame_66 : decode cX3_speakFrame 66 = .ok (.if_icmp .ge 25, 3) := by decide +kernel
theorem dX3_speakFrame_69 : decode cX3_speakFrame 69 = .ok (.aload_n 0, 1) := by decide +kernel
theorem dX3_speakFrame_70 : decode cX3_speakFrame 70 = .ok (.getfield 82, 3) := by decide +kernel
theorem dX3_speakFrame_73 : decode cX3_speakFrame 73 = .ok (.iload_n 1, 1) := by decide +kernel
theorem dX3_speakFrame_74 : decode cX3_speakFrame 74 = .ok (.iload_n 3, 1) := by decide +kernel
theorem dX3_speakFrame_75 : decode cX3_speakFrame 75 = .ok (.aload_n 0, 1) := by decide +kernel
theorem dX3_speakFrame_76 : decode cX3_speakFrame 76 = .ok (.getfield 21, 3) := by decide +kernel
theorem dX3_speakFrame_79 : decode cX3_speakFrame 79 = .ok (.invokevirtual 207, 3) := by decide +kernel
theorem dX3_speakFrame_82 : decode cX3_speakFrame 82 = .ok (.invokevirtual 210, 3) := by decide +kernel
theorem dX3_speakFrame_85 : decode cX3_speakFrame 85 = .ok (.iinc 3 1, 3) := by decide +kernel
theorem dX3_speakFrame_88 : decode cX3_speakFrame 88 = .ok (.goto (-24), 3) := by decide +kernel
theorem dX3_speakFrame_91 : decode cX3_speakFrame 91 = .ok (.aload_n 0, 1) := by decide +kernel
theorem dX3_speakFrame_92 : decode cX3_speakFrame 92 = .ok (.dup, 1) := by decide +kernel
theorem dX3_speakFrame_93 : decode cX3_speakFrame 93 = .ok (.getfield 53, 3) := by decide +kernel
theorem dX3_speakFrame_96 : decode cX3_speakFrame 96 = .ok (.bipush 8, 2) := by decide +kernel
theorem dX3_speakFrame_98 : decode cX3_speakFrame 98 = .ok (.iload_n 2, 1) := by decide +kernel
theorem dX3_speakFrame_99 : decode cX3_speakFrame 99 = .ok (.imul, 1) := by decide +kernel
theorem dX3_speakFrame_100 : decode cX3_speakFrame 100 = .ok (.isub, 1) := by decide +kernel
theorem dX3_speakFrame_101 : decode cX3_speakFrame 101 = .ok (.putfield 53, 3) := by decide +kernel
theorem dX3_speakFrame_104 : decode cX3_speakFrame 104 = .ok (.return_, 1) := by decide +kernel
theorem dX4_init_0 : decode cX4_init 0 = .ok (.aload_n 0, 1) := by decide +kernel
theorem dX4_init_1 : decode cX4_init 1 = .ok (.invokespecial 3, 3) := by decide +kernel
theorem dX4_init_4 : decode cX4_init 4 = .ok (.aload_n 0, 1) := by decide +kernel
theorem dX4_init_5 : decode cX4_init 5 = .ok (.bipush 30, 2) := by decide +kernel
theorem dX4_init_7 : decode cX4_init 7 = .ok (.newarray .int, 2) := by decide +kernel
theorem dX4_init_9 : decode cX4_init 9 = .ok (.putfield 11, 3) := by decide +kernel
theorem dX4_init_12 : decode cX4_init 12 = .ok (.aload_n 0, 1) := by decide +kernel
theorem dX4_init_13 : decode cX4_init 13 = .ok (.iconst 0, 1) := by decide +kernel
theorem dX4_init_14 : decode cX4_init 14 = .ok (.putfield 15, 3) := by decide +kernel
theorem dX4_init_17 : decode cX4_init 17 = .ok (.return_, 1) := by decide +kernel
theorem dX4_add_0 : decode cX4_add 0 = .ok (.aload_n 0, 1) := by decide +kernel
theorem dX4_add_1 : decode cX4_add 1 = .ok (.getfield 15, 3) := by decide +kernel
theorem dX4_add_4 : decode cX4_add 4 = .ok (.ifCond .lt 32, 3) := by decide +kernel
theorem dX4_add_7 : decode cX4_add 7 = .ok (.aload_n 0, 1) := by decide +kernel
theorem dX4_add_8 : decode cX4_add 8 = .ok (.getfield 15, 3) := by decide +kernel
theorem dX4_add_11 : decode cX4_add 11 = .ok (.bipush 30, 2) := by decide +kernel
theorem dX4_add_13 : decode cX4_add 13 = .ok (.if_icmp .ge 23, 3) := by decide +kernel
theorem dX4_add_16 : decode cX4_add 16 = .ok (.aload_n 0, 1) := by decide +kernel
theorem dX4_add_17 : decode cX4_add 17 = .ok (.getfield 11, 3) := by decide +kernel
theorem dX4_add_20 : decode cX4_add 20 = .ok (.aload_n 0, 1) := by decide +kernel
theorem dX4_add_21 : decode cX4_add 21 = .ok (.getfield 15, 3) := by decide +kernel
theorem dX4_add_24 : decode cX4_add 24 = .ok (.iload_n 1, 1) := by decide +kernel
theorem dX4_add_25 : decode cX4_add 25 = .ok (.iastore, 1) := by decide +kernel
theorem dX4_add_26 : decode cX4_add 26 = .ok (.aload_n 0, 1) := by decide +kernel
theorem dX4_add_27 : decode cX4_add 27 = .ok (.dup, 1) := by decide +kernel
theorem dX4_add_28 : decode cX4_add 28 = .ok (.getfield 15, 3) := by decide +kernel
theorem dX4_add_31 : decode cX4_add 31 = .ok (.iconst 1, 1) := by decide +kernel
theorem dX4_add_32 : decode cX4_add 32 = .ok (.iadd, 1) := by decide +kernel
theorem dX4_add_33 : decode cX4_add 33 = .ok (.putfield 15, 3) := by decide +kernel
theorem dX4_add_36 : decode cX4_add 36 = .ok (.return_, 1) := by decide +kernel
theorem dX4_codeAt_0 : decode cX4_codeAt 0 = .ok (.iload_n 1, 1) := by decide +kernel
theorem dX4_codeAt_1 : decode cX4_codeAt 1 = .ok (.ifCond .lt 26, 3) := by decide +kernel
theorem dX4_codeAt_4 : decode cX4_codeAt 4 = .ok (.iload_n 1, 1) := by decide +kernel
theorem dX4_codeAt_5 : decode cX4_codeAt 5 = .ok (.aload_n 0, 1) := by decide +kernel
theorem dX4_codeAt_6 : decode cX4_codeAt 6 = .ok (.getfield 15, 3) := by decide +kernel
theorem dX4_codeAt_9 : decode cX4_codeAt 9 = .ok (.if_icmp .ge 18, 3) := by decide +kernel
theorem dX4_codeAt_12 : decode cX4_codeAt 12 = .ok (.iload_n 1, 1) := by decide +kernel
theorem dX4_codeAt_13 : decode cX4_codeAt 13 = .ok (.bipush 30, 2) := by decide +kernel
theorem dX4_codeAt_15 : decode cX4_codeAt 15 = .ok (.if_icmp .ge 12, 3) := by decide +kernel
theorem dX4_codeAt_18 : decode cX4_codeAt 18 = .ok (.aload_n 0, 1) := by decide +kernel
theorem dX4_codeAt_19 : decode cX4_codeAt 19 = .ok (.getfield 11, 3) := by decide +kernel
theorem dX4_codeAt_22 : decode cX4_codeAt 22 = .ok (.iload_n 1, 1) := by decide +kernel
theorem dX4_codeAt_23 : decode cX4_codeAt 23 = .ok (.iaload, 1) := by decide +kernel
theorem dX4_codeAt_24 : decode cX4_codeAt 24 = .ok (.goto 4, 3) := by decide +kernel
theorem dX4_codeAt_27 : decode cX4_codeAt 27 = .ok (.iconst 0, 1) := by decide +kernel
theorem dX4_codeAt_28 : decode cX4_codeAt 28 = .ok (.ireturn, 1) := by decide +kernel
set_option maxRecDepth 20000 in
theorem ggX4_firstFault_X4_fits : GoodIn wsX4_firstFault wsX4_fits := goodIn_r _ [6, 7, 8, 9, 5, 10, 1, 11, 12, 13, 14, 15, 16, 17, 18, 19, 20, 21, 22, 23, 24, 25, 26, 27, 28, 29] (by decide +kernel) (by decide +kernel)
set_option maxRecDepth 20000 in
theorem gX4_firstFault_X4_fits : GoodIn wsX4_firstFault (wsV RX4 19 RX4 yX4_fits wsX4_fits) := goodIn_app (goodIn_of _ (by decide +kernel)) ggX4_firstFault_X4_fits
theorem dX4_firstFault_0 : decode cX4_firstFault 0 = .ok (.iconst 0, 1) := by decide +kernel
theorem dX4_firstFault_1 : decode cX4_firstFault 1 = .ok (.istore_n 1, 1) := by decide +kernel
theorem dX4_firstFault_2 : decode cX4_firstFault 2 = .ok (.iload_n 1, 1) := by decide +kernel
theorem dX4_firstFault_3 : decode cX4_firstFault 3 = .ok (.aload_n 0, 1) := by decide +kernel
theorem dX4_firstFault_4 : decode cX4_firstFault 4 = .ok (.getfield 15, 3) := by decide +kernel
theorem dX4_firstFault_7 : decode cX4_firstFault 7 = .ok (.if_icmp .ge 19, 3) := by decide +kernel
theorem dX4_firstFault_10 : decode cX4_firstFault 10 = .ok (.aload_n 0, 1) := by decide +kernel
theorem dX4_firstFault_11 : decode cX4_firstFault 11 = .ok (.iload_n 1, 1) := by decide +kernel
theorem dX4_firstFault_12 : decode cX4_firstFault 12 = .ok (.invokevirtual 19, 3) := by decide +kernel
theorem dX4_firstFault_15 : decode cX4_firstFault 15 = .ok (.ifCond .ne 5, 3) := by decide +kernel
theorem dX4_firstFault_18 : decode cX4_firstFault 18 = .ok (.iload_n 1, 1) := by decide +kernel
theorem dX4_firstFault_19 : decode cX4_firstFault 19 = .ok (.ireturn, 1) := by decide +kernel
theorem dX4_firstFault_20 : decode cX4_firstFault 20 = .ok (.iinc 1 1, 3) := by decide +kernel
theorem dX4_firstFault_23 : decode cX4_firstFault 23 = .ok (.goto (-21), 3) := by decide +kernel
theorem dX4_firstFault_26 : decode cX4_firstFault 26 = .ok (.aload_n 0, 1) := by decide +kernel
theorem dX4_firstFault_27 : decode cX4_firstFault 27 = .ok (.getfield 15, 3) := by decide +kernel
theorem dX4_firstFault_30 : decode cX4_firstFault 30 = .ok (.ireturn, 1) := by decide +kernel
set_option maxRecDepth 20000 in
theorem ggX4_isLine_X4_firstFault : GoodIn wsX4_isLine wsX4_firstFault := goodIn_r _ [6, 1, 7, 8, 9, 5, 10, 11, 12, 13, 14, 15, 16, 17, 18, 19, 20, 21, 22, 23, 24, 25, 26, 27, 28, 29, 30, 31, 32, 33] (by decide +kernel) (by decide +kernel)
set_option maxRecDepth 20000 in
theorem gX4_isLine_X4_firstFault : GoodIn wsX4_isLine (wsV RX4 23 RX4 yX4_firstFault wsX4_firstFault) := goodIn_app (goodIn_of _ (by decide +kernel)) ggX4_isLine_X4_firstFault
set_option maxRecDepth 20000 in
theorem ggX4_isLine_X4_commaAhead : GoodIn wsX4_isLine wsX4_commaAhead := goodIn_r _ [27, 11, 12, 13, 5, 14, 1, 15, 32, 33] (by decide +kernel) (by decide +kernel)
set_option maxRecDepth 20000 in
theorem gX4_isLine_X4_commaAhead : GoodIn wsX4_isLine (wsV RX4 27 RX4 yX4_commaAhead wsX4_commaAhead) := goodIn_app (goodIn_of _ (by decide +kernel)) ggX4_isLine_X4_commaAhead
theorem dX4_isLine_0 : decode cX4_isLine 0 = .ok (.aload_n 0, 1) := by decide +kernel
theorem dX4_isLine_1 : decode cX4_isLine 1 = .ok (.invokevirtual 23, 3) := by decide +kernel
theorem dX4_isLine_4 : decode cX4_isLine 4 = .ok (.aload_n 0, 1) := by decide +kernel
theorem dX4_isLine_5 : decode cX4_isLine 5 = .ok (.getfield 15, 3) := by decide +kernel
theorem dX4_isLine_8 : decode cX4_isLine 8 = .ok (.if_icmp .ge 5, 3) := by decide +kernel
theorem dX4_isLine_11 : decode cX4_isLine 11 = .ok (.iconst 0, 1) := by decide +kernel
theorem dX4_isLine_12 : decode cX4_isLine 12 = .ok (.ireturn, 1) := by decide +kernel
theorem dX4_isLine_13 : decode cX4_isLine 13 = .ok (.aload_n 0, 1) := by decide +kernel
theorem dX4_isLine_14 : decode cX4_isLine 14 = .ok (.aload_n 0, 1) := by decide +kernel
theorem dX4_isLine_15 : decode cX4_isLine 15 = .ok (.getfield 15, 3) := by decide +kernel
theorem dX4_isLine_18 : decode cX4_isLine 18 = .ok (.invokevirtual 27, 3) := by decide +kernel
theorem dX4_isLine_21 : decode cX4_isLine 21 = .ok (.istore_n 1, 1) := by decide +kernel
theorem dX4_isLine_22 : decode cX4_isLine 22 = .ok (.aload_n 0, 1) := by decide +kernel
theorem dX4_isLine_23 : decode cX4_isLine 23 = .ok (.getfield 15, 3) := by decide +kernel
theorem dX4_isLine_26 : decode cX4_isLine 26 = .ok (.bipush 19, 2) := by decide +kernel
theorem dX4_isLine_28 : decode cX4_isLine 28 = .ok (.if_icmp .eq 17, 3) := by decide +kernel
theorem dX4_isLine_31 : decode cX4_isLine 31 = .ok (.iload_n 1, 1) := by decide +kernel
theorem dX4_isLine_32 : decode cX4_isLine 32 = .ok (.ifCond .lt 17, 3) := by decide +kernel
theorem dX4_isLine_35 : decode cX4_isLine 35 = .ok (.aload_n 0, 1) := by decide +kernel
theorem dX4_isLine_36 : decode cX4_isLine 36 = .ok (.getfield 15, 3) := by decide +kernel
theorem dX4_isLine_39 : decode cX4_isLine 39 = .ok (.iload_n 1, 1) := by decide +kernel
theorem dX4_isLine_40 : decode cX4_isLine 40 = .ok (.iconst 1, 1) := by decide +kernel
theorem dX4_isLine_41 : decode cX4_isLine 41 = .ok (.iadd, 1) := by decide +kernel
theorem dX4_isLine_42 : decode cX4_isLine 42 = .ok (.if_icmp .le 7, 3) := by decide +kernel
theorem dX4_isLine_45 : decode cX4_isLine 45 = .ok (.iconst 1, 1) := by decide +kernel
theorem dX4_isLine_46 : decode cX4_isLine 46 = .ok (.goto 4, 3) := by decide +kernel
theorem dX4_isLine_49 : decode cX4_isLine 49 = .ok (.iconst 0, 1) := by decide +kernel
theorem dX4_isLine_50 : decode cX4_isLine 50 = .ok (.ireturn, 1) := by decide +kernel
set_option maxRecDepth 20000 in
theorem ggX4_qualityAt_X4_codeAt : GoodIn wsX4_qualityAt wsX4_codeAt := goodIn_r _ [5, 6, 7, 12, 13] (by decide +kernel) (by decide +kernel)
set_option maxRecDepth 20000 in
theorem gX4_qualityAt_X4_codeAt : GoodIn wsX4_qualityAt (wsV RX4 31 RX4 yX4_codeAt wsX4_codeAt) := goodIn_app (goodIn_of _ (by decide +kernel)) ggX4_qualityAt_X4_codeAt
set_option maxRecDepth 20000 in
theorem ggX4_qualityAt_X4_figure : GoodIn wsX4_qualityAt wsX4_figure := goodIn_r _ [11] (by decide +kernel) (by decide +kernel)
set_option maxRecDepth 20000 in
theorem gX4_qualityAt_X4_figure : GoodIn wsX4_qualityAt (wsV RX4 34 RX4 yX4_figure wsX4_figure) := goodIn_app (goodIn_of _ (by decide +kernel)) ggX4_qualityAt_X4_figure
theorem dX4_qualityAt_0 : decode cX4_qualityAt 0 = .ok (.aload_n 0, 1) := by decide +kernel
theorem dX4_qualityAt_1 : decode cX4_qualityAt 1 = .ok (.aload_n 0, 1) := by decide +kernel
theorem dX4_qualityAt_2 : decode cX4_qualityAt 2 = .ok (.bipush 9, 2) := by decide +kernel
theorem dX4_qualityAt_4 : decode cX4_qualityAt 4 = .ok (.iload_n 1, 1) := by decide +kernel
theorem dX4_qualityAt_5 : decode cX4_qualityAt 5 = .ok (.imul, 1) := by decide +kernel
theorem dX4_qualityAt_6 : decode cX4_qualityAt 6 = .ok (.iload_n 2, 1) := by decide +kernel
theorem dX4_qualityAt_7 : decode cX4_qualityAt 7 = .ok (.iadd, 1) := by decide +kernel
theorem dX4_qualityAt_8 : decode cX4_qualityAt 8 = .ok (.invokevirtual 31, 3) := by decide +kernel
theorem dX4_qualityAt_11 : decode cX4_qualityAt 11 = .ok (.invokevirtual 34, 3) := by decide +kernel
theorem dX4_qualityAt_14 : decode cX4_qualityAt 14 = .ok (.ireturn, 1) := by decide +kernel
set_option maxRecDepth 20000 in
theorem ggX4_delay_X4_codeAt : GoodIn wsX4_delay wsX4_codeAt := goodIn_r _ [5, 6, 7, 8, 9] (by decide +kernel) (by decide +kernel)
set_option maxRecDepth 20000 in
theorem gX4_delay_X4_codeAt : GoodIn wsX4_delay (wsV RX4 31 RX4 yX4_codeAt wsX4_codeAt) := goodIn_app (goodIn_of _ (by decide +kernel)) ggX4_delay_X4_codeAt
theorem dX4_delay_0 : decode cX4_delay 0 = .ok (.aload_n 0, 1) := by decide +kernel
theorem dX4_delay_1 : decode cX4_delay 1 = .ok (.bipush 18, 2) := by decide +kernel
theorem dX4_delay_3 : decode cX4_delay 3 = .ok (.invokevirtual 31, 3) := by decide +kernel
theorem dX4_delay_6 : decode cX4_delay 6 = .ok (.bipush 48, 2) := by decide +kernel
theorem dX4_delay_8 : decode cX4_delay 8 = .ok (.isub, 1) := by decide +kernel
theorem dX4_delay_9 : decode cX4_delay 9 = .ok (.ireturn, 1) := by decide +kernel
set_option maxRecDepth 20000 in
theorem ggX4_hurtOf_X4_commaAhead : GoodIn wsX4_hurtOf wsX4_commaAhead := goodIn_r _ [6, 7, 8, 9, 5, 10, 1, 11, 16, 17] (by decide +kernel) (by decide +kernel)
set_option maxRecDepth 20000 in
theorem gX4_hurtOf_X4_commaAhead : GoodIn wsX4_hurtOf (wsV RX4 27 RX4 yX4_commaAhead wsX4_commaAhead) := goodIn_app (goodIn_of _ (by decide +kernel)) ggX4_hurtOf_X4_commaAhead
set_option maxRecDepth 20000 in
theorem ggX4_hurtOf_X4_number : GoodIn wsX4_hurtOf wsX4_number := goodIn_r _ [15, 7, 8, 9, 5, 10, 1, 11, 16, 17] (by decide +kernel) (by decide +kernel)
set_option maxRecDepth 20000 in
theorem gX4_hurtOf_X4_number : GoodIn wsX4_hurtOf (wsV RX4 37 RX4 yX4_number wsX4_number) := goodIn_app (goodIn_of _ (by decide +kernel)) ggX4_hurtOf_X4_number
theorem dX4_hurtOf_0 : decode cX4_hurtOf 0 = .ok (.aload_n 0, 1) := by decide +kernel
theorem dX4_hurtOf_1 : decode cX4_hurtOf 1 = .ok (.aload_n 0, 1) := by decide +kernel
theorem dX4_hurtOf_2 : decode cX4_hurtOf 2 = .ok (.getfield 15, 3) := by decide +kernel
theorem dX4_hurtOf_5 : decode cX4_hurtOf 5 = .ok (.invokevirtual 27, 3) := by decide +kernel
theorem dX4_hurtOf_8 : decode cX4_hurtOf 8 = .ok (.istore_n 2, 1) := by decide +kernel
theorem dX4_hurtOf_9 : decode cX4_hurtOf 9 = .ok (.iload_n 2, 1) := by decide +kernel
theorem dX4_hurtOf_10 : decode cX4_hurtOf 10 = .ok (.ifCond .ge 5, 3) := by decide +kernel
theorem dX4_hurtOf_13 : decode cX4_hurtOf 13 = .ok (.iconst 0, 1) := by decide +kernel
theorem dX4_hurtOf_14 : decode cX4_hurtOf 14 = .ok (.ireturn, 1) := by decide +kernel
theorem dX4_hurtOf_15 : decode cX4_hurtOf 15 = .ok (.iload_n 1, 1) := by decide +kernel
theorem dX4_hurtOf_16 : decode cX4_hurtOf 16 = .ok (.ifCond .ne 13, 3) := by decide +kernel
theorem dX4_hurtOf_19 : decode cX4_hurtOf 19 = .ok (.aload_n 0, 1) := by decide +kernel
theorem dX4_hurtOf_20 : decode cX4_hurtOf 20 = .ok (.bipush 20, 2) := by decide +kernel
theorem dX4_hurtOf_22 : decode cX4_hurtOf 22 = .ok (.iload_n 2, 1) := by decide +kernel
theorem dX4_hurtOf_23 : decode cX4_hurtOf 23 = .ok (.invokevirtual 37, 3) := by decide +kernel
theorem dX4_hurtOf_26 : decode cX4_hurtOf 26 = .ok (.goto 14, 3) := by decide +kernel
theorem dX4_hurtOf_29 : decode cX4_hurtOf 29 = .ok (.aload_n 0, 1) := by decide +kernel
theorem dX4_hurtOf_30 : decode cX4_hurtOf 30 = .ok (.iload_n 2, 1) := by decide +kernel
theorem dX4_hurtOf_31 : decode cX4_hurtOf 31 = .ok (.iconst 1, 1) := by decide +kernel
theorem dX4_hurtOf_32 : decode cX4_hurtOf 32 = .ok (.iadd, 1) := by decide +kernel
theorem dX4_hurtOf_33 : decode cX4_hurtOf 33 = .ok (.aload_n 0, 1) := by decide +kernel
theorem dX4_hurtOf_34 : decode cX4_hurtOf 34 = .ok (.getfield 15, 3) := by decide +kernel
theorem dX4_hurtOf_37 : decode cX4_hurtOf 37 = .ok (.invokevirtual 37, 3) := by decide +kernel
theorem dX4_hurtOf_40 : decode cX4_hurtOf 40 = .ok (.ireturn, 1) := by decide +kernel
set_option maxRecDepth 20000 in
theorem ggX4_fits_X4_codeAt : GoodIn wsX4_fits wsX4_codeAt := goodIn_r _ [5, 6, 7, 24, 25] (by decide +kernel) (by decide +kernel)
set_option maxRecDepth 20000 in
theorem gX4_fits_X4_codeAt : GoodIn wsX4_fits (wsV RX4 31 RX4 yX4_codeAt wsX4_codeAt) := goodIn_app (goodIn_of _ (by decide +kernel)) ggX4_fits_X4_codeAt
set_option maxRecDepth 20000 in
theorem ggX4_fits_X4_figure : GoodIn wsX4_fits wsX4_figure := goodIn_r _ [11] (by decide +kernel) (by decide +kernel)
set_option maxRecDepth 20000 in
theorem gX4_fits_X4_figure : GoodIn wsX4_fits (wsV RX4 34 RX4 yX4_figure wsX4_figure) := goodIn_app (goodIn_of _ (by decide +kernel)) ggX4_fits_X4_figure
set_option maxRecDepth 20000 in
theorem ggX4_fits_X4_fitsHurt : GoodIn wsX4_fits wsX4_fitsHurt := goodIn_r _ [15, 16, 17, 18, 4, 19, 1, 2, 3, 5, 6, 7, 20, 21, 22, 23, 24, 25] (by decide +kernel) (by decide +kernel)
set_option maxRecDepth 20000 in
theorem gX4_fits_X4_fitsHurt : GoodIn wsX4_fits (wsV RX4 41 RX4 yX4_fitsHurt wsX4_fitsHurt) := goodIn_app (goodIn_of _ (by decide +kernel)) ggX4_fits_X4_fitsHurt
theorem dX4_fits_0 : decode cX4_fits 0 = .ok (.aload_n 0, 1) := by decide +kernel
theorem dX4_fits_1 : decode cX4_fits 1 = .ok (.iload_n 1, 1) := by decide +kernel
theorem dX4_fits_2 : decode cX4_fits 2 = .ok (.invokevirtual 31, 3) := by decide +kernel
theorem dX4_fits_5 : decode cX4_fits 5 = .ok (.istore_n 2, 1) := by decide +kernel
theorem dX4_fits_6 : decode cX4_fits 6 = .ok (.iload_n 1, 1) := by decide +kernel
theorem dX4_fits_7 : decode cX4_fits 7 = .ok (.lookupswitch 95 #[(8, 41), (17, 53), (18, 65), (19, 83)], 41) := by decide +kernel
theorem dX4_fits_48 : decode cX4_fits 48 = .ok (.iload_n 2, 1) := by decide +kernel
theorem dX4_fits_49 : decode cX4_fits 49 = .ok (.bipush 47, 2) := by decide +kernel
theorem dX4_fits_51 : decode cX4_fits 51 = .ok (.if_icmp .ne 7, 3) := by decide +kernel
theorem dX4_fits_54 : decode cX4_fits 54 = .ok (.iconst 1, 1) := by decide +kernel
theorem dX4_fits_55 : decode cX4_fits 55 = .ok (.goto 4, 3) := by decide +kernel
theorem dX4_fits_58 : decode cX4_fits 58 = .ok (.iconst 0, 1) := by decide +kernel
theorem dX4_fits_59 : decode cX4_fits 59 = .ok (.ireturn, 1) := by decide +kernel
theorem dX4_fits_60 : decode cX4_fits 60 = .ok (.iload_n 2, 1) := by decide +kernel
theorem dX4_fits_61 : decode cX4_fits 61 = .ok (.bipush 59, 2) := by decide +kernel
theorem dX4_fits_63 : decode cX4_fits 63 = .ok (.if_icmp .ne 7, 3) := by decide +kernel
theorem dX4_fits_66 : decode cX4_fits 66 = .ok (.iconst 1, 1) := by decide +kernel
theorem dX4_fits_67 : decode cX4_fits 67 = .ok (.goto 4, 3) := by decide +kernel
theorem dX4_fits_70 : decode cX4_fits 70 = .ok (.iconst 0, 1) := by decide +kernel
theorem dX4_fits_71 : decode cX4_fits 71 = .ok (.ireturn, 1) := by decide +kernel
theorem dX4_fits_72 : decode cX4_fits 72 = .ok (.iload_n 2, 1) := by decide +kernel
theorem dX4_fits_73 : decode cX4_fits 73 = .ok (.bipush 49, 2) := by decide +kernel
theorem dX4_fits_75 : decode cX4_fits 75 = .ok (.if_icmp .lt 13, 3) := by decide +kernel
theorem dX4_fits_78 : decode cX4_fits 78 = .ok (.iload_n 2, 1) := by decide +kernel
theorem dX4_fits_79 : decode cX4_fits 79 = .ok (.bipush 56, 2) := by decide +kernel
theorem dX4_fits_81 : decode cX4_fits 81 = .ok (.if_icmp .gt 7, 3) := by decide +kernel
theorem dX4_fits_84 : decode cX4_fits 84 = .ok (.iconst 1, 1) := by decide +kernel
theorem dX4_fits_85 : decode cX4_fits 85 = .ok (.goto 4, 3) := by decide +kernel
theorem dX4_fits_88 : decode cX4_fits 88 = .ok (.iconst 0, 1) := by decide +kernel
theorem dX4_fits_89 : decode cX4_fits 89 = .ok (.ireturn, 1) := by decide +kernel
theorem dX4_fits_90 : decode cX4_fits 90 = .ok (.iload_n 2, 1) := by decide +kernel
theorem dX4_fits_91 : decode cX4_fits 91 = .ok (.bipush 104, 2) := by decide +kernel
theorem dX4_fits_93 : decode cX4_fits 93 = .ok (.if_icmp .ne 7, 3) := by decide +kernel
theorem dX4_fits_96 : decode cX4_fits 96 = .ok (.iconst 1, 1) := by decide +kernel
theorem dX4_fits_97 : decode cX4_fits 97 = .ok (.goto 4, 3) := by decide +kernel
theorem dX4_fits_100 : decode cX4_fits 100 = .ok (.iconst 0, 1) := by decide +kernel
theorem dX4_fits_101 : decode cX4_fits 101 = .ok (.ireturn, 1) := by decide +kernel
theorem dX4_fits_102 : decode cX4_fits 102 = .ok (.iload_n 1, 1) := by decide +kernel
theorem dX4_fits_103 : decode cX4_fits 103 = .ok (.bipush 17, 2) := by decide +kernel
theorem dX4_fits_105 : decode cX4_fits 105 = .ok (.if_icmp .ge 19, 3) := by decide +kernel
theorem dX4_fits_108 : decode cX4_fits 108 = .ok (.aload_n 0, 1) := by decide +kernel
theorem dX4_fits_109 : decode cX4_fits 109 = .ok (.iload_n 2, 1) := by decide +kernel
theorem dX4_fits_110 : decode cX4_fits 110 = .ok (.invokevirtual 34, 3) := by decide +kernel
theorem dX4_fits_113 : decode cX4_fits 113 = .ok (.ifCond .lt 7, 3) := by decide +kernel
theorem dX4_fits_116 : decode cX4_fits 116 = .ok (.iconst 1, 1) := by decide +kernel
theorem dX4_fits_117 : decode cX4_fits 117 = .ok (.goto 13, 3) := by decide +kernel
theorem dX4_fits_120 : decode cX4_fits 120 = .ok (.iconst 0, 1) := by decide +kernel
theorem dX4_fits_121 : decode cX4_fits 121 = .ok (.goto 9, 3) := by decide +kernel
theorem dX4_fits_124 : decode cX4_fits 124 = .ok (.aload_n 0, 1) := by decide +kernel
theorem dX4_fits_125 : decode cX4_fits 125 = .ok (.iload_n 1, 1) := by decide +kernel
theorem dX4_fits_126 : decode cX4_fits 126 = .ok (.iload_n 2, 1) := by decide +kernel
theorem dX4_fits_127 : decode cX4_fits 127 = .ok (.invokevirtual 41, 3) := by decide +kernel
theorem dX4_fits_130 : decode cX4_fits 130 = .ok (.ireturn, 1) := by decide +kernel
set_option maxRecDepth 20000 in
theorem ggX4_fitsHurt_X4_commaAhead : GoodIn wsX4_fitsHurt wsX4_commaAhead := goodIn_r _ [5, 6, 7, 8, 4, 9, 10, 11, 16, 17] (by decide +kernel) (by decide +kernel)
set_option maxRecDepth 20000 in
theorem gX4_fitsHurt_X4_commaAhead : GoodIn wsX4_fitsHurt (wsV RX4 27 RX4 yX4_commaAhead wsX4_commaAhead) := goodIn_app (goodIn_of _ (by decide +kernel)) ggX4_fitsHurt_X4_commaAhead
set_option maxRecDepth 20000 in
theorem ggX4_fitsHurt_X4_number : GoodIn wsX4_fitsHurt wsX4_number := goodIn_r _ [15, 6, 7, 8, 4, 9, 10, 11, 16, 17] (by decide +kernel) (by decide +kernel)
set_option maxRecDepth 20000 in
theorem gX4_fitsHurt_X4_number : GoodIn wsX4_fitsHurt (wsV RX4 37 RX4 yX4_number wsX4_number) := goodIn_app (goodIn_of _ (by decide +kernel)) ggX4_fitsHurt_X4_number
theorem dX4_fitsHurt_0 : decode cX4_fitsHurt 0 = .ok (.aload_n 0, 1) := by decide +kernel
theorem dX4_fitsHurt_1 : decode cX4_fitsHurt 1 = .ok (.iload_n 1, 1) := by decide +kernel
theorem dX4_fitsHurt_2 : decode cX4_fitsHurt 2 = .ok (.invokevirtual 27, 3) := by decide +kernel
theorem dX4_fitsHurt_5 : decode cX4_fitsHurt 5 = .ok (.istore_n 3, 1) := by decide +kernel
theorem dX4_fitsHurt_6 : decode cX4_fitsHurt 6 = .ok (.iload_n 3, 1) := by decide +kernel
theorem dX4_fitsHurt_7 : decode cX4_fitsHurt 7 = .ok (.ifCond .ge 8, 3) := by decide +kernel
theorem dX4_fitsHurt_10 : decode cX4_fitsHurt 10 = .ok (.bipush 20, 2) := by decide +kernel
theorem dX4_fitsHurt_12 : decode cX4_fitsHurt 12 = .ok (.goto 6, 3) := by decide +kernel
theorem dX4_fitsHurt_15 : decode cX4_fitsHurt 15 = .ok (.iload_n 3, 1) := by decide +kernel
theorem dX4_fitsHurt_16 : decode cX4_fitsHurt 16 = .ok (.iconst 1, 1) := by decide +kernel
theorem dX4_fitsHurt_17 : decode cX4_fitsHurt 17 = .ok (.iadd, 1) := by decide +kernel
theorem dX4_fitsHurt_18 : decode cX4_fitsHurt 18 = .ok (.istore 4, 2) := by decide +kernel
theorem dX4_fitsHurt_20 : decode cX4_fitsHurt 20 = .ok (.iload_n 2, 1) := by decide +kernel
theorem dX4_fitsHurt_21 : decode cX4_fitsHurt 21 = .ok (.bipush 44, 2) := by decide +kernel
theorem dX4_fitsHurt_23 : decode cX4_fitsHurt 23 = .ok (.if_icmp .ne 19, 3) := by decide +kernel
theorem dX4_fitsHurt_26 : decode cX4_fitsHurt 26 = .ok (.iload_n 3, 1) := by decide +kernel
theorem dX4_fitsHurt_27 : decode cX4_fitsHurt 27 = .ok (.ifCond .ge 13, 3) := by decide +kernel
theorem dX4_fitsHurt_30 : decode cX4_fitsHurt 30 = .ok (.iload_n 1, 1) := by decide +kernel
theorem dX4_fitsHurt_31 : decode cX4_fitsHurt 31 = .ok (.iload 4, 2) := by decide +kernel
theorem dX4_fitsHurt_33 : decode cX4_fitsHurt 33 = .ok (.if_icmp .le 7, 3) := by decide +kernel
theorem dX4_fitsHurt_36 : decode cX4_fitsHurt 36 = .ok (.iconst 1, 1) := by decide +kernel
theorem dX4_fitsHurt_37 : decode cX4_fitsHurt 37 = .ok (.goto 4, 3) := by decide +kernel
theorem dX4_fitsHurt_40 : decode cX4_fitsHurt 40 = .ok (.iconst 0, 1) := by decide +kernel
theorem dX4_fitsHurt_41 : decode cX4_fitsHurt 41 = .ok (.ireturn, 1) := by decide +kernel
theorem dX4_fitsHurt_42 : decode cX4_fitsHurt 42 = .ok (.iload_n 2, 1) := by decide +kernel
theorem dX4_fitsHurt_43 : decode cX4_fitsHurt 43 = .ok (.bipush 48, 2) := by decide +kernel
theorem dX4_fitsHurt_45 : decode cX4_fitsHurt 45 = .ok (.if_icmp .lt 9, 3) := by decide +kernel
theorem dX4_fitsHurt_48 : decode cX4_fitsHurt 48 = .ok (.iload_n 2, 1) := by decide +kernel
theorem dX4_fitsHurt_49 : decode cX4_fitsHurt 49 = .ok (.bipush 57, 2) := by decide +kernel
theorem dX4_fitsHurt_51 : decode cX4_fitsHurt 51 = .ok (.if_icmp .le 5, 3) := by decide +kernel
theorem dX4_fitsHurt_54 : decode cX4_fitsHurt 54 = .ok (.iconst 0, 1) := by decide +kernel
theorem dX4_fitsHurt_55 : decode cX4_fitsHurt 55 = .ok (.ireturn, 1) := by decide +kernel
theorem dX4_fitsHurt_56 : decode cX4_fitsHurt 56 = .ok (.iload_n 1, 1) := by decide +kernel
theorem dX4_fitsHurt_57 : decode cX4_fitsHurt 57 = .ok (.iload 4, 2) := by decide +kernel
theorem dX4_fitsHurt_59 : decode cX4_fitsHurt 59 = .ok (.if_icmp .ne 5, 3) := by decide +kernel
theorem dX4_fitsHurt_62 : decode cX4_fitsHurt 62 = .ok (.iconst 1, 1) := by decide +kernel
theorem dX4_fitsHurt_63 : decode cX4_fitsHurt 63 = .ok (.ireturn, 1) := by decide +kernel
theorem dX4_fitsHurt_64 : decode cX4_fitsHurt 64 = .ok (.aload_n 0, 1) := by decide +kernel
theorem dX4_fitsHurt_65 : decode cX4_fitsHurt 65 = .ok (.iload 4, 2) := by decide +kernel
theorem dX4_fitsHurt_67 : decode cX4_fitsHurt 67 = .ok (.iload_n 1, 1) := by decide +kernel
theorem dX4_fitsHurt_68 : decode cX4_fitsHurt 68 = .ok (.invokevirtual 37, 3) := by decide +kernel
theorem dX4_fitsHurt_71 : decode cX4_fitsHurt 71 = .ok (.istore 5, 2) := by decide +kernel
theorem dX4_fitsHurt_73 : decode cX4_fitsHurt 73 = .ok (.iload 5, 2) := by decide +kernel
theorem dX4_fitsHurt_75 : decode cX4_fitsHurt 75 = .ok (.ifCond .le 22, 3) := by decide +kernel
theorem dX4_fitsHurt_78 : decode cX4_fitsHurt 78 = .ok (.iload 5, 2) := by decide +kernel
theorem dX4_fitsHurt_80 : decode cX4_fitsHurt 80 = .ok (.bipush 10, 2) := by decide +kernel
theorem dX4_fitsHurt_82 : decode cX4_fitsHurt 82 = .ok (.imul, 1) := by decide +kernel
theorem dX4_fitsHurt_83 : decode cX4_fitsHurt 83 = .ok (.iload_n 2, 1) := by decide +kernel
theorem dX4_fitsHurt_84 : decode cX4_fitsHurt 84 = .ok (.bipush 48, 2) := by decide +kernel
theorem dX4_fitsHurt_86 : decode cX4_fitsHurt 86 = .ok (.isub, 1) := by decide +kernel
theorem dX4_fitsHurt_87 : decode cX4_fitsHurt 87 = .ok (.iadd, 1) := by decide +kernel
theorem dX4_fitsHurt_88 : decode cX4_fitsHurt 88 = .ok (.bipush 50, 2) := by decide +kernel
theorem dX4_fitsHurt_90 : decode cX4_fitsHurt 90 = .ok (.if_icmp .gt 7, 3) := by decide +kernel
theorem dX4_fitsHurt_93 : decode cX4_fitsHurt 93 = .ok (.iconst 1, 1) := by decide +kernel
theorem dX4_fitsHurt_94 : decode cX4_fitsHurt 94 = .ok (.goto 4, 3) := by decide +kernel
theorem dX4_fitsHurt_97 : decode cX4_fitsHurt 97 = .ok (.iconst 0, 1) := by decide +kernel
theorem dX4_fitsHurt_98 : decode cX4_fitsHurt 98 = .ok (.ireturn, 1) := by decide +kernel
set_option maxRecDepth 20000 in
theorem ggX4_commaAhead_X4_codeAt : GoodIn wsX4_commaAhead wsX4_codeAt := goodIn_r _ [5, 6, 7, 8, 9] (by decide +kernel) (by decide +kernel)
set_option maxRecDepth 20000 in
theorem gX4_commaAhead_X4_codeAt : GoodIn wsX4_commaAhead (wsV RX4 31 RX4 yX4_codeAt wsX4_codeAt) := goodIn_app (goodIn_of _ (by decide +kernel)) ggX4_commaAhead_X4_codeAt
theorem dX4_commaAhead_0 : decode cX4_commaAhead 0 = .ok (.bipush 20, 2) := by decide +kernel
theorem dX4_commaAhead_2 : decode cX4_commaAhead 2 = .ok (.istore_n 2, 1) := by decide +kernel
theorem dX4_commaAhead_3 : decode cX4_commaAhead 3 = .ok (.iload_n 2, 1) := by decide +kernel
theorem dX4_commaAhead_4 : decode cX4_commaAhead 4 = .ok (.iload_n 1, 1) := by decide +kernel
theorem dX4_commaAhead_5 : decode cX4_commaAhead 5 = .ok (.if_icmp .ge 21, 3) := by decide +kernel
theorem dX4_commaAhead_8 : decode cX4_commaAhead 8 = .ok (.aload_n 0, 1) := by decide +kernel
theorem dX4_commaAhead_9 : decode cX4_commaAhead 9 = .ok (.iload_n 2, 1) := by decide +kernel
theorem dX4_commaAhead_10 : decode cX4_commaAhead 10 = .ok (.invokevirtual 31, 3) := by decide +kernel
theorem dX4_commaAhead_13 : decode cX4_commaAhead 13 = .ok (.bipush 44, 2) := by decide +kernel
theorem dX4_commaAhead_15 : decode cX4_commaAhead 15 = .ok (.if_icmp .ne 5, 3) := by decide +kernel
theorem dX4_commaAhead_18 : decode cX4_commaAhead 18 = .ok (.iload_n 2, 1) := by decide +kernel
theorem dX4_commaAhead_19 : decode cX4_commaAhead 19 = .ok (.ireturn, 1) := by decide +kernel
theorem dX4_commaAhead_20 : decode cX4_commaAhead 20 = .ok (.iinc 2 1, 3) := by decide +kernel
theorem dX4_commaAhead_23 : decode cX4_commaAhead 23 = .ok (.goto (-20), 3) := by decide +kernel
theorem dX4_commaAhead_26 : decode cX4_commaAhead 26 = .ok (.iconst (-1), 1) := by decide +kernel
theorem dX4_commaAhead_27 : decode cX4_commaAhead 27 = .ok (.ireturn, 1) := by decide +kernel
set_option maxRecDepth 20000 in
theorem ggX4_number_X4_codeAt : GoodIn wsX4_number wsX4_codeAt := goodIn_r _ [5, 6, 7, 8, 9] (by decide +kernel) (by decide +kernel)
set_option maxRecDepth 20000 in
theorem gX4_number_X4_codeAt : GoodIn wsX4_number (wsV RX4 31 RX4 yX4_codeAt wsX4_codeAt) := goodIn_app (goodIn_of _ (by decide +kernel)) ggX4_number_X4_codeAt
theorem dX4_number_0 : decode cX4_number 0 = .ok (.iconst 0, 1) := by decide +kernel
theorem dX4_number_1 : decode cX4_number 1 = .ok (.istore_n 3, 1) := by decide +kernel
theorem dX4_number_2 : decode cX4_number 2 = .ok (.iload_n 1, 1) := by decide +kernel
theorem dX4_number_3 : decode cX4_number 3 = .ok (.istore 4, 2) := by decide +kernel
theorem dX4_number_5 : decode cX4_number 5 = .ok (.iload 4, 2) := by decide +kernel
theorem dX4_number_7 : decode cX4_number 7 = .ok (.iload_n 2, 1) := by decide +kernel
theorem dX4_number_8 : decode cX4_number 8 = .ok (.if_icmp .ge 24, 3) := by decide +kernel
theorem dX4_number_11 : decode cX4_number 11 = .ok (.iload_n 3, 1) := by decide +kernel
theorem dX4_number_12 : decode cX4_number 12 = .ok (.bipush 10, 2) := by decide +kernel
theorem dX4_number_14 : decode cX4_number 14 = .ok (.imul, 1) := by decide +kernel
theorem dX4_number_15 : decode cX4_number 15 = .ok (.aload_n 0, 1) := by decide +kernel
theorem dX4_number_16 : decode cX4_number 16 = .ok (.iload 4, 2) := by decide +kernel
theorem dX4_number_18 : decode cX4_number 18 = .ok (.invokevirtual 31, 3) := by decide +kernel
theorem dX4_number_21 : decode cX4_number 21 = .ok (.bipush 48, 2) := by decide +kernel
theorem dX4_number_23 : decode cX4_number 23 = .ok (.isub, 1) := by decide +kernel
theorem dX4_number_24 : decode cX4_number 24 = .ok (.iadd, 1) := by decide +kernel
theorem dX4_number_25 : decode cX4_number 25 = .ok (.istore_n 3, 1) := by decide +kernel
theorem dX4_number_26 : decode cX4_number 26 = .ok (.iinc 4 1, 3) := by decide +kernel
theorem dX4_number_29 : decode cX4_number 29 = .ok (.goto (-24), 3) := by decide +kernel
theorem dX4_number_32 : decode cX4_number 32 = .ok (.iload_n 3, 1) := by decide +kernel
theorem dX4_number_33 : decode cX4_number 33 = .ok (.ireturn, 1) := by decide +kernel
theorem dX4_figure_0 : decode cX4_figure 0 = .ok (.iload_n 1, 1) := by decide +kernel
theorem dX4_figure_1 : decode cX4_figure 1 = .ok (.bipush 48, 2) := by decide +kernel
theorem dX4_figure_3 : decode cX4_figure 3 = .ok (.if_icmp .lt 14, 3) := by decide +kernel
theorem dX4_figure_6 : decode cX4_figure 6 = .ok (.iload_n 1, 1) := by decide +kernel
theorem dX4_figure_7 : decode cX4_figure 7 = .ok (.bipush 57, 2) := by decide +kernel
theorem dX4_figure_9 : decode cX4_figure 9 = .ok (.if_icmp .gt 8, 3) := by decide +kernel
theorem dX4_figure_12 : decode cX4_figure 12 = .ok (.iload_n 1, 1) := by decide +kernel
theorem dX4_figure_13 : decode cX4_figure 13 = .ok (.bipush 48, 2) := by decide +kernel
theorem dX4_figure_15 : decode cX4_figure 15 = .ok (.isub, 1) := by decide +kernel
theorem dX4_figure_16 : decode cX4_figure 16 = .ok (.ireturn, 1) := by decide +kernel
theorem dX4_figure_17 : decode cX4_figure 17 = .ok (.iload_n 1, 1) := by decide +kernel
theorem dX4_figure_18 : decode cX4_figure 18 = .ok (.bipush 97, 2) := by decide +kernel
theorem dX4_figure_20 : decode cX4_figure 20 = .ok (.if_icmp .lt 19, 3) := by decide +kernel
theorem dX4_figure_23 : decode cX4_figure 23 = .ok (.iload_n 1, 1) := by decide +kernel
theorem dX4_figure_24 : decode cX4_figure 24 = .ok (.bipush 102, 2) := by decide +kernel
theorem dX4_figure_26 : decode cX4_figure 26 = .ok (.if_icmp .gt 13, 3) := by decide +kernel
theorem dX4_figure_29 : decode cX4_figure 29 = .ok (.iload_n 1, 1) := by decide +kernel
theorem dX4_figure_30 : decode cX4_figure 30 = .ok (.bipush 97, 2) := by decide +kernel
theorem dX4_figure_32 : decode cX4_figure 32 = .ok (.isub, 1) := by decide +kernel
theorem dX4_figure_33 : decode cX4_figure 33 = .ok (.bipush 10, 2) := by decide +kernel
theorem dX4_figure_35 : decode cX4_figure 35 = .ok (.iadd, 1) := by decide +kernel
theorem dX4_figure_36 : decode cX4_figure 36 = .ok (.goto 4, 3) := by decide +kernel
theorem dX4_figure_39 : decode cX4_figure 39 = .ok (.iconst (-1), 1) := by decide +kernel
theorem dX4_figure_40 : decode cX4_figure 40 = .ok (.ireturn, 1) := by decide +kernel
theorem dX7_init_0 : decode cX7_init 0 = .ok (.aload_n 0, 1) := by decide +kernel
theorem dX7_init_1 : decode cX7_init 1 = .ok (.invokespecial 5, 3) := by decide +kernel
theorem dX7_init_4 : decode cX7_init 4 = .ok (.aload_n 0, 1) := by decide +kernel
theorem dX7_init_5 : decode cX7_init 5 = .ok (.bipush 8, 2) := by decide +kernel
theorem dX7_init_7 : decode cX7_init 7 = .ok (.newarray .int, 2) := by decide +kernel
theorem dX7_init_9 : decode cX7_init 9 = .ok (.putfield 11, 3) := by decide +kernel
theorem dX7_init_12 : decode cX7_init 12 = .ok (.aload_n 0, 1) := by decide +kernel
theorem dX7_init_13 : decode cX7_init 13 = .ok (.bipush 8, 2) := by decide +kernel
theorem dX7_init_15 : decode cX7_init 15 = .ok (.newarray .int, 2) := by decide +kernel
theorem dX7_init_17 : decode cX7_init 17 = .ok (.putfield 15, 3) := by decide +kernel
theorem dX7_init_20 : decode cX7_init 20 = .ok (.aload_n 0, 1) := by decide +kernel
theorem dX7_init_21 : decode cX7_init 21 = .ok (.sipush 128, 3) := by decide +kernel
theorem dX7_init_24 : decode cX7_init 24 = .ok (.newarray .int, 2) := by decide +kernel
theorem dX7_init_26 : decode cX7_init 26 = .ok (.putfield 18, 3) := by decide +kernel
theorem dX7_init_29 : decode cX7_init 29 = .ok (.aload_n 0, 1) := by decide +kernel
end
section
theorem dX7_init_30 : decode cX7_init 30 = .ok (.bipush 16, 2) := by decide +kernel
theorem dX7_init_32 : decode cX7_init 32 = .ok (.newarray .boolean, 2) := by decide +kernel
theorem dX7_init_34 : decode cX7_init 34 = .ok (.putfield 21, 3) := by decide +kernel
theorem dX7_init_37 : decode cX7_init 37 = .ok (.aload_n 0, 1) := by decide +kernel
theorem dX7_init_38 : decode cX7_init 38 = .ok (.iconst 0, 1) := by decide +kernel
theorem dX7_init_39 : decode cX7_init 39 = .ok (.putfield 25, 3) := by decide +kernel
theorem dX7_init_42 : decode cX7_init 42 = .ok (.aload_n 0, 1) := by decide +kernel
theorem dX7_init_43 : decode cX7_init 43 = .ok (.iconst 0, 1) := by decide +kernel
theorem dX7_init_44 : decode cX7_init 44 = .ok (.putfield 29, 3) := by decide +kernel
theorem dX7_init_47 : decode cX7_init 47 = .ok (.aload_n 0, 1) := by decide +kernel
theorem dX7_init_48 : decode cX7_init 48 = .ok (.iconst 0, 1) := by decide +kernel
theorem dX7_init_49 : decode cX7_init 49 = .ok (.putfield 32, 3) := by decide +kernel
theorem dX7_init_52 : decode cX7_init 52 = .ok (.aload_n 0, 1) := by decide +kernel
theorem dX7_init_53 : decode cX7_init 53 = .ok (.iconst 0, 1) := by decide +kernel
theorem dX7_init_54 : decode cX7_init 54 = .ok (.putfield 35, 3) := by decide +kernel
theorem dX7_init_57 : decode cX7_init 57 = .ok (.iconst 0, 1) := by decide +kernel
theorem dX7_init_58 : decode cX7_init 58 = .ok (.istore_n 1, 1) := by decide +kernel
theorem dX7_init_59 : decode cX7_init 59 = .ok (.iload_n 1, 1) := by decide +kernel
theorem dX7_init_60 : decode cX7_init 60 = .ok (.bipush 8, 2) := by decide +kernel
theorem dX7_init_62 : decode cX7_init 62 = .ok (.if_icmp .ge 17, 3) := by decide +kernel
theorem dX7_init_65 : decode cX7_init 65 = .ok (.aload_n 0, 1) := by decide +kernel
theorem dX7_init_66 : decode cX7_init 66 = .ok (.getfield 11, 3) := by decide +kernel
theorem dX7_init_69 : decode cX7_init 69 = .ok (.iload_n 1, 1) := by decide +kernel
theorem dX7_init_70 : decode cX7_init 70 = .ok (.bipush 8, 2) := by decide +kernel
theorem dX7_init_72 : decode cX7_init 72 = .ok (.iastore, 1) := by decide +kernel
theorem dX7_init_73 : decode cX7_init 73 = .ok (.iinc 1 1, 3) := by decide +kernel
theorem dX7_init_76 : decode cX7_init 76 = .ok (.goto (-17), 3) := by decide +kernel
theorem dX7_init_79 : decode cX7_init 79 = .ok (.return_, 1) := by decide +kernel
theorem dX7_send_0 : decode cX7_send 0 = .ok (.iload_n 1, 1) := by decide +kernel
theorem dX7_send_1 : decode cX7_send 1 = .ok (.bipush 15, 2) := by decide +kernel
theorem dX7_send_3 : decode cX7_send 3 = .ok (.iand, 1) := by decide +kernel
theorem dX7_send_4 : decode cX7_send 4 = .ok (.istore 7, 2) := by decide +kernel
theorem dX7_send_6 : decode cX7_send 6 = .ok (.aload_n 0, 1) := by decide +kernel
theorem dX7_send_7 : decode cX7_send 7 = .ok (.getfield 21, 3) := by decide +kernel
theorem dX7_send_10 : decode cX7_send 10 = .ok (.iload 7, 2) := by decide +kernel
theorem dX7_send_12 : decode cX7_send 12 = .ok (.baload, 1) := by decide +kernel
theorem dX7_send_13 : decode cX7_send 13 = .ok (.ifCond .ne 21, 3) := by decide +kernel
theorem dX7_send_16 : decode cX7_send 16 = .ok (.aload_n 0, 1) := by decide +kernel
theorem dX7_send_17 : decode cX7_send 17 = .ok (.getfield 21, 3) := by decide +kernel
theorem dX7_send_20 : decode cX7_send 20 = .ok (.iload 7, 2) := by decide +kernel
theorem dX7_send_22 : decode cX7_send 22 = .ok (.iconst 1, 1) := by decide +kernel
theorem dX7_send_23 : decode cX7_send 23 = .ok (.bastore, 1) := by decide +kernel
theorem dX7_send_24 : decode cX7_send 24 = .ok (.aload_n 0, 1) := by decide +kernel
theorem dX7_send_25 : decode cX7_send 25 = .ok (.dup, 1) := by decide +kernel
theorem dX7_send_26 : decode cX7_send 26 = .ok (.getfield 35, 3) := by decide +kernel
theorem dX7_send_29 : decode cX7_send 29 = .ok (.iconst 1, 1) := by decide +kernel
theorem dX7_send_30 : decode cX7_send 30 = .ok (.iadd, 1) := by decide +kernel
theorem dX7_send_31 : decode cX7_send 31 = .ok (.putfield 35, 3) := by decide +kernel
theorem dX7_send_34 : decode cX7_send 34 = .ok (.iload 7, 2) := by decide +kernel
theorem dX7_send_36 : decode cX7_send 36 = .ok (.bipush 8, 2) := by decide +kernel
theorem dX7_send_38 : decode cX7_send 38 = .ok (.imul, 1) := by decide +kernel
theorem dX7_send_39 : decode cX7_send 39 = .ok (.istore 8, 2) := by decide +kernel
theorem dX7_send_41 : decode cX7_send 41 = .ok (.aload_n 0, 1) := by decide +kernel
theorem dX7_send_42 : decode cX7_send 42 = .ok (.getfield 18, 3) := by decide +kernel
theorem dX7_send_45 : decode cX7_send 45 = .ok (.iload 8, 2) := by decide +kernel
theorem dX7_send_47 : decode cX7_send 47 = .ok (.iload_n 2, 1) := by decide +kernel
theorem dX7_send_48 : decode cX7_send 48 = .ok (.iastore, 1) := by decide +kernel
theorem dX7_send_49 : decode cX7_send 49 = .ok (.aload_n 0, 1) := by decide +kernel
theorem dX7_send_50 : decode cX7_send 50 = .ok (.getfield 18, 3) := by decide +kernel
theorem dX7_send_53 : decode cX7_send 53 = .ok (.iload 8, 2) := by decide +kernel
theorem dX7_send_55 : decode cX7_send 55 = .ok (.iconst 1, 1) := by decide +kernel
theorem dX7_send_56 : decode cX7_send 56 = .ok (.iadd, 1) := by decide +kernel
theorem dX7_send_57 : decode cX7_send 57 = .ok (.iload_n 3, 1) := by decide +kernel
theorem dX7_send_58 : decode cX7_send 58 = .ok (.iastore, 1) := by decide +kernel
theorem dX7_send_59 : decode cX7_send 59 = .ok (.aload_n 0, 1) := by decide +kernel
theorem dX7_send_60 : decode cX7_send 60 = .ok (.getfield 18, 3) := by decide +kernel
theorem dX7_send_63 : decode cX7_send 63 = .ok (.iload 8, 2) := by decide +kernel
theorem dX7_send_65 : decode cX7_send 65 = .ok (.iconst 2, 1) := by decide +kernel
theorem dX7_send_66 : decode cX7_send 66 = .ok (.iadd, 1) := by decide +kernel
theorem dX7_send_67 : decode cX7_send 67 = .ok (.iload 4, 2) := by decide +kernel
theorem dX7_send_69 : decode cX7_send 69 = .ok (.iastore, 1) := by decide +kernel
theorem dX7_send_70 : decode cX7_send 70 = .ok (.aload_n 0, 1) := by decide +kernel
theorem dX7_send_71 : decode cX7_send 71 = .ok (.getfield 18, 3) := by decide +kernel
theorem dX7_send_74 : decode cX7_send 74 = .ok (.iload 8, 2) := by decide +kernel
theorem dX7_send_76 : decode cX7_send 76 = .ok (.iconst 3, 1) := by decide +kernel
theorem dX7_send_77 : decode cX7_send 77 = .ok (.iadd, 1) := by decide +kernel
theorem dX7_send_78 : decode cX7_send 78 = .ok (.iload 5, 2) := by decide +kernel
theorem dX7_send_80 : decode cX7_send 80 = .ok (.iastore, 1) := by decide +kernel
theorem dX7_send_81 : decode cX7_send 81 = .ok (.aload_n 0, 1) := by decide +kernel
theorem dX7_send_82 : decode cX7_send 82 = .ok (.getfield 18, 3) := by decide +kernel
theorem dX7_send_85 : decode cX7_send 85 = .ok (.iload 8, 2) := by decide +kernel
theorem dX7_send_87 : decode cX7_send 87 = .ok (.iconst 4, 1) := by decide +kernel
theorem dX7_send_88 : decode cX7_send 88 = .ok (.iadd, 1) := by decide +kernel
theorem dX7_send_89 : decode cX7_send 89 = .ok (.iload 6, 2) := by decide +kernel
theorem dX7_send_91 : decode cX7_send 91 = .ok (.iastore, 1) := by decide +kernel
theorem dX7_send_92 : decode cX7_send 92 = .ok (.return_, 1) := by decide +kernel
theorem dX7_enclose_0 : decode cX7_enclose 0 = .ok (.iload_n 2, 1) := by decide +kernel
theorem dX7_enclose_1 : decode cX7_enclose 1 = .ok (.ifCond .lt 25, 3) := by decide +kernel
theorem dX7_enclose_4 : decode cX7_enclose 4 = .ok (.iload_n 2, 1) := by decide +kernel
theorem dX7_enclose_5 : decode cX7_enclose 5 = .ok (.iconst 3, 1) := by decide +kernel
theorem dX7_enclose_6 : decode cX7_enclose 6 = .ok (.if_icmp .ge 20, 3) := by decide +kernel
theorem dX7_enclose_9 : decode cX7_enclose 9 = .ok (.aload_n 0, 1) := by decide +kernel
theorem dX7_enclose_10 : decode cX7_enclose 10 = .ok (.getfield 18, 3) := by decide +kernel
theorem dX7_enclose_13 : decode cX7_enclose 13 = .ok (.iload_n 1, 1) := by decide +kernel
theorem dX7_enclose_14 : decode cX7_enclose 14 = .ok (.bipush 15, 2) := by decide +kernel
theorem dX7_enclose_16 : decode cX7_enclose 16 = .ok (.iand, 1) := by decide +kernel
theorem dX7_enclose_17 : decode cX7_enclose 17 = .ok (.bipush 8, 2) := by decide +kernel
theorem dX7_enclose_19 : decode cX7_enclose 19 = .ok (.imul, 1) := by decide +kernel
theorem dX7_enclose_20 : decode cX7_enclose 20 = .ok (.iconst 5, 1) := by decide +kernel
theorem dX7_enclose_21 : decode cX7_enclose 21 = .ok (.iadd, 1) := by decide +kernel
theorem dX7_enclose_22 : decode cX7_enclose 22 = .ok (.iload_n 2, 1) := by decide +kernel
theorem dX7_enclose_23 : decode cX7_enclose 23 = .ok (.iadd, 1) := by decide +kernel
theorem dX7_enclose_24 : decode cX7_enclose 24 = .ok (.iload_n 3, 1) := by decide +kernel
theorem dX7_enclose_25 : decode cX7_enclose 25 = .ok (.iastore, 1) := by decide +kernel
theorem dX7_enclose_26 : decode cX7_enclose 26 = .ok (.return_, 1) := by decide +kernel
theorem dX7_bring_0 : decode cX7_bring 0 = .ok (.iload_n 1, 1) := by decide +kernel
theorem dX7_bring_1 : decode cX7_bring 1 = .ok (.bipush 15, 2) := by decide +kernel
theorem dX7_bring_3 : decode cX7_bring 3 = .ok (.iand, 1) := by decide +kernel
theorem dX7_bring_4 : decode cX7_bring 4 = .ok (.istore_n 2, 1) := by decide +kernel
theorem dX7_bring_5 : decode cX7_bring 5 = .ok (.iconst 1, 1) := by decide +kernel
theorem dX7_bring_6 : decode cX7_bring 6 = .ok (.istore_n 3, 1) := by decide +kernel
theorem dX7_bring_7 : decode cX7_bring 7 = .ok (.aload_n 0, 1) := by decide +kernel
theorem dX7_bring_8 : decode cX7_bring 8 = .ok (.getfield 21, 3) := by decide +kernel
theorem dX7_bring_11 : decode cX7_bring 11 = .ok (.iload_n 2, 1) := by decide +kernel
theorem dX7_bring_12 : decode cX7_bring 12 = .ok (.baload, 1) := by decide +kernel
theorem dX7_bring_13 : decode cX7_bring 13 = .ok (.ifCond .eq 69, 3) := by decide +kernel
theorem dX7_bring_16 : decode cX7_bring 16 = .ok (.aload_n 0, 1) := by decide +kernel
theorem dX7_bring_17 : decode cX7_bring 17 = .ok (.getfield 21, 3) := by decide +kernel
theorem dX7_bring_20 : decode cX7_bring 20 = .ok (.iload_n 2, 1) := by decide +kernel
theorem dX7_bring_21 : decode cX7_bring 21 = .ok (.iconst 0, 1) := by decide +kernel
theorem dX7_bring_22 : decode cX7_bring 22 = .ok (.bastore, 1) := by decide +kernel
theorem dX7_bring_23 : decode cX7_bring 23 = .ok (.aload_n 0, 1) := by decide +kernel
theorem dX7_bring_24 : decode cX7_bring 24 = .ok (.dup, 1) := by decide +kernel
theorem dX7_bring_25 : decode cX7_bring 25 = .ok (.getfield 35, 3) := by decide +kernel
theorem dX7_bring_28 : decode cX7_bring 28 = .ok (.iconst 1, 1) := by decide +kernel
theorem dX7_bring_29 : decode cX7_bring 29 = .ok (.isub, 1) := by decide +kernel
theorem dX7_bring_30 : decode cX7_bring 30 = .ok (.putfield 35, 3) := by decide +kernel
theorem dX7_bring_33 : decode cX7_bring 33 = .ok (.aload_n 0, 1) := by decide +kernel
theorem dX7_bring_34 : decode cX7_bring 34 = .ok (.dup, 1) := by decide +kernel
theorem dX7_bring_35 : decode cX7_bring 35 = .ok (.getfield 29, 3) := by decide +kernel
theorem dX7_bring_38 : decode cX7_bring 38 = .ok (.iconst 1, 1) := by decide +kernel
theorem dX7_bring_39 : decode cX7_bring 39 = .ok (.iadd, 1) := by decide +kernel
theorem dX7_bring_40 : decode cX7_bring 40 = .ok (.putfield 29, 3) := by decide +kernel
theorem dX7_bring_43 : decode cX7_bring 43 = .ok (.aload_n 0, 1) := by decide +kernel
theorem dX7_bring_44 : decode cX7_bring 44 = .ok (.getfield 25, 3) := by decide +kernel
theorem dX7_bring_47 : decode cX7_bring 47 = .ok (.ifCond .le 19, 3) := by decide +kernel
theorem dX7_bring_50 : decode cX7_bring 50 = .ok (.aload_n 0, 1) := by decide +kernel
theorem dX7_bring_51 : decode cX7_bring 51 = .ok (.getfield 29, 3) := by decide +kernel
theorem dX7_bring_54 : decode cX7_bring 54 = .ok (.aload_n 0, 1) := by decide +kernel
theorem dX7_bring_55 : decode cX7_bring 55 = .ok (.getfield 25, 3) := by decide +kernel
theorem dX7_bring_58 : decode cX7_bring 58 = .ok (.irem, 1) := by decide +kernel
theorem dX7_bring_59 : decode cX7_bring 59 = .ok (.ifCond .ne 7, 3) := by decide +kernel
theorem dX7_bring_62 : decode cX7_bring 62 = .ok (.iconst 1, 1) := by decide +kernel
theorem dX7_bring_63 : decode cX7_bring 63 = .ok (.goto 4, 3) := by decide +kernel
theorem dX7_bring_66 : decode cX7_bring 66 = .ok (.iconst 0, 1) := by decide +kernel
theorem dX7_bring_67 : decode cX7_bring 67 = .ok (.istore_n 3, 1) := by decide +kernel
theorem dX7_bring_68 : decode cX7_bring 68 = .ok (.iload_n 3, 1) := by decide +kernel
theorem dX7_bring_69 : decode cX7_bring 69 = .ok (.ifCond .eq 13, 3) := by decide +kernel
theorem dX7_bring_72 : decode cX7_bring 72 = .ok (.aload_n 0, 1) := by decide +kernel
theorem dX7_bring_73 : decode cX7_bring 73 = .ok (.dup, 1) := by decide +kernel
theorem dX7_bring_74 : decode cX7_bring 74 = .ok (.getfield 32, 3) := by decide +kernel
theorem dX7_bring_77 : decode cX7_bring 77 = .ok (.iconst 1, 1) := by decide +kernel
theorem dX7_bring_78 : decode cX7_bring 78 = .ok (.iadd, 1) := by decide +kernel
theorem dX7_bring_79 : decode cX7_bring 79 = .ok (.putfield 32, 3) := by decide +kernel
theorem dX7_bring_82 : decode cX7_bring 82 = .ok (.iconst 0, 1) := by decide +kernel
theorem dX7_bring_83 : decode cX7_bring 83 = .ok (.istore 4, 2) := by decide +kernel
theorem dX7_bring_85 : decode cX7_bring 85 = .ok (.iload 4, 2) := by decide +kernel
theorem dX7_bring_87 : decode cX7_bring 87 = .ok (.bipush 8, 2) := by decide +kernel
theorem dX7_bring_89 : decode cX7_bring 89 = .ok (.if_icmp .ge 36, 3) := by decide +kernel
theorem dX7_bring_92 : decode cX7_bring 92 = .ok (.aload_n 0, 1) := by decide +kernel
theorem dX7_bring_93 : decode cX7_bring 93 = .ok (.getfield 15, 3) := by decide +kernel
theorem dX7_bring_96 : decode cX7_bring 96 = .ok (.iload 4, 2) := by decide +kernel
theorem dX7_bring_98 : decode cX7_bring 98 = .ok (.iload_n 3, 1) := by decide +kernel
theorem dX7_bring_99 : decode cX7_bring 99 = .ok (.ifCond .eq 7, 3) := by decide +kernel
theorem dX7_bring_102 : decode cX7_bring 102 = .ok (.iconst 0, 1) := by decide +kernel
theorem dX7_bring_103 : decode cX7_bring 103 = .ok (.goto 15, 3) := by decide +kernel
theorem dX7_bring_106 : decode cX7_bring 106 = .ok (.aload_n 0, 1) := by decide +kernel
theorem dX7_bring_107 : decode cX7_bring 107 = .ok (.getfield 18, 3) := by decide +kernel
theorem dX7_bring_110 : decode cX7_bring 110 = .ok (.iload_n 2, 1) := by decide +kernel
theorem dX7_bring_111 : decode cX7_bring 111 = .ok (.bipush 8, 2) := by decide +kernel
theorem dX7_bring_113 : decode cX7_bring 113 = .ok (.imul, 1) := by decide +kernel
theorem dX7_bring_114 : decode cX7_bring 114 = .ok (.iload 4, 2) := by decide +kernel
theorem dX7_bring_116 : decode cX7_bring 116 = .ok (.iadd, 1) := by decide +kernel
theorem dX7_bring_117 : decode cX7_bring 117 = .ok (.iaload, 1) := by decide +kernel
theorem dX7_bring_118 : decode cX7_bring 118 = .ok (.iastore, 1) := by decide +kernel
theorem dX7_bring_119 : decode cX7_bring 119 = .ok (.iinc 4 1, 3) := by decide +kernel
theorem dX7_bring_122 : decode cX7_bring 122 = .ok (.goto (-37), 3) := by decide +kernel
theorem dX7_bring_125 : decode cX7_bring 125 = .ok (.return_, 1) := by decide +kernel
theorem dX7_sort_0 : decode cX7_sort 0 = .ok (.aload_n 0, 1) := by decide +kernel
theorem dX7_sort_1 : decode cX7_sort 1 = .ok (.getfield 15, 3) := by decide +kernel
theorem dX7_sort_4 : decode cX7_sort 4 = .ok (.iconst 0, 1) := by decide +kernel
theorem dX7_sort_5 : decode cX7_sort 5 = .ok (.iaload, 1) := by decide +kernel
theorem dX7_sort_6 : decode cX7_sort 6 = .ok (.ireturn, 1) := by decide +kernel
theorem dX7_first_0 : decode cX7_first 0 = .ok (.aload_n 0, 1) := by decide +kernel
theorem dX7_first_1 : decode cX7_first 1 = .ok (.getfield 15, 3) := by decide +kernel
theorem dX7_first_4 : decode cX7_first 4 = .ok (.iconst 1, 1) := by decide +kernel
theorem dX7_first_5 : decode cX7_first 5 = .ok (.iaload, 1) := by decide +kernel
theorem dX7_first_6 : decode cX7_first 6 = .ok (.ireturn, 1) := by decide +kernel
theorem dX7_second_0 : decode cX7_second 0 = .ok (.aload_n 0, 1) := by decide +kernel
theorem dX7_second_1 : decode cX7_second 1 = .ok (.getfield 15, 3) := by decide +kernel
theorem dX7_second_4 : decode cX7_second 4 = .ok (.iconst 2, 1) := by decide +kernel
theorem dX7_second_5 : decode cX7_second 5 = .ok (.iaload, 1) := by decide +kernel
theorem dX7_second_6 : decode cX7_second 6 = .ok (.ireturn, 1) := by decide +kernel
theorem dX7_letters_0 : decode cX7_letters 0 = .ok (.aload_n 0, 1) := by decide +kernel
theorem dX7_letters_1 : decode cX7_letters 1 = .ok (.getfield 15, 3) := by decide +kernel
theorem dX7_letters_4 : decode cX7_letters 4 = .ok (.iconst 3, 1) := by decide +kernel
theorem dX7_letters_5 : decode cX7_letters 5 = .ok (.iaload, 1) := by decide +kernel
theorem dX7_letters_6 : decode cX7_letters 6 = .ok (.ireturn, 1) := by decide +kernel
theorem dX7_told_0 : decode cX7_told 0 = .ok (.aload_n 0, 1) := by decide +kernel
theorem dX7_told_1 : decode cX7_told 1 = .ok (.getfield 15, 3) := by decide +kernel
theorem dX7_told_4 : decode cX7_told 4 = .ok (.iconst 4, 1) := by decide +kernel
theorem dX7_told_5 : decode cX7_told 5 = .ok (.iaload, 1) := by decide +kernel
theorem dX7_told_6 : decode cX7_told 6 = .ok (.ireturn, 1) := by decide +kernel
theorem dX7_enclosed_0 : decode cX7_enclosed 0 = .ok (.iload_n 1, 1) := by decide +kernel
theorem dX7_enclosed_1 : decode cX7_enclosed 1 = .ok (.ifCond .lt 19, 3) := by decide +kernel
theorem dX7_enclosed_4 : decode cX7_enclosed 4 = .ok (.iload_n 1, 1) := by decide +kernel
theorem dX7_enclosed_5 : decode cX7_enclosed 5 = .ok (.iconst 3, 1) := by decide +kernel
theorem dX7_enclosed_6 : decode cX7_enclosed 6 = .ok (.if_icmp .ge 14, 3) := by decide +kernel
theorem dX7_enclosed_9 : decode cX7_enclosed 9 = .ok (.aload_n 0, 1) := by decide +kernel
theorem dX7_enclosed_10 : decode cX7_enclosed 10 = .ok (.getfield 15, 3) := by decide +kernel
theorem dX7_enclosed_13 : decode cX7_enclosed 13 = .ok (.iconst 5, 1) := by decide +kernel
theorem dX7_enclosed_14 : decode cX7_enclosed 14 = .ok (.iload_n 1, 1) := by decide +kernel
theorem dX7_enclosed_15 : decode cX7_enclosed 15 = .ok (.iadd, 1) := by decide +kernel
theorem dX7_enclosed_16 : decode cX7_enclosed 16 = .ok (.iaload, 1) := by decide +kernel
theorem dX7_enclosed_17 : decode cX7_enclosed 17 = .ok (.goto 4, 3) := by decide +kernel
theorem dX7_enclosed_20 : decode cX7_enclosed 20 = .ok (.iconst 0, 1) := by decide +kernel
theorem dX7_enclosed_21 : decode cX7_enclosed 21 = .ok (.ireturn, 1) := by decide +kernel
set_option maxRecDepth 20000 in
theorem ggX8_init_X1_init : GoodIn wsX8_init wsX1_init := goodIn_r _ [21, 22, 2, 3, 23, 24, 25, 26, 27, 28, 29, 30, 31, 32, 33, 34, 35, 36, 37, 38, 39, 40, 41, 42, 43, 126, 127, 128, 129, 130, 131, 132, 133, 95, 96, 97, 98] (by decide +kernel) (by decide +kernel)
set_option maxRecDepth 20000 in
theorem gX8_init_X1_init_n9 : GoodIn wsX8_init (wsX1_init) := ggX8_init_X1_init
set_option maxRecDepth 20000 in
theorem ggX8_init_X4_init : GoodIn wsX8_init wsX4_init := goodIn_r _ [45, 46, 2, 3, 34, 47, 48, 99, 100] (by decide +kernel) (by decide +kernel)
set_option maxRecDepth 20000 in
theorem gX8_init_X4_init_n12 : GoodIn wsX8_init (wsX4_init) := ggX8_init_X4_init
set_option maxRecDepth 20000 in
theorem ggX8_init_X3_init : GoodIn wsX8_init wsX3_init := goodIn_r _ [51, 52, 2, 3, 53, 54, 55, 56, 57, 58, 59, 60, 34, 61, 62, 63, 64, 65, 66, 67, 68, 69, 70, 71, 72, 73, 74, 75, 76, 77, 78, 79, 80, 81, 82, 83, 84, 85, 86, 87, 88, 89, 90, 91, 92, 93, 94, 134, 135, 106, 107, 108, 109, 110, 111, 112, 113, 114, 115, 116, 117, 118, 119, 120, 121, 122, 123, 124, 125, 136, 137, 138, 139, 140, 141, 142, 143] (by decide +kernel) (by decide +kernel)
set_option maxRecDepth 20000 in
theorem gX8_init_X3_init : GoodIn wsX8_init (wsX3_init) := ggX8_init_X3_init
theorem dX8_init_0 : decode cX8_init 0 = .ok (.aload_n 0, 1) := by decide +kernel
theorem dX8_init_1 : decode cX8_init 1 = .ok (.invokespecial 1, 3) := by decide +kernel
theorem dX8_init_4 : decode cX8_init 4 = .ok (.new 7, 3) := by decide +kernel
theorem dX8_init_7 : decode cX8_init 7 = .ok (.dup, 1) := by decide +kernel
theorem dX8_init_8 : decode cX8_init 8 = .ok (.invokespecial 9, 3) := by decide +kernel
theorem dX8_init_11 : decode cX8_init 11 = .ok (.astore_n 1, 1) := by decide +kernel
theorem dX8_init_12 : decode cX8_init 12 = .ok (.aload_n 0, 1) := by decide +kernel
theorem dX8_init_13 : decode cX8_init 13 = .ok (.new 10, 3) := by decide +kernel
theorem dX8_init_16 : decode cX8_init 16 = .ok (.dup, 1) := by decide +kernel
theorem dX8_init_17 : decode cX8_init 17 = .ok (.invokespecial 12, 3) := by decide +kernel
theorem dX8_init_20 : decode cX8_init 20 = .ok (.putfield 13, 3) := by decide +kernel
theorem dX8_init_23 : decode cX8_init 23 = .ok (.aload_n 0, 1) := by decide +kernel
theorem dX8_init_24 : decode cX8_init 24 = .ok (.aload_n 1, 1) := by decide +kernel
theorem dX8_init_25 : decode cX8_init 25 = .ok (.putfield 19, 3) := by decide +kernel
theorem dX8_init_28 : decode cX8_init 28 = .ok (.aload_n 0, 1) := by decide +kernel
theorem dX8_init_29 : decode cX8_init 29 = .ok (.new 23, 3) := by decide +kernel
theorem dX8_init_32 : decode cX8_init 32 = .ok (.dup, 1) := by decide +kernel
theorem dX8_init_33 : decode cX8_init 33 = .ok (.aload_n 1, 1) := by decide +kernel
theorem dX8_init_34 : decode cX8_init 34 = .ok (.aload_n 1, 1) := by decide +kernel
theorem dX8_init_35 : decode cX8_init 35 = .ok (.getfield 25, 3) := by decide +kernel
theorem dX8_init_38 : decode cX8_init 38 = .ok (.aload_n 1, 1) := by decide +kernel
theorem dX8_init_39 : decode cX8_init 39 = .ok (.getfield 29, 3) := by decide +kernel
theorem dX8_init_42 : decode cX8_init 42 = .ok (.invokespecial 32, 3) := by decide +kernel
theorem dX8_init_45 : decode cX8_init 45 = .ok (.putfield 35, 3) := by decide +kernel
theorem dX8_init_48 : decode cX8_init 48 = .ok (.aload_n 0, 1) := by decide +kernel
theorem dX8_init_49 : decode cX8_init 49 = .ok (.new 23, 3) := by decide +kernel
theorem dX8_init_52 : decode cX8_init 52 = .ok (.dup, 1) := by decide +kernel
theorem dX8_init_53 : decode cX8_init 53 = .ok (.aload_n 1, 1) := by decide +kernel
theorem dX8_init_54 : decode cX8_init 54 = .ok (.aload_n 1, 1) := by decide +kernel
theorem dX8_init_55 : decode cX8_init 55 = .ok (.getfield 29, 3) := by decide +kernel
theorem dX8_init_58 : decode cX8_init 58 = .ok (.aload_n 1, 1) := by decide +kernel
theorem dX8_init_59 : decode cX8_init 59 = .ok (.getfield 25, 3) := by decide +kernel
theorem dX8_init_62 : decode cX8_init 62 = .ok (.invokespecial 32, 3) := by decide +kernel
theorem dX8_init_65 : decode cX8_init 65 = .ok (.putfield 39, 3) := by decide +kernel
theorem dX8_init_68 : decode cX8_init 68 = .ok (.aload_n 0, 1) := by decide +kernel
theorem dX8_init_69 : decode cX8_init 69 = .ok (.iconst 0, 1) := by decide +kernel
theorem dX8_init_70 : decode cX8_init 70 = .ok (.putfield 42, 3) := by decide +kernel
theorem dX8_init_73 : decode cX8_init 73 = .ok (.return_, 1) := by decide +kernel
set_option maxRecDepth 20000 in
theorem ggX8_letter_X4_add : GoodIn wsX8_letter wsX4_add := goodIn_r _ [7, 8, 9, 15, 16] (by decide +kernel) (by decide +kernel)
set_option maxRecDepth 20000 in
theorem gX8_letter_X4_add : GoodIn wsX8_letter (wsV RX8 49 RX4 yX4_add wsX4_add) := goodIn_app (goodIn_of _ (by decide +kernel)) ggX8_letter_X4_add
theorem dX8_letter_0 : decode cX8_letter 0 = .ok (.iload_n 1, 1) := by decide +kernel
theorem dX8_letter_1 : decode cX8_letter 1 = .ok (.bipush 32, 2) := by decide +kernel
theorem dX8_letter_3 : decode cX8_letter 3 = .ok (.if_icmp .lt 9, 3) := by decide +kernel
theorem dX8_letter_6 : decode cX8_letter 6 = .ok (.iload_n 1, 1) := by decide +kernel
theorem dX8_letter_7 : decode cX8_letter 7 = .ok (.bipush 126, 2) := by decide +kernel
theorem dX8_letter_9 : decode cX8_letter 9 = .ok (.if_icmp .le 7, 3) := by decide +kernel
theorem dX8_letter_12 : decode cX8_letter 12 = .ok (.sipush (-1002), 3) := by decide +kernel
theorem dX8_letter_15 : decode cX8_letter 15 = .ok (.ireturn, 1) := by decide +kernel
theorem dX8_letter_16 : decode cX8_letter 16 = .ok (.aload_n 0, 1) := by decide +kernel
theorem dX8_letter_17 : decode cX8_letter 17 = .ok (.getfield 13, 3) := by decide +kernel
theorem dX8_letter_20 : decode cX8_letter 20 = .ok (.getfield 46, 3) := by decide +kernel
theorem dX8_letter_23 : decode cX8_letter 23 = .ok (.bipush 30, 2) := by decide +kernel
theorem dX8_letter_25 : decode cX8_letter 25 = .ok (.if_icmp .lt 7, 3) := by decide +kernel
theorem dX8_letter_28 : decode cX8_letter 28 = .ok (.sipush (-1004), 3) := by decide +kernel
theorem dX8_letter_31 : decode cX8_letter 31 = .ok (.ireturn, 1) := by decide +kernel
theorem dX8_letter_32 : decode cX8_letter 32 = .ok (.aload_n 0, 1) := by decide +kernel
theorem dX8_letter_33 : decode cX8_letter 33 = .ok (.getfield 13, 3) := by decide +kernel
theorem dX8_letter_36 : decode cX8_letter 36 = .ok (.iload_n 1, 1) := by decide +kernel
theorem dX8_letter_37 : decode cX8_letter 37 = .ok (.invokevirtual 49, 3) := by decide +kernel
theorem dX8_letter_40 : decode cX8_letter 40 = .ok (.aload_n 0, 1) := by decide +kernel
theorem dX8_letter_41 : decode cX8_letter 41 = .ok (.getfield 13, 3) := by decide +kernel
theorem dX8_letter_44 : decode cX8_letter 44 = .ok (.getfield 46, 3) := by decide +kernel
theorem dX8_letter_47 : decode cX8_letter 47 = .ok (.ireturn, 1) := by decide +kernel
theorem dX8_blank_0 : decode cX8_blank 0 = .ok (.aload_n 0, 1) := by decide +kernel
theorem dX8_blank_1 : decode cX8_blank 1 = .ok (.getfield 13, 3) := by decide +kernel
theorem dX8_blank_4 : decode cX8_blank 4 = .ok (.getfield 46, 3) := by decide +kernel
theorem dX8_blank_7 : decode cX8_blank 7 = .ok (.istore_n 1, 1) := by decide +kernel
theorem dX8_blank_8 : decode cX8_blank 8 = .ok (.aload_n 0, 1) := by decide +kernel
theorem dX8_blank_9 : decode cX8_blank 9 = .ok (.getfield 13, 3) := by decide +kernel
theorem dX8_blank_12 : decode cX8_blank 12 = .ok (.iconst 0, 1) := by decide +kernel
theorem dX8_blank_13 : decode cX8_blank 13 = .ok (.putfield 46, 3) := by decide +kernel
theorem dX8_blank_16 : decode cX8_blank 16 = .ok (.iload_n 1, 1) := by decide +kernel
theorem dX8_blank_17 : decode cX8_blank 17 = .ok (.ireturn, 1) := by decide +kernel
set_option maxRecDepth 20000 in
theorem ggX8_fault_X4_firstFault : GoodIn wsX8_fault wsX4_firstFault := goodIn_r _ [6, 7, 8, 9, 10, 5, 11, 12, 13, 14, 15, 16, 17, 18, 19, 20, 21, 22, 23, 24, 25, 26, 27, 28, 29, 30, 31, 32, 38, 39] (by decide +kernel) (by decide +kernel)
set_option maxRecDepth 20000 in
theorem gX8_fault_X4_firstFault : GoodIn wsX8_fault (wsV RX8 53 RX4 yX4_firstFault wsX4_firstFault) := goodIn_app (goodIn_of _ (by decide +kernel)) ggX8_fault_X4_firstFault
theorem dX8_fault_0 : decode cX8_fault 0 = .ok (.aload_n 0, 1) := by decide +kernel
theorem dX8_fault_1 : decode cX8_fault 1 = .ok (.getfield 13, 3) := by decide +kernel
theorem dX8_fault_4 : decode cX8_fault 4 = .ok (.invokevirtual 53, 3) := by decide +kernel
theorem dX8_fault_7 : decode cX8_fault 7 = .ok (.ireturn, 1) := by decide +kernel
set_option maxRecDepth 20000 in
theorem ggX8_line_X4_isLine : GoodIn wsX8_line wsX4_isLine := goodIn_r _ [9, 10, 11, 12, 13, 8, 14, 15, 16, 17, 18, 19, 20, 21, 22, 23, 24, 25, 26, 27, 28, 29, 30, 31, 32, 33, 34, 35, 36, 37, 38, 39, 68, 69] (by decide +kernel) (by decide +kernel)
set_option maxRecDepth 20000 in
theorem gX8_line_X4_isLine : GoodIn wsX8_line (wsV RX8 57 RX4 yX4_isLine wsX4_isLine) := goodIn_app (goodIn_of _ (by decide +kernel)) ggX8_line_X4_isLine
set_option maxRecDepth 20000 in
theorem ggX8_line_X1_read : GoodIn wsX8_line wsX1_read := goodIn_r _ [44, 45, 46, 47, 48, 49, 50, 51, 52, 53, 8, 54, 19, 20, 21, 22, 10, 23, 24, 25, 26, 27, 55, 56, 57, 58, 59, 60, 61, 62, 32, 33, 34, 35, 36, 37, 38, 39, 70, 71, 72, 73, 74, 75, 76, 77, 78, 79, 80, 81, 68, 69] (by decide +kernel) (by decide +kernel)
set_option maxRecDepth 20000 in
theorem gX8_line_X1_read : GoodIn wsX8_line (wsV RX8 61 RX1 yX1_read wsX1_read) := goodIn_app (goodIn_of _ (by decide +kernel)) ggX8_line_X1_read
theorem dX8_line_0 : decode cX8_line 0 = .ok (.aload_n 0, 1) := by decide +kernel
theorem dX8_line_1 : decode cX8_line 1 = .ok (.getfield 13, 3) := by decide +kernel
theorem dX8_line_4 : decode cX8_line 4 = .ok (.invokevirtual 57, 3) := by decide +kernel
theorem dX8_line_7 : decode cX8_line 7 = .ok (.ifCond .ne 7, 3) := by decide +kernel
theorem dX8_line_10 : decode cX8_line 10 = .ok (.sipush (-1003), 3) := by decide +kernel
theorem dX8_line_13 : decode cX8_line 13 = .ok (.ireturn, 1) := by decide +kernel
theorem dX8_line_14 : decode cX8_line 14 = .ok (.aload_n 0, 1) := by decide +kernel
theorem dX8_line_15 : decode cX8_line 15 = .ok (.getfield 19, 3) := by decide +kernel
theorem dX8_line_18 : decode cX8_line 18 = .ok (.aload_n 0, 1) := by decide +kernel
theorem dX8_line_19 : decode cX8_line 19 = .ok (.getfield 13, 3) := by decide +kernel
theorem dX8_line_22 : decode cX8_line 22 = .ok (.invokevirtual 61, 3) := by decide +kernel
theorem dX8_line_25 : decode cX8_line 25 = .ok (.aload_n 0, 1) := by decide +kernel
theorem dX8_line_26 : decode cX8_line 26 = .ok (.getfield 13, 3) := by decide +kernel
theorem dX8_line_29 : decode cX8_line 29 = .ok (.iconst 0, 1) := by decide +kernel
theorem dX8_line_30 : decode cX8_line 30 = .ok (.putfield 46, 3) := by decide +kernel
theorem dX8_line_33 : decode cX8_line 33 = .ok (.aload_n 0, 1) := by decide +kernel
theorem dX8_line_34 : decode cX8_line 34 = .ok (.getfield 19, 3) := by decide +kernel
theorem dX8_line_37 : decode cX8_line 37 = .ok (.getfield 65, 3) := by decide +kernel
theorem dX8_line_40 : decode cX8_line 40 = .ok (.ireturn, 1) := by decide +kernel
set_option maxRecDepth 20000 in
theorem ggX8_say_X8_modemAt : GoodIn wsX8_say wsX8_modemAt := goodIn_r _ [9, 10, 11, 54, 55, 56, 57, 58] (by decide +kernel) (by decide +kernel)
set_option maxRecDepth 20000 in
theorem gX8_say_X8_modemAt : GoodIn wsX8_say (wsV RX8 68 RX8 yX8_modemAt wsX8_modemAt) := goodIn_app (goodIn_of _ (by decide +kernel)) ggX8_say_X8_modemAt
set_option maxRecDepth 20000 in
theorem ggX8_say_X4_codeAt : GoodIn wsX8_say wsX4_codeAt := goodIn_r _ [16, 17, 18, 59, 60] (by decide +kernel) (by decide +kernel)
set_option maxRecDepth 20000 in
theorem gX8_say_X4_codeAt : GoodIn wsX8_say (wsV RX8 81 RX4 yX4_codeAt wsX4_codeAt) := goodIn_app (goodIn_of _ (by decide +kernel)) ggX8_say_X4_codeAt
set_option maxRecDepth 20000 in
theorem ggX8_say_X2_add : GoodIn wsX8_say wsX2_add := goodIn_r _ [23, 24, 25, 46, 47, 48, 49, 50, 51, 52, 53] (by decide +kernel) (by decide +kernel)
set_option maxRecDepth 20000 in
theorem gX8_say_X2_add : GoodIn wsX8_say (wsV RX8 85 RX2 yX2_add wsX2_add) := goodIn_app (goodIn_of _ (by decide +kernel)) ggX8_say_X2_add
theorem dX8_say_0 : decode cX8_say 0 = .ok (.aload_n 0, 1) := by decide +kernel
theorem dX8_say_1 : decode cX8_say 1 = .ok (.iload_n 1, 1) := by decide +kernel
theorem dX8_say_2 : decode cX8_say 2 = .ok (.invokevirtual 68, 3) := by decide +kernel
theorem dX8_say_5 : decode cX8_say 5 = .ok (.astore_n 2, 1) := by decide +kernel
theorem dX8_say_6 : decode cX8_say 6 = .ok (.aload_n 2, 1) := by decide +kernel
theorem dX8_say_7 : decode cX8_say 7 = .ok (.ifnonnull 7, 3) := by decide +kernel
theorem dX8_say_10 : decode cX8_say 10 = .ok (.sipush (-1001), 3) := by decide +kernel
theorem dX8_say_13 : decode cX8_say 13 = .ok (.ireturn, 1) := by decide +kernel
theorem dX8_say_14 : decode cX8_say 14 = .ok (.aload_n 2, 1) := by decide +kernel
theorem dX8_say_15 : decode cX8_say 15 = .ok (.getfield 72, 3) := by decide +kernel
theorem dX8_say_18 : decode cX8_say 18 = .ok (.getfield 76, 3) := by decide +kernel
theorem dX8_say_21 : decode cX8_say 21 = .ok (.aload_n 0, 1) := by decide +kernel
theorem dX8_say_22 : decode cX8_say 22 = .ok (.getfield 13, 3) := by decide +kernel
theorem dX8_say_25 : decode cX8_say 25 = .ok (.getfield 46, 3) := by decide +kernel
theorem dX8_say_28 : decode cX8_say 28 = .ok (.iadd, 1) := by decide +kernel
theorem dX8_say_29 : decode cX8_say 29 = .ok (.sipush 200, 3) := by decide +kernel
theorem dX8_say_32 : decode cX8_say 32 = .ok (.if_icmp .le 7, 3) := by decide +kernel
theorem dX8_say_35 : decode cX8_say 35 = .ok (.sipush (-1004), 3) := by decide +kernel
theorem dX8_say_38 : decode cX8_say 38 = .ok (.ireturn, 1) := by decide +kernel
theorem dX8_say_39 : decode cX8_say 39 = .ok (.iconst 0, 1) := by decide +kernel
theorem dX8_say_40 : decode cX8_say 40 = .ok (.istore_n 3, 1) := by decide +kernel
theorem dX8_say_41 : decode cX8_say 41 = .ok (.iload_n 3, 1) := by decide +kernel
theorem dX8_say_42 : decode cX8_say 42 = .ok (.aload_n 0, 1) := by decide +kernel
theorem dX8_say_43 : decode cX8_say 43 = .ok (.getfield 13, 3) := by decide +kernel
theorem dX8_say_46 : decode cX8_say 46 = .ok (.getfield 46, 3) := by decide +kernel
theorem dX8_say_49 : decode cX8_say 49 = .ok (.if_icmp .ge 24, 3) := by decide +kernel
theorem dX8_say_52 : decode cX8_say 52 = .ok (.aload_n 2, 1) := by decide +kernel
theorem dX8_say_53 : decode cX8_say 53 = .ok (.getfield 72, 3) := by decide +kernel
theorem dX8_say_56 : decode cX8_say 56 = .ok (.aload_n 0, 1) := by decide +kernel
theorem dX8_say_57 : decode cX8_say 57 = .ok (.getfield 13, 3) := by decide +kernel
theorem dX8_say_60 : decode cX8_say 60 = .ok (.iload_n 3, 1) := by decide +kernel
theorem dX8_say_61 : decode cX8_say 61 = .ok (.invokevirtual 81, 3) := by decide +kernel
theorem dX8_say_64 : decode cX8_say 64 = .ok (.invokevirtual 85, 3) := by decide +kernel
theorem dX8_say_67 : decode cX8_say 67 = .ok (.iinc 3 1, 3) := by decide +kernel
theorem dX8_say_70 : decode cX8_say 70 = .ok (.goto (-29), 3) := by decide +kernel
theorem dX8_say_73 : decode cX8_say 73 = .ok (.aload_n 0, 1) := by decide +kernel
theorem dX8_say_74 : decode cX8_say 74 = .ok (.getfield 13, 3) := by decide +kernel
theorem dX8_say_77 : decode cX8_say 77 = .ok (.iconst 0, 1) := by decide +kernel
theorem dX8_say_78 : decode cX8_say 78 = .ok (.putfield 46, 3) := by decide +kernel
theorem dX8_say_81 : decode cX8_say 81 = .ok (.aload_n 2, 1) := by decide +kernel
theorem dX8_say_82 : decode cX8_say 82 = .ok (.getfield 72, 3) := by decide +kernel
theorem dX8_say_85 : decode cX8_say 85 = .ok (.getfield 76, 3) := by decide +kernel
theorem dX8_say_88 : decode cX8_say 88 = .ok (.ireturn, 1) := by decide +kernel
set_option maxRecDepth 20000 in
theorem ggX8_echo_X8_modemAt : GoodIn wsX8_echo wsX8_modemAt := goodIn_r _ [7, 8, 9, 32, 33, 34, 35, 36] (by decide +kernel) (by decide +kernel)
set_option maxRecDepth 20000 in
theorem gX8_echo_X8_modemAt : GoodIn wsX8_echo (wsV RX8 68 RX8 yX8_modemAt wsX8_modemAt) := goodIn_app (goodIn_of _ (by decide +kernel)) ggX8_echo_X8_modemAt
theorem dX8_echo_0 : decode cX8_echo 0 = .ok (.aload_n 0, 1) := by decide +kernel
theorem dX8_echo_1 : decode cX8_echo 1 = .ok (.iload_n 1, 1) := by decide +kernel
theorem dX8_echo_2 : decode cX8_echo 2 = .ok (.invokevirtual 68, 3) := by decide +kernel
theorem dX8_echo_5 : decode cX8_echo 5 = .ok (.astore 4, 2) := by decide +kernel
theorem dX8_echo_7 : decode cX8_echo 7 = .ok (.aload 4, 2) := by decide +kernel
theorem dX8_echo_9 : decode cX8_echo 9 = .ok (.ifnull 12, 3) := by decide +kernel
theorem dX8_echo_12 : decode cX8_echo 12 = .ok (.iload_n 2, 1) := by decide +kernel
theorem dX8_echo_13 : decode cX8_echo 13 = .ok (.ifCond .lt 8, 3) := by decide +kernel
theorem dX8_echo_16 : decode cX8_echo 16 = .ok (.iload_n 2, 1) := by decide +kernel
theorem dX8_echo_17 : decode cX8_echo 17 = .ok (.iconst 4, 1) := by decide +kernel
theorem dX8_echo_18 : decode cX8_echo 18 = .ok (.if_icmp .lt 7, 3) := by decide +kernel
theorem dX8_echo_21 : decode cX8_echo 21 = .ok (.sipush (-1001), 3) := by decide +kernel
theorem dX8_echo_24 : decode cX8_echo 24 = .ok (.ireturn, 1) := by decide +kernel
theorem dX8_echo_25 : decode cX8_echo 25 = .ok (.iload_n 3, 1) := by decide +kernel
theorem dX8_echo_26 : decode cX8_echo 26 = .ok (.bipush (-100), 2) := by decide +kernel
theorem dX8_echo_28 : decode cX8_echo 28 = .ok (.if_icmp .lt 9, 3) := by decide +kernel
theorem dX8_echo_31 : decode cX8_echo 31 = .ok (.iload_n 3, 1) := by decide +kernel
theorem dX8_echo_32 : decode cX8_echo 32 = .ok (.bipush 100, 2) := by decide +kernel
theorem dX8_echo_34 : decode cX8_echo 34 = .ok (.if_icmp .le 7, 3) := by decide +kernel
theorem dX8_echo_37 : decode cX8_echo 37 = .ok (.sipush (-1002), 3) := by decide +kernel
theorem dX8_echo_40 : decode cX8_echo 40 = .ok (.ireturn, 1) := by decide +kernel
theorem dX8_echo_41 : decode cX8_echo 41 = .ok (.aload 4, 2) := by decide +kernel
theorem dX8_echo_43 : decode cX8_echo 43 = .ok (.getfield 86, 3) := by decide +kernel
theorem dX8_echo_46 : decode cX8_echo 46 = .ok (.getfield 90, 3) := by decide +kernel
theorem dX8_echo_49 : decode cX8_echo 49 = .ok (.iload_n 2, 1) := by decide +kernel
theorem dX8_echo_50 : decode cX8_echo 50 = .ok (.iaload, 1) := by decide +kernel
theorem dX8_echo_51 : decode cX8_echo 51 = .ok (.istore 5, 2) := by decide +kernel
theorem dX8_echo_53 : decode cX8_echo 53 = .ok (.aload 4, 2) := by decide +kernel
theorem dX8_echo_55 : decode cX8_echo 55 = .ok (.getfield 86, 3) := by decide +kernel
theorem dX8_echo_58 : decode cX8_echo 58 = .ok (.getfield 90, 3) := by decide +kernel
theorem dX8_echo_61 : decode cX8_echo 61 = .ok (.iload_n 2, 1) := by decide +kernel
theorem dX8_echo_62 : decode cX8_echo 62 = .ok (.iload_n 3, 1) := by decide +kernel
theorem dX8_echo_63 : decode cX8_echo 63 = .ok (.iastore, 1) := by decide +kernel
theorem dX8_echo_64 : decode cX8_echo 64 = .ok (.iload 5, 2) := by decide +kernel
theorem dX8_echo_66 : decode cX8_echo 66 = .ok (.ireturn, 1) := by decide +kernel
set_option maxRecDepth 20000 in
theorem ggX8_call_X8_modemAt : GoodIn wsX8_call wsX8_modemAt := goodIn_r _ [6, 7, 8, 36, 37, 38, 39, 40] (by decide +kernel) (by decide +kernel)
set_option maxRecDepth 20000 in
theorem gX8_call_X8_modemAt : GoodIn wsX8_call (wsV RX8 68 RX8 yX8_modemAt wsX8_modemAt) := goodIn_app (goodIn_of _ (by decide +kernel)) ggX8_call_X8_modemAt
set_option maxRecDepth 20000 in
theorem ggX8_call_X3_force : GoodIn wsX8_call wsX3_force := goodIn_r _ [13, 14, 15, 16, 17, 18, 19, 20, 21, 22, 23, 24, 25, 26, 27, 28, 29, 30, 31, 32, 33, 34, 35] (by decide +kernel) (by decide +kernel)
set_option maxRecDepth 20000 in
theorem gX8_call_X3_force : GoodIn wsX8_call (wsV RX8 101 RX3 yX3_force wsX3_force) := goodIn_app (goodIn_of _ (by decide +kernel)) ggX8_call_X3_force
theorem dX8_call_0 : decode cX8_call 0 = .ok (.aload_n 0, 1) := by decide +kernel
theorem dX8_call_1 : decode cX8_call 1 = .ok (.iload_n 1, 1) := by decide +kernel
theorem dX8_call_2 : decode cX8_call 2 = .ok (.invokevirtual 68, 3) := by decide +kernel
theorem dX8_call_5 : decode cX8_call 5 = .ok (.astore_n 2, 1) := by decide +kernel
theorem dX8_call_6 : decode cX8_call 6 = .ok (.aload_n 2, 1) := by decide +kernel
theorem dX8_call_7 : decode cX8_call 7 = .ok (.ifnonnull 7, 3) := by decide +kernel
theorem dX8_call_10 : decode cX8_call 10 = .ok (.sipush (-1001), 3) := by decide +kernel
theorem dX8_call_13 : decode cX8_call 13 = .ok (.ireturn, 1) := by decide +kernel
theorem dX8_call_14 : decode cX8_call 14 = .ok (.aload_n 2, 1) := by decide +kernel
theorem dX8_call_15 : decode cX8_call 15 = .ok (.getfield 96, 3) := by decide +kernel
theorem dX8_call_18 : decode cX8_call 18 = .ok (.ifCond .eq 7, 3) := by decide +kernel
theorem dX8_call_21 : decode cX8_call 21 = .ok (.sipush (-1003), 3) := by decide +kernel
theorem dX8_call_24 : decode cX8_call 24 = .ok (.ireturn, 1) := by decide +kernel
theorem dX8_call_25 : decode cX8_call 25 = .ok (.aload_n 2, 1) := by decide +kernel
theorem dX8_call_26 : decode cX8_call 26 = .ok (.iconst 1, 1) := by decide +kernel
theorem dX8_call_27 : decode cX8_call 27 = .ok (.invokevirtual 101, 3) := by decide +kernel
theorem dX8_call_30 : decode cX8_call 30 = .ok (.iconst 1, 1) := by decide +kernel
theorem dX8_call_31 : decode cX8_call 31 = .ok (.ireturn, 1) := by decide +kernel
set_option maxRecDepth 20000 in
theorem ggX8_hang_X8_modemAt : GoodIn wsX8_hang wsX8_modemAt := goodIn_r _ [6, 7, 8, 36, 37, 38, 39, 40] (by decide +kernel) (by decide +kernel)
set_option maxRecDepth 20000 in
theorem gX8_hang_X8_modemAt : GoodIn wsX8_hang (wsV RX8 68 RX8 yX8_modemAt wsX8_modemAt) := goodIn_app (goodIn_of _ (by decide +kernel)) ggX8_hang_X8_modemAt
set_option maxRecDepth 20000 in
theorem ggX8_hang_X3_force : GoodIn wsX8_hang wsX3_force := goodIn_r _ [13, 14, 15, 16, 17, 18, 19, 20, 21, 22, 23, 24, 25, 26, 27, 28, 29, 30, 31, 32, 33, 34, 35] (by decide +kernel) (by decide +kernel)
set_option maxRecDepth 20000 in
theorem gX8_hang_X3_force : GoodIn wsX8_hang (wsV RX8 101 RX3 yX3_force wsX3_force) := goodIn_app (goodIn_of _ (by decide +kernel)) ggX8_hang_X3_force
theorem dX8_hang_0 : decode cX8_hang 0 = .ok (.aload_n 0, 1) := by decide +kernel
theorem dX8_hang_1 : decode cX8_hang 1 = .ok (.iload_n 1, 1) := by decide +kernel
theorem dX8_hang_2 : decode cX8_hang 2 = .ok (.invokevirtual 68, 3) := by decide +kernel
theorem dX8_hang_5 : decode cX8_hang 5 = .ok (.astore_n 2, 1) := by decide +kernel
theorem dX8_hang_6 : decode cX8_hang 6 = .ok (.aload_n 2, 1) := by decide +kernel
theorem dX8_hang_7 : decode cX8_hang 7 = .ok (.ifnonnull 7, 3) := by decide +kernel
theorem dX8_hang_10 : decode cX8_hang 10 = .ok (.sipush (-1001), 3) := by decide +kernel
theorem dX8_hang_13 : decode cX8_hang 13 = .ok (.ireturn, 1) := by decide +kernel
theorem dX8_hang_14 : decode cX8_hang 14 = .ok (.aload_n 2, 1) := by decide +kernel
theorem dX8_hang_15 : decode cX8_hang 15 = .ok (.getfield 96, 3) := by decide +kernel
theorem dX8_hang_18 : decode cX8_hang 18 = .ok (.ifCond .ne 7, 3) := by decide +kernel
theorem dX8_hang_21 : decode cX8_hang 21 = .ok (.sipush (-1003), 3) := by decide +kernel
theorem dX8_hang_24 : decode cX8_hang 24 = .ok (.ireturn, 1) := by decide +kernel
theorem dX8_hang_25 : decode cX8_hang 25 = .ok (.aload_n 2, 1) := by decide +kernel
theorem dX8_hang_26 : decode cX8_hang 26 = .ok (.getfield 96, 3) := by decide +kernel
theorem dX8_hang_29 : decode cX8_hang 29 = .ok (.istore_n 3, 1) := by decide +kernel
theorem dX8_hang_30 : decode cX8_hang 30 = .ok (.aload_n 2, 1) := by decide +kernel
theorem dX8_hang_31 : decode cX8_hang 31 = .ok (.iconst 0, 1) := by decide +kernel
theorem dX8_hang_32 : decode cX8_hang 32 = .ok (.invokevirtual 101, 3) := by decide +kernel
theorem dX8_hang_35 : decode cX8_hang 35 = .ok (.iload_n 3, 1) := by decide +kernel
theorem dX8_hang_36 : decode cX8_hang 36 = .ok (.ireturn, 1) := by decide +kernel
set_option maxRecDepth 20000 in
theorem ggX8_go_X8_changes : GoodIn wsX8_go wsX8_changes := goodIn_r _ [8, 1, 9, 3, 208, 209, 210, 211, 212, 213, 214, 215, 216, 217, 218, 219, 220, 221, 222, 223, 224, 225, 226, 227, 228, 229, 230, 231, 232] (by decide +kernel) (by decide +kernel)
set_option maxRecDepth 20000 in
theorem gX8_go_X8_changes : GoodIn wsX8_go (wsV RX8 104 RX8 yX8_changes wsX8_changes) := goodIn_app (goodIn_of _ (by decide +kernel)) ggX8_go_X8_changes
set_option maxRecDepth 20000 in
theorem ggX8_go_X3_live : GoodIn wsX8_go wsX3_live := goodIn_r _ [14, 15, 16, 17, 18, 19, 20, 21, 22, 23, 24, 25, 26, 27, 28, 29, 30, 31, 32, 33, 34, 35, 36, 37, 38, 13, 39, 40, 41, 42, 43, 44, 45, 46, 47, 48, 49, 50, 51, 52, 53, 54, 55, 56, 57, 58, 59, 60, 61, 62, 63, 64, 65, 66, 67, 68, 69, 70, 71, 72, 73, 74, 75, 76, 77, 78, 79, 80, 81, 82, 83, 84, 85, 86, 87, 88, 89, 90, 91, 92, 93, 94, 95, 96, 97, 98, 99, 100, 101, 102, 103, 104, 105, 106, 107, 108, 109, 110, 111, 112, 113, 114, 115, 116, 117, 118, 119, 120, 121, 122, 123, 124, 125, 126, 127, 128, 129, 130, 131, 132, 133, 134, 135, 136, 137, 138, 139, 140, 141, 142, 143, 144, 145, 146, 147, 148, 149, 150, 151, 152, 153, 154, 155, 156, 157, 158, 159, 160, 161, 162, 163, 164, 165, 166, 167, 168, 169, 170, 171, 172, 173, 174, 175, 176, 177, 178, 179, 180, 181, 182, 183, 184, 185, 186, 187, 188, 189, 190, 191, 192, 193, 194, 195, 196, 197, 198, 199, 200, 201, 202, 203, 204, 205, 206, 207, 213, 214, 215, 216, 217, 218, 219, 220, 221, 222, 223, 224, 225, 226, 227, 228, 229, 230, 231, 232, 233, 234, 235, 236, 237, 238, 239, 240, 241, 242, 243, 244, 245, 246, 247, 248, 249, 250, 251, 252, 253, 254] (by decide +kernel) (by decide +kernel)
set_option maxRecDepth 20000 in
theorem gX8_go_X3_live : GoodIn wsX8_go (wsV RX8 107 RX3 yX3_live wsX3_live) := goodIn_app (goodIn_of _ (by decide +kernel)) ggX8_go_X3_live
theorem dX8_go_0 : decode cX8_go 0 = .ok (.iload_n 1, 1) := by decide +kernel
theorem dX8_go_1 : decode cX8_go 1 = .ok (.iconst 1, 1) := by decide +kernel
theorem dX8_go_2 : decode cX8_go 2 = .ok (.if_icmp .lt 9, 3) := by decide +kernel
theorem dX8_go_5 : decode cX8_go 5 = .ok (.iload_n 1, 1) := by decide +kernel
theorem dX8_go_6 : decode cX8_go 6 = .ok (.bipush 100, 2) := by decide +kernel
theorem dX8_go_8 : decode cX8_go 8 = .ok (.if_icmp .le 7, 3) := by decide +kernel
theorem dX8_go_11 : decode cX8_go 11 = .ok (.sipush (-1002), 3) := by decide +kernel
theorem dX8_go_14 : decode cX8_go 14 = .ok (.ireturn, 1) := by decide +kernel
theorem dX8_go_15 : decode cX8_go 15 = .ok (.aload_n 0, 1) := by decide +kernel
theorem dX8_go_16 : decode cX8_go 16 = .ok (.invokevirtual 104, 3) := by decide +kernel
theorem dX8_go_19 : decode cX8_go 19 = .ok (.istore_n 2, 1) := by decide +kernel
theorem dX8_go_20 : decode cX8_go 20 = .ok (.iconst 0, 1) := by decide +kernel
theorem dX8_go_21 : decode cX8_go 21 = .ok (.istore_n 3, 1) := by decide +kernel
theorem dX8_go_22 : decode cX8_go 22 = .ok (.iload_n 3, 1) := by decide +kernel
theorem dX8_go_23 : decode cX8_go 23 = .ok (.iload_n 1, 1) := by decide +kernel
theorem dX8_go_24 : decode cX8_go 24 = .ok (.if_icmp .ge 41, 3) := by decide +kernel
theorem dX8_go_27 : decode cX8_go 27 = .ok (.aload_n 0, 1) := by decide +kernel
theorem dX8_go_28 : decode cX8_go 28 = .ok (.getfield 35, 3) := by decide +kernel
theorem dX8_go_31 : decode cX8_go 31 = .ok (.aload_n 0, 1) := by decide +kernel
theorem dX8_go_32 : decode cX8_go 32 = .ok (.getfield 42, 3) := by decide +kernel
theorem dX8_go_35 : decode cX8_go 35 = .ok (.invokevirtual 107, 3) := by decide +kernel
theorem dX8_go_38 : decode cX8_go 38 = .ok (.aload_n 0, 1) := by decide +kernel
theorem dX8_go_39 : decode cX8_go 39 = .ok (.getfield 39, 3) := by decide +kernel
theorem dX8_go_42 : decode cX8_go 42 = .ok (.aload_n 0, 1) := by decide +kernel
theorem dX8_go_43 : decode cX8_go 43 = .ok (.getfield 42, 3) := by decide +kernel
theorem dX8_go_46 : decode cX8_go 46 = .ok (.invokevirtual 107, 3) := by decide +kernel
theorem dX8_go_49 : decode cX8_go 49 = .ok (.aload_n 0, 1) := by decide +kernel
theorem dX8_go_50 : decode cX8_go 50 = .ok (.dup, 1) := by decide +kernel
theorem dX8_go_51 : decode cX8_go 51 = .ok (.getfield 42, 3) := by decide +kernel
theorem dX8_go_54 : decode cX8_go 54 = .ok (.iconst 1, 1) := by decide +kernel
theorem dX8_go_55 : decode cX8_go 55 = .ok (.iadd, 1) := by decide +kernel
theorem dX8_go_56 : decode cX8_go 56 = .ok (.putfield 42, 3) := by decide +kernel
theorem dX8_go_59 : decode cX8_go 59 = .ok (.iinc 3 1, 3) := by decide +kernel
theorem dX8_go_62 : decode cX8_go 62 = .ok (.goto (-40), 3) := by decide +kernel
theorem dX8_go_65 : decode cX8_go 65 = .ok (.aload_n 0, 1) := by decide +kernel
theorem dX8_go_66 : decode cX8_go 66 = .ok (.invokevirtual 104, 3) := by decide +kernel
theorem dX8_go_69 : decode cX8_go 69 = .ok (.iload_n 2, 1) := by decide +kernel
theorem dX8_go_70 : decode cX8_go 70 = .ok (.isub, 1) := by decide +kernel
theorem dX8_go_71 : decode cX8_go 71 = .ok (.ireturn, 1) := by decide +kernel
set_option maxRecDepth 20000 in
theorem ggX8_end_X8_modemAt : GoodIn wsX8_end wsX8_modemAt := goodIn_r _ [5, 6, 7, 30, 31, 32, 33, 34] (by decide +kernel) (by decide +kernel)
set_option maxRecDepth 20000 in
theorem gX8_end_X8_modemAt : GoodIn wsX8_end (wsV RX8 68 RX8 yX8_modemAt wsX8_modemAt) := goodIn_app (goodIn_of _ (by decide +kernel)) ggX8_end_X8_modemAt
set_option maxRecDepth 20000 in
theorem ggX8_end_X3_fact : GoodIn wsX8_end wsX3_fact := goodIn_r _ [12, 13, 14, 15, 16, 17, 18, 19, 20, 21, 22, 23, 24, 25, 26, 27, 28, 29, 35, 36, 37, 38, 39, 40, 41, 42, 43, 44, 45, 46, 47, 48, 49, 50, 51, 52, 53, 54, 55, 56, 57, 58, 59, 60, 61, 62] (by decide +kernel) (by decide +kernel)
set_option maxRecDepth 20000 in
theorem gX8_end_X3_fact : GoodIn wsX8_end (wsV RX8 110 RX3 yX3_fact wsX3_fact) := goodIn_app (goodIn_of _ (by decide +kernel)) ggX8_end_X3_fact
theorem dX8_end_0 : decode cX8_end 0 = .ok (.aload_n 0, 1) := by decide +kernel
theorem dX8_end_1 : decode cX8_end 1 = .ok (.iload_n 1, 1) := by decide +kernel
theorem dX8_end_2 : decode cX8_end 2 = .ok (.invokevirtual 68, 3) := by decide +kernel
theorem dX8_end_5 : decode cX8_end 5 = .ok (.astore_n 3, 1) := by decide +kernel
theorem dX8_end_6 : decode cX8_end 6 = .ok (.aload_n 3, 1) := by decide +kernel
theorem dX8_end_7 : decode cX8_end 7 = .ok (.ifnonnull 9, 3) := by decide +kernel
theorem dX8_end_10 : decode cX8_end 10 = .ok (.sipush (-1001), 3) := by decide +kernel
theorem dX8_end_13 : decode cX8_end 13 = .ok (.goto 8, 3) := by decide +kernel
theorem dX8_end_16 : decode cX8_end 16 = .ok (.aload_n 3, 1) := by decide +kernel
theorem dX8_end_17 : decode cX8_end 17 = .ok (.iload_n 2, 1) := by decide +kernel
theorem dX8_end_18 : decode cX8_end 18 = .ok (.invokevirtual 110, 3) := by decide +kernel
theorem dX8_end_21 : decode cX8_end 21 = .ok (.ireturn, 1) := by decide +kernel
set_option maxRecDepth 20000 in
theorem ggX8_band_X8_modemAt : GoodIn wsX8_band wsX8_modemAt := goodIn_r _ [6, 7, 8, 29, 30, 31, 32, 33] (by decide +kernel) (by decide +kernel)
set_option maxRecDepth 20000 in
theorem gX8_band_X8_modemAt : GoodIn wsX8_band (wsV RX8 68 RX8 yX8_modemAt wsX8_modemAt) := goodIn_app (goodIn_of _ (by decide +kernel)) ggX8_band_X8_modemAt
theorem dX8_band_0 : decode cX8_band 0 = .ok (.aload_n 0, 1) := by decide +kernel
theorem dX8_band_1 : decode cX8_band 1 = .ok (.iload_n 1, 1) := by decide +kernel
theorem dX8_band_2 : decode cX8_band 2 = .ok (.invokevirtual 68, 3) := by decide +kernel
theorem dX8_band_5 : decode cX8_band 5 = .ok (.astore_n 3, 1) := by decide +kernel
theorem dX8_band_6 : decode cX8_band 6 = .ok (.aload_n 3, 1) := by decide +kernel
theorem dX8_band_7 : decode cX8_band 7 = .ok (.ifnull 13, 3) := by decide +kernel
theorem dX8_band_10 : decode cX8_band 10 = .ok (.iload_n 2, 1) := by decide +kernel
theorem dX8_band_11 : decode cX8_band 11 = .ok (.ifCond .lt 9, 3) := by decide +kernel
theorem dX8_band_14 : decode cX8_band 14 = .ok (.iload_n 2, 1) := by decide +kernel
theorem dX8_band_15 : decode cX8_band 15 = .ok (.bipush 8, 2) := by decide +kernel
theorem dX8_band_17 : decode cX8_band 17 = .ok (.if_icmp .lt 7, 3) := by decide +kernel
theorem dX8_band_20 : decode cX8_band 20 = .ok (.sipush (-1001), 3) := by decide +kernel
theorem dX8_band_23 : decode cX8_band 23 = .ok (.ireturn, 1) := by decide +kernel
theorem dX8_band_24 : decode cX8_band 24 = .ok (.aload_n 3, 1) := by decide +kernel
theorem dX8_band_25 : decode cX8_band 25 = .ok (.getfield 113, 3) := by decide +kernel
theorem dX8_band_28 : decode cX8_band 28 = .ok (.iload_n 2, 1) := by decide +kernel
theorem dX8_band_29 : decode cX8_band 29 = .ok (.iaload, 1) := by decide +kernel
theorem dX8_band_30 : decode cX8_band 30 = .ok (.ireturn, 1) := by decide +kernel
set_option maxRecDepth 20000 in
theorem ggX8_learnt_X8_modemAt : GoodIn wsX8_learnt wsX8_modemAt := goodIn_r _ [7, 8, 9, 32, 33, 34, 35, 36] (by decide +kernel) (by decide +kernel)
set_option maxRecDepth 20000 in
theorem gX8_learnt_X8_modemAt : GoodIn wsX8_learnt (wsV RX8 68 RX8 yX8_modemAt wsX8_modemAt) := goodIn_app (goodIn_of _ (by decide +kernel)) ggX8_learnt_X8_modemAt
theorem dX8_learnt_0 : decode cX8_learnt 0 = .ok (.aload_n 0, 1) := by decide +kernel
theorem dX8_learnt_1 : decode cX8_learnt 1 = .ok (.iload_n 1, 1) := by decide +kernel
theorem dX8_learnt_2 : decode cX8_learnt 2 = .ok (.invokevirtual 68, 3) := by decide +kernel
theorem dX8_learnt_5 : decode cX8_learnt 5 = .ok (.astore_n 3, 1) := by decide +kernel
theorem dX8_learnt_6 : decode cX8_learnt 6 = .ok (.aload_n 3, 1) := by decide +kernel
theorem dX8_learnt_7 : decode cX8_learnt 7 = .ok (.ifnull 12, 3) := by decide +kernel
theorem dX8_learnt_10 : decode cX8_learnt 10 = .ok (.iload_n 2, 1) := by decide +kernel
theorem dX8_learnt_11 : decode cX8_learnt 11 = .ok (.ifCond .lt 8, 3) := by decide +kernel
theorem dX8_learnt_14 : decode cX8_learnt 14 = .ok (.iload_n 2, 1) := by decide +kernel
theorem dX8_learnt_15 : decode cX8_learnt 15 = .ok (.iconst 4, 1) := by decide +kernel
theorem dX8_learnt_16 : decode cX8_learnt 16 = .ok (.if_icmp .lt 7, 3) := by decide +kernel
theorem dX8_learnt_19 : decode cX8_learnt 19 = .ok (.sipush (-1001), 3) := by decide +kernel
theorem dX8_learnt_22 : decode cX8_learnt 22 = .ok (.ireturn, 1) := by decide +kernel
theorem dX8_learnt_23 : decode cX8_learnt 23 = .ok (.aload_n 3, 1) := by decide +kernel
theorem dX8_learnt_24 : decode cX8_learnt 24 = .ok (.getfield 86, 3) := by decide +kernel
theorem dX8_learnt_27 : decode cX8_learnt 27 = .ok (.getfield 116, 3) := by decide +kernel
theorem dX8_learnt_30 : decode cX8_learnt 30 = .ok (.iload_n 2, 1) := by decide +kernel
theorem dX8_learnt_31 : decode cX8_learnt 31 = .ok (.iaload, 1) := by decide +kernel
theorem dX8_learnt_32 : decode cX8_learnt 32 = .ok (.ireturn, 1) := by decide +kernel
set_option maxRecDepth 20000 in
theorem ggX8_got_X8_modemAt : GoodIn wsX8_got wsX8_modemAt := goodIn_r _ [7, 8, 9, 45, 46, 47, 48, 49] (by decide +kernel) (by decide +kernel)
set_option maxRecDepth 20000 in
theorem gX8_got_X8_modemAt : GoodIn wsX8_got (wsV RX8 68 RX8 yX8_modemAt wsX8_modemAt) := goodIn_app (goodIn_of _ (by decide +kernel)) ggX8_got_X8_modemAt
set_option maxRecDepth 20000 in
theorem ggX8_got_X2_takenAt : GoodIn wsX8_got wsX2_takenAt := goodIn_r _ [14, 15, 16, 37, 38, 39, 40, 41, 42, 43, 44] (by decide +kernel) (by decide +kernel)
set_option maxRecDepth 20000 in
theorem gX8_got_X2_takenAt : GoodIn wsX8_got (wsV RX8 122 RX2 yX2_takenAt wsX2_takenAt) := goodIn_app (goodIn_of _ (by decide +kernel)) ggX8_got_X2_takenAt
theorem dX8_got_0 : decode cX8_got 0 = .ok (.aload_n 0, 1) := by decide +kernel
theorem dX8_got_1 : decode cX8_got 1 = .ok (.iload_n 1, 1) := by decide +kernel
theorem dX8_got_2 : decode cX8_got 2 = .ok (.invokevirtual 68, 3) := by decide +kernel
theorem dX8_got_5 : decode cX8_got 5 = .ok (.astore_n 3, 1) := by decide +kernel
theorem dX8_got_6 : decode cX8_got 6 = .ok (.aload_n 3, 1) := by decide +kernel
theorem dX8_got_7 : decode cX8_got 7 = .ok (.ifnull 18, 3) := by decide +kernel
theorem dX8_got_10 : decode cX8_got 10 = .ok (.iload_n 2, 1) := by decide +kernel
theorem dX8_got_11 : decode cX8_got 11 = .ok (.ifCond .lt 14, 3) := by decide +kernel
theorem dX8_got_14 : decode cX8_got 14 = .ok (.iload_n 2, 1) := by decide +kernel
theorem dX8_got_15 : decode cX8_got 15 = .ok (.aload_n 3, 1) := by decide +kernel
theorem dX8_got_16 : decode cX8_got 16 = .ok (.getfield 72, 3) := by decide +kernel
theorem dX8_got_19 : decode cX8_got 19 = .ok (.getfield 119, 3) := by decide +kernel
theorem dX8_got_22 : decode cX8_got 22 = .ok (.if_icmp .lt 7, 3) := by decide +kernel
theorem dX8_got_25 : decode cX8_got 25 = .ok (.sipush (-1001), 3) := by decide +kernel
theorem dX8_got_28 : decode cX8_got 28 = .ok (.ireturn, 1) := by decide +kernel
theorem dX8_got_29 : decode cX8_got 29 = .ok (.aload_n 3, 1) := by decide +kernel
theorem dX8_got_30 : decode cX8_got 30 = .ok (.getfield 72, 3) := by decide +kernel
theorem dX8_got_33 : decode cX8_got 33 = .ok (.iload_n 2, 1) := by decide +kernel
theorem dX8_got_34 : decode cX8_got 34 = .ok (.invokevirtual 122, 3) := by decide +kernel
theorem dX8_got_37 : decode cX8_got 37 = .ok (.ireturn, 1) := by decide +kernel
set_option maxRecDepth 20000 in
theorem ggX8_heard_X8_modemAt : GoodIn wsX8_heard wsX8_modemAt := goodIn_r _ [7, 8, 9, 38, 39, 40, 41, 42] (by decide +kernel) (by decide +kernel)
set_option maxRecDepth 20000 in
theorem gX8_heard_X8_modemAt : GoodIn wsX8_heard (wsV RX8 68 RX8 yX8_modemAt wsX8_modemAt) := goodIn_app (goodIn_of _ (by decide +kernel)) ggX8_heard_X8_modemAt
theorem dX8_heard_0 : decode cX8_heard 0 = .ok (.aload_n 0, 1) := by decide +kernel
theorem dX8_heard_1 : decode cX8_heard 1 = .ok (.iload_n 1, 1) := by decide +kernel
theorem dX8_heard_2 : decode cX8_heard 2 = .ok (.invokevirtual 68, 3) := by decide +kernel
theorem dX8_heard_5 : decode cX8_heard 5 = .ok (.astore_n 3, 1) := by decide +kernel
theorem dX8_heard_6 : decode cX8_heard 6 = .ok (.aload_n 3, 1) := by decide +kernel
theorem dX8_heard_7 : decode cX8_heard 7 = .ok (.ifnonnull 7, 3) := by decide +kernel
theorem dX8_heard_10 : decode cX8_heard 10 = .ok (.sipush (-1001), 3) := by decide +kernel
theorem dX8_heard_13 : decode cX8_heard 13 = .ok (.ireturn, 1) := by decide +kernel
theorem dX8_heard_14 : decode cX8_heard 14 = .ok (.iload_n 2, 1) := by decide +kernel
theorem dX8_heard_15 : decode cX8_heard 15 = .ok (.ifCond .lt 8, 3) := by decide +kernel
theorem dX8_heard_18 : decode cX8_heard 18 = .ok (.iload_n 2, 1) := by decide +kernel
theorem dX8_heard_19 : decode cX8_heard 19 = .ok (.iconst 4, 1) := by decide +kernel
theorem dX8_heard_20 : decode cX8_heard 20 = .ok (.if_icmp .le 7, 3) := by decide +kernel
theorem dX8_heard_23 : decode cX8_heard 23 = .ok (.sipush (-1002), 3) := by decide +kernel
theorem dX8_heard_26 : decode cX8_heard 26 = .ok (.ireturn, 1) := by decide +kernel
theorem dX8_heard_27 : decode cX8_heard 27 = .ok (.aload_n 3, 1) := by decide +kernel
theorem dX8_heard_28 : decode cX8_heard 28 = .ok (.getfield 125, 3) := by decide +kernel
theorem dX8_heard_31 : decode cX8_heard 31 = .ok (.getfield 128, 3) := by decide +kernel
theorem dX8_heard_34 : decode cX8_heard 34 = .ok (.iload_n 2, 1) := by decide +kernel
theorem dX8_heard_35 : decode cX8_heard 35 = .ok (.iaload, 1) := by decide +kernel
theorem dX8_heard_36 : decode cX8_heard 36 = .ok (.ireturn, 1) := by decide +kernel
theorem dX8_about_0 : decode cX8_about 0 = .ok (.iload_n 1, 1) := by decide +kernel
theorem dX8_about_1 : decode cX8_about 1 = .ok (.bipush 10, 2) := by decide +kernel
theorem dX8_about_3 : decode cX8_about 3 = .ok (.if_icmp .lt 25, 3) := by decide +kernel
theorem dX8_about_6 : decode cX8_about 6 = .ok (.iload_n 1, 1) := by decide +kernel
theorem dX8_about_7 : decode cX8_about 7 = .ok (.bipush 18, 2) := by decide +kernel
theorem dX8_about_9 : decode cX8_about 9 = .ok (.if_icmp .ge 19, 3) := by decide +kernel
theorem dX8_about_12 : decode cX8_about 12 = .ok (.aload_n 0, 1) := by decide +kernel
theorem dX8_about_13 : decode cX8_about 13 = .ok (.getfield 19, 3) := by decide +kernel
theorem dX8_about_16 : decode cX8_about 16 = .ok (.getfield 29, 3) := by decide +kernel
theorem dX8_about_19 : decode cX8_about 19 = .ok (.getfield 133, 3) := by decide +kernel
theorem dX8_about_22 : decode cX8_about 22 = .ok (.iload_n 1, 1) := by decide +kernel
theorem dX8_about_23 : decode cX8_about 23 = .ok (.bipush 10, 2) := by decide +kernel
theorem dX8_about_25 : decode cX8_about 25 = .ok (.isub, 1) := by decide +kernel
theorem dX8_about_26 : decode cX8_about 26 = .ok (.iaload, 1) := by decide +kernel
theorem dX8_about_27 : decode cX8_about 27 = .ok (.ireturn, 1) := by decide +kernel
theorem dX8_about_28 : decode cX8_about 28 = .ok (.iload_n 1, 1) := by decide +kernel
theorem dX8_about_29 : decode cX8_about 29 = .ok (.bipush 20, 2) := by decide +kernel
theorem dX8_about_31 : decode cX8_about 31 = .ok (.if_icmp .lt 25, 3) := by decide +kernel
theorem dX8_about_34 : decode cX8_about 34 = .ok (.iload_n 1, 1) := by decide +kernel
theorem dX8_about_35 : decode cX8_about 35 = .ok (.bipush 28, 2) := by decide +kernel
theorem dX8_about_37 : decode cX8_about 37 = .ok (.if_icmp .ge 19, 3) := by decide +kernel
theorem dX8_about_40 : decode cX8_about 40 = .ok (.aload_n 0, 1) := by decide +kernel
theorem dX8_about_41 : decode cX8_about 41 = .ok (.getfield 19, 3) := by decide +kernel
theorem dX8_about_44 : decode cX8_about 44 = .ok (.getfield 25, 3) := by decide +kernel
theorem dX8_about_47 : decode cX8_about 47 = .ok (.getfield 133, 3) := by decide +kernel
theorem dX8_about_50 : decode cX8_about 50 = .ok (.iload_n 1, 1) := by decide +kernel
theorem dX8_about_51 : decode cX8_about 51 = .ok (.bipush 20, 2) := by decide +kernel
theorem dX8_about_53 : decode cX8_about 53 = .ok (.isub, 1) := by decide +kernel
theorem dX8_about_54 : decode cX8_about 54 = .ok (.iaload, 1) := by decide +kernel
theorem dX8_about_55 : decode cX8_about 55 = .ok (.ireturn, 1) := by decide +kernel
theorem dX8_about_56 : decode cX8_about 56 = .ok (.iload_n 1, 1) := by decide +kernel
theorem dX8_about_57 : decode cX8_about 57 = .ok (.tableswitch 83 0 3 #[31, 39, 50, 61], 31) := by decide +kernel
theorem dX8_about_88 : decode cX8_about 88 = .ok (.aload_n 0, 1) := by decide +kernel
theorem dX8_about_89 : decode cX8_about 89 = .ok (.getfield 19, 3) := by decide +kernel
theorem dX8_about_92 : decode cX8_about 92 = .ok (.getfield 65, 3) := by decide +kernel
theorem dX8_about_95 : decode cX8_about 95 = .ok (.ireturn, 1) := by decide +kernel
theorem dX8_about_96 : decode cX8_about 96 = .ok (.aload_n 0, 1) := by decide +kernel
theorem dX8_about_97 : decode cX8_about 97 = .ok (.getfield 19, 3) := by decide +kernel
theorem dX8_about_100 : decode cX8_about 100 = .ok (.getfield 29, 3) := by decide +kernel
theorem dX8_about_103 : decode cX8_about 103 = .ok (.getfield 136, 3) := by decide +kernel
theorem dX8_about_106 : decode cX8_about 106 = .ok (.ireturn, 1) := by decide +kernel
theorem dX8_about_107 : decode cX8_about 107 = .ok (.aload_n 0, 1) := by decide +kernel
theorem dX8_about_108 : decode cX8_about 108 = .ok (.getfield 19, 3) := by decide +kernel
theorem dX8_about_111 : decode cX8_about 111 = .ok (.getfield 25, 3) := by decide +kernel
theorem dX8_about_114 : decode cX8_about 114 = .ok (.getfield 136, 3) := by decide +kernel
theorem dX8_about_117 : decode cX8_about 117 = .ok (.ireturn, 1) := by decide +kernel
theorem dX8_about_118 : decode cX8_about 118 = .ok (.aload_n 0, 1) := by decide +kernel
theorem dX8_about_119 : decode cX8_about 119 = .ok (.getfield 19, 3) := by decide +kernel
theorem dX8_about_122 : decode cX8_about 122 = .ok (.getfield 29, 3) := by decide +kernel
theorem dX8_about_125 : decode cX8_about 125 = .ok (.getfield 139, 3) := by decide +kernel
theorem dX8_about_128 : decode cX8_about 128 = .ok (.aload_n 0, 1) := by decide +kernel
theorem dX8_about_129 : decode cX8_about 129 = .ok (.getfield 19, 3) := by decide +kernel
theorem dX8_about_132 : decode cX8_about 132 = .ok (.getfield 25, 3) := by decide +kernel
theorem dX8_about_135 : decode cX8_about 135 = .ok (.getfield 139, 3) := by decide +kernel
theorem dX8_about_138 : decode cX8_about 138 = .ok (.iadd, 1) := by decide +kernel
theorem dX8_about_139 : decode cX8_about 139 = .ok (.ireturn, 1) := by decide +kernel
theorem dX8_about_140 : decode cX8_about 140 = .ok (.sipush (-1002), 3) := by decide +kernel
theorem dX8_about_143 : decode cX8_about 143 = .ok (.ireturn, 1) := by decide +kernel
set_option maxRecDepth 20000 in
theorem ggX8_count_X8_changes : GoodIn wsX8_count wsX8_changes := goodIn_r _ [18, 10, 19, 13, 20, 21, 22, 23, 24, 39, 40, 41, 42, 43, 44, 45, 46, 47, 48, 49, 50, 51, 52, 53, 54, 55, 56, 57, 58] (by decide +kernel) (by decide +kernel)
set_option maxRecDepth 20000 in
theorem gX8_count_X8_changes : GoodIn wsX8_count (wsV RX8 104 RX8 yX8_changes wsX8_changes) := goodIn_app (goodIn_of _ (by decide +kernel)) ggX8_count_X8_changes
theorem dX8_count_0 : decode cX8_count 0 = .ok (.iload_n 1, 1) := by decide +kernel
theorem dX8_count_1 : decode cX8_count 1 = .ok (.tableswitch 143 0 8 #[51, 59, 64, 75, 86, 97, 108, 113, 121], 51) := by decide +kernel
theorem dX8_count_52 : decode cX8_count 52 = .ok (.aload_n 0, 1) := by decide +kernel
theorem dX8_count_53 : decode cX8_count 53 = .ok (.getfield 13, 3) := by decide +kernel
theorem dX8_count_56 : decode cX8_count 56 = .ok (.getfield 46, 3) := by decide +kernel
theorem dX8_count_59 : decode cX8_count 59 = .ok (.ireturn, 1) := by decide +kernel
theorem dX8_count_60 : decode cX8_count 60 = .ok (.aload_n 0, 1) := by decide +kernel
theorem dX8_count_61 : decode cX8_count 61 = .ok (.getfield 42, 3) := by decide +kernel
theorem dX8_count_64 : decode cX8_count 64 = .ok (.ireturn, 1) := by decide +kernel
theorem dX8_count_65 : decode cX8_count 65 = .ok (.aload_n 0, 1) := by decide +kernel
theorem dX8_count_66 : decode cX8_count 66 = .ok (.getfield 19, 3) := by decide +kernel
theorem dX8_count_69 : decode cX8_count 69 = .ok (.getfield 29, 3) := by decide +kernel
theorem dX8_count_72 : decode cX8_count 72 = .ok (.getfield 142, 3) := by decide +kernel
theorem dX8_count_75 : decode cX8_count 75 = .ok (.ireturn, 1) := by decide +kernel
theorem dX8_count_76 : decode cX8_count 76 = .ok (.aload_n 0, 1) := by decide +kernel
theorem dX8_count_77 : decode cX8_count 77 = .ok (.getfield 19, 3) := by decide +kernel
theorem dX8_count_80 : decode cX8_count 80 = .ok (.getfield 25, 3) := by decide +kernel
theorem dX8_count_83 : decode cX8_count 83 = .ok (.getfield 142, 3) := by decide +kernel
theorem dX8_count_86 : decode cX8_count 86 = .ok (.ireturn, 1) := by decide +kernel
theorem dX8_count_87 : decode cX8_count 87 = .ok (.aload_n 0, 1) := by decide +kernel
theorem dX8_count_88 : decode cX8_count 88 = .ok (.getfield 19, 3) := by decide +kernel
theorem dX8_count_91 : decode cX8_count 91 = .ok (.getfield 29, 3) := by decide +kernel
theorem dX8_count_94 : decode cX8_count 94 = .ok (.getfield 145, 3) := by decide +kernel
theorem dX8_count_97 : decode cX8_count 97 = .ok (.ireturn, 1) := by decide +kernel
theorem dX8_count_98 : decode cX8_count 98 = .ok (.aload_n 0, 1) := by decide +kernel
theorem dX8_count_99 : decode cX8_count 99 = .ok (.getfield 19, 3) := by decide +kernel
theorem dX8_count_102 : decode cX8_count 102 = .ok (.getfield 25, 3) := by decide +kernel
theorem dX8_count_105 : decode cX8_count 105 = .ok (.getfield 145, 3) := by decide +kernel
theorem dX8_count_108 : decode cX8_count 108 = .ok (.ireturn, 1) := by decide +kernel
theorem dX8_count_109 : decode cX8_count 109 = .ok (.aload_n 0, 1) := by decide +kernel
theorem dX8_count_110 : decode cX8_count 110 = .ok (.invokevirtual 104, 3) := by decide +kernel
theorem dX8_count_113 : decode cX8_count 113 = .ok (.ireturn, 1) := by decide +kernel
theorem dX8_count_114 : decode cX8_count 114 = .ok (.aload_n 0, 1) := by decide +kernel
theorem dX8_count_115 : decode cX8_count 115 = .ok (.getfield 19, 3) := by decide +kernel
theorem dX8_count_118 : decode cX8_count 118 = .ok (.getfield 148, 3) := by decide +kernel
theorem dX8_count_121 : decode cX8_count 121 = .ok (.ireturn, 1) := by decide +kernel
theorem dX8_count_122 : decode cX8_count 122 = .ok (.aload_n 0, 1) := by decide +kernel
theorem dX8_count_123 : decode cX8_count 123 = .ok (.getfield 35, 3) := by decide +kernel
theorem dX8_count_126 : decode cX8_count 126 = .ok (.getfield 72, 3) := by decide +kernel
theorem dX8_count_129 : decode cX8_count 129 = .ok (.getfield 151, 3) := by decide +kernel
theorem dX8_count_132 : decode cX8_count 132 = .ok (.aload_n 0, 1) := by decide +kernel
theorem dX8_count_133 : decode cX8_count 133 = .ok (.getfield 39, 3) := by decide +kernel
theorem dX8_count_136 : decode cX8_count 136 = .ok (.getfield 72, 3) := by decide +kernel
theorem dX8_count_139 : decode cX8_count 139 = .ok (.getfield 151, 3) := by decide +kernel
theorem dX8_count_142 : decode cX8_count 142 = .ok (.iadd, 1) := by decide +kernel
theorem dX8_count_143 : decode cX8_count 143 = .ok (.ireturn, 1) := by decide +kernel
theorem dX8_count_144 : decode cX8_count 144 = .ok (.sipush (-1002), 3) := by decide +kernel
theorem dX8_count_147 : decode cX8_count 147 = .ok (.ireturn, 1) := by decide +kernel
set_option maxRecDepth 20000 in
theorem ggX8_digest_X8_digestOfEnd : GoodIn wsX8_digest wsX8_digestOfEnd := goodIn_r _ [9, 2, 10, 11, 12, 13, 14, 15, 16, 17, 18, 19, 20, 8, 21, 22, 23, 24, 25, 26, 27, 28, 29, 30, 31, 32, 33, 34, 35, 36, 37, 38, 39, 40, 41, 42, 43, 44, 45, 46, 47, 48, 49, 50, 51, 52, 92, 93, 94, 95, 96, 97, 98, 99, 100, 101, 102, 103, 104, 105, 106, 107, 108, 109, 110, 111, 112, 113, 114, 115, 116, 117, 118, 119, 120, 121, 122, 123, 124, 125, 126, 127, 128, 129, 85, 86, 87, 88, 89] (by decide +kernel) (by decide +kernel)
set_option maxRecDepth 20000 in
theorem gX8_digest_X8_digestOfEnd : GoodIn wsX8_digest (wsV RX8 156 RX8 yX8_digestOfEnd wsX8_digestOfEnd) := goodIn_app (goodIn_of _ (by decide +kernel)) ggX8_digest_X8_digestOfEnd
set_option maxRecDepth 20000 in
theorem ggX8_digest_X8_about : GoodIn wsX8_digest wsX8_about := goodIn_r _ [56, 57, 58, 59, 60, 61, 62, 63, 85, 86, 87, 88, 89, 130, 131, 132, 133, 114, 115, 116, 117, 118, 119, 120, 121] (by decide +kernel) (by decide +kernel)
set_option maxRecDepth 20000 in
theorem gX8_digest_X8_about : GoodIn wsX8_digest (wsV RX8 162 RX8 yX8_about wsX8_about) := goodIn_app (goodIn_of _ (by decide +kernel)) ggX8_digest_X8_about
set_option maxRecDepth 20000 in
theorem ggX8_digest_X4_codeAt : GoodIn wsX8_digest wsX4_codeAt := goodIn_r _ [68, 69, 70, 90, 91] (by decide +kernel) (by decide +kernel)
set_option maxRecDepth 20000 in
theorem gX8_digest_X4_codeAt : GoodIn wsX8_digest (wsV RX8 81 RX4 yX4_codeAt wsX4_codeAt) := goodIn_app (goodIn_of _ (by decide +kernel)) ggX8_digest_X4_codeAt
set_option maxRecDepth 20000 in
theorem ggX8_digest_X8_count : GoodIn wsX8_digest wsX8_count := goodIn_r _ [74, 3, 4, 75, 57, 58, 76, 60, 77, 78, 22, 16, 79, 23, 80, 81, 82, 8, 83, 84, 85, 86, 87, 88, 89, 90, 91, 130, 131, 132, 133, 114, 115, 116, 117, 118, 119, 120, 121, 92, 93, 94, 95, 96, 97, 98, 99, 100, 101, 102, 103, 104, 105, 106, 107, 108, 109, 110, 111, 122, 123, 124, 125, 126, 127, 128, 129] (by decide +kernel) (by decide +kernel)
set_option maxRecDepth 20000 in
theorem gX8_digest_X8_count : GoodIn wsX8_digest (wsV RX8 165 RX8 yX8_count wsX8_count) := goodIn_app (goodIn_of _ (by decide +kernel)) ggX8_digest_X8_count
theorem dX8_digest_0 : decode cX8_digest 0 = .ok (.aload_n 0, 1) := by decide +kernel
theorem dX8_digest_1 : decode cX8_digest 1 = .ok (.iconst 1, 1) := by decide +kernel
theorem dX8_digest_2 : decode cX8_digest 2 = .ok (.aload_n 0, 1) := by decide +kernel
theorem dX8_digest_3 : decode cX8_digest 3 = .ok (.iconst 0, 1) := by decide +kernel
theorem dX8_digest_4 : decode cX8_digest 4 = .ok (.ldc2_w 154, 3) := by decide +kernel
theorem dX8_digest_7 : decode cX8_digest 7 = .ok (.invokevirtual 156, 3) := by decide +kernel
theorem dX8_digest_10 : decode cX8_digest 10 = .ok (.invokevirtual 156, 3) := by decide +kernel
theorem dX8_digest_13 : decode cX8_digest 13 = .ok (.lstore_n 1, 1) := by decide +kernel
theorem dX8_digest_14 : decode cX8_digest 14 = .ok (.iconst 0, 1) := by decide +kernel
theorem dX8_digest_15 : decode cX8_digest 15 = .ok (.istore_n 3, 1) := by decide +kernel
theorem dX8_digest_16 : decode cX8_digest 16 = .ok (.iload_n 3, 1) := by decide +kernel
theorem dX8_digest_17 : decode cX8_digest 17 = .ok (.iconst 4, 1) := by decide +kernel
theorem dX8_digest_18 : decode cX8_digest 18 = .ok (.if_icmp .ge 22, 3) := by decide +kernel
theorem dX8_digest_21 : decode cX8_digest 21 = .ok (.ldc2_w 160, 3) := by decide +kernel
theorem dX8_digest_24 : decode cX8_digest 24 = .ok (.lload_n 1, 1) := by decide +kernel
theorem dX8_digest_25 : decode cX8_digest 25 = .ok (.lmul, 1) := by decide +kernel
theorem dX8_digest_26 : decode cX8_digest 26 = .ok (.aload_n 0, 1) := by decide +kernel
theorem dX8_digest_27 : decode cX8_digest 27 = .ok (.iload_n 3, 1) := by decide +kernel
theorem dX8_digest_28 : decode cX8_digest 28 = .ok (.invokevirtual 162, 3) := by decide +kernel
theorem dX8_digest_31 : decode cX8_digest 31 = .ok (.i2l, 1) := by decide +kernel
theorem dX8_digest_32 : decode cX8_digest 32 = .ok (.ladd, 1) := by decide +kernel
theorem dX8_digest_33 : decode cX8_digest 33 = .ok (.lstore_n 1, 1) := by decide +kernel
theorem dX8_digest_34 : decode cX8_digest 34 = .ok (.iinc 3 1, 3) := by decide +kernel
theorem dX8_digest_37 : decode cX8_digest 37 = .ok (.goto (-21), 3) := by decide +kernel
theorem dX8_digest_40 : decode cX8_digest 40 = .ok (.bipush 10, 2) := by decide +kernel
theorem dX8_digest_42 : decode cX8_digest 42 = .ok (.istore_n 3, 1) := by decide +kernel
theorem dX8_digest_43 : decode cX8_digest 43 = .ok (.iload_n 3, 1) := by decide +kernel
theorem dX8_digest_44 : decode cX8_digest 44 = .ok (.bipush 18, 2) := by decide +kernel
theorem dX8_digest_46 : decode cX8_digest 46 = .ok (.if_icmp .ge 22, 3) := by decide +kernel
theorem dX8_digest_49 : decode cX8_digest 49 = .ok (.ldc2_w 160, 3) := by decide +kernel
theorem dX8_digest_52 : decode cX8_digest 52 = .ok (.lload_n 1, 1) := by decide +kernel
theorem dX8_digest_53 : decode cX8_digest 53 = .ok (.lmul, 1) := by decide +kernel
theorem dX8_digest_54 : decode cX8_digest 54 = .ok (.aload_n 0, 1) := by decide +kernel
theorem dX8_digest_55 : decode cX8_digest 55 = .ok (.iload_n 3, 1) := by decide +kernel
theorem dX8_digest_56 : decode cX8_digest 56 = .ok (.invokevirtual 162, 3) := by decide +kernel
theorem dX8_digest_59 : decode cX8_digest 59 = .ok (.i2l, 1) := by decide +kernel
theorem dX8_digest_60 : decode cX8_digest 60 = .ok (.ladd, 1) := by decide +kernel
theorem dX8_digest_61 : decode cX8_digest 61 = .ok (.lstore_n 1, 1) := by decide +kernel
theorem dX8_digest_62 : decode cX8_digest 62 = .ok (.iinc 3 1, 3) := by decide +kernel
theorem dX8_digest_65 : decode cX8_digest 65 = .ok (.goto (-22), 3) := by decide +kernel
theorem dX8_digest_68 : decode cX8_digest 68 = .ok (.bipush 20, 2) := by decide +kernel
theorem dX8_digest_70 : decode cX8_digest 70 = .ok (.istore_n 3, 1) := by decide +kernel
theorem dX8_digest_71 : decode cX8_digest 71 = .ok (.iload_n 3, 1) := by decide +kernel
theorem dX8_digest_72 : decode cX8_digest 72 = .ok (.bipush 28, 2) := by decide +kernel
theorem dX8_digest_74 : decode cX8_digest 74 = .ok (.if_icmp .ge 22, 3) := by decide +kernel
theorem dX8_digest_77 : decode cX8_digest 77 = .ok (.ldc2_w 160, 3) := by decide +kernel
theorem dX8_digest_80 : decode cX8_digest 80 = .ok (.lload_n 1, 1) := by decide +kernel
theorem dX8_digest_81 : decode cX8_digest 81 = .ok (.lmul, 1) := by decide +kernel
theorem dX8_digest_82 : decode cX8_digest 82 = .ok (.aload_n 0, 1) := by decide +kernel
theorem dX8_digest_83 : decode cX8_digest 83 = .ok (.iload_n 3, 1) := by decide +kernel
theorem dX8_digest_84 : decode cX8_digest 84 = .ok (.invokevirtual 162, 3) := by decide +kernel
theorem dX8_digest_87 : decode cX8_digest 87 = .ok (.i2l, 1) := by decide +kernel
theorem dX8_digest_88 : decode cX8_digest 88 = .ok (.ladd, 1) := by decide +kernel
theorem dX8_digest_89 : decode cX8_digest 89 = .ok (.lstore_n 1, 1) := by decide +kernel
theorem dX8_digest_90 : decode cX8_digest 90 = .ok (.iinc 3 1, 3) := by decide +kernel
theorem dX8_digest_93 : decode cX8_digest 93 = .ok (.goto (-22), 3) := by decide +kernel
theorem dX8_digest_96 : decode cX8_digest 96 = .ok (.iconst 0, 1) := by decide +kernel
theorem dX8_digest_97 : decode cX8_digest 97 = .ok (.istore_n 3, 1) := by decide +kernel
theorem dX8_digest_98 : decode cX8_digest 98 = .ok (.iload_n 3, 1) := by decide +kernel
theorem dX8_digest_99 : decode cX8_digest 99 = .ok (.aload_n 0, 1) := by decide +kernel
theorem dX8_digest_100 : decode cX8_digest 100 = .ok (.getfield 13, 3) := by decide +kernel
theorem dX8_digest_103 : decode cX8_digest 103 = .ok (.getfield 46, 3) := by decide +kernel
theorem dX8_digest_106 : decode cX8_digest 106 = .ok (.if_icmp .ge 25, 3) := by decide +kernel
theorem dX8_digest_109 : decode cX8_digest 109 = .ok (.ldc2_w 160, 3) := by decide +kernel
theorem dX8_digest_112 : decode cX8_digest 112 = .ok (.lload_n 1, 1) := by decide +kernel
theorem dX8_digest_113 : decode cX8_digest 113 = .ok (.lmul, 1) := by decide +kernel
theorem dX8_digest_114 : decode cX8_digest 114 = .ok (.aload_n 0, 1) := by decide +kernel
theorem dX8_digest_115 : decode cX8_digest 115 = .ok (.getfield 13, 3) := by decide +kernel
theorem dX8_digest_118 : decode cX8_digest 118 = .ok (.iload_n 3, 1) := by decide +kernel
theorem dX8_digest_119 : decode cX8_digest 119 = .ok (.invokevirtual 81, 3) := by decide +kernel
theorem dX8_digest_122 : decode cX8_digest 122 = .ok (.i2l, 1) := by decide +kernel
theorem dX8_digest_123 : decode cX8_digest 123 = .ok (.ladd, 1) := by decide +kernel
theorem dX8_digest_124 : decode cX8_digest 124 = .ok (.lstore_n 1, 1) := by decide +kernel
theorem dX8_digest_125 : decode cX8_digest 125 = .ok (.iinc 3 1, 3) := by decide +kernel
theorem dX8_digest_128 : decode cX8_digest 128 = .ok (.goto (-30), 3) := by decide +kernel
theorem dX8_digest_131 : decode cX8_digest 131 = .ok (.iconst 0, 1) := by decide +kernel
theorem dX8_digest_132 : decode cX8_digest 132 = .ok (.istore_n 3, 1) := by decide +kernel
theorem dX8_digest_133 : decode cX8_digest 133 = .ok (.iload_n 3, 1) := by decide +kernel
theorem dX8_digest_134 : decode cX8_digest 134 = .ok (.bipush 9, 2) := by decide +kernel
theorem dX8_digest_136 : decode cX8_digest 136 = .ok (.if_icmp .ge 22, 3) := by decide +kernel
theorem dX8_digest_139 : decode cX8_digest 139 = .ok (.ldc2_w 160, 3) := by decide +kernel
theorem dX8_digest_142 : decode cX8_digest 142 = .ok (.lload_n 1, 1) := by decide +kernel
theorem dX8_digest_143 : decode cX8_digest 143 = .ok (.lmul, 1) := by decide +kernel
theorem dX8_digest_144 : decode cX8_digest 144 = .ok (.aload_n 0, 1) := by decide +kernel
theorem dX8_digest_145 : decode cX8_digest 145 = .ok (.iload_n 3, 1) := by decide +kernel
theorem dX8_digest_146 : decode cX8_digest 146 = .ok (.invokevirtual 165, 3) := by decide +kernel
theorem dX8_digest_149 : decode cX8_digest 149 = .ok (.i2l, 1) := by decide +kernel
theorem dX8_digest_150 : decode cX8_digest 150 = .ok (.ladd, 1) := by decide +kernel
theorem dX8_digest_151 : decode cX8_digest 151 = .ok (.lstore_n 1, 1) := by decide +kernel
theorem dX8_digest_152 : decode cX8_digest 152 = .ok (.iinc 3 1, 3) := by decide +kernel
theorem dX8_digest_155 : decode cX8_digest 155 = .ok (.goto (-22), 3) := by decide +kernel
theorem dX8_digest_158 : decode cX8_digest 158 = .ok (.lload_n 1, 1) := by decide +kernel
theorem dX8_digest_159 : decode cX8_digest 159 = .ok (.lreturn, 1) := by decide +kernel
set_option maxRecDepth 20000 in
theorem ggX8_digestOfEnd_X8_modemAt : GoodIn wsX8_digestOfEnd wsX8_modemAt := goodIn_r _ [14, 15, 16, 84, 85, 86, 87, 88] (by decide +kernel) (by decide +kernel)
set_option maxRecDepth 20000 in
theorem gX8_digestOfEnd_X8_modemAt : GoodIn wsX8_digestOfEnd (wsV RX8 68 RX8 yX8_modemAt wsX8_modemAt) := goodIn_app (goodIn_of _ (by decide +kernel)) ggX8_digestOfEnd_X8_modemAt
set_option maxRecDepth 20000 in
theorem ggX8_digestOfEnd_X3_fact : GoodIn wsX8_digestOfEnd wsX3_fact := goodIn_r _ [21, 22, 23, 24, 25, 26, 27, 28, 29, 30, 31, 32, 33, 34, 35, 36, 37, 38, 46, 47, 48, 49, 50, 51, 52, 53, 54, 55, 56, 57, 58, 59, 60, 61, 62, 63, 64, 65, 76, 77, 78, 79, 80, 81, 82, 83] (by decide +kernel) (by decide +kernel)
set_option maxRecDepth 20000 in
theorem gX8_digestOfEnd_X3_fact : GoodIn wsX8_digestOfEnd (wsV RX8 110 RX3 yX3_fact wsX3_fact) := goodIn_app (goodIn_of _ (by decide +kernel)) ggX8_digestOfEnd_X3_fact
set_option maxRecDepth 20000 in
theorem ggX8_digestOfEnd_X2_takenAt : GoodIn wsX8_digestOfEnd wsX2_takenAt := goodIn_r _ [43, 44, 45, 76, 77, 78, 79, 80, 81, 82, 83] (by decide +kernel) (by decide +kernel)
set_option maxRecDepth 20000 in
theorem gX8_digestOfEnd_X2_takenAt : GoodIn wsX8_digestOfEnd (wsV RX8 122 RX2 yX2_takenAt wsX2_takenAt) := goodIn_app (goodIn_of _ (by decide +kernel)) ggX8_digestOfEnd_X2_takenAt
theorem dX8_digestOfEnd_0 : decode cX8_digestOfEnd 0 = .ok (.aload_n 0, 1) := by decide +kernel
theorem dX8_digestOfEnd_1 : decode cX8_digestOfEnd 1 = .ok (.iload_n 1, 1) := by decide +kernel
theorem dX8_digestOfEnd_2 : decode cX8_digestOfEnd 2 = .ok (.invokevirtual 68, 3) := by decide +kernel
theorem dX8_digestOfEnd_5 : decode cX8_digestOfEnd 5 = .ok (.astore 4, 2) := by decide +kernel
theorem dX8_digestOfEnd_7 : decode cX8_digestOfEnd 7 = .ok (.aload 4, 2) := by decide +kernel
theorem dX8_digestOfEnd_9 : decode cX8_digestOfEnd 9 = .ok (.ifnonnull 5, 3) := by decide +kernel
theorem dX8_digestOfEnd_12 : decode cX8_digestOfEnd 12 = .ok (.lload_n 2, 1) := by decide +kernel
theorem dX8_digestOfEnd_13 : decode cX8_digestOfEnd 13 = .ok (.lreturn, 1) := by decide +kernel
theorem dX8_digestOfEnd_14 : decode cX8_digestOfEnd 14 = .ok (.lload_n 2, 1) := by decide +kernel
theorem dX8_digestOfEnd_15 : decode cX8_digestOfEnd 15 = .ok (.lstore 5, 2) := by decide +kernel
theorem dX8_digestOfEnd_17 : decode cX8_digestOfEnd 17 = .ok (.iconst 0, 1) := by decide +kernel
theorem dX8_digestOfEnd_18 : decode cX8_digestOfEnd 18 = .ok (.istore 7, 2) := by decide +kernel
theorem dX8_digestOfEnd_20 : decode cX8_digestOfEnd 20 = .ok (.iload 7, 2) := by decide +kernel
theorem dX8_digestOfEnd_22 : decode cX8_digestOfEnd 22 = .ok (.bipush 16, 2) := by decide +kernel
theorem dX8_digestOfEnd_24 : decode cX8_digestOfEnd 24 = .ok (.if_icmp .ge 26, 3) := by decide +kernel
theorem dX8_digestOfEnd_27 : decode cX8_digestOfEnd 27 = .ok (.ldc2_w 160, 3) := by decide +kernel
theorem dX8_digestOfEnd_30 : decode cX8_digestOfEnd 30 = .ok (.lload 5, 2) := by decide +kernel
theorem dX8_digestOfEnd_32 : decode cX8_digestOfEnd 32 = .ok (.lmul, 1) := by decide +kernel
theorem dX8_digestOfEnd_33 : decode cX8_digestOfEnd 33 = .ok (.aload 4, 2) := by decide +kernel
theorem dX8_digestOfEnd_35 : decode cX8_digestOfEnd 35 = .ok (.iload 7, 2) := by decide +kernel
theorem dX8_digestOfEnd_37 : decode cX8_digestOfEnd 37 = .ok (.invokevirtual 110, 3) := by decide +kernel
theorem dX8_digestOfEnd_40 : decode cX8_digestOfEnd 40 = .ok (.i2l, 1) := by decide +kernel
theorem dX8_digestOfEnd_41 : decode cX8_digestOfEnd 41 = .ok (.ladd, 1) := by decide +kernel
theorem dX8_digestOfEnd_42 : decode cX8_digestOfEnd 42 = .ok (.lstore 5, 2) := by decide +kernel
theorem dX8_digestOfEnd_44 : decode cX8_digestOfEnd 44 = .ok (.iinc 7 1, 3) := by decide +kernel
theorem dX8_digestOfEnd_47 : decode cX8_digestOfEnd 47 = .ok (.goto (-27), 3) := by decide +kernel
theorem dX8_digestOfEnd_50 : decode cX8_digestOfEnd 50 = .ok (.iconst 0, 1) := by decide +kernel
theorem dX8_digestOfEnd_51 : decode cX8_digestOfEnd 51 = .ok (.istore 7, 2) := by decide +kernel
theorem dX8_digestOfEnd_53 : decode cX8_digestOfEnd 53 = .ok (.iload 7, 2) := by decide +kernel
theorem dX8_digestOfEnd_55 : decode cX8_digestOfEnd 55 = .ok (.bipush 8, 2) := by decide +kernel
theorem dX8_digestOfEnd_57 : decode cX8_digestOfEnd 57 = .ok (.if_icmp .ge 27, 3) := by decide +kernel
theorem dX8_digestOfEnd_60 : decode cX8_digestOfEnd 60 = .ok (.ldc2_w 160, 3) := by decide +kernel
theorem dX8_digestOfEnd_63 : decode cX8_digestOfEnd 63 = .ok (.lload 5, 2) := by decide +kernel
theorem dX8_digestOfEnd_65 : decode cX8_digestOfEnd 65 = .ok (.lmul, 1) := by decide +kernel
theorem dX8_digestOfEnd_66 : decode cX8_digestOfEnd 66 = .ok (.aload 4, 2) := by decide +kernel
theorem dX8_digestOfEnd_68 : decode cX8_digestOfEnd 68 = .ok (.getfield 113, 3) := by decide +kernel
theorem dX8_digestOfEnd_71 : decode cX8_digestOfEnd 71 = .ok (.iload 7, 2) := by decide +kernel
theorem dX8_digestOfEnd_73 : decode cX8_digestOfEnd 73 = .ok (.iaload, 1) := by decide +kernel
theorem dX8_digestOfEnd_74 : decode cX8_digestOfEnd 74 = .ok (.i2l, 1) := by decide +kernel
theorem dX8_digestOfEnd_75 : decode cX8_digestOfEnd 75 = .ok (.ladd, 1) := by decide +kernel
theorem dX8_digestOfEnd_76 : decode cX8_digestOfEnd 76 = .ok (.lstore 5, 2) := by decide +kernel
theorem dX8_digestOfEnd_78 : decode cX8_digestOfEnd 78 = .ok (.iinc 7 1, 3) := by decide +kernel
theorem dX8_digestOfEnd_81 : decode cX8_digestOfEnd 81 = .ok (.goto (-28), 3) := by decide +kernel
theorem dX8_digestOfEnd_84 : decode cX8_digestOfEnd 84 = .ok (.iconst 0, 1) := by decide +kernel
theorem dX8_digestOfEnd_85 : decode cX8_digestOfEnd 85 = .ok (.istore 7, 2) := by decide +kernel
theorem dX8_digestOfEnd_87 : decode cX8_digestOfEnd 87 = .ok (.iload 7, 2) := by decide +kernel
theorem dX8_digestOfEnd_89 : decode cX8_digestOfEnd 89 = .ok (.iconst 4, 1) := by decide +kernel
theorem dX8_digestOfEnd_90 : decode cX8_digestOfEnd 90 = .ok (.if_icmp .ge 30, 3) := by decide +kernel
theorem dX8_digestOfEnd_93 : decode cX8_digestOfEnd 93 = .ok (.ldc2_w 160, 3) := by decide +kernel
theorem dX8_digestOfEnd_96 : decode cX8_digestOfEnd 96 = .ok (.lload 5, 2) := by decide +kernel
theorem dX8_digestOfEnd_98 : decode cX8_digestOfEnd 98 = .ok (.lmul, 1) := by decide +kernel
theorem dX8_digestOfEnd_99 : decode cX8_digestOfEnd 99 = .ok (.aload 4, 2) := by decide +kernel
theorem dX8_digestOfEnd_101 : decode cX8_digestOfEnd 101 = .ok (.getfield 86, 3) := by decide +kernel
theorem dX8_digestOfEnd_104 : decode cX8_digestOfEnd 104 = .ok (.getfield 116, 3) := by decide +kernel
theorem dX8_digestOfEnd_107 : decode cX8_digestOfEnd 107 = .ok (.iload 7, 2) := by decide +kernel
theorem dX8_digestOfEnd_109 : decode cX8_digestOfEnd 109 = .ok (.iaload, 1) := by decide +kernel
theorem dX8_digestOfEnd_110 : decode cX8_digestOfEnd 110 = .ok (.i2l, 1) := by decide +kernel
theorem dX8_digestOfEnd_111 : decode cX8_digestOfEnd 111 = .ok (.ladd, 1) := by decide +kernel
theorem dX8_digestOfEnd_112 : decode cX8_digestOfEnd 112 = .ok (.lstore 5, 2) := by decide +kernel
theorem dX8_digestOfEnd_114 : decode cX8_digestOfEnd 114 = .ok (.iinc 7 1, 3) := by decide +kernel
theorem dX8_digestOfEnd_117 : decode cX8_digestOfEnd 117 = .ok (.goto (-30), 3) := by decide +kernel
theorem dX8_digestOfEnd_120 : decode cX8_digestOfEnd 120 = .ok (.iconst 0, 1) := by decide +kernel
theorem dX8_digestOfEnd_121 : decode cX8_digestOfEnd 121 = .ok (.istore 7, 2) := by decide +kernel
theorem dX8_digestOfEnd_123 : decode cX8_digestOfEnd 123 = .ok (.iload 7, 2) := by decide +kernel
theorem dX8_digestOfEnd_125 : decode cX8_digestOfEnd 125 = .ok (.iconst 4, 1) := by decide +kernel
theorem dX8_digestOfEnd_126 : decode cX8_digestOfEnd 126 = .ok (.if_icmp .ge 30, 3) := by decide +kernel
theorem dX8_digestOfEnd_129 : decode cX8_digestOfEnd 129 = .ok (.ldc2_w 160, 3) := by decide +kernel
theorem dX8_digestOfEnd_132 : decode cX8_digestOfEnd 132 = .ok (.lload 5, 2) := by decide +kernel
theorem dX8_digestOfEnd_134 : decode cX8_digestOfEnd 134 = .ok (.lmul, 1) := by decide +kernel
theorem dX8_digestOfEnd_135 : decode cX8_digestOfEnd 135 = .ok (.aload 4, 2) := by decide +kernel
theorem dX8_digestOfEnd_137 : decode cX8_digestOfEnd 137 = .ok (.getfield 86, 3) := by decide +kernel
theorem dX8_digestOfEnd_140 : decode cX8_digestOfEnd 140 = .ok (.getfield 90, 3) := by decide +kernel
theorem dX8_digestOfEnd_143 : decode cX8_digestOfEnd 143 = .ok (.iload 7, 2) := by decide +kernel
theorem dX8_digestOfEnd_145 : decode cX8_digestOfEnd 145 = .ok (.iaload, 1) := by decide +kernel
theorem dX8_digestOfEnd_146 : decode cX8_digestOfEnd 146 = .ok (.i2l, 1) := by decide +kernel
theorem dX8_digestOfEnd_147 : decode cX8_digestOfEnd 147 = .ok (.ladd, 1) := by decide +kernel
theorem dX8_digestOfEnd_148 : decode cX8_digestOfEnd 148 = .ok (.lstore 5, 2) := by decide +kernel
theorem dX8_digestOfEnd_150 : decode cX8_digestOfEnd 150 = .ok (.iinc 7 1, 3) := by decide +kernel
theorem dX8_digestOfEnd_153 : decode cX8_digestOfEnd 153 = .ok (.goto (-30), 3) := by decide +kernel
theorem dX8_digestOfEnd_156 : decode cX8_digestOfEnd 156 = .ok (.iconst 0, 1) := by decide +kernel
theorem dX8_digestOfEnd_157 : decode cX8_digestOfEnd 157 = .ok (.istore 7, 2) := by decide +kernel
theorem dX8_digestOfEnd_159 : decode cX8_digestOfEnd 159 = .ok (.iload 7, 2) := by decide +kernel
theorem dX8_digestOfEnd_161 : decode cX8_digestOfEnd 161 = .ok (.iconst 5, 1) := by decide +kernel
theorem dX8_digestOfEnd_162 : decode cX8_digestOfEnd 162 = .ok (.if_icmp .ge 30, 3) := by decide +kernel
theorem dX8_digestOfEnd_165 : decode cX8_digestOfEnd 165 = .ok (.ldc2_w 160, 3) := by decide +kernel
theorem dX8_digestOfEnd_168 : decode cX8_digestOfEnd 168 = .ok (.lload 5, 2) := by decide +kernel
theorem dX8_digestOfEnd_170 : decode cX8_digestOfEnd 170 = .ok (.lmul, 1) := by decide +kernel
theorem dX8_digestOfEnd_171 : decode cX8_digestOfEnd 171 = .ok (.aload 4, 2) := by decide +kernel
theorem dX8_digestOfEnd_173 : decode cX8_digestOfEnd 173 = .ok (.getfield 125, 3) := by decide +kernel
theorem dX8_digestOfEnd_176 : decode cX8_digestOfEnd 176 = .ok (.getfield 128, 3) := by decide +kernel
theorem dX8_digestOfEnd_179 : decode cX8_digestOfEnd 179 = .ok (.iload 7, 2) := by decide +kernel
theorem dX8_digestOfEnd_181 : decode cX8_digestOfEnd 181 = .ok (.iaload, 1) := by decide +kernel
theorem dX8_digestOfEnd_182 : decode cX8_digestOfEnd 182 = .ok (.i2l, 1) := by decide +kernel
theorem dX8_digestOfEnd_183 : decode cX8_digestOfEnd 183 = .ok (.ladd, 1) := by decide +kernel
theorem dX8_digestOfEnd_184 : decode cX8_digestOfEnd 184 = .ok (.lstore 5, 2) := by decide +kernel
theorem dX8_digestOfEnd_186 : decode cX8_digestOfEnd 186 = .ok (.iinc 7 1, 3) := by decide +kernel
theorem dX8_digestOfEnd_189 : decode cX8_digestOfEnd 189 = .ok (.goto (-30), 3) := by decide +kernel
theorem dX8_digestOfEnd_192 : decode cX8_digestOfEnd 192 = .ok (.iconst 0, 1) := by decide +kernel
theorem dX8_digestOfEnd_193 : decode cX8_digestOfEnd 193 = .ok (.istore 7, 2) := by decide +kernel
theorem dX8_digestOfEnd_195 : decode cX8_digestOfEnd 195 = .ok (.iload 7, 2) := by decide +kernel
theorem dX8_digestOfEnd_197 : decode cX8_digestOfEnd 197 = .ok (.aload 4, 2) := by decide +kernel
theorem dX8_digestOfEnd_199 : decode cX8_digestOfEnd 199 = .ok (.getfield 72, 3) := by decide +kernel
theorem dX8_digestOfEnd_202 : decode cX8_digestOfEnd 202 = .ok (.getfield 119, 3) := by decide +kernel
theorem dX8_digestOfEnd_205 : decode cX8_digestOfEnd 205 = .ok (.if_icmp .ge 29, 3) := by decide +kernel
theorem dX8_digestOfEnd_208 : decode cX8_digestOfEnd 208 = .ok (.ldc2_w 160, 3) := by decide +kernel
theorem dX8_digestOfEnd_211 : decode cX8_digestOfEnd 211 = .ok (.lload 5, 2) := by decide +kernel
theorem dX8_digestOfEnd_213 : decode cX8_digestOfEnd 213 = .ok (.lmul, 1) := by decide +kernel
theorem dX8_digestOfEnd_214 : decode cX8_digestOfEnd 214 = .ok (.aload 4, 2) := by decide +kernel
theorem dX8_digestOfEnd_216 : decode cX8_digestOfEnd 216 = .ok (.getfield 72, 3) := by decide +kernel
theorem dX8_digestOfEnd_219 : decode cX8_digestOfEnd 219 = .ok (.iload 7, 2) := by decide +kernel
theorem dX8_digestOfEnd_221 : decode cX8_digestOfEnd 221 = .ok (.invokevirtual 122, 3) := by decide +kernel
theorem dX8_digestOfEnd_224 : decode cX8_digestOfEnd 224 = .ok (.i2l, 1) := by decide +kernel
theorem dX8_digestOfEnd_225 : decode cX8_digestOfEnd 225 = .ok (.ladd, 1) := by decide +kernel
theorem dX8_digestOfEnd_226 : decode cX8_digestOfEnd 226 = .ok (.lstore 5, 2) := by decide +kernel
theorem dX8_digestOfEnd_228 : decode cX8_digestOfEnd 228 = .ok (.iinc 7 1, 3) := by decide +kernel
theorem dX8_digestOfEnd_231 : decode cX8_digestOfEnd 231 = .ok (.goto (-36), 3) := by decide +kernel
theorem dX8_digestOfEnd_234 : decode cX8_digestOfEnd 234 = .ok (.lload 5, 2) := by decide +kernel
theorem dX8_digestOfEnd_236 : decode cX8_digestOfEnd 236 = .ok (.lreturn, 1) := by decide +kernel
theorem dX8_modemAt_0 : decode cX8_modemAt 0 = .ok (.iload_n 1, 1) := by decide +kernel
theorem dX8_modemAt_1 : decode cX8_modemAt 1 = .ok (.ifCond .ne 8, 3) := by decide +kernel
theorem dX8_modemAt_4 : decode cX8_modemAt 4 = .ok (.aload_n 0, 1) := by decide +kernel
theorem dX8_modemAt_5 : decode cX8_modemAt 5 = .ok (.getfield 35, 3) := by decide +kernel
theorem dX8_modemAt_8 : decode cX8_modemAt 8 = .ok (.areturn, 1) := by decide +kernel
theorem dX8_modemAt_9 : decode cX8_modemAt 9 = .ok (.iload_n 1, 1) := by decide +kernel
theorem dX8_modemAt_10 : decode cX8_modemAt 10 = .ok (.iconst 1, 1) := by decide +kernel
theorem dX8_modemAt_11 : decode cX8_modemAt 11 = .ok (.if_icmp .ne 10, 3) := by decide +kernel
theorem dX8_modemAt_14 : decode cX8_modemAt 14 = .ok (.aload_n 0, 1) := by decide +kernel
theorem dX8_modemAt_15 : decode cX8_modemAt 15 = .ok (.getfield 39, 3) := by decide +kernel
theorem dX8_modemAt_18 : decode cX8_modemAt 18 = .ok (.goto 4, 3) := by decide +kernel
theorem dX8_modemAt_21 : decode cX8_modemAt 21 = .ok (.aconst_null, 1) := by decide +kernel
theorem dX8_modemAt_22 : decode cX8_modemAt 22 = .ok (.areturn, 1) := by decide +kernel
theorem dX8_changes_0 : decode cX8_changes 0 = .ok (.aload_n 0, 1) := by decide +kernel
theorem dX8_changes_1 : decode cX8_changes 1 = .ok (.getfield 35, 3) := by decide +kernel
theorem dX8_changes_4 : decode cX8_changes 4 = .ok (.getfield 168, 3) := by decide +kernel
theorem dX8_changes_7 : decode cX8_changes 7 = .ok (.aload_n 0, 1) := by decide +kernel
theorem dX8_changes_8 : decode cX8_changes 8 = .ok (.getfield 39, 3) := by decide +kernel
theorem dX8_changes_11 : decode cX8_changes 11 = .ok (.getfield 168, 3) := by decide +kernel
theorem dX8_changes_14 : decode cX8_changes 14 = .ok (.iadd, 1) := by decide +kernel
theorem dX8_changes_15 : decode cX8_changes 15 = .ok (.ireturn, 1) := by decide +kernel
theorem dX9_init_0 : decode cX9_init 0 = .ok (.aload_n 0, 1) := by decide +kernel
theorem dX9_init_1 : decode cX9_init 1 = .ok (.invokespecial 1, 3) := by decide +kernel
theorem dX9_init_4 : decode cX9_init 4 = .ok (.aload_n 0, 1) := by decide +kernel
theorem dX9_init_5 : decode cX9_init 5 = .ok (.bipush 48, 2) := by decide +kernel
theorem dX9_init_7 : decode cX9_init 7 = .ok (.newarray .int, 2) := by decide +kernel
theorem dX9_init_9 : decode cX9_init 9 = .ok (.putfield 7, 3) := by decide +kernel
theorem dX9_init_12 : decode cX9_init 12 = .ok (.aload_n 0, 1) := by decide +kernel
theorem dX9_init_13 : decode cX9_init 13 = .ok (.bipush 16, 2) := by decide +kernel
theorem dX9_init_15 : decode cX9_init 15 = .ok (.newarray .int, 2) := by decide +kernel
theorem dX9_init_17 : decode cX9_init 17 = .ok (.putfield 13, 3) := by decide +kernel
theorem dX9_init_20 : decode cX9_init 20 = .ok (.aload_n 0, 1) := by decide +kernel
theorem dX9_init_21 : decode cX9_init 21 = .ok (.bipush 8, 2) := by decide +kernel
theorem dX9_init_23 : decode cX9_init 23 = .ok (.newarray .int, 2) := by decide +kernel
theorem dX9_init_25 : decode cX9_init 25 = .ok (.putfield 16, 3) := by decide +kernel
theorem dX9_init_28 : decode cX9_init 28 = .ok (.aload_n 0, 1) := by decide +kernel
theorem dX9_init_29 : decode cX9_init 29 = .ok (.bipush 8, 2) := by decide +kernel
theorem dX9_init_31 : decode cX9_init 31 = .ok (.newarray .int, 2) := by decide +kernel
theorem dX9_init_33 : decode cX9_init 33 = .ok (.putfield 19, 3) := by decide +kernel
theorem dX9_init_36 : decode cX9_init 36 = .ok (.aload_n 0, 1) := by decide +kernel
theorem dX9_init_37 : decode cX9_init 37 = .ok (.sipush 400, 3) := by decide +kernel
theorem dX9_init_40 : decode cX9_init 40 = .ok (.newarray .int, 2) := by decide +kernel
theorem dX9_init_42 : decode cX9_init 42 = .ok (.putfield 22, 3) := by decide +kernel
theorem dX9_init_45 : decode cX9_init 45 = .ok (.aload_n 0, 1) := by decide +kernel
theorem dX9_init_46 : decode cX9_init 46 = .ok (.sipush 400, 3) := by decide +kernel
theorem dX9_init_49 : decode cX9_init 49 = .ok (.newarray .int, 2) := by decide +kernel
theorem dX9_init_51 : decode cX9_init 51 = .ok (.putfield 25, 3) := by decide +kernel
theorem dX9_init_54 : decode cX9_init 54 = .ok (.aload_n 0, 1) := by decide +kernel
theorem dX9_init_55 : decode cX9_init 55 = .ok (.bipush 10, 2) := by decide +kernel
theorem dX9_init_57 : decode cX9_init 57 = .ok (.newarray .int, 2) := by decide +kernel
theorem dX9_init_59 : decode cX9_init 59 = .ok (.putfield 28, 3) := by decide +kernel
theorem dX9_init_62 : decode cX9_init 62 = .ok (.aload_n 0, 1) := by decide +kernel
theorem dX9_init_63 : decode cX9_init 63 = .ok (.bipush 16, 2) := by decide +kernel
theorem dX9_init_65 : decode cX9_init 65 = .ok (.newarray .int, 2) := by decide +kernel
theorem dX9_init_67 : decode cX9_init 67 = .ok (.putfield 31, 3) := by decide +kernel
theorem dX9_init_70 : decode cX9_init 70 = .ok (.aload_n 0, 1) := by decide +kernel
theorem dX9_init_71 : decode cX9_init 71 = .ok (.iconst 2, 1) := by decide +kernel
theorem dX9_init_72 : decode cX9_init 72 = .ok (.putfield 34, 3) := by decide +kernel
theorem dX9_init_75 : decode cX9_init 75 = .ok (.aload_n 0, 1) := by decide +kernel
theorem dX9_init_76 : decode cX9_init 76 = .ok (.iconst 2, 1) := by decide +kernel
theorem dX9_init_77 : decode cX9_init 77 = .ok (.newarray .int, 2) := by decide +kernel
theorem dX9_init_79 : decode cX9_init 79 = .ok (.putfield 38, 3) := by decide +kernel
theorem dX9_init_82 : decode cX9_init 82 = .ok (.aload_n 0, 1) := by decide +kernel
theorem dX9_init_83 : decode cX9_init 83 = .ok (.sipush 256, 3) := by decide +kernel
theorem dX9_init_86 : decode cX9_init 86 = .ok (.newarray .int, 2) := by decide +kernel
theorem dX9_init_88 : decode cX9_init 88 = .ok (.putfield 41, 3) := by decide +kernel
theorem dX9_init_91 : decode cX9_init 91 = .ok (.aload_n 0, 1) := by decide +kernel
theorem dX9_init_92 : decode cX9_init 92 = .ok (.bipush 32, 2) := by decide +kernel
theorem dX9_init_94 : decode cX9_init 94 = .ok (.newarray .int, 2) := by decide +kernel
theorem dX9_init_96 : decode cX9_init 96 = .ok (.putfield 44, 3) := by decide +kernel
theorem dX9_init_99 : decode cX9_init 99 = .ok (.aload_n 0, 1) := by decide +kernel
theorem dX9_init_100 : decode cX9_init 100 = .ok (.iconst 2, 1) := by decide +kernel
theorem dX9_init_101 : decode cX9_init 101 = .ok (.newarray .int, 2) := by decide +kernel
theorem dX9_init_103 : decode cX9_init 103 = .ok (.putfield 47, 3) := by decide +kernel
theorem dX9_init_106 : decode cX9_init 106 = .ok (.aload_n 0, 1) := by decide +kernel
theorem dX9_init_107 : decode cX9_init 107 = .ok (.iconst 2, 1) := by decide +kernel
theorem dX9_init_108 : decode cX9_init 108 = .ok (.newarray .int, 2) := by decide +kernel
theorem dX9_init_110 : decode cX9_init 110 = .ok (.putfield 50, 3) := by decide +kernel
theorem dX9_init_113 : decode cX9_init 113 = .ok (.aload_n 0, 1) := by decide +kernel
theorem dX9_init_114 : decode cX9_init 114 = .ok (.bipush 30, 2) := by decide +kernel
theorem dX9_init_116 : decode cX9_init 116 = .ok (.newarray .int, 2) := by decide +kernel
theorem dX9_init_118 : decode cX9_init 118 = .ok (.putfield 53, 3) := by decide +kernel
theorem dX9_init_121 : decode cX9_init 121 = .ok (.aload_n 0, 1) := by decide +kernel
theorem dX9_init_122 : decode cX9_init 122 = .ok (.bipush 16, 2) := by decide +kernel
theorem dX9_init_124 : decode cX9_init 124 = .ok (.newarray .int, 2) := by decide +kernel
theorem dX9_init_126 : decode cX9_init 126 = .ok (.putfield 56, 3) := by decide +kernel
theorem dX9_init_129 : decode cX9_init 129 = .ok (.aload_n 0, 1) := by decide +kernel
theorem dX9_init_130 : decode cX9_init 130 = .ok (.iconst 2, 1) := by decide +kernel
theorem dX9_init_131 : decode cX9_init 131 = .ok (.newarray .int, 2) := by decide +kernel
theorem dX9_init_133 : decode cX9_init 133 = .ok (.putfield 59, 3) := by decide +kernel
theorem dX9_init_136 : decode cX9_init 136 = .ok (.aload_n 0, 1) := by decide +kernel
theorem dX9_init_137 : decode cX9_init 137 = .ok (.bipush 6, 2) := by decide +kernel
theorem dX9_init_139 : decode cX9_init 139 = .ok (.newarray .int, 2) := by decide +kernel
theorem dX9_init_141 : decode cX9_init 141 = .ok (.putfield 62, 3) := by decide +kernel
theorem dX9_init_144 : decode cX9_init 144 = .ok (.iconst 0, 1) := by decide +kernel
theorem dX9_init_145 : decode cX9_init 145 = .ok (.istore_n 1, 1) := by decide +kernel
theorem dX9_init_146 : decode cX9_init 146 = .ok (.iload_n 1, 1) := by decide +kernel
theorem dX9_init_147 : decode cX9_init 147 = .ok (.bipush 16, 2) := by decide +kernel
theorem dX9_init_149 : decode cX9_init 149 = .ok (.if_icmp .ge 17, 3) := by decide +kernel
theorem dX9_init_152 : decode cX9_init 152 = .ok (.aload_n 0, 1) := by decide +kernel
theorem dX9_init_153 : decode cX9_init 153 = .ok (.getfield 31, 3) := by decide +kernel
theorem dX9_init_156 : decode cX9_init 156 = .ok (.iload_n 1, 1) := by decide +kernel
theorem dX9_init_157 : decode cX9_init 157 = .ok (.bipush 8, 2) := by decide +kernel
theorem dX9_init_159 : decode cX9_init 159 = .ok (.iastore, 1) := by decide +kernel
theorem dX9_init_160 : decode cX9_init 160 = .ok (.iinc 1 1, 3) := by decide +kernel
theorem dX9_init_163 : decode cX9_init 163 = .ok (.goto (-17), 3) := by decide +kernel
theorem dX9_init_166 : decode cX9_init 166 = .ok (.return_, 1) := by decide +kernel
theorem dX9_within_0 : decode cX9_within 0 = .ok (.iload_n 0, 1) := by decide +kernel
theorem dX9_within_1 : decode cX9_within 1 = .ok (.iload_n 1, 1) := by decide +kernel
theorem dX9_within_2 : decode cX9_within 2 = .ok (.if_icmp .lt 12, 3) := by decide +kernel
theorem dX9_within_5 : decode cX9_within 5 = .ok (.iload_n 0, 1) := by decide +kernel
theorem dX9_within_6 : decode cX9_within 6 = .ok (.iload_n 2, 1) := by decide +kernel
theorem dX9_within_7 : decode cX9_within 7 = .ok (.if_icmp .gt 7, 3) := by decide +kernel
theorem dX9_within_10 : decode cX9_within 10 = .ok (.iconst 1, 1) := by decide +kernel
theorem dX9_within_11 : decode cX9_within 11 = .ok (.goto 4, 3) := by decide +kernel
theorem dX9_within_14 : decode cX9_within 14 = .ok (.iconst 0, 1) := by decide +kernel
theorem dX9_within_15 : decode cX9_within 15 = .ok (.ireturn, 1) := by decide +kernel
set_option maxRecDepth 20000 in
theorem ggX9_letter_X9_within : GoodIn wsX9_letter wsX9_within := goodIn_r _ [6] (by decide +kernel) (by decide +kernel)
set_option maxRecDepth 20000 in
theorem gX9_letter_X9_within : GoodIn wsX9_letter (va_wsS RX9 65 yX9_within wsX9_within) := goodIn_app (goodIn_of _ (by decide +kernel)) ggX9_letter_X9_within
theorem dX9_letter_0 : decode cX9_letter 0 = .ok (.iload_n 1, 1) := by decide +kernel
theorem dX9_letter_1 : decode cX9_letter 1 = .ok (.bipush 32, 2) := by decide +kernel
theorem dX9_letter_3 : decode cX9_letter 3 = .ok (.bipush 126, 2) := by decide +kernel
theorem dX9_letter_5 : decode cX9_letter 5 = .ok (.invokestatic 65, 3) := by decide +kernel
theorem dX9_letter_8 : decode cX9_letter 8 = .ok (.ifCond .ne 7, 3) := by decide +kernel
theorem dX9_letter_11 : decode cX9_letter 11 = .ok (.sipush (-1002), 3) := by decide +kernel
theorem dX9_letter_14 : decode cX9_letter 14 = .ok (.ireturn, 1) := by decide +kernel
theorem dX9_letter_15 : decode cX9_letter 15 = .ok (.aload_n 0, 1) := by decide +kernel
theorem dX9_letter_16 : decode cX9_letter 16 = .ok (.getfield 69, 3) := by decide +kernel
theorem dX9_letter_19 : decode cX9_letter 19 = .ok (.bipush 30, 2) := by decide +kernel
theorem dX9_letter_21 : decode cX9_letter 21 = .ok (.if_icmp .ne 7, 3) := by decide +kernel
theorem dX9_letter_24 : decode cX9_letter 24 = .ok (.sipush (-1004), 3) := by decide +kernel
theorem dX9_letter_27 : decode cX9_letter 27 = .ok (.ireturn, 1) := by decide +kernel
theorem dX9_letter_28 : decode cX9_letter 28 = .ok (.aload_n 0, 1) := by decide +kernel
theorem dX9_letter_29 : decode cX9_letter 29 = .ok (.getfield 53, 3) := by decide +kernel
theorem dX9_letter_32 : decode cX9_letter 32 = .ok (.aload_n 0, 1) := by decide +kernel
theorem dX9_letter_33 : decode cX9_letter 33 = .ok (.getfield 69, 3) := by decide +kernel
theorem dX9_letter_36 : decode cX9_letter 36 = .ok (.iload_n 1, 1) := by decide +kernel
theorem dX9_letter_37 : decode cX9_letter 37 = .ok (.iastore, 1) := by decide +kernel
theorem dX9_letter_38 : decode cX9_letter 38 = .ok (.aload_n 0, 1) := by decide +kernel
theorem dX9_letter_39 : decode cX9_letter 39 = .ok (.dup, 1) := by decide +kernel
theorem dX9_letter_40 : decode cX9_letter 40 = .ok (.getfield 69, 3) := by decide +kernel
theorem dX9_letter_43 : decode cX9_letter 43 = .ok (.iconst 1, 1) := by decide +kernel
theorem dX9_letter_44 : decode cX9_letter 44 = .ok (.iadd, 1) := by decide +kernel
theorem dX9_letter_45 : decode cX9_letter 45 = .ok (.putfield 69, 3) := by decide +kernel
theorem dX9_letter_48 : decode cX9_letter 48 = .ok (.aload_n 0, 1) := by decide +kernel
theorem dX9_letter_49 : decode cX9_letter 49 = .ok (.getfield 69, 3) := by decide +kernel
theorem dX9_letter_52 : decode cX9_letter 52 = .ok (.ireturn, 1) := by decide +kernel
theorem dX9_blank_0 : decode cX9_blank 0 = .ok (.aload_n 0, 1) := by decide +kernel
theorem dX9_blank_1 : decode cX9_blank 1 = .ok (.getfield 69, 3) := by decide +kernel
theorem dX9_blank_4 : decode cX9_blank 4 = .ok (.istore_n 1, 1) := by decide +kernel
theorem dX9_blank_5 : decode cX9_blank 5 = .ok (.aload_n 0, 1) := by decide +kernel
theorem dX9_blank_6 : decode cX9_blank 6 = .ok (.iconst 0, 1) := by decide +kernel
theorem dX9_blank_7 : decode cX9_blank 7 = .ok (.putfield 69, 3) := by decide +kernel
theorem dX9_blank_10 : decode cX9_blank 10 = .ok (.iload_n 1, 1) := by decide +kernel
theorem dX9_blank_11 : decode cX9_blank 11 = .ok (.ireturn, 1) := by decide +kernel
set_option maxRecDepth 20000 in
theorem ggX9_sixteenth_X9_within : GoodIn wsX9_sixteenth wsX9_within := goodIn_r _ [4] (by decide +kernel) (by decide +kernel)
set_option maxRecDepth 20000 in
theorem gX9_sixteenth_X9_within : GoodIn wsX9_sixteenth (va_wsS RX9 65 yX9_within wsX9_within) := goodIn_app (goodIn_of _ (by decide +kernel)) ggX9_sixteenth_X9_within
theorem dX9_sixteenth_0 : decode cX9_sixteenth 0 = .ok (.iload_n 0, 1) := by decide +kernel
theorem dX9_sixteenth_1 : decode cX9_sixteenth 1 = .ok (.bipush 48, 2) := by decide +kernel
theorem dX9_sixteenth_3 : decode cX9_sixteenth 3 = .ok (.bipush 57, 2) := by decide +kernel
theorem dX9_sixteenth_5 : decode cX9_sixteenth 5 = .ok (.invokestatic 65, 3) := by decide +kernel
theorem dX9_sixteenth_8 : decode cX9_sixteenth 8 = .ok (.ifCond .eq 10, 3) := by decide +kernel
theorem dX9_sixteenth_11 : decode cX9_sixteenth 11 = .ok (.iload_n 0, 1) := by decide +kernel
theorem dX9_sixteenth_12 : decode cX9_sixteenth 12 = .ok (.bipush 48, 2) := by decide +kernel
theorem dX9_sixteenth_14 : decode cX9_sixteenth 14 = .ok (.isub, 1) := by decide +kernel
theorem dX9_sixteenth_15 : decode cX9_sixteenth 15 = .ok (.goto 25, 3) := by decide +kernel
theorem dX9_sixteenth_18 : decode cX9_sixteenth 18 = .ok (.iload_n 0, 1) := by decide +kernel
theorem dX9_sixteenth_19 : decode cX9_sixteenth 19 = .ok (.bipush 97, 2) := by decide +kernel
theorem dX9_sixteenth_21 : decode cX9_sixteenth 21 = .ok (.bipush 102, 2) := by decide +kernel
theorem dX9_sixteenth_23 : decode cX9_sixteenth 23 = .ok (.invokestatic 65, 3) := by decide +kernel
theorem dX9_sixteenth_26 : decode cX9_sixteenth 26 = .ok (.ifCond .eq 13, 3) := by decide +kernel
theorem dX9_sixteenth_29 : decode cX9_sixteenth 29 = .ok (.iload_n 0, 1) := by decide +kernel
theorem dX9_sixteenth_30 : decode cX9_sixteenth 30 = .ok (.bipush 97, 2) := by decide +kernel
theorem dX9_sixteenth_32 : decode cX9_sixteenth 32 = .ok (.isub, 1) := by decide +kernel
theorem dX9_sixteenth_33 : decode cX9_sixteenth 33 = .ok (.bipush 10, 2) := by decide +kernel
theorem dX9_sixteenth_35 : decode cX9_sixteenth 35 = .ok (.iadd, 1) := by decide +kernel
theorem dX9_sixteenth_36 : decode cX9_sixteenth 36 = .ok (.goto 4, 3) := by decide +kernel
theorem dX9_sixteenth_39 : decode cX9_sixteenth 39 = .ok (.iconst (-1), 1) := by decide +kernel
theorem dX9_sixteenth_40 : decode cX9_sixteenth 40 = .ok (.ireturn, 1) := by decide +kernel
set_option maxRecDepth 20000 in
theorem ggX9_takesQuality_X9_sixteenth : GoodIn wsX9_takesQuality wsX9_sixteenth := goodIn_r _ [5, 6, 7, 4, 8] (by decide +kernel) (by decide +kernel)
set_option maxRecDepth 20000 in
theorem gX9_takesQuality_X9_sixteenth : GoodIn wsX9_takesQuality (va_wsS RX9 72 yX9_sixteenth wsX9_sixteenth) := goodIn_app (goodIn_of _ (by decide +kernel)) ggX9_takesQuality_X9_sixteenth
theorem dX9_takesQuality_0 : decode cX9_takesQuality 0 = .ok (.iload_n 1, 1) := by decide +kernel
theorem dX9_takesQuality_1 : decode cX9_takesQuality 1 = .ok (.bipush 8, 2) := by decide +kernel
theorem dX9_takesQuality_3 : decode cX9_takesQuality 3 = .ok (.if_icmp .ge 7, 3) := by decide +kernel
theorem dX9_takesQuality_6 : decode cX9_takesQuality 6 = .ok (.iload_n 1, 1) := by decide +kernel
theorem dX9_takesQuality_7 : decode cX9_takesQuality 7 = .ok (.goto 6, 3) := by decide +kernel
theorem dX9_takesQuality_10 : decode cX9_takesQuality 10 = .ok (.iload_n 1, 1) := by decide +kernel
theorem dX9_takesQuality_11 : decode cX9_takesQuality 11 = .ok (.iconst 1, 1) := by decide +kernel
theorem dX9_takesQuality_12 : decode cX9_takesQuality 12 = .ok (.isub, 1) := by decide +kernel
theorem dX9_takesQuality_13 : decode cX9_takesQuality 13 = .ok (.istore_n 3, 1) := by decide +kernel
theorem dX9_takesQuality_14 : decode cX9_takesQuality 14 = .ok (.aload_n 0, 1) := by decide +kernel
theorem dX9_takesQuality_15 : decode cX9_takesQuality 15 = .ok (.getfield 56, 3) := by decide +kernel
theorem dX9_takesQuality_18 : decode cX9_takesQuality 18 = .ok (.iload_n 3, 1) := by decide +kernel
theorem dX9_takesQuality_19 : decode cX9_takesQuality 19 = .ok (.iload_n 2, 1) := by decide +kernel
theorem dX9_takesQuality_20 : decode cX9_takesQuality 20 = .ok (.invokestatic 72, 3) := by decide +kernel
theorem dX9_takesQuality_23 : decode cX9_takesQuality 23 = .ok (.iastore, 1) := by decide +kernel
theorem dX9_takesQuality_24 : decode cX9_takesQuality 24 = .ok (.aload_n 0, 1) := by decide +kernel
theorem dX9_takesQuality_25 : decode cX9_takesQuality 25 = .ok (.getfield 56, 3) := by decide +kernel
theorem dX9_takesQuality_28 : decode cX9_takesQuality 28 = .ok (.iload_n 3, 1) := by decide +kernel
theorem dX9_takesQuality_29 : decode cX9_takesQuality 29 = .ok (.iaload, 1) := by decide +kernel
theorem dX9_takesQuality_30 : decode cX9_takesQuality 30 = .ok (.iconst (-1), 1) := by decide +kernel
theorem dX9_takesQuality_31 : decode cX9_takesQuality 31 = .ok (.if_icmp .eq 7, 3) := by decide +kernel
theorem dX9_takesQuality_34 : decode cX9_takesQuality 34 = .ok (.iconst 1, 1) := by decide +kernel
theorem dX9_takesQuality_35 : decode cX9_takesQuality 35 = .ok (.goto 4, 3) := by decide +kernel
theorem dX9_takesQuality_38 : decode cX9_takesQuality 38 = .ok (.iconst 0, 1) := by decide +kernel
theorem dX9_takesQuality_39 : decode cX9_takesQuality 39 = .ok (.ireturn, 1) := by decide +kernel
set_option maxRecDepth 20000 in
theorem ggX9_takesHurt_X9_within : GoodIn wsX9_takesHurt wsX9_within := goodIn_r _ [7] (by decide +kernel) (by decide +kernel)
set_option maxRecDepth 20000 in
theorem gX9_takesHurt_X9_within : GoodIn wsX9_takesHurt (va_wsS RX9 65 yX9_within wsX9_within) := goodIn_app (goodIn_of _ (by decide +kernel)) ggX9_takesHurt_X9_within
theorem dX9_takesHurt_0 : decode cX9_takesHurt 0 = .ok (.iload_n 1, 1) := by decide +kernel
theorem dX9_takesHurt_1 : decode cX9_takesHurt 1 = .ok (.bipush 48, 2) := by decide +kernel
theorem dX9_takesHurt_3 : decode cX9_takesHurt 3 = .ok (.bipush 57, 2) := by decide +kernel
theorem dX9_takesHurt_5 : decode cX9_takesHurt 5 = .ok (.invokestatic 65, 3) := by decide +kernel
theorem dX9_takesHurt_8 : decode cX9_takesHurt 8 = .ok (.ifCond .eq 94, 3) := by decide +kernel
theorem dX9_takesHurt_11 : decode cX9_takesHurt 11 = .ok (.aload_n 0, 1) := by decide +kernel
theorem dX9_takesHurt_12 : decode cX9_takesHurt 12 = .ok (.getfield 76, 3) := by decide +kernel
theorem dX9_takesHurt_15 : decode cX9_takesHurt 15 = .ok (.iconst (-1), 1) := by decide +kernel
theorem dX9_takesHurt_16 : decode cX9_takesHurt 16 = .ok (.if_icmp .ne 10, 3) := by decide +kernel
theorem dX9_takesHurt_19 : decode cX9_takesHurt 19 = .ok (.iload_n 1, 1) := by decide +kernel
theorem dX9_takesHurt_20 : decode cX9_takesHurt 20 = .ok (.bipush 48, 2) := by decide +kernel
theorem dX9_takesHurt_22 : decode cX9_takesHurt 22 = .ok (.isub, 1) := by decide +kernel
theorem dX9_takesHurt_23 : decode cX9_takesHurt 23 = .ok (.goto 15, 3) := by decide +kernel
theorem dX9_takesHurt_26 : decode cX9_takesHurt 26 = .ok (.bipush 10, 2) := by decide +kernel
theorem dX9_takesHurt_28 : decode cX9_takesHurt 28 = .ok (.aload_n 0, 1) := by decide +kernel
theorem dX9_takesHurt_29 : decode cX9_takesHurt 29 = .ok (.getfield 76, 3) := by decide +kernel
theorem dX9_takesHurt_32 : decode cX9_takesHurt 32 = .ok (.imul, 1) := by decide +kernel
theorem dX9_takesHurt_33 : decode cX9_takesHurt 33 = .ok (.iload_n 1, 1) := by decide +kernel
theorem dX9_takesHurt_34 : decode cX9_takesHurt 34 = .ok (.iadd, 1) := by decide +kernel
theorem dX9_takesHurt_35 : decode cX9_takesHurt 35 = .ok (.bipush 48, 2) := by decide +kernel
theorem dX9_takesHurt_37 : decode cX9_takesHurt 37 = .ok (.isub, 1) := by decide +kernel
theorem dX9_takesHurt_38 : decode cX9_takesHurt 38 = .ok (.istore_n 2, 1) := by decide +kernel
theorem dX9_takesHurt_39 : decode cX9_takesHurt 39 = .ok (.aload_n 0, 1) := by decide +kernel
theorem dX9_takesHurt_40 : decode cX9_takesHurt 40 = .ok (.getfield 76, 3) := by decide +kernel
theorem dX9_takesHurt_43 : decode cX9_takesHurt 43 = .ok (.ifCond .eq 13, 3) := by decide +kernel
theorem dX9_takesHurt_46 : decode cX9_takesHurt 46 = .ok (.iload_n 2, 1) := by decide +kernel
theorem dX9_takesHurt_47 : decode cX9_takesHurt 47 = .ok (.bipush 50, 2) := by decide +kernel
theorem dX9_takesHurt_49 : decode cX9_takesHurt 49 = .ok (.if_icmp .gt 7, 3) := by decide +kernel
theorem dX9_takesHurt_52 : decode cX9_takesHurt 52 = .ok (.iconst 1, 1) := by decide +kernel
theorem dX9_takesHurt_53 : decode cX9_takesHurt 53 = .ok (.goto 4, 3) := by decide +kernel
theorem dX9_takesHurt_56 : decode cX9_takesHurt 56 = .ok (.iconst 0, 1) := by decide +kernel
theorem dX9_takesHurt_57 : decode cX9_takesHurt 57 = .ok (.istore_n 3, 1) := by decide +kernel
theorem dX9_takesHurt_58 : decode cX9_takesHurt 58 = .ok (.aload_n 0, 1) := by decide +kernel
theorem dX9_takesHurt_59 : decode cX9_takesHurt 59 = .ok (.iload_n 3, 1) := by decide +kernel
theorem dX9_takesHurt_60 : decode cX9_takesHurt 60 = .ok (.ifCond .eq 7, 3) := by decide +kernel
theorem dX9_takesHurt_63 : decode cX9_takesHurt 63 = .ok (.iload_n 2, 1) := by decide +kernel
theorem dX9_takesHurt_64 : decode cX9_takesHurt 64 = .ok (.goto 7, 3) := by decide +kernel
theorem dX9_takesHurt_67 : decode cX9_takesHurt 67 = .ok (.aload_n 0, 1) := by decide +kernel
theorem dX9_takesHurt_68 : decode cX9_takesHurt 68 = .ok (.getfield 76, 3) := by decide +kernel
theorem dX9_takesHurt_71 : decode cX9_takesHurt 71 = .ok (.putfield 76, 3) := by decide +kernel
theorem dX9_takesHurt_74 : decode cX9_takesHurt 74 = .ok (.aload_n 0, 1) := by decide +kernel
theorem dX9_takesHurt_75 : decode cX9_takesHurt 75 = .ok (.getfield 59, 3) := by decide +kernel
theorem dX9_takesHurt_78 : decode cX9_takesHurt 78 = .ok (.aload_n 0, 1) := by decide +kernel
theorem dX9_takesHurt_79 : decode cX9_takesHurt 79 = .ok (.getfield 79, 3) := by decide +kernel
theorem dX9_takesHurt_82 : decode cX9_takesHurt 82 = .ok (.iload_n 3, 1) := by decide +kernel
theorem dX9_takesHurt_83 : decode cX9_takesHurt 83 = .ok (.ifCond .eq 7, 3) := by decide +kernel
theorem dX9_takesHurt_86 : decode cX9_takesHurt 86 = .ok (.iload_n 2, 1) := by decide +kernel
theorem dX9_takesHurt_87 : decode cX9_takesHurt 87 = .ok (.goto 12, 3) := by decide +kernel
theorem dX9_takesHurt_90 : decode cX9_takesHurt 90 = .ok (.aload_n 0, 1) := by decide +kernel
theorem dX9_takesHurt_91 : decode cX9_takesHurt 91 = .ok (.getfield 59, 3) := by decide +kernel
theorem dX9_takesHurt_94 : decode cX9_takesHurt 94 = .ok (.aload_n 0, 1) := by decide +kernel
theorem dX9_takesHurt_95 : decode cX9_takesHurt 95 = .ok (.getfield 79, 3) := by decide +kernel
theorem dX9_takesHurt_98 : decode cX9_takesHurt 98 = .ok (.iaload, 1) := by decide +kernel
theorem dX9_takesHurt_99 : decode cX9_takesHurt 99 = .ok (.iastore, 1) := by decide +kernel
theorem dX9_takesHurt_100 : decode cX9_takesHurt 100 = .ok (.iload_n 3, 1) := by decide +kernel
theorem dX9_takesHurt_101 : decode cX9_takesHurt 101 = .ok (.ireturn, 1) := by decide +kernel
theorem dX9_takesHurt_102 : decode cX9_takesHurt 102 = .ok (.iload_n 1, 1) := by decide +kernel
theorem dX9_takesHurt_103 : decode cX9_takesHurt 103 = .ok (.bipush 44, 2) := by decide +kernel
theorem dX9_takesHurt_105 : decode cX9_takesHurt 105 = .ok (.if_icmp .ne 22, 3) := by decide +kernel
theorem dX9_takesHurt_108 : decode cX9_takesHurt 108 = .ok (.aload_n 0, 1) := by decide +kernel
theorem dX9_takesHurt_109 : decode cX9_takesHurt 109 = .ok (.getfield 79, 3) := by decide +kernel
theorem dX9_takesHurt_112 : decode cX9_takesHurt 112 = .ok (.ifCond .ne 15, 3) := by decide +kernel
theorem dX9_takesHurt_115 : decode cX9_takesHurt 115 = .ok (.aload_n 0, 1) := by decide +kernel
theorem dX9_takesHurt_116 : decode cX9_takesHurt 116 = .ok (.getfield 76, 3) := by decide +kernel
theorem dX9_takesHurt_119 : decode cX9_takesHurt 119 = .ok (.iconst (-1), 1) := by decide +kernel
theorem dX9_takesHurt_120 : decode cX9_takesHurt 120 = .ok (.if_icmp .eq 7, 3) := by decide +kernel
theorem dX9_takesHurt_123 : decode cX9_takesHurt 123 = .ok (.iconst 1, 1) := by decide +kernel
theorem dX9_takesHurt_124 : decode cX9_takesHurt 124 = .ok (.goto 4, 3) := by decide +kernel
theorem dX9_takesHurt_127 : decode cX9_takesHurt 127 = .ok (.iconst 0, 1) := by decide +kernel
theorem dX9_takesHurt_128 : decode cX9_takesHurt 128 = .ok (.istore_n 2, 1) := by decide +kernel
theorem dX9_takesHurt_129 : decode cX9_takesHurt 129 = .ok (.aload_n 0, 1) := by decide +kernel
theorem dX9_takesHurt_130 : decode cX9_takesHurt 130 = .ok (.iload_n 2, 1) := by decide +kernel
theorem dX9_takesHurt_131 : decode cX9_takesHurt 131 = .ok (.ifCond .eq 7, 3) := by decide +kernel
theorem dX9_takesHurt_134 : decode cX9_takesHurt 134 = .ok (.iconst 1, 1) := by decide +kernel
theorem dX9_takesHurt_135 : decode cX9_takesHurt 135 = .ok (.goto 7, 3) := by decide +kernel
theorem dX9_takesHurt_138 : decode cX9_takesHurt 138 = .ok (.aload_n 0, 1) := by decide +kernel
theorem dX9_takesHurt_139 : decode cX9_takesHurt 139 = .ok (.getfield 79, 3) := by decide +kernel
theorem dX9_takesHurt_142 : decode cX9_takesHurt 142 = .ok (.putfield 79, 3) := by decide +kernel
theorem dX9_takesHurt_145 : decode cX9_takesHurt 145 = .ok (.aload_n 0, 1) := by decide +kernel
theorem dX9_takesHurt_146 : decode cX9_takesHurt 146 = .ok (.iload_n 2, 1) := by decide +kernel
theorem dX9_takesHurt_147 : decode cX9_takesHurt 147 = .ok (.ifCond .eq 7, 3) := by decide +kernel
theorem dX9_takesHurt_150 : decode cX9_takesHurt 150 = .ok (.iconst (-1), 1) := by decide +kernel
theorem dX9_takesHurt_151 : decode cX9_takesHurt 151 = .ok (.goto 7, 3) := by decide +kernel
theorem dX9_takesHurt_154 : decode cX9_takesHurt 154 = .ok (.aload_n 0, 1) := by decide +kernel
theorem dX9_takesHurt_155 : decode cX9_takesHurt 155 = .ok (.getfield 76, 3) := by decide +kernel
theorem dX9_takesHurt_158 : decode cX9_takesHurt 158 = .ok (.putfield 76, 3) := by decide +kernel
theorem dX9_takesHurt_161 : decode cX9_takesHurt 161 = .ok (.iload_n 2, 1) := by decide +kernel
theorem dX9_takesHurt_162 : decode cX9_takesHurt 162 = .ok (.ireturn, 1) := by decide +kernel
set_option maxRecDepth 20000 in
theorem ggX9_takes_X9_takesQuality : GoodIn wsX9_takes wsX9_takesQuality := goodIn_r _ [7, 8, 9, 10, 6, 11, 12, 13, 14, 21, 22, 23, 24, 25, 26, 27, 28, 29, 30, 31, 32, 33, 34, 35, 36, 37, 38, 39, 40, 41, 42, 43, 44, 45, 46, 47, 48, 49, 50] (by decide +kernel) (by decide +kernel)
set_option maxRecDepth 20000 in
theorem gX9_takes_X9_takesQuality : GoodIn wsX9_takes (wsV RX9 82 RX9 yX9_takesQuality wsX9_takesQuality) := goodIn_app (goodIn_of _ (by decide +kernel)) ggX9_takes_X9_takesQuality
set_option maxRecDepth 20000 in
theorem ggX9_takes_X9_within : GoodIn wsX9_takes wsX9_within := goodIn_r _ [14] (by decide +kernel) (by decide +kernel)
set_option maxRecDepth 20000 in
theorem gX9_takes_X9_within : GoodIn wsX9_takes (va_wsS RX9 65 yX9_within wsX9_within) := goodIn_app (goodIn_of _ (by decide +kernel)) ggX9_takes_X9_within
set_option maxRecDepth 20000 in
theorem ggX9_takes_X9_takesHurt : GoodIn wsX9_takes wsX9_takesHurt := goodIn_r _ [18, 19, 20, 2, 12, 13, 6, 14, 21, 22, 23, 24, 25, 26, 27, 28, 29, 30, 31, 32, 33, 34, 35, 36, 37, 38, 39, 40, 41, 42, 43, 44, 45, 46, 47, 48, 49, 50] (by decide +kernel) (by decide +kernel)
set_option maxRecDepth 20000 in
theorem gX9_takes_X9_takesHurt : GoodIn wsX9_takes (wsV RX9 89 RX9 yX9_takesHurt wsX9_takesHurt) := goodIn_app (goodIn_of _ (by decide +kernel)) ggX9_takes_X9_takesHurt
theorem dX9_takes_0 : decode cX9_takes 0 = .ok (.iload_n 1, 1) := by decide +kernel
theorem dX9_takes_1 : decode cX9_takes 1 = .ok (.bipush 8, 2) := by decide +kernel
theorem dX9_takes_3 : decode cX9_takes 3 = .ok (.if_icmp .ne 15, 3) := by decide +kernel
theorem dX9_takes_6 : decode cX9_takes 6 = .ok (.iload_n 2, 1) := by decide +kernel
theorem dX9_takes_7 : decode cX9_takes 7 = .ok (.bipush 47, 2) := by decide +kernel
theorem dX9_takes_9 : decode cX9_takes 9 = .ok (.if_icmp .ne 7, 3) := by decide +kernel
theorem dX9_takes_12 : decode cX9_takes 12 = .ok (.iconst 1, 1) := by decide +kernel
theorem dX9_takes_13 : decode cX9_takes 13 = .ok (.goto 4, 3) := by decide +kernel
theorem dX9_takes_16 : decode cX9_takes 16 = .ok (.iconst 0, 1) := by decide +kernel
theorem dX9_takes_17 : decode cX9_takes 17 = .ok (.ireturn, 1) := by decide +kernel
theorem dX9_takes_18 : decode cX9_takes 18 = .ok (.iload_n 1, 1) := by decide +kernel
theorem dX9_takes_19 : decode cX9_takes 19 = .ok (.bipush 17, 2) := by decide +kernel
theorem dX9_takes_21 : decode cX9_takes 21 = .ok (.if_icmp .ge 10, 3) := by decide +kernel
theorem dX9_takes_24 : decode cX9_takes 24 = .ok (.aload_n 0, 1) := by decide +kernel
theorem dX9_takes_25 : decode cX9_takes 25 = .ok (.iload_n 1, 1) := by decide +kernel
theorem dX9_takes_26 : decode cX9_takes 26 = .ok (.iload_n 2, 1) := by decide +kernel
theorem dX9_takes_27 : decode cX9_takes 27 = .ok (.invokevirtual 82, 3) := by decide +kernel
theorem dX9_takes_30 : decode cX9_takes 30 = .ok (.ireturn, 1) := by decide +kernel
theorem dX9_takes_31 : decode cX9_takes 31 = .ok (.iload_n 1, 1) := by decide +kernel
theorem dX9_takes_32 : decode cX9_takes 32 = .ok (.bipush 17, 2) := by decide +kernel
theorem dX9_takes_34 : decode cX9_takes 34 = .ok (.if_icmp .ne 15, 3) := by decide +kernel
theorem dX9_takes_37 : decode cX9_takes 37 = .ok (.iload_n 2, 1) := by decide +kernel
theorem dX9_takes_38 : decode cX9_takes 38 = .ok (.bipush 59, 2) := by decide +kernel
theorem dX9_takes_40 : decode cX9_takes 40 = .ok (.if_icmp .ne 7, 3) := by decide +kernel
theorem dX9_takes_43 : decode cX9_takes 43 = .ok (.iconst 1, 1) := by decide +kernel
theorem dX9_takes_44 : decode cX9_takes 44 = .ok (.goto 4, 3) := by decide +kernel
theorem dX9_takes_47 : decode cX9_takes 47 = .ok (.iconst 0, 1) := by decide +kernel
theorem dX9_takes_48 : decode cX9_takes 48 = .ok (.ireturn, 1) := by decide +kernel
theorem dX9_takes_49 : decode cX9_takes 49 = .ok (.iload_n 1, 1) := by decide +kernel
theorem dX9_takes_50 : decode cX9_takes 50 = .ok (.bipush 18, 2) := by decide +kernel
theorem dX9_takes_52 : decode cX9_takes 52 = .ok (.if_icmp .ne 22, 3) := by decide +kernel
theorem dX9_takes_55 : decode cX9_takes 55 = .ok (.aload_n 0, 1) := by decide +kernel
theorem dX9_takes_56 : decode cX9_takes 56 = .ok (.iload_n 2, 1) := by decide +kernel
theorem dX9_takes_57 : decode cX9_takes 57 = .ok (.bipush 48, 2) := by decide +kernel
theorem dX9_takes_59 : decode cX9_takes 59 = .ok (.isub, 1) := by decide +kernel
theorem dX9_takes_60 : decode cX9_takes 60 = .ok (.putfield 86, 3) := by decide +kernel
theorem dX9_takes_63 : decode cX9_takes 63 = .ok (.aload_n 0, 1) := by decide +kernel
theorem dX9_takes_64 : decode cX9_takes 64 = .ok (.getfield 86, 3) := by decide +kernel
theorem dX9_takes_67 : decode cX9_takes 67 = .ok (.iconst 1, 1) := by decide +kernel
theorem dX9_takes_68 : decode cX9_takes 68 = .ok (.bipush 8, 2) := by decide +kernel
theorem dX9_takes_70 : decode cX9_takes 70 = .ok (.invokestatic 65, 3) := by decide +kernel
theorem dX9_takes_73 : decode cX9_takes 73 = .ok (.ireturn, 1) := by decide +kernel
theorem dX9_takes_74 : decode cX9_takes 74 = .ok (.iload_n 1, 1) := by decide +kernel
theorem dX9_takes_75 : decode cX9_takes 75 = .ok (.bipush 19, 2) := by decide +kernel
theorem dX9_takes_77 : decode cX9_takes 77 = .ok (.if_icmp .ne 20, 3) := by decide +kernel
theorem dX9_takes_80 : decode cX9_takes 80 = .ok (.aload_n 0, 1) := by decide +kernel
theorem dX9_takes_81 : decode cX9_takes 81 = .ok (.iconst 0, 1) := by decide +kernel
theorem dX9_takes_82 : decode cX9_takes 82 = .ok (.putfield 79, 3) := by decide +kernel
theorem dX9_takes_85 : decode cX9_takes 85 = .ok (.iload_n 2, 1) := by decide +kernel
theorem dX9_takes_86 : decode cX9_takes 86 = .ok (.bipush 104, 2) := by decide +kernel
theorem dX9_takes_88 : decode cX9_takes 88 = .ok (.if_icmp .ne 7, 3) := by decide +kernel
theorem dX9_takes_91 : decode cX9_takes 91 = .ok (.iconst 1, 1) := by decide +kernel
theorem dX9_takes_92 : decode cX9_takes 92 = .ok (.goto 4, 3) := by decide +kernel
theorem dX9_takes_95 : decode cX9_takes 95 = .ok (.iconst 0, 1) := by decide +kernel
theorem dX9_takes_96 : decode cX9_takes 96 = .ok (.ireturn, 1) := by decide +kernel
theorem dX9_takes_97 : decode cX9_takes 97 = .ok (.aload_n 0, 1) := by decide +kernel
theorem dX9_takes_98 : decode cX9_takes 98 = .ok (.iload_n 2, 1) := by decide +kernel
theorem dX9_takes_99 : decode cX9_takes 99 = .ok (.invokevirtual 89, 3) := by decide +kernel
theorem dX9_takes_102 : decode cX9_takes 102 = .ok (.ireturn, 1) := by decide +kernel
set_option maxRecDepth 20000 in
theorem ggX9_read_X9_takes : GoodIn wsX9_read wsX9_takes := goodIn_r _ [10, 11, 2, 12, 13, 14, 9, 15, 16, 17, 18, 19, 20, 21, 22, 23, 24, 25, 26, 3, 1, 27, 28, 29, 30, 31, 32, 33, 34, 35, 36, 37, 38, 39, 40, 41, 42, 43, 44, 45, 46, 47, 48, 49, 50, 51, 52, 53, 54, 55, 56] (by decide +kernel) (by decide +kernel)
set_option maxRecDepth 20000 in
theorem gX9_read_X9_takes : GoodIn wsX9_read (wsV RX9 93 RX9 yX9_takes wsX9_takes) := goodIn_app (goodIn_of _ (by decide +kernel)) ggX9_read_X9_takes
theorem dX9_read_0 : decode cX9_read 0 = .ok (.aload_n 0, 1) := by decide +kernel
theorem dX9_read_1 : decode cX9_read 1 = .ok (.getfield 59, 3) := by decide +kernel
theorem dX9_read_4 : decode cX9_read 4 = .ok (.iconst 0, 1) := by decide +kernel
theorem dX9_read_5 : decode cX9_read 5 = .ok (.iconst 0, 1) := by decide +kernel
theorem dX9_read_6 : decode cX9_read 6 = .ok (.iastore, 1) := by decide +kernel
theorem dX9_read_7 : decode cX9_read 7 = .ok (.aload_n 0, 1) := by decide +kernel
theorem dX9_read_8 : decode cX9_read 8 = .ok (.getfield 59, 3) := by decide +kernel
theorem dX9_read_11 : decode cX9_read 11 = .ok (.iconst 1, 1) := by decide +kernel
theorem dX9_read_12 : decode cX9_read 12 = .ok (.iconst 0, 1) := by decide +kernel
theorem dX9_read_13 : decode cX9_read 13 = .ok (.iastore, 1) := by decide +kernel
theorem dX9_read_14 : decode cX9_read 14 = .ok (.aload_n 0, 1) := by decide +kernel
theorem dX9_read_15 : decode cX9_read 15 = .ok (.iconst (-1), 1) := by decide +kernel
theorem dX9_read_16 : decode cX9_read 16 = .ok (.putfield 79, 3) := by decide +kernel
theorem dX9_read_19 : decode cX9_read 19 = .ok (.aload_n 0, 1) := by decide +kernel
theorem dX9_read_20 : decode cX9_read 20 = .ok (.iconst (-1), 1) := by decide +kernel
theorem dX9_read_21 : decode cX9_read 21 = .ok (.putfield 76, 3) := by decide +kernel
theorem dX9_read_24 : decode cX9_read 24 = .ok (.iconst 0, 1) := by decide +kernel
theorem dX9_read_25 : decode cX9_read 25 = .ok (.istore_n 1, 1) := by decide +kernel
theorem dX9_read_26 : decode cX9_read 26 = .ok (.iload_n 1, 1) := by decide +kernel
theorem dX9_read_27 : decode cX9_read 27 = .ok (.aload_n 0, 1) := by decide +kernel
theorem dX9_read_28 : decode cX9_read 28 = .ok (.getfield 69, 3) := by decide +kernel
theorem dX9_read_31 : decode cX9_read 31 = .ok (.if_icmp .ge 23, 3) := by decide +kernel
theorem dX9_read_34 : decode cX9_read 34 = .ok (.aload_n 0, 1) := by decide +kernel
theorem dX9_read_35 : decode cX9_read 35 = .ok (.iload_n 1, 1) := by decide +kernel
theorem dX9_read_36 : decode cX9_read 36 = .ok (.aload_n 0, 1) := by decide +kernel
theorem dX9_read_37 : decode cX9_read 37 = .ok (.getfield 53, 3) := by decide +kernel
theorem dX9_read_40 : decode cX9_read 40 = .ok (.iload_n 1, 1) := by decide +kernel
theorem dX9_read_41 : decode cX9_read 41 = .ok (.iaload, 1) := by decide +kernel
theorem dX9_read_42 : decode cX9_read 42 = .ok (.invokevirtual 93, 3) := by decide +kernel
theorem dX9_read_45 : decode cX9_read 45 = .ok (.ifCond .eq 9, 3) := by decide +kernel
theorem dX9_read_48 : decode cX9_read 48 = .ok (.iinc 1 1, 3) := by decide +kernel
theorem dX9_read_51 : decode cX9_read 51 = .ok (.goto (-25), 3) := by decide +kernel
theorem dX9_read_54 : decode cX9_read 54 = .ok (.iload_n 1, 1) := by decide +kernel
theorem dX9_read_55 : decode cX9_read 55 = .ok (.ireturn, 1) := by decide +kernel
set_option maxRecDepth 20000 in
theorem ggX9_fault_X9_read : GoodIn wsX9_fault wsX9_read := goodIn_r _ [5, 6, 7, 8, 9, 10, 11, 12, 13, 4, 14, 15, 16, 17, 18, 19, 20, 21, 22, 23, 24, 25, 26, 27, 28, 29, 30, 31, 32, 33, 34, 35, 36, 37, 38, 39, 40, 41, 42, 43, 44, 45, 46, 47, 48, 49, 50, 51, 52, 53, 54, 55, 56, 57, 58, 59, 60] (by decide +kernel) (by decide +kernel)
set_option maxRecDepth 20000 in
theorem gX9_fault_X9_read : GoodIn wsX9_fault (wsV RX9 96 RX9 yX9_read wsX9_read) := goodIn_app (goodIn_of _ (by decide +kernel)) ggX9_fault_X9_read
theorem dX9_fault_0 : decode cX9_fault 0 = .ok (.aload_n 0, 1) := by decide +kernel
theorem dX9_fault_1 : decode cX9_fault 1 = .ok (.invokevirtual 96, 3) := by decide +kernel
theorem dX9_fault_4 : decode cX9_fault 4 = .ok (.ireturn, 1) := by decide +kernel
set_option maxRecDepth 20000 in
theorem ggX9_line_X9_read : GoodIn wsX9_line wsX9_read := goodIn_r _ [15, 9, 2, 3, 1, 16, 17, 18, 19, 14, 20, 6, 21, 22, 23, 24, 5, 25, 26, 27, 28, 29, 30, 31, 32, 33, 34, 35, 36, 37, 38, 39, 40, 41, 42, 43, 44, 45, 46, 47, 48, 49, 50, 51, 52, 53, 54, 55, 56, 57, 58, 59, 60, 61, 62, 63, 64] (by decide +kernel) (by decide +kernel)
set_option maxRecDepth 20000 in
theorem gX9_line_X9_read : GoodIn wsX9_line (wsV RX9 96 RX9 yX9_read wsX9_read) := goodIn_app (goodIn_of _ (by decide +kernel)) ggX9_line_X9_read
theorem dX9_line_0 : decode cX9_line 0 = .ok (.aload_n 0, 1) := by decide +kernel
theorem dX9_line_1 : decode cX9_line 1 = .ok (.invokevirtual 96, 3) := by decide +kernel
theorem dX9_line_4 : decode cX9_line 4 = .ok (.aload_n 0, 1) := by decide +kernel
theorem dX9_line_5 : decode cX9_line 5 = .ok (.getfield 69, 3) := by decide +kernel
theorem dX9_line_8 : decode cX9_line 8 = .ok (.if_icmp .ne 41, 3) := by decide +kernel
theorem dX9_line_11 : decode cX9_line 11 = .ok (.aload_n 0, 1) := by decide +kernel
theorem dX9_line_12 : decode cX9_line 12 = .ok (.getfield 69, 3) := by decide +kernel
theorem dX9_line_15 : decode cX9_line 15 = .ok (.bipush 19, 2) := by decide +kernel
theorem dX9_line_17 : decode cX9_line 17 = .ok (.if_icmp .eq 28, 3) := by decide +kernel
theorem dX9_line_20 : decode cX9_line 20 = .ok (.aload_n 0, 1) := by decide +kernel
theorem dX9_line_21 : decode cX9_line 21 = .ok (.getfield 69, 3) := by decide +kernel
theorem dX9_line_24 : decode cX9_line 24 = .ok (.bipush 19, 2) := by decide +kernel
theorem dX9_line_26 : decode cX9_line 26 = .ok (.if_icmp .le 23, 3) := by decide +kernel
theorem dX9_line_29 : decode cX9_line 29 = .ok (.aload_n 0, 1) := by decide +kernel
theorem dX9_line_30 : decode cX9_line 30 = .ok (.getfield 79, 3) := by decide +kernel
theorem dX9_line_33 : decode cX9_line 33 = .ok (.iconst 1, 1) := by decide +kernel
theorem dX9_line_34 : decode cX9_line 34 = .ok (.if_icmp .ne 15, 3) := by decide +kernel
theorem dX9_line_37 : decode cX9_line 37 = .ok (.aload_n 0, 1) := by decide +kernel
theorem dX9_line_38 : decode cX9_line 38 = .ok (.getfield 76, 3) := by decide +kernel
theorem dX9_line_41 : decode cX9_line 41 = .ok (.iconst (-1), 1) := by decide +kernel
theorem dX9_line_42 : decode cX9_line 42 = .ok (.if_icmp .eq 7, 3) := by decide +kernel
theorem dX9_line_45 : decode cX9_line 45 = .ok (.iconst 1, 1) := by decide +kernel
theorem dX9_line_46 : decode cX9_line 46 = .ok (.goto 4, 3) := by decide +kernel
theorem dX9_line_49 : decode cX9_line 49 = .ok (.iconst 0, 1) := by decide +kernel
theorem dX9_line_50 : decode cX9_line 50 = .ok (.istore_n 1, 1) := by decide +kernel
theorem dX9_line_51 : decode cX9_line 51 = .ok (.iload_n 1, 1) := by decide +kernel
theorem dX9_line_52 : decode cX9_line 52 = .ok (.ifCond .ne 7, 3) := by decide +kernel
theorem dX9_line_55 : decode cX9_line 55 = .ok (.sipush (-1003), 3) := by decide +kernel
theorem dX9_line_58 : decode cX9_line 58 = .ok (.ireturn, 1) := by decide +kernel
theorem dX9_line_59 : decode cX9_line 59 = .ok (.iconst 0, 1) := by decide +kernel
theorem dX9_line_60 : decode cX9_line 60 = .ok (.istore_n 2, 1) := by decide +kernel
theorem dX9_line_61 : decode cX9_line 61 = .ok (.iload_n 2, 1) := by decide +kernel
theorem dX9_line_62 : decode cX9_line 62 = .ok (.bipush 16, 2) := by decide +kernel
theorem dX9_line_64 : decode cX9_line 64 = .ok (.if_icmp .ge 21, 3) := by decide +kernel
theorem dX9_line_67 : decode cX9_line 67 = .ok (.aload_n 0, 1) := by decide +kernel
theorem dX9_line_68 : decode cX9_line 68 = .ok (.getfield 31, 3) := by decide +kernel
theorem dX9_line_71 : decode cX9_line 71 = .ok (.iload_n 2, 1) := by decide +kernel
theorem dX9_line_72 : decode cX9_line 72 = .ok (.aload_n 0, 1) := by decide +kernel
theorem dX9_line_73 : decode cX9_line 73 = .ok (.getfield 56, 3) := by decide +kernel
theorem dX9_line_76 : decode cX9_line 76 = .ok (.iload_n 2, 1) := by decide +kernel
theorem dX9_line_77 : decode cX9_line 77 = .ok (.iaload, 1) := by decide +kernel
theorem dX9_line_78 : decode cX9_line 78 = .ok (.iastore, 1) := by decide +kernel
theorem dX9_line_79 : decode cX9_line 79 = .ok (.iinc 2 1, 3) := by decide +kernel
theorem dX9_line_82 : decode cX9_line 82 = .ok (.goto (-21), 3) := by decide +kernel
theorem dX9_line_85 : decode cX9_line 85 = .ok (.aload_n 0, 1) := by decide +kernel
theorem dX9_line_86 : decode cX9_line 86 = .ok (.aload_n 0, 1) := by decide +kernel
theorem dX9_line_87 : decode cX9_line 87 = .ok (.getfield 86, 3) := by decide +kernel
theorem dX9_line_90 : decode cX9_line 90 = .ok (.putfield 34, 3) := by decide +kernel
theorem dX9_line_93 : decode cX9_line 93 = .ok (.aload_n 0, 1) := by decide +kernel
theorem dX9_line_94 : decode cX9_line 94 = .ok (.getfield 38, 3) := by decide +kernel
theorem dX9_line_97 : decode cX9_line 97 = .ok (.iconst 0, 1) := by decide +kernel
theorem dX9_line_98 : decode cX9_line 98 = .ok (.aload_n 0, 1) := by decide +kernel
theorem dX9_line_99 : decode cX9_line 99 = .ok (.getfield 59, 3) := by decide +kernel
theorem dX9_line_102 : decode cX9_line 102 = .ok (.iconst 0, 1) := by decide +kernel
theorem dX9_line_103 : decode cX9_line 103 = .ok (.iaload, 1) := by decide +kernel
theorem dX9_line_104 : decode cX9_line 104 = .ok (.iastore, 1) := by decide +kernel
theorem dX9_line_105 : decode cX9_line 105 = .ok (.aload_n 0, 1) := by decide +kernel
theorem dX9_line_106 : decode cX9_line 106 = .ok (.getfield 38, 3) := by decide +kernel
theorem dX9_line_109 : decode cX9_line 109 = .ok (.iconst 1, 1) := by decide +kernel
theorem dX9_line_110 : decode cX9_line 110 = .ok (.aload_n 0, 1) := by decide +kernel
theorem dX9_line_111 : decode cX9_line 111 = .ok (.getfield 59, 3) := by decide +kernel
theorem dX9_line_114 : decode cX9_line 114 = .ok (.iconst 1, 1) := by decide +kernel
theorem dX9_line_115 : decode cX9_line 115 = .ok (.iaload, 1) := by decide +kernel
theorem dX9_line_116 : decode cX9_line 116 = .ok (.iastore, 1) := by decide +kernel
theorem dX9_line_117 : decode cX9_line 117 = .ok (.aload_n 0, 1) := by decide +kernel
theorem dX9_line_118 : decode cX9_line 118 = .ok (.dup, 1) := by decide +kernel
theorem dX9_line_119 : decode cX9_line 119 = .ok (.getfield 100, 3) := by decide +kernel
theorem dX9_line_122 : decode cX9_line 122 = .ok (.iconst 1, 1) := by decide +kernel
theorem dX9_line_123 : decode cX9_line 123 = .ok (.iadd, 1) := by decide +kernel
theorem dX9_line_124 : decode cX9_line 124 = .ok (.putfield 100, 3) := by decide +kernel
theorem dX9_line_127 : decode cX9_line 127 = .ok (.aload_n 0, 1) := by decide +kernel
theorem dX9_line_128 : decode cX9_line 128 = .ok (.iconst 0, 1) := by decide +kernel
theorem dX9_line_129 : decode cX9_line 129 = .ok (.putfield 69, 3) := by decide +kernel
theorem dX9_line_132 : decode cX9_line 132 = .ok (.aload_n 0, 1) := by decide +kernel
theorem dX9_line_133 : decode cX9_line 133 = .ok (.getfield 34, 3) := by decide +kernel
theorem dX9_line_136 : decode cX9_line 136 = .ok (.ireturn, 1) := by decide +kernel
set_option maxRecDepth 20000 in
theorem ggX9_isEnd_X9_within : GoodIn wsX9_isEnd wsX9_within := goodIn_r _ [4] (by decide +kernel) (by decide +kernel)
set_option maxRecDepth 20000 in
theorem gX9_isEnd_X9_within : GoodIn wsX9_isEnd (va_wsS RX9 65 yX9_within wsX9_within) := goodIn_app (goodIn_of _ (by decide +kernel)) ggX9_isEnd_X9_within
theorem dX9_isEnd_0 : decode cX9_isEnd 0 = .ok (.iload_n 0, 1) := by decide +kernel
theorem dX9_isEnd_1 : decode cX9_isEnd 1 = .ok (.iconst 0, 1) := by decide +kernel
theorem dX9_isEnd_2 : decode cX9_isEnd 2 = .ok (.iconst 1, 1) := by decide +kernel
theorem dX9_isEnd_3 : decode cX9_isEnd 3 = .ok (.invokestatic 65, 3) := by decide +kernel
theorem dX9_isEnd_6 : decode cX9_isEnd 6 = .ok (.ireturn, 1) := by decide +kernel
theorem dX9_of_0 : decode cX9_of 0 = .ok (.aload_n 0, 1) := by decide +kernel
theorem dX9_of_1 : decode cX9_of 1 = .ok (.getfield 7, 3) := by decide +kernel
theorem dX9_of_4 : decode cX9_of 4 = .ok (.bipush 24, 2) := by decide +kernel
theorem dX9_of_6 : decode cX9_of 6 = .ok (.iload_n 1, 1) := by decide +kernel
theorem dX9_of_7 : decode cX9_of 7 = .ok (.imul, 1) := by decide +kernel
theorem dX9_of_8 : decode cX9_of 8 = .ok (.iload_n 2, 1) := by decide +kernel
theorem dX9_of_9 : decode cX9_of 9 = .ok (.iadd, 1) := by decide +kernel
theorem dX9_of_10 : decode cX9_of 10 = .ok (.iaload, 1) := by decide +kernel
theorem dX9_of_11 : decode cX9_of 11 = .ok (.ireturn, 1) := by decide +kernel
theorem dX9_put_0 : decode cX9_put 0 = .ok (.aload_n 0, 1) := by decide +kernel
theorem dX9_put_1 : decode cX9_put 1 = .ok (.getfield 7, 3) := by decide +kernel
theorem dX9_put_4 : decode cX9_put 4 = .ok (.bipush 24, 2) := by decide +kernel
theorem dX9_put_6 : decode cX9_put 6 = .ok (.iload_n 1, 1) := by decide +kernel
theorem dX9_put_7 : decode cX9_put 7 = .ok (.imul, 1) := by decide +kernel
theorem dX9_put_8 : decode cX9_put 8 = .ok (.iload_n 2, 1) := by decide +kernel
theorem dX9_put_9 : decode cX9_put 9 = .ok (.iadd, 1) := by decide +kernel
theorem dX9_put_10 : decode cX9_put 10 = .ok (.iload_n 3, 1) := by decide +kernel
theorem dX9_put_11 : decode cX9_put 11 = .ok (.iastore, 1) := by decide +kernel
theorem dX9_put_12 : decode cX9_put 12 = .ok (.return_, 1) := by decide +kernel
theorem dX9_add_0 : decode cX9_add 0 = .ok (.aload_n 0, 1) := by decide +kernel
theorem dX9_add_1 : decode cX9_add 1 = .ok (.getfield 7, 3) := by decide +kernel
theorem dX9_add_4 : decode cX9_add 4 = .ok (.bipush 24, 2) := by decide +kernel
theorem dX9_add_6 : decode cX9_add 6 = .ok (.iload_n 1, 1) := by decide +kernel
theorem dX9_add_7 : decode cX9_add 7 = .ok (.imul, 1) := by decide +kernel
theorem dX9_add_8 : decode cX9_add 8 = .ok (.iload_n 2, 1) := by decide +kernel
theorem dX9_add_9 : decode cX9_add 9 = .ok (.iadd, 1) := by decide +kernel
theorem dX9_add_10 : decode cX9_add 10 = .ok (.dup2, 1) := by decide +kernel
theorem dX9_add_11 : decode cX9_add 11 = .ok (.iaload, 1) := by decide +kernel
theorem dX9_add_12 : decode cX9_add 12 = .ok (.iload_n 3, 1) := by decide +kernel
theorem dX9_add_13 : decode cX9_add 13 = .ok (.iadd, 1) := by decide +kernel
theorem dX9_add_14 : decode cX9_add 14 = .ok (.iastore, 1) := by decide +kernel
theorem dX9_add_15 : decode cX9_add 15 = .ok (.return_, 1) := by decide +kernel
set_option maxRecDepth 20000 in
theorem ggX9_say_X9_isEnd : GoodIn wsX9_say wsX9_isEnd := goodIn_r _ [7, 8, 9, 6, 10] (by decide +kernel) (by decide +kernel)
set_option maxRecDepth 20000 in
theorem gX9_say_X9_isEnd : GoodIn wsX9_say (va_wsS RX9 103 yX9_isEnd wsX9_isEnd) := goodIn_app (goodIn_of _ (by decide +kernel)) ggX9_say_X9_isEnd
set_option maxRecDepth 20000 in
theorem ggX9_say_X9_of : GoodIn wsX9_say wsX9_of := goodIn_r _ [14, 15, 20, 21, 22, 23, 24, 25, 26, 27, 28, 29, 30, 31, 32, 33, 34, 35, 36, 37, 38, 39, 40, 41, 42, 43, 44, 45, 46, 47, 48, 49] (by decide +kernel) (by decide +kernel)
set_option maxRecDepth 20000 in
theorem gX9_say_X9_of : GoodIn wsX9_say (wsV RX9 106 RX9 yX9_of wsX9_of) := goodIn_app (goodIn_of _ (by decide +kernel)) ggX9_say_X9_of
set_option maxRecDepth 20000 in
theorem ggX9_say_X9_add : GoodIn wsX9_say wsX9_add := goodIn_r _ [19, 15, 20, 21, 22, 23, 24, 25, 26, 27, 28, 29, 30, 31, 32, 33, 34, 35, 36, 37, 38, 39, 40, 41, 42, 43, 44, 45, 46, 47, 48, 49] (by decide +kernel) (by decide +kernel)
set_option maxRecDepth 20000 in
theorem gX9_say_X9_add : GoodIn wsX9_say (wsV RX9 110 RX9 yX9_add wsX9_add) := goodIn_app (goodIn_of _ (by decide +kernel)) ggX9_say_X9_add
theorem dX9_say_0 : decode cX9_say 0 = .ok (.iload_n 1, 1) := by decide +kernel
theorem dX9_say_1 : decode cX9_say 1 = .ok (.invokestatic 103, 3) := by decide +kernel
theorem dX9_say_4 : decode cX9_say 4 = .ok (.ifCond .ne 7, 3) := by decide +kernel
theorem dX9_say_7 : decode cX9_say 7 = .ok (.sipush (-1001), 3) := by decide +kernel
theorem dX9_say_10 : decode cX9_say 10 = .ok (.ireturn, 1) := by decide +kernel
theorem dX9_say_11 : decode cX9_say 11 = .ok (.aload_n 0, 1) := by decide +kernel
theorem dX9_say_12 : decode cX9_say 12 = .ok (.iload_n 1, 1) := by decide +kernel
theorem dX9_say_13 : decode cX9_say 13 = .ok (.bipush 6, 2) := by decide +kernel
theorem dX9_say_15 : decode cX9_say 15 = .ok (.invokevirtual 106, 3) := by decide +kernel
theorem dX9_say_18 : decode cX9_say 18 = .ok (.istore_n 2, 1) := by decide +kernel
theorem dX9_say_19 : decode cX9_say 19 = .ok (.iload_n 2, 1) := by decide +kernel
theorem dX9_say_20 : decode cX9_say 20 = .ok (.aload_n 0, 1) := by decide +kernel
theorem dX9_say_21 : decode cX9_say 21 = .ok (.getfield 69, 3) := by decide +kernel
theorem dX9_say_24 : decode cX9_say 24 = .ok (.iadd, 1) := by decide +kernel
theorem dX9_say_25 : decode cX9_say 25 = .ok (.sipush 200, 3) := by decide +kernel
theorem dX9_say_28 : decode cX9_say 28 = .ok (.if_icmp .le 7, 3) := by decide +kernel
theorem dX9_say_31 : decode cX9_say 31 = .ok (.sipush (-1004), 3) := by decide +kernel
theorem dX9_say_34 : decode cX9_say 34 = .ok (.ireturn, 1) := by decide +kernel
theorem dX9_say_35 : decode cX9_say 35 = .ok (.iconst 0, 1) := by decide +kernel
theorem dX9_say_36 : decode cX9_say 36 = .ok (.istore_n 3, 1) := by decide +kernel
theorem dX9_say_37 : decode cX9_say 37 = .ok (.iload_n 3, 1) := by decide +kernel
theorem dX9_say_38 : decode cX9_say 38 = .ok (.aload_n 0, 1) := by decide +kernel
theorem dX9_say_39 : decode cX9_say 39 = .ok (.getfield 69, 3) := by decide +kernel
theorem dX9_say_42 : decode cX9_say 42 = .ok (.if_icmp .ge 29, 3) := by decide +kernel
theorem dX9_say_45 : decode cX9_say 45 = .ok (.aload_n 0, 1) := by decide +kernel
theorem dX9_say_46 : decode cX9_say 46 = .ok (.getfield 22, 3) := by decide +kernel
theorem dX9_say_49 : decode cX9_say 49 = .ok (.sipush 200, 3) := by decide +kernel
theorem dX9_say_52 : decode cX9_say 52 = .ok (.iload_n 1, 1) := by decide +kernel
theorem dX9_say_53 : decode cX9_say 53 = .ok (.imul, 1) := by decide +kernel
theorem dX9_say_54 : decode cX9_say 54 = .ok (.iload_n 2, 1) := by decide +kernel
theorem dX9_say_55 : decode cX9_say 55 = .ok (.iadd, 1) := by decide +kernel
theorem dX9_say_56 : decode cX9_say 56 = .ok (.iload_n 3, 1) := by decide +kernel
theorem dX9_say_57 : decode cX9_say 57 = .ok (.iadd, 1) := by decide +kernel
theorem dX9_say_58 : decode cX9_say 58 = .ok (.aload_n 0, 1) := by decide +kernel
theorem dX9_say_59 : decode cX9_say 59 = .ok (.getfield 53, 3) := by decide +kernel
theorem dX9_say_62 : decode cX9_say 62 = .ok (.iload_n 3, 1) := by decide +kernel
theorem dX9_say_63 : decode cX9_say 63 = .ok (.iaload, 1) := by decide +kernel
theorem dX9_say_64 : decode cX9_say 64 = .ok (.iastore, 1) := by decide +kernel
theorem dX9_say_65 : decode cX9_say 65 = .ok (.iinc 3 1, 3) := by decide +kernel
theorem dX9_say_68 : decode cX9_say 68 = .ok (.goto (-31), 3) := by decide +kernel
theorem dX9_say_71 : decode cX9_say 71 = .ok (.aload_n 0, 1) := by decide +kernel
theorem dX9_say_72 : decode cX9_say 72 = .ok (.iload_n 1, 1) := by decide +kernel
theorem dX9_say_73 : decode cX9_say 73 = .ok (.bipush 6, 2) := by decide +kernel
theorem dX9_say_75 : decode cX9_say 75 = .ok (.aload_n 0, 1) := by decide +kernel
theorem dX9_say_76 : decode cX9_say 76 = .ok (.getfield 69, 3) := by decide +kernel
theorem dX9_say_79 : decode cX9_say 79 = .ok (.invokevirtual 110, 3) := by decide +kernel
theorem dX9_say_82 : decode cX9_say 82 = .ok (.aload_n 0, 1) := by decide +kernel
theorem dX9_say_83 : decode cX9_say 83 = .ok (.iconst 0, 1) := by decide +kernel
theorem dX9_say_84 : decode cX9_say 84 = .ok (.putfield 69, 3) := by decide +kernel
theorem dX9_say_87 : decode cX9_say 87 = .ok (.aload_n 0, 1) := by decide +kernel
theorem dX9_say_88 : decode cX9_say 88 = .ok (.iload_n 1, 1) := by decide +kernel
theorem dX9_say_89 : decode cX9_say 89 = .ok (.bipush 6, 2) := by decide +kernel
theorem dX9_say_91 : decode cX9_say 91 = .ok (.invokevirtual 106, 3) := by decide +kernel
theorem dX9_say_94 : decode cX9_say 94 = .ok (.ireturn, 1) := by decide +kernel
set_option maxRecDepth 20000 in
theorem ggX9_echo_X9_isEnd : GoodIn wsX9_echo wsX9_isEnd := goodIn_r _ [5, 6, 7, 4, 8] (by decide +kernel) (by decide +kernel)
set_option maxRecDepth 20000 in
theorem gX9_echo_X9_isEnd : GoodIn wsX9_echo (va_wsS RX9 103 yX9_isEnd wsX9_isEnd) := goodIn_app (goodIn_of _ (by decide +kernel)) ggX9_echo_X9_isEnd
set_option maxRecDepth 20000 in
theorem ggX9_echo_X9_within : GoodIn wsX9_echo wsX9_within := goodIn_r _ [8] (by decide +kernel) (by decide +kernel)
set_option maxRecDepth 20000 in
theorem gX9_echo_X9_within : GoodIn wsX9_echo (va_wsS RX9 65 yX9_within wsX9_within) := goodIn_app (goodIn_of _ (by decide +kernel)) ggX9_echo_X9_within
theorem dX9_echo_0 : decode cX9_echo 0 = .ok (.iload_n 1, 1) := by decide +kernel
theorem dX9_echo_1 : decode cX9_echo 1 = .ok (.invokestatic 103, 3) := by decide +kernel
theorem dX9_echo_4 : decode cX9_echo 4 = .ok (.ifCond .eq 12, 3) := by decide +kernel
theorem dX9_echo_7 : decode cX9_echo 7 = .ok (.iload_n 2, 1) := by decide +kernel
theorem dX9_echo_8 : decode cX9_echo 8 = .ok (.iconst 0, 1) := by decide +kernel
theorem dX9_echo_9 : decode cX9_echo 9 = .ok (.iconst 3, 1) := by decide +kernel
theorem dX9_echo_10 : decode cX9_echo 10 = .ok (.invokestatic 65, 3) := by decide +kernel
theorem dX9_echo_13 : decode cX9_echo 13 = .ok (.ifCond .ne 7, 3) := by decide +kernel
theorem dX9_echo_16 : decode cX9_echo 16 = .ok (.sipush (-1001), 3) := by decide +kernel
theorem dX9_echo_19 : decode cX9_echo 19 = .ok (.ireturn, 1) := by decide +kernel
theorem dX9_echo_20 : decode cX9_echo 20 = .ok (.iload_n 3, 1) := by decide +kernel
theorem dX9_echo_21 : decode cX9_echo 21 = .ok (.bipush (-100), 2) := by decide +kernel
theorem dX9_echo_23 : decode cX9_echo 23 = .ok (.bipush 100, 2) := by decide +kernel
theorem dX9_echo_25 : decode cX9_echo 25 = .ok (.invokestatic 65, 3) := by decide +kernel
theorem dX9_echo_28 : decode cX9_echo 28 = .ok (.ifCond .ne 7, 3) := by decide +kernel
theorem dX9_echo_31 : decode cX9_echo 31 = .ok (.sipush (-1002), 3) := by decide +kernel
theorem dX9_echo_34 : decode cX9_echo 34 = .ok (.ireturn, 1) := by decide +kernel
theorem dX9_echo_35 : decode cX9_echo 35 = .ok (.aload_n 0, 1) := by decide +kernel
theorem dX9_echo_36 : decode cX9_echo 36 = .ok (.getfield 19, 3) := by decide +kernel
theorem dX9_echo_39 : decode cX9_echo 39 = .ok (.iconst 4, 1) := by decide +kernel
theorem dX9_echo_40 : decode cX9_echo 40 = .ok (.iload_n 1, 1) := by decide +kernel
theorem dX9_echo_41 : decode cX9_echo 41 = .ok (.imul, 1) := by decide +kernel
theorem dX9_echo_42 : decode cX9_echo 42 = .ok (.iload_n 2, 1) := by decide +kernel
theorem dX9_echo_43 : decode cX9_echo 43 = .ok (.iadd, 1) := by decide +kernel
theorem dX9_echo_44 : decode cX9_echo 44 = .ok (.iaload, 1) := by decide +kernel
theorem dX9_echo_45 : decode cX9_echo 45 = .ok (.istore 4, 2) := by decide +kernel
theorem dX9_echo_47 : decode cX9_echo 47 = .ok (.aload_n 0, 1) := by decide +kernel
theorem dX9_echo_48 : decode cX9_echo 48 = .ok (.getfield 19, 3) := by decide +kernel
theorem dX9_echo_51 : decode cX9_echo 51 = .ok (.iconst 4, 1) := by decide +kernel
theorem dX9_echo_52 : decode cX9_echo 52 = .ok (.iload_n 1, 1) := by decide +kernel
theorem dX9_echo_53 : decode cX9_echo 53 = .ok (.imul, 1) := by decide +kernel
theorem dX9_echo_54 : decode cX9_echo 54 = .ok (.iload_n 2, 1) := by decide +kernel
theorem dX9_echo_55 : decode cX9_echo 55 = .ok (.iadd, 1) := by decide +kernel
theorem dX9_echo_56 : decode cX9_echo 56 = .ok (.iload_n 3, 1) := by decide +kernel
theorem dX9_echo_57 : decode cX9_echo 57 = .ok (.iastore, 1) := by decide +kernel
theorem dX9_echo_58 : decode cX9_echo 58 = .ok (.iload 4, 2) := by decide +kernel
theorem dX9_echo_60 : decode cX9_echo 60 = .ok (.ireturn, 1) := by decide +kernel
set_option maxRecDepth 20000 in
theorem ggX9_goesTo_X9_put : GoodIn wsX9_goesTo wsX9_put := goodIn_r _ [5, 6, 7, 8, 9, 10, 11, 12, 13, 14, 15, 16, 17, 18, 19, 20, 21, 22, 23, 24, 25, 26, 27, 28, 29, 30, 31, 32, 33, 34, 35, 36] (by decide +kernel) (by decide +kernel)
set_option maxRecDepth 20000 in
theorem gX9_goesTo_X9_put : GoodIn wsX9_goesTo (wsV RX9 114 RX9 yX9_put wsX9_put) := goodIn_app (goodIn_of _ (by decide +kernel)) ggX9_goesTo_X9_put
theorem dX9_goesTo_0 : decode cX9_goesTo 0 = .ok (.aload_n 0, 1) := by decide +kernel
theorem dX9_goesTo_1 : decode cX9_goesTo 1 = .ok (.iload_n 1, 1) := by decide +kernel
theorem dX9_goesTo_2 : decode cX9_goesTo 2 = .ok (.iconst 0, 1) := by decide +kernel
theorem dX9_goesTo_3 : decode cX9_goesTo 3 = .ok (.iload_n 2, 1) := by decide +kernel
theorem dX9_goesTo_4 : decode cX9_goesTo 4 = .ok (.invokevirtual 114, 3) := by decide +kernel
theorem dX9_goesTo_7 : decode cX9_goesTo 7 = .ok (.aload_n 0, 1) := by decide +kernel
theorem dX9_goesTo_8 : decode cX9_goesTo 8 = .ok (.iload_n 1, 1) := by decide +kernel
theorem dX9_goesTo_9 : decode cX9_goesTo 9 = .ok (.iconst 1, 1) := by decide +kernel
theorem dX9_goesTo_10 : decode cX9_goesTo 10 = .ok (.iconst 0, 1) := by decide +kernel
theorem dX9_goesTo_11 : decode cX9_goesTo 11 = .ok (.invokevirtual 114, 3) := by decide +kernel
theorem dX9_goesTo_14 : decode cX9_goesTo 14 = .ok (.return_, 1) := by decide +kernel
set_option maxRecDepth 20000 in
theorem ggX9_call_X9_isEnd : GoodIn wsX9_call wsX9_isEnd := goodIn_r _ [4, 5, 6, 3, 7] (by decide +kernel) (by decide +kernel)
set_option maxRecDepth 20000 in
theorem gX9_call_X9_isEnd : GoodIn wsX9_call (va_wsS RX9 103 yX9_isEnd wsX9_isEnd) := goodIn_app (goodIn_of _ (by decide +kernel)) ggX9_call_X9_isEnd
set_option maxRecDepth 20000 in
theorem ggX9_call_X9_of : GoodIn wsX9_call wsX9_of := goodIn_r _ [11, 12, 21, 22, 23, 24, 25, 26, 27, 28, 29, 30, 31, 32, 33, 34, 35, 36, 37, 38, 39, 40, 41, 42, 43, 44, 45, 46, 47, 48, 49, 50] (by decide +kernel) (by decide +kernel)
set_option maxRecDepth 20000 in
theorem gX9_call_X9_of : GoodIn wsX9_call (wsV RX9 106 RX9 yX9_of wsX9_of) := goodIn_app (goodIn_of _ (by decide +kernel)) ggX9_call_X9_of
set_option maxRecDepth 20000 in
theorem ggX9_call_X9_goesTo : GoodIn wsX9_call wsX9_goesTo := goodIn_r _ [16, 17, 18, 19, 3, 20, 12, 21, 22, 23, 24, 25, 26, 27, 28, 29, 30, 31, 32, 33, 34, 35, 36, 37, 38, 39, 40, 41, 42, 43, 44, 45, 46, 47, 48, 49, 50] (by decide +kernel) (by decide +kernel)
set_option maxRecDepth 20000 in
theorem gX9_call_X9_goesTo : GoodIn wsX9_call (wsV RX9 117 RX9 yX9_goesTo wsX9_goesTo) := goodIn_app (goodIn_of _ (by decide +kernel)) ggX9_call_X9_goesTo
theorem dX9_call_0 : decode cX9_call 0 = .ok (.iload_n 1, 1) := by decide +kernel
theorem dX9_call_1 : decode cX9_call 1 = .ok (.invokestatic 103, 3) := by decide +kernel
theorem dX9_call_4 : decode cX9_call 4 = .ok (.ifCond .ne 7, 3) := by decide +kernel
theorem dX9_call_7 : decode cX9_call 7 = .ok (.sipush (-1001), 3) := by decide +kernel
theorem dX9_call_10 : decode cX9_call 10 = .ok (.ireturn, 1) := by decide +kernel
theorem dX9_call_11 : decode cX9_call 11 = .ok (.aload_n 0, 1) := by decide +kernel
theorem dX9_call_12 : decode cX9_call 12 = .ok (.iload_n 1, 1) := by decide +kernel
theorem dX9_call_13 : decode cX9_call 13 = .ok (.iconst 0, 1) := by decide +kernel
theorem dX9_call_14 : decode cX9_call 14 = .ok (.invokevirtual 106, 3) := by decide +kernel
theorem dX9_call_17 : decode cX9_call 17 = .ok (.ifCond .eq 7, 3) := by decide +kernel
theorem dX9_call_20 : decode cX9_call 20 = .ok (.sipush (-1003), 3) := by decide +kernel
theorem dX9_call_23 : decode cX9_call 23 = .ok (.ireturn, 1) := by decide +kernel
theorem dX9_call_24 : decode cX9_call 24 = .ok (.aload_n 0, 1) := by decide +kernel
theorem dX9_call_25 : decode cX9_call 25 = .ok (.iload_n 1, 1) := by decide +kernel
theorem dX9_call_26 : decode cX9_call 26 = .ok (.iconst 1, 1) := by decide +kernel
theorem dX9_call_27 : decode cX9_call 27 = .ok (.invokevirtual 117, 3) := by decide +kernel
theorem dX9_call_30 : decode cX9_call 30 = .ok (.iconst 1, 1) := by decide +kernel
theorem dX9_call_31 : decode cX9_call 31 = .ok (.ireturn, 1) := by decide +kernel
set_option maxRecDepth 20000 in
theorem ggX9_hang_X9_isEnd : GoodIn wsX9_hang wsX9_isEnd := goodIn_r _ [4, 5, 6, 3, 7] (by decide +kernel) (by decide +kernel)
set_option maxRecDepth 20000 in
theorem gX9_hang_X9_isEnd : GoodIn wsX9_hang (va_wsS RX9 103 yX9_isEnd wsX9_isEnd) := goodIn_app (goodIn_of _ (by decide +kernel)) ggX9_hang_X9_isEnd
set_option maxRecDepth 20000 in
theorem ggX9_hang_X9_of : GoodIn wsX9_hang wsX9_of := goodIn_r _ [11, 12, 21, 22, 23, 24, 25, 26, 27, 28, 29, 30, 31, 32, 33, 34, 35, 36, 37, 38, 39, 40, 41, 42, 43, 44, 45, 46, 47, 48, 49, 50] (by decide +kernel) (by decide +kernel)
set_option maxRecDepth 20000 in
theorem gX9_hang_X9_of : GoodIn wsX9_hang (wsV RX9 106 RX9 yX9_of wsX9_of) := goodIn_app (goodIn_of _ (by decide +kernel)) ggX9_hang_X9_of
set_option maxRecDepth 20000 in
theorem ggX9_hang_X9_goesTo : GoodIn wsX9_hang wsX9_goesTo := goodIn_r _ [16, 17, 18, 19, 3, 20, 12, 21, 22, 23, 24, 25, 26, 27, 28, 29, 30, 31, 32, 33, 34, 35, 36, 37, 38, 39, 40, 41, 42, 43, 44, 45, 46, 47, 48, 49, 50] (by decide +kernel) (by decide +kernel)
set_option maxRecDepth 20000 in
theorem gX9_hang_X9_goesTo : GoodIn wsX9_hang (wsV RX9 117 RX9 yX9_goesTo wsX9_goesTo) := goodIn_app (goodIn_of _ (by decide +kernel)) ggX9_hang_X9_goesTo
theorem dX9_hang_0 : decode cX9_hang 0 = .ok (.iload_n 1, 1) := by decide +kernel
theorem dX9_hang_1 : decode cX9_hang 1 = .ok (.invokestatic 103, 3) := by decide +kernel
theorem dX9_hang_4 : decode cX9_hang 4 = .ok (.ifCond .ne 7, 3) := by decide +kernel
theorem dX9_hang_7 : decode cX9_hang 7 = .ok (.sipush (-1001), 3) := by decide +kernel
theorem dX9_hang_10 : decode cX9_hang 10 = .ok (.ireturn, 1) := by decide +kernel
theorem dX9_hang_11 : decode cX9_hang 11 = .ok (.aload_n 0, 1) := by decide +kernel
theorem dX9_hang_12 : decode cX9_hang 12 = .ok (.iload_n 1, 1) := by decide +kernel
theorem dX9_hang_13 : decode cX9_hang 13 = .ok (.iconst 0, 1) := by decide +kernel
theorem dX9_hang_14 : decode cX9_hang 14 = .ok (.invokevirtual 106, 3) := by decide +kernel
theorem dX9_hang_17 : decode cX9_hang 17 = .ok (.istore_n 2, 1) := by decide +kernel
theorem dX9_hang_18 : decode cX9_hang 18 = .ok (.iload_n 2, 1) := by decide +kernel
theorem dX9_hang_19 : decode cX9_hang 19 = .ok (.ifCond .ne 7, 3) := by decide +kernel
theorem dX9_hang_22 : decode cX9_hang 22 = .ok (.sipush (-1003), 3) := by decide +kernel
theorem dX9_hang_25 : decode cX9_hang 25 = .ok (.ireturn, 1) := by decide +kernel
theorem dX9_hang_26 : decode cX9_hang 26 = .ok (.aload_n 0, 1) := by decide +kernel
theorem dX9_hang_27 : decode cX9_hang 27 = .ok (.iload_n 1, 1) := by decide +kernel
theorem dX9_hang_28 : decode cX9_hang 28 = .ok (.iconst 0, 1) := by decide +kernel
theorem dX9_hang_29 : decode cX9_hang 29 = .ok (.invokevirtual 117, 3) := by decide +kernel
theorem dX9_hang_32 : decode cX9_hang 32 = .ok (.iload_n 2, 1) := by decide +kernel
theorem dX9_hang_33 : decode cX9_hang 33 = .ok (.ireturn, 1) := by decide +kernel
theorem dX9_slot_0 : decode cX9_slot 0 = .ok (.bipush 8, 2) := by decide +kernel
theorem dX9_slot_2 : decode cX9_slot 2 = .ok (.bipush 16, 2) := by decide +kernel
theorem dX9_slot_4 : decode cX9_slot 4 = .ok (.iload_n 1, 1) := by decide +kernel
theorem dX9_slot_5 : decode cX9_slot 5 = .ok (.imul, 1) := by decide +kernel
theorem dX9_slot_6 : decode cX9_slot 6 = .ok (.iload_n 2, 1) := by decide +kernel
theorem dX9_slot_7 : decode cX9_slot 7 = .ok (.bipush 16, 2) := by decide +kernel
theorem dX9_slot_9 : decode cX9_slot 9 = .ok (.irem, 1) := by decide +kernel
theorem dX9_slot_10 : decode cX9_slot 10 = .ok (.iadd, 1) := by decide +kernel
theorem dX9_slot_11 : decode cX9_slot 11 = .ok (.imul, 1) := by decide +kernel
theorem dX9_slot_12 : decode cX9_slot 12 = .ok (.ireturn, 1) := by decide +kernel
theorem dX9_ear_0 : decode cX9_ear 0 = .ok (.aload_n 0, 1) := by decide +kernel
theorem dX9_ear_1 : decode cX9_ear 1 = .ok (.getfield 28, 3) := by decide +kernel
theorem dX9_ear_4 : decode cX9_ear 4 = .ok (.iconst 5, 1) := by decide +kernel
theorem dX9_ear_5 : decode cX9_ear 5 = .ok (.iload_n 1, 1) := by decide +kernel
theorem dX9_ear_6 : decode cX9_ear 6 = .ok (.imul, 1) := by decide +kernel
theorem dX9_ear_7 : decode cX9_ear 7 = .ok (.iload_n 2, 1) := by decide +kernel
theorem dX9_ear_8 : decode cX9_ear 8 = .ok (.iadd, 1) := by decide +kernel
theorem dX9_ear_9 : decode cX9_ear 9 = .ok (.iaload, 1) := by decide +kernel
theorem dX9_ear_10 : decode cX9_ear 10 = .ok (.ireturn, 1) := by decide +kernel
set_option maxRecDepth 20000 in
theorem ggX9_hear_X9_slot : GoodIn wsX9_hear wsX9_slot := goodIn_r _ [13] (by decide +kernel) (by decide +kernel)
set_option maxRecDepth 20000 in
theorem gX9_hear_X9_slot : GoodIn wsX9_hear (wsV RX9 124 RX9 yX9_slot wsX9_slot) := goodIn_app (goodIn_of _ (by decide +kernel)) ggX9_hear_X9_slot
theorem dX9_hear_0 : decode cX9_hear 0 = .ok (.iconst 1, 1) := by decide +kernel
theorem dX9_hear_1 : decode cX9_hear 1 = .ok (.iload_n 1, 1) := by decide +kernel
theorem dX9_hear_2 : decode cX9_hear 2 = .ok (.isub, 1) := by decide +kernel
theorem dX9_hear_3 : decode cX9_hear 3 = .ok (.istore_n 2, 1) := by decide +kernel
theorem dX9_hear_4 : decode cX9_hear 4 = .ok (.aload_n 0, 1) := by decide +kernel
theorem dX9_hear_5 : decode cX9_hear 5 = .ok (.iload_n 2, 1) := by decide +kernel
theorem dX9_hear_6 : decode cX9_hear 6 = .ok (.aload_n 0, 1) := by decide +kernel
theorem dX9_hear_7 : decode cX9_hear 7 = .ok (.getfield 121, 3) := by decide +kernel
theorem dX9_hear_10 : decode cX9_hear 10 = .ok (.invokevirtual 124, 3) := by decide +kernel
theorem dX9_hear_13 : decode cX9_hear 13 = .ok (.istore_n 3, 1) := by decide +kernel
theorem dX9_hear_14 : decode cX9_hear 14 = .ok (.aload_n 0, 1) := by decide +kernel
theorem dX9_hear_15 : decode cX9_hear 15 = .ok (.getfield 41, 3) := by decide +kernel
theorem dX9_hear_18 : decode cX9_hear 18 = .ok (.iload_n 3, 1) := by decide +kernel
theorem dX9_hear_19 : decode cX9_hear 19 = .ok (.iaload, 1) := by decide +kernel
theorem dX9_hear_20 : decode cX9_hear 20 = .ok (.iconst 1, 1) := by decide +kernel
theorem dX9_hear_21 : decode cX9_hear 21 = .ok (.if_icmp .ne 7, 3) := by decide +kernel
theorem dX9_hear_24 : decode cX9_hear 24 = .ok (.iconst 1, 1) := by decide +kernel
theorem dX9_hear_25 : decode cX9_hear 25 = .ok (.goto 4, 3) := by decide +kernel
theorem dX9_hear_28 : decode cX9_hear 28 = .ok (.iconst 0, 1) := by decide +kernel
theorem dX9_hear_29 : decode cX9_hear 29 = .ok (.istore 4, 2) := by decide +kernel
theorem dX9_hear_31 : decode cX9_hear 31 = .ok (.aload_n 0, 1) := by decide +kernel
theorem dX9_hear_32 : decode cX9_hear 32 = .ok (.getfield 47, 3) := by decide +kernel
theorem dX9_hear_35 : decode cX9_hear 35 = .ok (.iload_n 2, 1) := by decide +kernel
theorem dX9_hear_36 : decode cX9_hear 36 = .ok (.dup2, 1) := by decide +kernel
theorem dX9_hear_37 : decode cX9_hear 37 = .ok (.iaload, 1) := by decide +kernel
theorem dX9_hear_38 : decode cX9_hear 38 = .ok (.iload 4, 2) := by decide +kernel
theorem dX9_hear_40 : decode cX9_hear 40 = .ok (.ifCond .eq 7, 3) := by decide +kernel
theorem dX9_hear_43 : decode cX9_hear 43 = .ok (.iconst 1, 1) := by decide +kernel
theorem dX9_hear_44 : decode cX9_hear 44 = .ok (.goto 4, 3) := by decide +kernel
theorem dX9_hear_47 : decode cX9_hear 47 = .ok (.iconst 0, 1) := by decide +kernel
theorem dX9_hear_48 : decode cX9_hear 48 = .ok (.iadd, 1) := by decide +kernel
theorem dX9_hear_49 : decode cX9_hear 49 = .ok (.iastore, 1) := by decide +kernel
theorem dX9_hear_50 : decode cX9_hear 50 = .ok (.iload 4, 2) := by decide +kernel
theorem dX9_hear_52 : decode cX9_hear 52 = .ok (.ifCond .eq 32, 3) := by decide +kernel
theorem dX9_hear_55 : decode cX9_hear 55 = .ok (.aload_n 0, 1) := by decide +kernel
theorem dX9_hear_56 : decode cX9_hear 56 = .ok (.getfield 38, 3) := by decide +kernel
theorem dX9_hear_59 : decode cX9_hear 59 = .ok (.iload_n 2, 1) := by decide +kernel
theorem dX9_hear_60 : decode cX9_hear 60 = .ok (.iaload, 1) := by decide +kernel
theorem dX9_hear_61 : decode cX9_hear 61 = .ok (.ifCond .le 23, 3) := by decide +kernel
theorem dX9_hear_64 : decode cX9_hear 64 = .ok (.aload_n 0, 1) := by decide +kernel
theorem dX9_hear_65 : decode cX9_hear 65 = .ok (.getfield 47, 3) := by decide +kernel
theorem dX9_hear_68 : decode cX9_hear 68 = .ok (.iload_n 2, 1) := by decide +kernel
theorem dX9_hear_69 : decode cX9_hear 69 = .ok (.iaload, 1) := by decide +kernel
theorem dX9_hear_70 : decode cX9_hear 70 = .ok (.aload_n 0, 1) := by decide +kernel
theorem dX9_hear_71 : decode cX9_hear 71 = .ok (.getfield 38, 3) := by decide +kernel
theorem dX9_hear_74 : decode cX9_hear 74 = .ok (.iload_n 2, 1) := by decide +kernel
theorem dX9_hear_75 : decode cX9_hear 75 = .ok (.iaload, 1) := by decide +kernel
theorem dX9_hear_76 : decode cX9_hear 76 = .ok (.irem, 1) := by decide +kernel
theorem dX9_hear_77 : decode cX9_hear 77 = .ok (.ifCond .ne 7, 3) := by decide +kernel
theorem dX9_hear_80 : decode cX9_hear 80 = .ok (.iconst 1, 1) := by decide +kernel
theorem dX9_hear_81 : decode cX9_hear 81 = .ok (.goto 4, 3) := by decide +kernel
theorem dX9_hear_84 : decode cX9_hear 84 = .ok (.iconst 0, 1) := by decide +kernel
theorem dX9_hear_85 : decode cX9_hear 85 = .ok (.istore 5, 2) := by decide +kernel
theorem dX9_hear_87 : decode cX9_hear 87 = .ok (.aload_n 0, 1) := by decide +kernel
theorem dX9_hear_88 : decode cX9_hear 88 = .ok (.getfield 50, 3) := by decide +kernel
theorem dX9_hear_91 : decode cX9_hear 91 = .ok (.iload_n 2, 1) := by decide +kernel
theorem dX9_hear_92 : decode cX9_hear 92 = .ok (.dup2, 1) := by decide +kernel
theorem dX9_hear_93 : decode cX9_hear 93 = .ok (.iaload, 1) := by decide +kernel
theorem dX9_hear_94 : decode cX9_hear 94 = .ok (.iload 5, 2) := by decide +kernel
theorem dX9_hear_96 : decode cX9_hear 96 = .ok (.ifCond .eq 7, 3) := by decide +kernel
theorem dX9_hear_99 : decode cX9_hear 99 = .ok (.iconst 1, 1) := by decide +kernel
theorem dX9_hear_100 : decode cX9_hear 100 = .ok (.goto 4, 3) := by decide +kernel
theorem dX9_hear_103 : decode cX9_hear 103 = .ok (.iconst 0, 1) := by decide +kernel
theorem dX9_hear_104 : decode cX9_hear 104 = .ok (.iadd, 1) := by decide +kernel
theorem dX9_hear_105 : decode cX9_hear 105 = .ok (.iastore, 1) := by decide +kernel
theorem dX9_hear_106 : decode cX9_hear 106 = .ok (.iconst 0, 1) := by decide +kernel
theorem dX9_hear_107 : decode cX9_hear 107 = .ok (.istore 6, 2) := by decide +kernel
theorem dX9_hear_109 : decode cX9_hear 109 = .ok (.iload 6, 2) := by decide +kernel
theorem dX9_hear_111 : decode cX9_hear 111 = .ok (.iconst 4, 1) := by decide +kernel
theorem dX9_hear_112 : decode cX9_hear 112 = .ok (.if_icmp .ge 45, 3) := by decide +kernel
theorem dX9_hear_115 : decode cX9_hear 115 = .ok (.aload_n 0, 1) := by decide +kernel
theorem dX9_hear_116 : decode cX9_hear 116 = .ok (.getfield 28, 3) := by decide +kernel
theorem dX9_hear_119 : decode cX9_hear 119 = .ok (.iconst 5, 1) := by decide +kernel
theorem dX9_hear_120 : decode cX9_hear 120 = .ok (.iload_n 1, 1) := by decide +kernel
theorem dX9_hear_121 : decode cX9_hear 121 = .ok (.imul, 1) := by decide +kernel
theorem dX9_hear_122 : decode cX9_hear 122 = .ok (.iload 6, 2) := by decide +kernel
theorem dX9_hear_124 : decode cX9_hear 124 = .ok (.iadd, 1) := by decide +kernel
theorem dX9_hear_125 : decode cX9_hear 125 = .ok (.iload 4, 2) := by decide +kernel
theorem dX9_hear_127 : decode cX9_hear 127 = .ok (.ifCond .eq 22, 3) := by decide +kernel
theorem dX9_hear_130 : decode cX9_hear 130 = .ok (.iload 5, 2) := by decide +kernel
theorem dX9_hear_132 : decode cX9_hear 132 = .ok (.ifCond .ne 17, 3) := by decide +kernel
theorem dX9_hear_135 : decode cX9_hear 135 = .ok (.aload_n 0, 1) := by decide +kernel
theorem dX9_hear_136 : decode cX9_hear 136 = .ok (.getfield 41, 3) := by decide +kernel
theorem dX9_hear_139 : decode cX9_hear 139 = .ok (.iload_n 3, 1) := by decide +kernel
theorem dX9_hear_140 : decode cX9_hear 140 = .ok (.iconst 1, 1) := by decide +kernel
theorem dX9_hear_141 : decode cX9_hear 141 = .ok (.iadd, 1) := by decide +kernel
theorem dX9_hear_142 : decode cX9_hear 142 = .ok (.iload 6, 2) := by decide +kernel
theorem dX9_hear_144 : decode cX9_hear 144 = .ok (.iadd, 1) := by decide +kernel
theorem dX9_hear_145 : decode cX9_hear 145 = .ok (.iaload, 1) := by decide +kernel
theorem dX9_hear_146 : decode cX9_hear 146 = .ok (.goto 4, 3) := by decide +kernel
theorem dX9_hear_149 : decode cX9_hear 149 = .ok (.iconst 0, 1) := by decide +kernel
theorem dX9_hear_150 : decode cX9_hear 150 = .ok (.iastore, 1) := by decide +kernel
theorem dX9_hear_151 : decode cX9_hear 151 = .ok (.iinc 6 1, 3) := by decide +kernel
theorem dX9_hear_154 : decode cX9_hear 154 = .ok (.goto (-45), 3) := by decide +kernel
theorem dX9_hear_157 : decode cX9_hear 157 = .ok (.aload_n 0, 1) := by decide +kernel
theorem dX9_hear_158 : decode cX9_hear 158 = .ok (.getfield 28, 3) := by decide +kernel
theorem dX9_hear_161 : decode cX9_hear 161 = .ok (.iconst 5, 1) := by decide +kernel
theorem dX9_hear_162 : decode cX9_hear 162 = .ok (.iload_n 1, 1) := by decide +kernel
theorem dX9_hear_163 : decode cX9_hear 163 = .ok (.imul, 1) := by decide +kernel
theorem dX9_hear_164 : decode cX9_hear 164 = .ok (.iconst 4, 1) := by decide +kernel
theorem dX9_hear_165 : decode cX9_hear 165 = .ok (.iadd, 1) := by decide +kernel
theorem dX9_hear_166 : decode cX9_hear 166 = .ok (.iload 4, 2) := by decide +kernel
theorem dX9_hear_168 : decode cX9_hear 168 = .ok (.ifCond .eq 20, 3) := by decide +kernel
theorem dX9_hear_171 : decode cX9_hear 171 = .ok (.iload 5, 2) := by decide +kernel
theorem dX9_hear_173 : decode cX9_hear 173 = .ok (.ifCond .ne 15, 3) := by decide +kernel
theorem dX9_hear_176 : decode cX9_hear 176 = .ok (.aload_n 0, 1) := by decide +kernel
theorem dX9_hear_177 : decode cX9_hear 177 = .ok (.getfield 44, 3) := by decide +kernel
theorem dX9_hear_180 : decode cX9_hear 180 = .ok (.iload_n 3, 1) := by decide +kernel
theorem dX9_hear_181 : decode cX9_hear 181 = .ok (.bipush 8, 2) := by decide +kernel
theorem dX9_hear_183 : decode cX9_hear 183 = .ok (.idiv, 1) := by decide +kernel
theorem dX9_hear_184 : decode cX9_hear 184 = .ok (.iaload, 1) := by decide +kernel
theorem dX9_hear_185 : decode cX9_hear 185 = .ok (.goto 4, 3) := by decide +kernel
theorem dX9_hear_188 : decode cX9_hear 188 = .ok (.iconst 0, 1) := by decide +kernel
theorem dX9_hear_189 : decode cX9_hear 189 = .ok (.iastore, 1) := by decide +kernel
theorem dX9_hear_190 : decode cX9_hear 190 = .ok (.iconst 0, 1) := by decide +kernel
theorem dX9_hear_191 : decode cX9_hear 191 = .ok (.istore 6, 2) := by decide +kernel
theorem dX9_hear_193 : decode cX9_hear 193 = .ok (.iload 6, 2) := by decide +kernel
theorem dX9_hear_195 : decode cX9_hear 195 = .ok (.iconst 3, 1) := by decide +kernel
theorem dX9_hear_196 : decode cX9_hear 196 = .ok (.if_icmp .ge 31, 3) := by decide +kernel
theorem dX9_hear_199 : decode cX9_hear 199 = .ok (.aload_n 0, 1) := by decide +kernel
theorem dX9_hear_200 : decode cX9_hear 200 = .ok (.getfield 62, 3) := by decide +kernel
theorem dX9_hear_203 : decode cX9_hear 203 = .ok (.iconst 3, 1) := by decide +kernel
theorem dX9_hear_204 : decode cX9_hear 204 = .ok (.iload_n 1, 1) := by decide +kernel
theorem dX9_hear_205 : decode cX9_hear 205 = .ok (.imul, 1) := by decide +kernel
theorem dX9_hear_206 : decode cX9_hear 206 = .ok (.iload 6, 2) := by decide +kernel
theorem dX9_hear_208 : decode cX9_hear 208 = .ok (.iadd, 1) := by decide +kernel
theorem dX9_hear_209 : decode cX9_hear 209 = .ok (.aload_n 0, 1) := by decide +kernel
theorem dX9_hear_210 : decode cX9_hear 210 = .ok (.getfield 41, 3) := by decide +kernel
theorem dX9_hear_213 : decode cX9_hear 213 = .ok (.iload_n 3, 1) := by decide +kernel
theorem dX9_hear_214 : decode cX9_hear 214 = .ok (.iconst 5, 1) := by decide +kernel
theorem dX9_hear_215 : decode cX9_hear 215 = .ok (.iadd, 1) := by decide +kernel
theorem dX9_hear_216 : decode cX9_hear 216 = .ok (.iload 6, 2) := by decide +kernel
theorem dX9_hear_218 : decode cX9_hear 218 = .ok (.iadd, 1) := by decide +kernel
theorem dX9_hear_219 : decode cX9_hear 219 = .ok (.iaload, 1) := by decide +kernel
theorem dX9_hear_220 : decode cX9_hear 220 = .ok (.iastore, 1) := by decide +kernel
theorem dX9_hear_221 : decode cX9_hear 221 = .ok (.iinc 6 1, 3) := by decide +kernel
theorem dX9_hear_224 : decode cX9_hear 224 = .ok (.goto (-31), 3) := by decide +kernel
theorem dX9_hear_227 : decode cX9_hear 227 = .ok (.aload_n 0, 1) := by decide +kernel
theorem dX9_hear_228 : decode cX9_hear 228 = .ok (.getfield 41, 3) := by decide +kernel
theorem dX9_hear_231 : decode cX9_hear 231 = .ok (.iload_n 3, 1) := by decide +kernel
theorem dX9_hear_232 : decode cX9_hear 232 = .ok (.iconst 0, 1) := by decide +kernel
theorem dX9_hear_233 : decode cX9_hear 233 = .ok (.iastore, 1) := by decide +kernel
theorem dX9_hear_234 : decode cX9_hear 234 = .ok (.return_, 1) := by decide +kernel
set_option maxRecDepth 20000 in
theorem ggX9_into_X9_goesTo : GoodIn wsX9_into wsX9_goesTo := goodIn_r _ [9, 10, 11, 12, 8, 13, 14, 23, 24, 25, 26, 27, 28, 29, 30, 31, 32, 33, 34, 35, 36, 37, 38, 39, 40, 41, 42, 43, 44, 45, 46, 47, 48, 49, 50, 51, 52] (by decide +kernel) (by decide +kernel)
set_option maxRecDepth 20000 in
theorem gX9_into_X9_goesTo : GoodIn wsX9_into (wsV RX9 117 RX9 yX9_goesTo wsX9_goesTo) := goodIn_app (goodIn_of _ (by decide +kernel)) ggX9_into_X9_goesTo
set_option maxRecDepth 20000 in
theorem ggX9_into_X9_put : GoodIn wsX9_into wsX9_put := goodIn_r _ [13, 14, 23, 24, 25, 26, 27, 28, 29, 30, 31, 32, 33, 34, 35, 36, 37, 38, 39, 40, 41, 42, 43, 44, 45, 46, 47, 48, 49, 50, 51, 52] (by decide +kernel) (by decide +kernel)
set_option maxRecDepth 20000 in
theorem gX9_into_X9_put : GoodIn wsX9_into (wsV RX9 114 RX9 yX9_put wsX9_put) := goodIn_app (goodIn_of _ (by decide +kernel)) ggX9_into_X9_put
set_option maxRecDepth 20000 in
theorem ggX9_into_X9_of : GoodIn wsX9_into wsX9_of := goodIn_r _ [18, 14, 23, 24, 25, 26, 27, 28, 29, 30, 31, 32, 33, 34, 35, 36, 37, 38, 39, 40, 41, 42, 43, 44, 45, 46, 47, 48, 49, 50, 51, 52] (by decide +kernel) (by decide +kernel)
set_option maxRecDepth 20000 in
theorem gX9_into_X9_of : GoodIn wsX9_into (wsV RX9 106 RX9 yX9_of wsX9_of) := goodIn_app (goodIn_of _ (by decide +kernel)) ggX9_into_X9_of
set_option maxRecDepth 20000 in
theorem ggX9_into_X9_add : GoodIn wsX9_into wsX9_add := goodIn_r _ [22, 14, 23, 24, 25, 26, 27, 28, 29, 30, 31, 32, 33, 34, 35, 36, 37, 38, 39, 40, 41, 42, 43, 44, 45, 46, 47, 48, 49, 50, 51, 52] (by decide +kernel) (by decide +kernel)
set_option maxRecDepth 20000 in
theorem gX9_into_X9_add : GoodIn wsX9_into (wsV RX9 110 RX9 yX9_add wsX9_add) := goodIn_app (goodIn_of _ (by decide +kernel)) ggX9_into_X9_add
theorem dX9_into_0 : decode cX9_into 0 = .ok (.aload_n 0, 1) := by decide +kernel
theorem dX9_into_1 : decode cX9_into 1 = .ok (.iload_n 1, 1) := by decide +kernel
theorem dX9_into_2 : decode cX9_into 2 = .ok (.iload_n 2, 1) := by decide +kernel
theorem dX9_into_3 : decode cX9_into 3 = .ok (.invokevirtual 117, 3) := by decide +kernel
theorem dX9_into_6 : decode cX9_into 6 = .ok (.aload_n 0, 1) := by decide +kernel
theorem dX9_into_7 : decode cX9_into 7 = .ok (.iconst 1, 1) := by decide +kernel
theorem dX9_into_8 : decode cX9_into 8 = .ok (.putfield 127, 3) := by decide +kernel
theorem dX9_into_11 : decode cX9_into 11 = .ok (.aload_n 0, 1) := by decide +kernel
theorem dX9_into_12 : decode cX9_into 12 = .ok (.dup, 1) := by decide +kernel
theorem dX9_into_13 : decode cX9_into 13 = .ok (.getfield 131, 3) := by decide +kernel
theorem dX9_into_16 : decode cX9_into 16 = .ok (.iconst 1, 1) := by decide +kernel
theorem dX9_into_17 : decode cX9_into 17 = .ok (.iadd, 1) := by decide +kernel
theorem dX9_into_18 : decode cX9_into 18 = .ok (.putfield 131, 3) := by decide +kernel
theorem dX9_into_21 : decode cX9_into 21 = .ok (.iload_n 2, 1) := by decide +kernel
theorem dX9_into_22 : decode cX9_into 22 = .ok (.iconst 3, 1) := by decide +kernel
theorem dX9_into_23 : decode cX9_into 23 = .ok (.if_icmp .ne 29, 3) := by decide +kernel
theorem dX9_into_26 : decode cX9_into 26 = .ok (.iconst 0, 1) := by decide +kernel
theorem dX9_into_27 : decode cX9_into 27 = .ok (.istore_n 3, 1) := by decide +kernel
theorem dX9_into_28 : decode cX9_into 28 = .ok (.iload_n 3, 1) := by decide +kernel
theorem dX9_into_29 : decode cX9_into 29 = .ok (.bipush 8, 2) := by decide +kernel
theorem dX9_into_31 : decode cX9_into 31 = .ok (.if_icmp .ge 21, 3) := by decide +kernel
theorem dX9_into_34 : decode cX9_into 34 = .ok (.aload_n 0, 1) := by decide +kernel
theorem dX9_into_35 : decode cX9_into 35 = .ok (.getfield 13, 3) := by decide +kernel
theorem dX9_into_38 : decode cX9_into 38 = .ok (.bipush 8, 2) := by decide +kernel
theorem dX9_into_40 : decode cX9_into 40 = .ok (.iload_n 1, 1) := by decide +kernel
theorem dX9_into_41 : decode cX9_into 41 = .ok (.imul, 1) := by decide +kernel
theorem dX9_into_42 : decode cX9_into 42 = .ok (.iload_n 3, 1) := by decide +kernel
theorem dX9_into_43 : decode cX9_into 43 = .ok (.iadd, 1) := by decide +kernel
theorem dX9_into_44 : decode cX9_into 44 = .ok (.iconst 0, 1) := by decide +kernel
theorem dX9_into_45 : decode cX9_into 45 = .ok (.iastore, 1) := by decide +kernel
theorem dX9_into_46 : decode cX9_into 46 = .ok (.iinc 3 1, 3) := by decide +kernel
theorem dX9_into_49 : decode cX9_into 49 = .ok (.goto (-21), 3) := by decide +kernel
theorem dX9_into_52 : decode cX9_into 52 = .ok (.iload_n 2, 1) := by decide +kernel
theorem dX9_into_53 : decode cX9_into 53 = .ok (.iconst 4, 1) := by decide +kernel
theorem dX9_into_54 : decode cX9_into 54 = .ok (.if_icmp .ne 27, 3) := by decide +kernel
theorem dX9_into_57 : decode cX9_into 57 = .ok (.iconst 0, 1) := by decide +kernel
theorem dX9_into_58 : decode cX9_into 58 = .ok (.istore_n 3, 1) := by decide +kernel
theorem dX9_into_59 : decode cX9_into 59 = .ok (.iload_n 3, 1) := by decide +kernel
theorem dX9_into_60 : decode cX9_into 60 = .ok (.iconst 4, 1) := by decide +kernel
theorem dX9_into_61 : decode cX9_into 61 = .ok (.if_icmp .ge 20, 3) := by decide +kernel
theorem dX9_into_64 : decode cX9_into 64 = .ok (.aload_n 0, 1) := by decide +kernel
theorem dX9_into_65 : decode cX9_into 65 = .ok (.getfield 16, 3) := by decide +kernel
theorem dX9_into_68 : decode cX9_into 68 = .ok (.iconst 4, 1) := by decide +kernel
theorem dX9_into_69 : decode cX9_into 69 = .ok (.iload_n 1, 1) := by decide +kernel
theorem dX9_into_70 : decode cX9_into 70 = .ok (.imul, 1) := by decide +kernel
theorem dX9_into_71 : decode cX9_into 71 = .ok (.iload_n 3, 1) := by decide +kernel
theorem dX9_into_72 : decode cX9_into 72 = .ok (.iadd, 1) := by decide +kernel
theorem dX9_into_73 : decode cX9_into 73 = .ok (.iconst 0, 1) := by decide +kernel
theorem dX9_into_74 : decode cX9_into 74 = .ok (.iastore, 1) := by decide +kernel
theorem dX9_into_75 : decode cX9_into 75 = .ok (.iinc 3 1, 3) := by decide +kernel
theorem dX9_into_78 : decode cX9_into 78 = .ok (.goto (-19), 3) := by decide +kernel
theorem dX9_into_81 : decode cX9_into 81 = .ok (.iload_n 2, 1) := by decide +kernel
theorem dX9_into_82 : decode cX9_into 82 = .ok (.bipush 7, 2) := by decide +kernel
theorem dX9_into_84 : decode cX9_into 84 = .ok (.if_icmp .ne 56, 3) := by decide +kernel
theorem dX9_into_87 : decode cX9_into 87 = .ok (.aload_n 0, 1) := by decide +kernel
theorem dX9_into_88 : decode cX9_into 88 = .ok (.iload_n 1, 1) := by decide +kernel
theorem dX9_into_89 : decode cX9_into 89 = .ok (.iconst 5, 1) := by decide +kernel
theorem dX9_into_90 : decode cX9_into 90 = .ok (.iconst 0, 1) := by decide +kernel
theorem dX9_into_91 : decode cX9_into 91 = .ok (.invokevirtual 114, 3) := by decide +kernel
theorem dX9_into_94 : decode cX9_into 94 = .ok (.aload_n 0, 1) := by decide +kernel
theorem dX9_into_95 : decode cX9_into 95 = .ok (.iload_n 1, 1) := by decide +kernel
theorem dX9_into_96 : decode cX9_into 96 = .ok (.bipush 10, 2) := by decide +kernel
theorem dX9_into_98 : decode cX9_into 98 = .ok (.iconst 0, 1) := by decide +kernel
theorem dX9_into_99 : decode cX9_into 99 = .ok (.invokevirtual 114, 3) := by decide +kernel
theorem dX9_into_102 : decode cX9_into 102 = .ok (.aload_n 0, 1) := by decide +kernel
theorem dX9_into_103 : decode cX9_into 103 = .ok (.iload_n 1, 1) := by decide +kernel
theorem dX9_into_104 : decode cX9_into 104 = .ok (.bipush 15, 2) := by decide +kernel
theorem dX9_into_106 : decode cX9_into 106 = .ok (.iconst 0, 1) := by decide +kernel
theorem dX9_into_107 : decode cX9_into 107 = .ok (.invokevirtual 114, 3) := by decide +kernel
theorem dX9_into_110 : decode cX9_into 110 = .ok (.aload_n 0, 1) := by decide +kernel
theorem dX9_into_111 : decode cX9_into 111 = .ok (.iload_n 1, 1) := by decide +kernel
theorem dX9_into_112 : decode cX9_into 112 = .ok (.bipush 16, 2) := by decide +kernel
theorem dX9_into_114 : decode cX9_into 114 = .ok (.iconst 0, 1) := by decide +kernel
theorem dX9_into_115 : decode cX9_into 115 = .ok (.invokevirtual 114, 3) := by decide +kernel
theorem dX9_into_118 : decode cX9_into 118 = .ok (.aload_n 0, 1) := by decide +kernel
theorem dX9_into_119 : decode cX9_into 119 = .ok (.iload_n 1, 1) := by decide +kernel
theorem dX9_into_120 : decode cX9_into 120 = .ok (.bipush 7, 2) := by decide +kernel
theorem dX9_into_122 : decode cX9_into 122 = .ok (.aload_n 0, 1) := by decide +kernel
theorem dX9_into_123 : decode cX9_into 123 = .ok (.iload_n 1, 1) := by decide +kernel
theorem dX9_into_124 : decode cX9_into 124 = .ok (.bipush 8, 2) := by decide +kernel
theorem dX9_into_126 : decode cX9_into 126 = .ok (.invokevirtual 106, 3) := by decide +kernel
theorem dX9_into_129 : decode cX9_into 129 = .ok (.invokevirtual 114, 3) := by decide +kernel
theorem dX9_into_132 : decode cX9_into 132 = .ok (.aload_n 0, 1) := by decide +kernel
theorem dX9_into_133 : decode cX9_into 133 = .ok (.iload_n 1, 1) := by decide +kernel
theorem dX9_into_134 : decode cX9_into 134 = .ok (.bipush 14, 2) := by decide +kernel
theorem dX9_into_136 : decode cX9_into 136 = .ok (.iconst 1, 1) := by decide +kernel
theorem dX9_into_137 : decode cX9_into 137 = .ok (.invokevirtual 110, 3) := by decide +kernel
theorem dX9_into_140 : decode cX9_into 140 = .ok (.return_, 1) := by decide +kernel
set_option maxRecDepth 20000 in
theorem ggX9_mayGiveUp_X9_of : GoodIn wsX9_mayGiveUp wsX9_of := goodIn_r _ [5, 6, 27, 28, 29, 30, 31, 32, 33, 34, 35, 36, 37, 38, 39, 40, 41, 42, 43, 44, 45, 46, 47, 48, 49, 50, 51, 52, 53, 54, 55, 56] (by decide +kernel) (by decide +kernel)
set_option maxRecDepth 20000 in
theorem gX9_mayGiveUp_X9_of : GoodIn wsX9_mayGiveUp (wsV RX9 106 RX9 yX9_of wsX9_of) := goodIn_app (goodIn_of _ (by decide +kernel)) ggX9_mayGiveUp_X9_of
set_option maxRecDepth 20000 in
theorem ggX9_mayGiveUp_X9_add : GoodIn wsX9_mayGiveUp wsX9_add := goodIn_r _ [10, 6, 27, 28, 29, 30, 31, 32, 33, 34, 35, 36, 37, 38, 39, 40, 41, 42, 43, 44, 45, 46, 47, 48, 49, 50, 51, 52, 53, 54, 55, 56] (by decide +kernel) (by decide +kernel)
set_option maxRecDepth 20000 in
theorem gX9_mayGiveUp_X9_add : GoodIn wsX9_mayGiveUp (wsV RX9 110 RX9 yX9_add wsX9_add) := goodIn_app (goodIn_of _ (by decide +kernel)) ggX9_mayGiveUp_X9_add
set_option maxRecDepth 20000 in
theorem ggX9_mayGiveUp_X9_into : GoodIn wsX9_mayGiveUp wsX9_into := goodIn_r _ [14, 15, 16, 17, 18, 19, 20, 21, 4, 22, 23, 24, 25, 26, 6, 1, 2, 3, 5, 7, 8, 9, 10, 27, 28, 29, 30, 31, 32, 33, 34, 35, 36, 37, 38, 39, 40, 41, 42, 43, 44, 45, 46, 47, 48, 49, 50, 51, 52, 53, 54, 55, 56] (by decide +kernel) (by decide +kernel)
set_option maxRecDepth 20000 in
theorem gX9_mayGiveUp_X9_into : GoodIn wsX9_mayGiveUp (wsV RX9 134 RX9 yX9_into wsX9_into) := goodIn_app (goodIn_of _ (by decide +kernel)) ggX9_mayGiveUp_X9_into
theorem dX9_mayGiveUp_0 : decode cX9_mayGiveUp 0 = .ok (.aload_n 0, 1) := by decide +kernel
theorem dX9_mayGiveUp_1 : decode cX9_mayGiveUp 1 = .ok (.iload_n 1, 1) := by decide +kernel
theorem dX9_mayGiveUp_2 : decode cX9_mayGiveUp 2 = .ok (.iconst 0, 1) := by decide +kernel
theorem dX9_mayGiveUp_3 : decode cX9_mayGiveUp 3 = .ok (.invokevirtual 106, 3) := by decide +kernel
theorem dX9_mayGiveUp_6 : decode cX9_mayGiveUp 6 = .ok (.istore_n 2, 1) := by decide +kernel
theorem dX9_mayGiveUp_7 : decode cX9_mayGiveUp 7 = .ok (.iload_n 2, 1) := by decide +kernel
theorem dX9_mayGiveUp_8 : decode cX9_mayGiveUp 8 = .ok (.bipush 7, 2) := by decide +kernel
theorem dX9_mayGiveUp_10 : decode cX9_mayGiveUp 10 = .ok (.if_icmp .ne 23, 3) := by decide +kernel
theorem dX9_mayGiveUp_13 : decode cX9_mayGiveUp 13 = .ok (.aload_n 0, 1) := by decide +kernel
theorem dX9_mayGiveUp_14 : decode cX9_mayGiveUp 14 = .ok (.iload_n 1, 1) := by decide +kernel
theorem dX9_mayGiveUp_15 : decode cX9_mayGiveUp 15 = .ok (.bipush 16, 2) := by decide +kernel
theorem dX9_mayGiveUp_17 : decode cX9_mayGiveUp 17 = .ok (.invokevirtual 106, 3) := by decide +kernel
theorem dX9_mayGiveUp_20 : decode cX9_mayGiveUp 20 = .ok (.bipush 16, 2) := by decide +kernel
theorem dX9_mayGiveUp_22 : decode cX9_mayGiveUp 22 = .ok (.if_icmp .lt 7, 3) := by decide +kernel
theorem dX9_mayGiveUp_25 : decode cX9_mayGiveUp 25 = .ok (.iconst 1, 1) := by decide +kernel
theorem dX9_mayGiveUp_26 : decode cX9_mayGiveUp 26 = .ok (.goto 27, 3) := by decide +kernel
theorem dX9_mayGiveUp_29 : decode cX9_mayGiveUp 29 = .ok (.iconst 0, 1) := by decide +kernel
theorem dX9_mayGiveUp_30 : decode cX9_mayGiveUp 30 = .ok (.goto 23, 3) := by decide +kernel
theorem dX9_mayGiveUp_33 : decode cX9_mayGiveUp 33 = .ok (.iload_n 2, 1) := by decide +kernel
theorem dX9_mayGiveUp_34 : decode cX9_mayGiveUp 34 = .ok (.ifCond .eq 18, 3) := by decide +kernel
theorem dX9_mayGiveUp_37 : decode cX9_mayGiveUp 37 = .ok (.aload_n 0, 1) := by decide +kernel
theorem dX9_mayGiveUp_38 : decode cX9_mayGiveUp 38 = .ok (.iload_n 1, 1) := by decide +kernel
theorem dX9_mayGiveUp_39 : decode cX9_mayGiveUp 39 = .ok (.iconst 1, 1) := by decide +kernel
theorem dX9_mayGiveUp_40 : decode cX9_mayGiveUp 40 = .ok (.invokevirtual 106, 3) := by decide +kernel
theorem dX9_mayGiveUp_43 : decode cX9_mayGiveUp 43 = .ok (.bipush 60, 2) := by decide +kernel
theorem dX9_mayGiveUp_45 : decode cX9_mayGiveUp 45 = .ok (.if_icmp .lt 7, 3) := by decide +kernel
theorem dX9_mayGiveUp_48 : decode cX9_mayGiveUp 48 = .ok (.iconst 1, 1) := by decide +kernel
theorem dX9_mayGiveUp_49 : decode cX9_mayGiveUp 49 = .ok (.goto 4, 3) := by decide +kernel
theorem dX9_mayGiveUp_52 : decode cX9_mayGiveUp 52 = .ok (.iconst 0, 1) := by decide +kernel
theorem dX9_mayGiveUp_53 : decode cX9_mayGiveUp 53 = .ok (.istore_n 3, 1) := by decide +kernel
theorem dX9_mayGiveUp_54 : decode cX9_mayGiveUp 54 = .ok (.iload_n 3, 1) := by decide +kernel
theorem dX9_mayGiveUp_55 : decode cX9_mayGiveUp 55 = .ok (.ifCond .eq 17, 3) := by decide +kernel
theorem dX9_mayGiveUp_58 : decode cX9_mayGiveUp 58 = .ok (.aload_n 0, 1) := by decide +kernel
theorem dX9_mayGiveUp_59 : decode cX9_mayGiveUp 59 = .ok (.iload_n 1, 1) := by decide +kernel
theorem dX9_mayGiveUp_60 : decode cX9_mayGiveUp 60 = .ok (.bipush 12, 2) := by decide +kernel
theorem dX9_mayGiveUp_62 : decode cX9_mayGiveUp 62 = .ok (.iconst 1, 1) := by decide +kernel
theorem dX9_mayGiveUp_63 : decode cX9_mayGiveUp 63 = .ok (.invokevirtual 110, 3) := by decide +kernel
theorem dX9_mayGiveUp_66 : decode cX9_mayGiveUp 66 = .ok (.aload_n 0, 1) := by decide +kernel
theorem dX9_mayGiveUp_67 : decode cX9_mayGiveUp 67 = .ok (.iload_n 1, 1) := by decide +kernel
theorem dX9_mayGiveUp_68 : decode cX9_mayGiveUp 68 = .ok (.iconst 0, 1) := by decide +kernel
theorem dX9_mayGiveUp_69 : decode cX9_mayGiveUp 69 = .ok (.invokevirtual 134, 3) := by decide +kernel
theorem dX9_mayGiveUp_72 : decode cX9_mayGiveUp 72 = .ok (.return_, 1) := by decide +kernel
set_option maxRecDepth 20000 in
theorem ggX9_note_X9_ear : GoodIn wsX9_note wsX9_ear := goodIn_r _ [7, 8, 9, 10, 11, 12, 13, 14, 15, 16, 17, 18, 19, 20, 21, 22, 23, 24, 25, 26, 27, 28, 29, 30, 31, 32, 33, 34, 35, 36, 37, 38] (by decide +kernel) (by decide +kernel)
set_option maxRecDepth 20000 in
theorem gX9_note_X9_ear : GoodIn wsX9_note (wsV RX9 137 RX9 yX9_ear wsX9_ear) := goodIn_app (goodIn_of _ (by decide +kernel)) ggX9_note_X9_ear
theorem dX9_note_0 : decode cX9_note 0 = .ok (.aload_n 0, 1) := by decide +kernel
theorem dX9_note_1 : decode cX9_note 1 = .ok (.getfield 13, 3) := by decide +kernel
theorem dX9_note_4 : decode cX9_note 4 = .ok (.bipush 8, 2) := by decide +kernel
theorem dX9_note_6 : decode cX9_note 6 = .ok (.iload_n 1, 1) := by decide +kernel
theorem dX9_note_7 : decode cX9_note 7 = .ok (.imul, 1) := by decide +kernel
theorem dX9_note_8 : decode cX9_note 8 = .ok (.aload_n 0, 1) := by decide +kernel
theorem dX9_note_9 : decode cX9_note 9 = .ok (.iload_n 1, 1) := by decide +kernel
theorem dX9_note_10 : decode cX9_note 10 = .ok (.iconst 1, 1) := by decide +kernel
theorem dX9_note_11 : decode cX9_note 11 = .ok (.invokevirtual 137, 3) := by decide +kernel
theorem dX9_note_14 : decode cX9_note 14 = .ok (.iadd, 1) := by decide +kernel
theorem dX9_note_15 : decode cX9_note 15 = .ok (.aload_n 0, 1) := by decide +kernel
theorem dX9_note_16 : decode cX9_note 16 = .ok (.getfield 31, 3) := by decide +kernel
theorem dX9_note_19 : decode cX9_note 19 = .ok (.bipush 8, 2) := by decide +kernel
theorem dX9_note_21 : decode cX9_note 21 = .ok (.iconst 1, 1) := by decide +kernel
theorem dX9_note_22 : decode cX9_note 22 = .ok (.iload_n 1, 1) := by decide +kernel
theorem dX9_note_23 : decode cX9_note 23 = .ok (.isub, 1) := by decide +kernel
theorem dX9_note_24 : decode cX9_note 24 = .ok (.imul, 1) := by decide +kernel
theorem dX9_note_25 : decode cX9_note 25 = .ok (.aload_n 0, 1) := by decide +kernel
theorem dX9_note_26 : decode cX9_note 26 = .ok (.iload_n 1, 1) := by decide +kernel
theorem dX9_note_27 : decode cX9_note 27 = .ok (.iconst 1, 1) := by decide +kernel
theorem dX9_note_28 : decode cX9_note 28 = .ok (.invokevirtual 137, 3) := by decide +kernel
theorem dX9_note_31 : decode cX9_note 31 = .ok (.iadd, 1) := by decide +kernel
theorem dX9_note_32 : decode cX9_note 32 = .ok (.iaload, 1) := by decide +kernel
theorem dX9_note_33 : decode cX9_note 33 = .ok (.iastore, 1) := by decide +kernel
theorem dX9_note_34 : decode cX9_note 34 = .ok (.return_, 1) := by decide +kernel
set_option maxRecDepth 20000 in
theorem ggX9_hearsOffer_X9_ear : GoodIn wsX9_hearsOffer wsX9_ear := goodIn_r _ [5, 6, 32, 33, 34, 35, 36, 37, 38, 39, 40, 41, 42, 43, 44, 45, 46, 47, 48, 49, 50, 51, 52, 53, 54, 55, 56, 57, 58, 59, 60, 61] (by decide +kernel) (by decide +kernel)
set_option maxRecDepth 20000 in
theorem gX9_hearsOffer_X9_ear : GoodIn wsX9_hearsOffer (wsV RX9 137 RX9 yX9_ear wsX9_ear) := goodIn_app (goodIn_of _ (by decide +kernel)) ggX9_hearsOffer_X9_ear
set_option maxRecDepth 20000 in
theorem ggX9_hearsOffer_X9_of : GoodIn wsX9_hearsOffer wsX9_of := goodIn_r _ [10, 11, 32, 33, 34, 35, 36, 37, 38, 39, 40, 41, 42, 43, 44, 45, 46, 47, 48, 49, 50, 51, 52, 53, 54, 55, 56, 57, 58, 59, 60, 61] (by decide +kernel) (by decide +kernel)
set_option maxRecDepth 20000 in
theorem gX9_hearsOffer_X9_of : GoodIn wsX9_hearsOffer (wsV RX9 106 RX9 yX9_of wsX9_of) := goodIn_app (goodIn_of _ (by decide +kernel)) ggX9_hearsOffer_X9_of
set_option maxRecDepth 20000 in
theorem ggX9_hearsOffer_X9_put : GoodIn wsX9_hearsOffer wsX9_put := goodIn_r _ [15, 11, 32, 33, 34, 35, 36, 37, 38, 39, 40, 41, 42, 43, 44, 45, 46, 47, 48, 49, 50, 51, 52, 53, 54, 55, 56, 57, 58, 59, 60, 61] (by decide +kernel) (by decide +kernel)
set_option maxRecDepth 20000 in
theorem gX9_hearsOffer_X9_put : GoodIn wsX9_hearsOffer (wsV RX9 114 RX9 yX9_put wsX9_put) := goodIn_app (goodIn_of _ (by decide +kernel)) ggX9_hearsOffer_X9_put
set_option maxRecDepth 20000 in
theorem ggX9_hearsOffer_X9_into : GoodIn wsX9_hearsOffer wsX9_into := goodIn_r _ [19, 20, 21, 22, 23, 24, 25, 26, 4, 27, 12, 13, 14, 15, 11, 7, 8, 9, 10, 28, 29, 30, 31, 32, 33, 34, 35, 36, 37, 38, 39, 40, 41, 42, 43, 44, 45, 46, 47, 48, 49, 50, 51, 52, 53, 54, 55, 56, 57, 58, 59, 60, 61] (by decide +kernel) (by decide +kernel)
set_option maxRecDepth 20000 in
theorem gX9_hearsOffer_X9_into : GoodIn wsX9_hearsOffer (wsV RX9 134 RX9 yX9_into wsX9_into) := goodIn_app (goodIn_of _ (by decide +kernel)) ggX9_hearsOffer_X9_into
theorem dX9_hearsOffer_0 : decode cX9_hearsOffer 0 = .ok (.aload_n 0, 1) := by decide +kernel
theorem dX9_hearsOffer_1 : decode cX9_hearsOffer 1 = .ok (.iload_n 1, 1) := by decide +kernel
theorem dX9_hearsOffer_2 : decode cX9_hearsOffer 2 = .ok (.iconst 0, 1) := by decide +kernel
theorem dX9_hearsOffer_3 : decode cX9_hearsOffer 3 = .ok (.invokevirtual 137, 3) := by decide +kernel
theorem dX9_hearsOffer_6 : decode cX9_hearsOffer 6 = .ok (.iconst 5, 1) := by decide +kernel
theorem dX9_hearsOffer_7 : decode cX9_hearsOffer 7 = .ok (.if_icmp .ne 36, 3) := by decide +kernel
theorem dX9_hearsOffer_10 : decode cX9_hearsOffer 10 = .ok (.aload_n 0, 1) := by decide +kernel
theorem dX9_hearsOffer_11 : decode cX9_hearsOffer 11 = .ok (.iload_n 1, 1) := by decide +kernel
theorem dX9_hearsOffer_12 : decode cX9_hearsOffer 12 = .ok (.iconst 1, 1) := by decide +kernel
theorem dX9_hearsOffer_13 : decode cX9_hearsOffer 13 = .ok (.invokevirtual 137, 3) := by decide +kernel
theorem dX9_hearsOffer_16 : decode cX9_hearsOffer 16 = .ok (.aload_n 0, 1) := by decide +kernel
theorem dX9_hearsOffer_17 : decode cX9_hearsOffer 17 = .ok (.iload_n 1, 1) := by decide +kernel
theorem dX9_hearsOffer_18 : decode cX9_hearsOffer 18 = .ok (.iconst 2, 1) := by decide +kernel
theorem dX9_hearsOffer_19 : decode cX9_hearsOffer 19 = .ok (.invokevirtual 106, 3) := by decide +kernel
theorem dX9_hearsOffer_22 : decode cX9_hearsOffer 22 = .ok (.if_icmp .le 21, 3) := by decide +kernel
theorem dX9_hearsOffer_25 : decode cX9_hearsOffer 25 = .ok (.aload_n 0, 1) := by decide +kernel
theorem dX9_hearsOffer_26 : decode cX9_hearsOffer 26 = .ok (.iload_n 1, 1) := by decide +kernel
theorem dX9_hearsOffer_27 : decode cX9_hearsOffer 27 = .ok (.iconst 2, 1) := by decide +kernel
theorem dX9_hearsOffer_28 : decode cX9_hearsOffer 28 = .ok (.aload_n 0, 1) := by decide +kernel
theorem dX9_hearsOffer_29 : decode cX9_hearsOffer 29 = .ok (.iload_n 1, 1) := by decide +kernel
theorem dX9_hearsOffer_30 : decode cX9_hearsOffer 30 = .ok (.iconst 1, 1) := by decide +kernel
theorem dX9_hearsOffer_31 : decode cX9_hearsOffer 31 = .ok (.invokevirtual 137, 3) := by decide +kernel
theorem dX9_hearsOffer_34 : decode cX9_hearsOffer 34 = .ok (.invokevirtual 114, 3) := by decide +kernel
theorem dX9_hearsOffer_37 : decode cX9_hearsOffer 37 = .ok (.aload_n 0, 1) := by decide +kernel
theorem dX9_hearsOffer_38 : decode cX9_hearsOffer 38 = .ok (.iload_n 1, 1) := by decide +kernel
theorem dX9_hearsOffer_39 : decode cX9_hearsOffer 39 = .ok (.iconst 5, 1) := by decide +kernel
theorem dX9_hearsOffer_40 : decode cX9_hearsOffer 40 = .ok (.invokevirtual 134, 3) := by decide +kernel
theorem dX9_hearsOffer_43 : decode cX9_hearsOffer 43 = .ok (.return_, 1) := by decide +kernel
set_option maxRecDepth 20000 in
theorem ggX9_agrees_X9_put : GoodIn wsX9_agrees wsX9_put := goodIn_r _ [5, 6, 27, 28, 29, 30, 31, 32, 33, 34, 35, 36, 37, 38, 39, 40, 41, 42, 43, 44, 45, 46, 47, 48, 49, 50, 51, 52, 53, 54, 55, 56] (by decide +kernel) (by decide +kernel)
set_option maxRecDepth 20000 in
theorem gX9_agrees_X9_put : GoodIn wsX9_agrees (wsV RX9 114 RX9 yX9_put wsX9_put) := goodIn_app (goodIn_of _ (by decide +kernel)) ggX9_agrees_X9_put
set_option maxRecDepth 20000 in
theorem ggX9_agrees_X9_into : GoodIn wsX9_agrees wsX9_into := goodIn_r _ [10, 11, 12, 13, 14, 15, 16, 17, 4, 18, 1, 2, 3, 5, 6, 19, 20, 21, 22, 23, 24, 25, 26, 27, 28, 29, 30, 31, 32, 33, 34, 35, 36, 37, 38, 39, 40, 41, 42, 43, 44, 45, 46, 47, 48, 49, 50, 51, 52, 53, 54, 55, 56] (by decide +kernel) (by decide +kernel)
set_option maxRecDepth 20000 in
theorem gX9_agrees_X9_into : GoodIn wsX9_agrees (wsV RX9 134 RX9 yX9_into wsX9_into) := goodIn_app (goodIn_of _ (by decide +kernel)) ggX9_agrees_X9_into
theorem dX9_agrees_0 : decode cX9_agrees 0 = .ok (.aload_n 0, 1) := by decide +kernel
theorem dX9_agrees_1 : decode cX9_agrees 1 = .ok (.iload_n 1, 1) := by decide +kernel
theorem dX9_agrees_2 : decode cX9_agrees 2 = .ok (.iconst 4, 1) := by decide +kernel
theorem dX9_agrees_3 : decode cX9_agrees 3 = .ok (.iload_n 2, 1) := by decide +kernel
theorem dX9_agrees_4 : decode cX9_agrees 4 = .ok (.invokevirtual 114, 3) := by decide +kernel
theorem dX9_agrees_7 : decode cX9_agrees 7 = .ok (.aload_n 0, 1) := by decide +kernel
theorem dX9_agrees_8 : decode cX9_agrees 8 = .ok (.iload_n 1, 1) := by decide +kernel
theorem dX9_agrees_9 : decode cX9_agrees 9 = .ok (.iload_n 2, 1) := by decide +kernel
theorem dX9_agrees_10 : decode cX9_agrees 10 = .ok (.ifCond .ne 7, 3) := by decide +kernel
theorem dX9_agrees_13 : decode cX9_agrees 13 = .ok (.iconst 0, 1) := by decide +kernel
theorem dX9_agrees_14 : decode cX9_agrees 14 = .ok (.goto 5, 3) := by decide +kernel
theorem dX9_agrees_17 : decode cX9_agrees 17 = .ok (.bipush 6, 2) := by decide +kernel
theorem dX9_agrees_19 : decode cX9_agrees 19 = .ok (.invokevirtual 134, 3) := by decide +kernel
theorem dX9_agrees_22 : decode cX9_agrees 22 = .ok (.return_, 1) := by decide +kernel
set_option maxRecDepth 20000 in
theorem ggX9_bargains_X9_ear : GoodIn wsX9_bargains wsX9_ear := goodIn_r _ [5, 6, 40, 41, 42, 43, 44, 45, 46, 47, 48, 49, 50, 51, 52, 53, 54, 55, 56, 57, 58, 59, 60, 61, 62, 63, 64, 65, 66, 67, 68, 69] (by decide +kernel) (by decide +kernel)
set_option maxRecDepth 20000 in
theorem gX9_bargains_X9_ear : GoodIn wsX9_bargains (wsV RX9 137 RX9 yX9_ear wsX9_ear) := goodIn_app (goodIn_of _ (by decide +kernel)) ggX9_bargains_X9_ear
set_option maxRecDepth 20000 in
theorem ggX9_bargains_X9_of : GoodIn wsX9_bargains wsX9_of := goodIn_r _ [10, 11, 40, 41, 42, 43, 44, 45, 46, 47, 48, 49, 50, 51, 52, 53, 54, 55, 56, 57, 58, 59, 60, 61, 62, 63, 64, 65, 66, 67, 68, 69] (by decide +kernel) (by decide +kernel)
set_option maxRecDepth 20000 in
theorem gX9_bargains_X9_of : GoodIn wsX9_bargains (wsV RX9 106 RX9 yX9_of wsX9_of) := goodIn_app (goodIn_of _ (by decide +kernel)) ggX9_bargains_X9_of
set_option maxRecDepth 20000 in
theorem ggX9_bargains_X9_agrees : GoodIn wsX9_bargains wsX9_agrees := goodIn_r _ [15, 16, 17, 18, 4, 19, 11, 20, 21, 22, 23, 24, 25, 26, 27, 28, 29, 30, 31, 7, 8, 9, 10, 32, 33, 34, 35, 40, 41, 42, 43, 44, 45, 46, 47, 48, 49, 50, 51, 52, 53, 54, 55, 56, 57, 58, 59, 60, 61, 62, 63, 64, 65, 66, 67, 68, 69] (by decide +kernel) (by decide +kernel)
set_option maxRecDepth 20000 in
theorem gX9_bargains_X9_agrees : GoodIn wsX9_bargains (wsV RX9 140 RX9 yX9_agrees wsX9_agrees) := goodIn_app (goodIn_of _ (by decide +kernel)) ggX9_bargains_X9_agrees
set_option maxRecDepth 20000 in
theorem ggX9_bargains_X9_hearsOffer : GoodIn wsX9_bargains wsX9_hearsOffer := goodIn_r _ [39, 1, 2, 3, 4, 5, 6, 7, 8, 9, 10, 11, 16, 17, 18, 19, 20, 21, 22, 23, 24, 25, 26, 27, 28, 29, 30, 31, 32, 33, 34, 35, 40, 41, 42, 43, 44, 45, 46, 47, 48, 49, 50, 51, 52, 53, 54, 55, 56, 57, 58, 59, 60, 61, 62, 63, 64, 65, 66, 67, 68, 69] (by decide +kernel) (by decide +kernel)
set_option maxRecDepth 20000 in
theorem gX9_bargains_X9_hearsOffer : GoodIn wsX9_bargains (wsV RX9 143 RX9 yX9_hearsOffer wsX9_hearsOffer) := goodIn_app (goodIn_of _ (by decide +kernel)) ggX9_bargains_X9_hearsOffer
theorem dX9_bargains_0 : decode cX9_bargains 0 = .ok (.aload_n 0, 1) := by decide +kernel
theorem dX9_bargains_1 : decode cX9_bargains 1 = .ok (.iload_n 1, 1) := by decide +kernel
theorem dX9_bargains_2 : decode cX9_bargains 2 = .ok (.iconst 1, 1) := by decide +kernel
theorem dX9_bargains_3 : decode cX9_bargains 3 = .ok (.invokevirtual 137, 3) := by decide +kernel
theorem dX9_bargains_6 : decode cX9_bargains 6 = .ok (.aload_n 0, 1) := by decide +kernel
theorem dX9_bargains_7 : decode cX9_bargains 7 = .ok (.iload_n 1, 1) := by decide +kernel
theorem dX9_bargains_8 : decode cX9_bargains 8 = .ok (.iconst 2, 1) := by decide +kernel
theorem dX9_bargains_9 : decode cX9_bargains 9 = .ok (.invokevirtual 106, 3) := by decide +kernel
theorem dX9_bargains_12 : decode cX9_bargains 12 = .ok (.if_icmp .ne 7, 3) := by decide +kernel
theorem dX9_bargains_15 : decode cX9_bargains 15 = .ok (.iconst 1, 1) := by decide +kernel
theorem dX9_bargains_16 : decode cX9_bargains 16 = .ok (.goto 4, 3) := by decide +kernel
theorem dX9_bargains_19 : decode cX9_bargains 19 = .ok (.iconst 0, 1) := by decide +kernel
theorem dX9_bargains_20 : decode cX9_bargains 20 = .ok (.istore_n 2, 1) := by decide +kernel
theorem dX9_bargains_21 : decode cX9_bargains 21 = .ok (.aload_n 0, 1) := by decide +kernel
theorem dX9_bargains_22 : decode cX9_bargains 22 = .ok (.iload_n 1, 1) := by decide +kernel
theorem dX9_bargains_23 : decode cX9_bargains 23 = .ok (.iconst 0, 1) := by decide +kernel
theorem dX9_bargains_24 : decode cX9_bargains 24 = .ok (.invokevirtual 137, 3) := by decide +kernel
theorem dX9_bargains_27 : decode cX9_bargains 27 = .ok (.iconst 5, 1) := by decide +kernel
theorem dX9_bargains_28 : decode cX9_bargains 28 = .ok (.if_icmp .ne 45, 3) := by decide +kernel
theorem dX9_bargains_31 : decode cX9_bargains 31 = .ok (.iload_n 2, 1) := by decide +kernel
theorem dX9_bargains_32 : decode cX9_bargains 32 = .ok (.ifCond .eq 41, 3) := by decide +kernel
theorem dX9_bargains_35 : decode cX9_bargains 35 = .ok (.aload_n 0, 1) := by decide +kernel
theorem dX9_bargains_36 : decode cX9_bargains 36 = .ok (.iload_n 1, 1) := by decide +kernel
theorem dX9_bargains_37 : decode cX9_bargains 37 = .ok (.aload_n 0, 1) := by decide +kernel
theorem dX9_bargains_38 : decode cX9_bargains 38 = .ok (.iload_n 1, 1) := by decide +kernel
theorem dX9_bargains_39 : decode cX9_bargains 39 = .ok (.iconst 2, 1) := by decide +kernel
theorem dX9_bargains_40 : decode cX9_bargains 40 = .ok (.invokevirtual 137, 3) := by decide +kernel
theorem dX9_bargains_43 : decode cX9_bargains 43 = .ok (.aload_n 0, 1) := by decide +kernel
theorem dX9_bargains_44 : decode cX9_bargains 44 = .ok (.iload_n 1, 1) := by decide +kernel
theorem dX9_bargains_45 : decode cX9_bargains 45 = .ok (.iconst 3, 1) := by decide +kernel
theorem dX9_bargains_46 : decode cX9_bargains 46 = .ok (.invokevirtual 106, 3) := by decide +kernel
theorem dX9_bargains_49 : decode cX9_bargains 49 = .ok (.if_icmp .ge 12, 3) := by decide +kernel
theorem dX9_bargains_52 : decode cX9_bargains 52 = .ok (.aload_n 0, 1) := by decide +kernel
theorem dX9_bargains_53 : decode cX9_bargains 53 = .ok (.iload_n 1, 1) := by decide +kernel
theorem dX9_bargains_54 : decode cX9_bargains 54 = .ok (.iconst 2, 1) := by decide +kernel
theorem dX9_bargains_55 : decode cX9_bargains 55 = .ok (.invokevirtual 137, 3) := by decide +kernel
theorem dX9_bargains_58 : decode cX9_bargains 58 = .ok (.goto 9, 3) := by decide +kernel
theorem dX9_bargains_61 : decode cX9_bargains 61 = .ok (.aload_n 0, 1) := by decide +kernel
theorem dX9_bargains_62 : decode cX9_bargains 62 = .ok (.iload_n 1, 1) := by decide +kernel
theorem dX9_bargains_63 : decode cX9_bargains 63 = .ok (.iconst 3, 1) := by decide +kernel
theorem dX9_bargains_64 : decode cX9_bargains 64 = .ok (.invokevirtual 106, 3) := by decide +kernel
theorem dX9_bargains_67 : decode cX9_bargains 67 = .ok (.invokevirtual 140, 3) := by decide +kernel
theorem dX9_bargains_70 : decode cX9_bargains 70 = .ok (.goto 37, 3) := by decide +kernel
theorem dX9_bargains_73 : decode cX9_bargains 73 = .ok (.aload_n 0, 1) := by decide +kernel
theorem dX9_bargains_74 : decode cX9_bargains 74 = .ok (.iload_n 1, 1) := by decide +kernel
theorem dX9_bargains_75 : decode cX9_bargains 75 = .ok (.iconst 0, 1) := by decide +kernel
theorem dX9_bargains_76 : decode cX9_bargains 76 = .ok (.invokevirtual 137, 3) := by decide +kernel
theorem dX9_bargains_79 : decode cX9_bargains 79 = .ok (.bipush 6, 2) := by decide +kernel
theorem dX9_bargains_81 : decode cX9_bargains 81 = .ok (.if_icmp .ne 21, 3) := by decide +kernel
theorem dX9_bargains_84 : decode cX9_bargains 84 = .ok (.iload_n 2, 1) := by decide +kernel
theorem dX9_bargains_85 : decode cX9_bargains 85 = .ok (.ifCond .eq 17, 3) := by decide +kernel
theorem dX9_bargains_88 : decode cX9_bargains 88 = .ok (.aload_n 0, 1) := by decide +kernel
theorem dX9_bargains_89 : decode cX9_bargains 89 = .ok (.iload_n 1, 1) := by decide +kernel
theorem dX9_bargains_90 : decode cX9_bargains 90 = .ok (.aload_n 0, 1) := by decide +kernel
theorem dX9_bargains_91 : decode cX9_bargains 91 = .ok (.iload_n 1, 1) := by decide +kernel
theorem dX9_bargains_92 : decode cX9_bargains 92 = .ok (.iconst 2, 1) := by decide +kernel
theorem dX9_bargains_93 : decode cX9_bargains 93 = .ok (.invokevirtual 137, 3) := by decide +kernel
theorem dX9_bargains_96 : decode cX9_bargains 96 = .ok (.invokevirtual 140, 3) := by decide +kernel
theorem dX9_bargains_99 : decode cX9_bargains 99 = .ok (.goto 8, 3) := by decide +kernel
theorem dX9_bargains_102 : decode cX9_bargains 102 = .ok (.aload_n 0, 1) := by decide +kernel
theorem dX9_bargains_103 : decode cX9_bargains 103 = .ok (.iload_n 1, 1) := by decide +kernel
theorem dX9_bargains_104 : decode cX9_bargains 104 = .ok (.invokevirtual 143, 3) := by decide +kernel
theorem dX9_bargains_107 : decode cX9_bargains 107 = .ok (.return_, 1) := by decide +kernel
set_option maxRecDepth 20000 in
theorem ggX9_takesFrame_X9_ear : GoodIn wsX9_takesFrame wsX9_ear := goodIn_r _ [8, 9, 23, 24, 25, 26, 27, 28, 29, 30, 31, 32, 33, 34, 35, 36, 37, 38, 39, 40, 41, 42, 43, 44, 45, 46, 47, 48, 49, 50, 51, 52] (by decide +kernel) (by decide +kernel)
set_option maxRecDepth 20000 in
theorem gX9_takesFrame_X9_ear : GoodIn wsX9_takesFrame (wsV RX9 137 RX9 yX9_ear wsX9_ear) := goodIn_app (goodIn_of _ (by decide +kernel)) ggX9_takesFrame_X9_ear
set_option maxRecDepth 20000 in
theorem ggX9_takesFrame_X9_of : GoodIn wsX9_takesFrame wsX9_of := goodIn_r _ [13, 14, 23, 24, 25, 26, 27, 28, 29, 30, 31, 32, 33, 34, 35, 36, 37, 38, 39, 40, 41, 42, 43, 44, 45, 46, 47, 48, 49, 50, 51, 52] (by decide +kernel) (by decide +kernel)
set_option maxRecDepth 20000 in
theorem gX9_takesFrame_X9_of : GoodIn wsX9_takesFrame (wsV RX9 106 RX9 yX9_of wsX9_of) := goodIn_app (goodIn_of _ (by decide +kernel)) ggX9_takesFrame_X9_of
set_option maxRecDepth 20000 in
theorem ggX9_takesFrame_X9_add : GoodIn wsX9_takesFrame wsX9_add := goodIn_r _ [18, 14, 23, 24, 25, 26, 27, 28, 29, 30, 31, 32, 33, 34, 35, 36, 37, 38, 39, 40, 41, 42, 43, 44, 45, 46, 47, 48, 49, 50, 51, 52] (by decide +kernel) (by decide +kernel)
set_option maxRecDepth 20000 in
theorem gX9_takesFrame_X9_add : GoodIn wsX9_takesFrame (wsV RX9 110 RX9 yX9_add wsX9_add) := goodIn_app (goodIn_of _ (by decide +kernel)) ggX9_takesFrame_X9_add
set_option maxRecDepth 20000 in
theorem ggX9_takesFrame_X9_put : GoodIn wsX9_takesFrame wsX9_put := goodIn_r _ [22, 14, 23, 24, 25, 26, 27, 28, 29, 30, 31, 32, 33, 34, 35, 36, 37, 38, 39, 40, 41, 42, 43, 44, 45, 46, 47, 48, 49, 50, 51, 52] (by decide +kernel) (by decide +kernel)
set_option maxRecDepth 20000 in
theorem gX9_takesFrame_X9_put : GoodIn wsX9_takesFrame (wsV RX9 114 RX9 yX9_put wsX9_put) := goodIn_app (goodIn_of _ (by decide +kernel)) ggX9_takesFrame_X9_put
theorem dX9_takesFrame_0 : decode cX9_takesFrame 0 = .ok (.aload_n 0, 1) := by decide +kernel
theorem dX9_takesFrame_1 : decode cX9_takesFrame 1 = .ok (.iload_n 1, 1) := by decide +kernel
theorem dX9_takesFrame_2 : decode cX9_takesFrame 2 = .ok (.iconst 3, 1) := by decide +kernel
theorem dX9_takesFrame_3 : decode cX9_takesFrame 3 = .ok (.invokevirtual 137, 3) := by decide +kernel
theorem dX9_takesFrame_6 : decode cX9_takesFrame 6 = .ok (.istore_n 2, 1) := by decide +kernel
theorem dX9_takesFrame_7 : decode cX9_takesFrame 7 = .ok (.aload_n 0, 1) := by decide +kernel
theorem dX9_takesFrame_8 : decode cX9_takesFrame 8 = .ok (.iload_n 1, 1) := by decide +kernel
theorem dX9_takesFrame_9 : decode cX9_takesFrame 9 = .ok (.iconst 2, 1) := by decide +kernel
theorem dX9_takesFrame_10 : decode cX9_takesFrame 10 = .ok (.invokevirtual 137, 3) := by decide +kernel
theorem dX9_takesFrame_13 : decode cX9_takesFrame 13 = .ok (.aload_n 0, 1) := by decide +kernel
theorem dX9_takesFrame_14 : decode cX9_takesFrame 14 = .ok (.iload_n 1, 1) := by decide +kernel
theorem dX9_takesFrame_15 : decode cX9_takesFrame 15 = .ok (.bipush 9, 2) := by decide +kernel
theorem dX9_takesFrame_17 : decode cX9_takesFrame 17 = .ok (.invokevirtual 106, 3) := by decide +kernel
theorem dX9_takesFrame_20 : decode cX9_takesFrame 20 = .ok (.if_icmp .ne 54, 3) := by decide +kernel
theorem dX9_takesFrame_23 : decode cX9_takesFrame 23 = .ok (.iconst 0, 1) := by decide +kernel
theorem dX9_takesFrame_24 : decode cX9_takesFrame 24 = .ok (.istore_n 3, 1) := by decide +kernel
theorem dX9_takesFrame_25 : decode cX9_takesFrame 25 = .ok (.iload_n 3, 1) := by decide +kernel
theorem dX9_takesFrame_26 : decode cX9_takesFrame 26 = .ok (.iload_n 2, 1) := by decide +kernel
theorem dX9_takesFrame_27 : decode cX9_takesFrame 27 = .ok (.if_icmp .ge 39, 3) := by decide +kernel
theorem dX9_takesFrame_30 : decode cX9_takesFrame 30 = .ok (.aload_n 0, 1) := by decide +kernel
theorem dX9_takesFrame_31 : decode cX9_takesFrame 31 = .ok (.getfield 25, 3) := by decide +kernel
theorem dX9_takesFrame_34 : decode cX9_takesFrame 34 = .ok (.sipush 200, 3) := by decide +kernel
theorem dX9_takesFrame_37 : decode cX9_takesFrame 37 = .ok (.iload_n 1, 1) := by decide +kernel
theorem dX9_takesFrame_38 : decode cX9_takesFrame 38 = .ok (.imul, 1) := by decide +kernel
theorem dX9_takesFrame_39 : decode cX9_takesFrame 39 = .ok (.aload_n 0, 1) := by decide +kernel
theorem dX9_takesFrame_40 : decode cX9_takesFrame 40 = .ok (.iload_n 1, 1) := by decide +kernel
theorem dX9_takesFrame_41 : decode cX9_takesFrame 41 = .ok (.bipush 9, 2) := by decide +kernel
theorem dX9_takesFrame_43 : decode cX9_takesFrame 43 = .ok (.invokevirtual 106, 3) := by decide +kernel
theorem dX9_takesFrame_46 : decode cX9_takesFrame 46 = .ok (.iadd, 1) := by decide +kernel
theorem dX9_takesFrame_47 : decode cX9_takesFrame 47 = .ok (.iload_n 3, 1) := by decide +kernel
theorem dX9_takesFrame_48 : decode cX9_takesFrame 48 = .ok (.iadd, 1) := by decide +kernel
theorem dX9_takesFrame_49 : decode cX9_takesFrame 49 = .ok (.aload_n 0, 1) := by decide +kernel
theorem dX9_takesFrame_50 : decode cX9_takesFrame 50 = .ok (.getfield 62, 3) := by decide +kernel
theorem dX9_takesFrame_53 : decode cX9_takesFrame 53 = .ok (.iconst 3, 1) := by decide +kernel
theorem dX9_takesFrame_54 : decode cX9_takesFrame 54 = .ok (.iload_n 1, 1) := by decide +kernel
theorem dX9_takesFrame_55 : decode cX9_takesFrame 55 = .ok (.imul, 1) := by decide +kernel
theorem dX9_takesFrame_56 : decode cX9_takesFrame 56 = .ok (.iload_n 3, 1) := by decide +kernel
theorem dX9_takesFrame_57 : decode cX9_takesFrame 57 = .ok (.iadd, 1) := by decide +kernel
theorem dX9_takesFrame_58 : decode cX9_takesFrame 58 = .ok (.iaload, 1) := by decide +kernel
theorem dX9_takesFrame_59 : decode cX9_takesFrame 59 = .ok (.iastore, 1) := by decide +kernel
theorem dX9_takesFrame_60 : decode cX9_takesFrame 60 = .ok (.iinc 3 1, 3) := by decide +kernel
theorem dX9_takesFrame_63 : decode cX9_takesFrame 63 = .ok (.goto (-38), 3) := by decide +kernel
theorem dX9_takesFrame_66 : decode cX9_takesFrame 66 = .ok (.aload_n 0, 1) := by decide +kernel
theorem dX9_takesFrame_67 : decode cX9_takesFrame 67 = .ok (.iload_n 1, 1) := by decide +kernel
theorem dX9_takesFrame_68 : decode cX9_takesFrame 68 = .ok (.bipush 9, 2) := by decide +kernel
theorem dX9_takesFrame_70 : decode cX9_takesFrame 70 = .ok (.iload_n 2, 1) := by decide +kernel
theorem dX9_takesFrame_71 : decode cX9_takesFrame 71 = .ok (.invokevirtual 110, 3) := by decide +kernel
theorem dX9_takesFrame_74 : decode cX9_takesFrame 74 = .ok (.aload_n 0, 1) := by decide +kernel
theorem dX9_takesFrame_75 : decode cX9_takesFrame 75 = .ok (.iload_n 1, 1) := by decide +kernel
theorem dX9_takesFrame_76 : decode cX9_takesFrame 76 = .ok (.iconst 4, 1) := by decide +kernel
theorem dX9_takesFrame_77 : decode cX9_takesFrame 77 = .ok (.invokevirtual 137, 3) := by decide +kernel
theorem dX9_takesFrame_80 : decode cX9_takesFrame 80 = .ok (.aload_n 0, 1) := by decide +kernel
theorem dX9_takesFrame_81 : decode cX9_takesFrame 81 = .ok (.iload_n 1, 1) := by decide +kernel
theorem dX9_takesFrame_82 : decode cX9_takesFrame 82 = .ok (.bipush 8, 2) := by decide +kernel
theorem dX9_takesFrame_84 : decode cX9_takesFrame 84 = .ok (.invokevirtual 106, 3) := by decide +kernel
theorem dX9_takesFrame_87 : decode cX9_takesFrame 87 = .ok (.if_icmp .le 21, 3) := by decide +kernel
theorem dX9_takesFrame_90 : decode cX9_takesFrame 90 = .ok (.aload_n 0, 1) := by decide +kernel
theorem dX9_takesFrame_91 : decode cX9_takesFrame 91 = .ok (.iload_n 1, 1) := by decide +kernel
theorem dX9_takesFrame_92 : decode cX9_takesFrame 92 = .ok (.bipush 8, 2) := by decide +kernel
theorem dX9_takesFrame_94 : decode cX9_takesFrame 94 = .ok (.aload_n 0, 1) := by decide +kernel
theorem dX9_takesFrame_95 : decode cX9_takesFrame 95 = .ok (.iload_n 1, 1) := by decide +kernel
theorem dX9_takesFrame_96 : decode cX9_takesFrame 96 = .ok (.iconst 4, 1) := by decide +kernel
theorem dX9_takesFrame_97 : decode cX9_takesFrame 97 = .ok (.invokevirtual 137, 3) := by decide +kernel
theorem dX9_takesFrame_100 : decode cX9_takesFrame 100 = .ok (.invokevirtual 114, 3) := by decide +kernel
theorem dX9_takesFrame_103 : decode cX9_takesFrame 103 = .ok (.aload_n 0, 1) := by decide +kernel
theorem dX9_takesFrame_104 : decode cX9_takesFrame 104 = .ok (.iconst 1, 1) := by decide +kernel
theorem dX9_takesFrame_105 : decode cX9_takesFrame 105 = .ok (.putfield 147, 3) := by decide +kernel
theorem dX9_takesFrame_108 : decode cX9_takesFrame 108 = .ok (.return_, 1) := by decide +kernel
set_option maxRecDepth 20000 in
theorem ggX9_hearsInData_X9_of : GoodIn wsX9_hearsInData wsX9_of := goodIn_r _ [7, 8, 43, 44, 45, 46, 47, 48, 49, 50, 51, 52, 53, 54, 55, 56, 57, 58, 59, 60, 61, 62, 63, 64, 65, 66, 67, 68, 69, 70, 71, 72] (by decide +kernel) (by decide +kernel)
set_option maxRecDepth 20000 in
theorem gX9_hearsInData_X9_of : GoodIn wsX9_hearsInData (wsV RX9 106 RX9 yX9_of wsX9_of) := goodIn_app (goodIn_of _ (by decide +kernel)) ggX9_hearsInData_X9_of
set_option maxRecDepth 20000 in
theorem ggX9_hearsInData_X9_ear : GoodIn wsX9_hearsInData wsX9_ear := goodIn_r _ [12, 13, 43, 44, 45, 46, 47, 48, 49, 50, 51, 52, 53, 54, 55, 56, 57, 58, 59, 60, 61, 62, 63, 64, 65, 66, 67, 68, 69, 70, 71, 72] (by decide +kernel) (by decide +kernel)
set_option maxRecDepth 20000 in
theorem gX9_hearsInData_X9_ear : GoodIn wsX9_hearsInData (wsV RX9 137 RX9 yX9_ear wsX9_ear) := goodIn_app (goodIn_of _ (by decide +kernel)) ggX9_hearsInData_X9_ear
set_option maxRecDepth 20000 in
theorem ggX9_hearsInData_X9_put : GoodIn wsX9_hearsInData wsX9_put := goodIn_r _ [17, 8, 43, 44, 45, 46, 47, 48, 49, 50, 51, 52, 53, 54, 55, 56, 57, 58, 59, 60, 61, 62, 63, 64, 65, 66, 67, 68, 69, 70, 71, 72] (by decide +kernel) (by decide +kernel)
set_option maxRecDepth 20000 in
theorem gX9_hearsInData_X9_put : GoodIn wsX9_hearsInData (wsV RX9 114 RX9 yX9_put wsX9_put) := goodIn_app (goodIn_of _ (by decide +kernel)) ggX9_hearsInData_X9_put
set_option maxRecDepth 20000 in
theorem ggX9_hearsInData_X9_hearsOffer : GoodIn wsX9_hearsInData wsX9_hearsOffer := goodIn_r _ [21, 9, 10, 11, 6, 12, 13, 3, 4, 5, 7, 8, 14, 15, 16, 17, 22, 23, 24, 25, 2, 26, 27, 28, 29, 30, 31, 32, 33, 34, 35, 36, 43, 44, 45, 46, 47, 48, 49, 50, 51, 52, 53, 54, 55, 56, 57, 58, 59, 60, 61, 62, 63, 64, 65, 66, 67, 68, 69, 70, 71, 72] (by decide +kernel) (by decide +kernel)
set_option maxRecDepth 20000 in
theorem gX9_hearsInData_X9_hearsOffer : GoodIn wsX9_hearsInData (wsV RX9 143 RX9 yX9_hearsOffer wsX9_hearsOffer) := goodIn_app (goodIn_of _ (by decide +kernel)) ggX9_hearsInData_X9_hearsOffer
set_option maxRecDepth 20000 in
theorem ggX9_hearsInData_X9_takesFrame : GoodIn wsX9_hearsInData wsX9_takesFrame := goodIn_r _ [40, 41, 42, 1, 9, 10, 11, 6, 12, 13, 3, 4, 5, 7, 8, 33, 34, 35, 36, 14, 15, 16, 17, 43, 44, 45, 46, 47, 48, 49, 50, 51, 52, 53, 54, 55, 56, 57, 58, 59, 60, 61, 62, 63, 64, 65, 66, 67, 68, 69, 70, 71, 72] (by decide +kernel) (by decide +kernel)
set_option maxRecDepth 20000 in
theorem gX9_hearsInData_X9_takesFrame : GoodIn wsX9_hearsInData (wsV RX9 150 RX9 yX9_takesFrame wsX9_takesFrame) := goodIn_app (goodIn_of _ (by decide +kernel)) ggX9_hearsInData_X9_takesFrame
theorem dX9_hearsInData_0 : decode cX9_hearsInData 0 = .ok (.aload_n 0, 1) := by decide +kernel
theorem dX9_hearsInData_1 : decode cX9_hearsInData 1 = .ok (.iload_n 1, 1) := by decide +kernel
theorem dX9_hearsInData_2 : decode cX9_hearsInData 2 = .ok (.bipush 15, 2) := by decide +kernel
theorem dX9_hearsInData_4 : decode cX9_hearsInData 4 = .ok (.iconst 2, 1) := by decide +kernel
theorem dX9_hearsInData_5 : decode cX9_hearsInData 5 = .ok (.aload_n 0, 1) := by decide +kernel
theorem dX9_hearsInData_6 : decode cX9_hearsInData 6 = .ok (.iload_n 1, 1) := by decide +kernel
theorem dX9_hearsInData_7 : decode cX9_hearsInData 7 = .ok (.bipush 15, 2) := by decide +kernel
theorem dX9_hearsInData_9 : decode cX9_hearsInData 9 = .ok (.invokevirtual 106, 3) := by decide +kernel
theorem dX9_hearsInData_12 : decode cX9_hearsInData 12 = .ok (.imul, 1) := by decide +kernel
theorem dX9_hearsInData_13 : decode cX9_hearsInData 13 = .ok (.aload_n 0, 1) := by decide +kernel
theorem dX9_hearsInData_14 : decode cX9_hearsInData 14 = .ok (.iload_n 1, 1) := by decide +kernel
theorem dX9_hearsInData_15 : decode cX9_hearsInData 15 = .ok (.iconst 0, 1) := by decide +kernel
theorem dX9_hearsInData_16 : decode cX9_hearsInData 16 = .ok (.invokevirtual 137, 3) := by decide +kernel
theorem dX9_hearsInData_19 : decode cX9_hearsInData 19 = .ok (.ifCond .ne 7, 3) := by decide +kernel
theorem dX9_hearsInData_22 : decode cX9_hearsInData 22 = .ok (.iconst 1, 1) := by decide +kernel
theorem dX9_hearsInData_23 : decode cX9_hearsInData 23 = .ok (.goto 4, 3) := by decide +kernel
theorem dX9_hearsInData_26 : decode cX9_hearsInData 26 = .ok (.iconst 0, 1) := by decide +kernel
theorem dX9_hearsInData_27 : decode cX9_hearsInData 27 = .ok (.iadd, 1) := by decide +kernel
theorem dX9_hearsInData_28 : decode cX9_hearsInData 28 = .ok (.sipush 255, 3) := by decide +kernel
theorem dX9_hearsInData_31 : decode cX9_hearsInData 31 = .ok (.iand, 1) := by decide +kernel
theorem dX9_hearsInData_32 : decode cX9_hearsInData 32 = .ok (.invokevirtual 114, 3) := by decide +kernel
theorem dX9_hearsInData_35 : decode cX9_hearsInData 35 = .ok (.aload_n 0, 1) := by decide +kernel
theorem dX9_hearsInData_36 : decode cX9_hearsInData 36 = .ok (.iload_n 1, 1) := by decide +kernel
theorem dX9_hearsInData_37 : decode cX9_hearsInData 37 = .ok (.bipush 16, 2) := by decide +kernel
theorem dX9_hearsInData_39 : decode cX9_hearsInData 39 = .ok (.aload_n 0, 1) := by decide +kernel
theorem dX9_hearsInData_40 : decode cX9_hearsInData 40 = .ok (.iload_n 1, 1) := by decide +kernel
theorem dX9_hearsInData_41 : decode cX9_hearsInData 41 = .ok (.iconst 0, 1) := by decide +kernel
theorem dX9_hearsInData_42 : decode cX9_hearsInData 42 = .ok (.invokevirtual 137, 3) := by decide +kernel
theorem dX9_hearsInData_45 : decode cX9_hearsInData 45 = .ok (.ifCond .ne 15, 3) := by decide +kernel
theorem dX9_hearsInData_48 : decode cX9_hearsInData 48 = .ok (.aload_n 0, 1) := by decide +kernel
theorem dX9_hearsInData_49 : decode cX9_hearsInData 49 = .ok (.iload_n 1, 1) := by decide +kernel
theorem dX9_hearsInData_50 : decode cX9_hearsInData 50 = .ok (.bipush 16, 2) := by decide +kernel
theorem dX9_hearsInData_52 : decode cX9_hearsInData 52 = .ok (.invokevirtual 106, 3) := by decide +kernel
theorem dX9_hearsInData_55 : decode cX9_hearsInData 55 = .ok (.iconst 1, 1) := by decide +kernel
theorem dX9_hearsInData_56 : decode cX9_hearsInData 56 = .ok (.iadd, 1) := by decide +kernel
theorem dX9_hearsInData_57 : decode cX9_hearsInData 57 = .ok (.goto 4, 3) := by decide +kernel
theorem dX9_hearsInData_60 : decode cX9_hearsInData 60 = .ok (.iconst 0, 1) := by decide +kernel
theorem dX9_hearsInData_61 : decode cX9_hearsInData 61 = .ok (.invokevirtual 114, 3) := by decide +kernel
theorem dX9_hearsInData_64 : decode cX9_hearsInData 64 = .ok (.aload_n 0, 1) := by decide +kernel
theorem dX9_hearsInData_65 : decode cX9_hearsInData 65 = .ok (.iconst 0, 1) := by decide +kernel
theorem dX9_hearsInData_66 : decode cX9_hearsInData 66 = .ok (.putfield 147, 3) := by decide +kernel
theorem dX9_hearsInData_69 : decode cX9_hearsInData 69 = .ok (.aload_n 0, 1) := by decide +kernel
theorem dX9_hearsInData_70 : decode cX9_hearsInData 70 = .ok (.iload_n 1, 1) := by decide +kernel
theorem dX9_hearsInData_71 : decode cX9_hearsInData 71 = .ok (.invokevirtual 143, 3) := by decide +kernel
theorem dX9_hearsInData_74 : decode cX9_hearsInData 74 = .ok (.aload_n 0, 1) := by decide +kernel
theorem dX9_hearsInData_75 : decode cX9_hearsInData 75 = .ok (.getfield 127, 3) := by decide +kernel
theorem dX9_hearsInData_78 : decode cX9_hearsInData 78 = .ok (.ifCond .ne 34, 3) := by decide +kernel
theorem dX9_hearsInData_81 : decode cX9_hearsInData 81 = .ok (.aload_n 0, 1) := by decide +kernel
theorem dX9_hearsInData_82 : decode cX9_hearsInData 82 = .ok (.iload_n 1, 1) := by decide +kernel
theorem dX9_hearsInData_83 : decode cX9_hearsInData 83 = .ok (.iconst 0, 1) := by decide +kernel
theorem dX9_hearsInData_84 : decode cX9_hearsInData 84 = .ok (.invokevirtual 137, 3) := by decide +kernel
theorem dX9_hearsInData_87 : decode cX9_hearsInData 87 = .ok (.bipush 7, 2) := by decide +kernel
theorem dX9_hearsInData_89 : decode cX9_hearsInData 89 = .ok (.if_icmp .ne 23, 3) := by decide +kernel
theorem dX9_hearsInData_92 : decode cX9_hearsInData 92 = .ok (.aload_n 0, 1) := by decide +kernel
theorem dX9_hearsInData_93 : decode cX9_hearsInData 93 = .ok (.iload_n 1, 1) := by decide +kernel
theorem dX9_hearsInData_94 : decode cX9_hearsInData 94 = .ok (.iconst 1, 1) := by decide +kernel
theorem dX9_hearsInData_95 : decode cX9_hearsInData 95 = .ok (.invokevirtual 137, 3) := by decide +kernel
theorem dX9_hearsInData_98 : decode cX9_hearsInData 98 = .ok (.aload_n 0, 1) := by decide +kernel
theorem dX9_hearsInData_99 : decode cX9_hearsInData 99 = .ok (.iload_n 1, 1) := by decide +kernel
theorem dX9_hearsInData_100 : decode cX9_hearsInData 100 = .ok (.iconst 2, 1) := by decide +kernel
theorem dX9_hearsInData_101 : decode cX9_hearsInData 101 = .ok (.invokevirtual 106, 3) := by decide +kernel
theorem dX9_hearsInData_104 : decode cX9_hearsInData 104 = .ok (.if_icmp .ne 8, 3) := by decide +kernel
theorem dX9_hearsInData_107 : decode cX9_hearsInData 107 = .ok (.aload_n 0, 1) := by decide +kernel
theorem dX9_hearsInData_108 : decode cX9_hearsInData 108 = .ok (.iload_n 1, 1) := by decide +kernel
theorem dX9_hearsInData_109 : decode cX9_hearsInData 109 = .ok (.invokevirtual 150, 3) := by decide +kernel
theorem dX9_hearsInData_112 : decode cX9_hearsInData 112 = .ok (.return_, 1) := by decide +kernel
set_option maxRecDepth 20000 in
theorem ggX9_answers_X9_ear : GoodIn wsX9_answers wsX9_ear := goodIn_r _ [5, 6, 37, 38, 39, 40, 41, 42, 43, 44, 45, 46, 47, 48, 49, 50, 51, 52, 53, 54, 55, 56, 57, 58, 59, 60, 61, 62, 63, 64, 65, 66] (by decide +kernel) (by decide +kernel)
set_option maxRecDepth 20000 in
theorem gX9_answers_X9_ear : GoodIn wsX9_answers (wsV RX9 137 RX9 yX9_ear wsX9_ear) := goodIn_app (goodIn_of _ (by decide +kernel)) ggX9_answers_X9_ear
set_option maxRecDepth 20000 in
theorem ggX9_answers_X9_into : GoodIn wsX9_answers wsX9_into := goodIn_r _ [10, 11, 12, 13, 14, 15, 16, 17, 4, 18, 19, 20, 21, 22, 23, 24, 25, 26, 27, 28, 29, 30, 31, 37, 38, 39, 40, 41, 42, 43, 44, 45, 46, 47, 48, 49, 50, 51, 52, 53, 54, 55, 56, 57, 58, 59, 60, 61, 62, 63, 64, 65, 66] (by decide +kernel) (by decide +kernel)
set_option maxRecDepth 20000 in
theorem gX9_answers_X9_into : GoodIn wsX9_answers (wsV RX9 134 RX9 yX9_into wsX9_into) := goodIn_app (goodIn_of _ (by decide +kernel)) ggX9_answers_X9_into
set_option maxRecDepth 20000 in
theorem ggX9_answers_X9_note : GoodIn wsX9_answers wsX9_note := goodIn_r _ [35, 13, 36, 1, 2, 3, 4, 5, 6, 37, 38, 39, 40, 41, 42, 43, 44, 45, 46, 47, 48, 49, 50, 51, 52, 53, 54, 55, 56, 57, 58, 59, 60, 61, 62, 63, 64, 65, 66] (by decide +kernel) (by decide +kernel)
set_option maxRecDepth 20000 in
theorem gX9_answers_X9_note : GoodIn wsX9_answers (wsV RX9 153 RX9 yX9_note wsX9_note) := goodIn_app (goodIn_of _ (by decide +kernel)) ggX9_answers_X9_note
theorem dX9_answers_0 : decode cX9_answers 0 = .ok (.aload_n 0, 1) := by decide +kernel
end
section
theorem dX9_answers_1 : decode cX9_answers 1 = .ok (.iload_n 1, 1) := by decide +kernel
theorem dX9_answers_2 : decode cX9_answers 2 = .ok (.iconst 0, 1) := by decide +kernel
theorem dX9_answers_3 : decode cX9_answers 3 = .ok (.invokevirtual 137, 3) := by decide +kernel
theorem dX9_answers_6 : decode cX9_answers 6 = .ok (.iconst 3, 1) := by decide +kernel
theorem dX9_answers_7 : decode cX9_answers 7 = .ok (.if_icmp .ne 14, 3) := by decide +kernel
theorem dX9_answers_10 : decode cX9_answers 10 = .ok (.aload_n 0, 1) := by decide +kernel
theorem dX9_answers_11 : decode cX9_answers 11 = .ok (.iload_n 1, 1) := by decide +kernel
theorem dX9_answers_12 : decode cX9_answers 12 = .ok (.iconst 3, 1) := by decide +kernel
theorem dX9_answers_13 : decode cX9_answers 13 = .ok (.invokevirtual 134, 3) := by decide +kernel
theorem dX9_answers_16 : decode cX9_answers 16 = .ok (.aload_n 0, 1) := by decide +kernel
theorem dX9_answers_17 : decode cX9_answers 17 = .ok (.iload_n 1, 1) := by decide +kernel
theorem dX9_answers_18 : decode cX9_answers 18 = .ok (.invokevirtual 153, 3) := by decide +kernel
theorem dX9_answers_21 : decode cX9_answers 21 = .ok (.return_, 1) := by decide +kernel
set_option maxRecDepth 20000 in
theorem ggX9_hearsInAgree_X9_ear : GoodIn wsX9_hearsInAgree wsX9_ear := goodIn_r _ [5, 6, 36, 37, 38, 39, 40, 41, 42, 43, 44, 45, 46, 47, 48, 49, 50, 51, 52, 53, 54, 55, 56, 57, 58, 59, 60, 61, 62, 63, 64, 65] (by decide +kernel) (by decide +kernel)
set_option maxRecDepth 20000 in
theorem gX9_hearsInAgree_X9_ear : GoodIn wsX9_hearsInAgree (wsV RX9 137 RX9 yX9_ear wsX9_ear) := goodIn_app (goodIn_of _ (by decide +kernel)) ggX9_hearsInAgree_X9_ear
set_option maxRecDepth 20000 in
theorem ggX9_hearsInAgree_X9_of : GoodIn wsX9_hearsInAgree wsX9_of := goodIn_r _ [10, 11, 36, 37, 38, 39, 40, 41, 42, 43, 44, 45, 46, 47, 48, 49, 50, 51, 52, 53, 54, 55, 56, 57, 58, 59, 60, 61, 62, 63, 64, 65] (by decide +kernel) (by decide +kernel)
set_option maxRecDepth 20000 in
theorem gX9_hearsInAgree_X9_of : GoodIn wsX9_hearsInAgree (wsV RX9 106 RX9 yX9_of wsX9_of) := goodIn_app (goodIn_of _ (by decide +kernel)) ggX9_hearsInAgree_X9_of
set_option maxRecDepth 20000 in
theorem ggX9_hearsInAgree_X9_into : GoodIn wsX9_hearsInAgree wsX9_into := goodIn_r _ [15, 16, 17, 18, 19, 20, 21, 22, 4, 23, 24, 25, 26, 27, 11, 7, 8, 9, 10, 28, 29, 30, 31, 36, 37, 38, 39, 40, 41, 42, 43, 44, 45, 46, 47, 48, 49, 50, 51, 52, 53, 54, 55, 56, 57, 58, 59, 60, 61, 62, 63, 64, 65] (by decide +kernel) (by decide +kernel)
set_option maxRecDepth 20000 in
theorem gX9_hearsInAgree_X9_into : GoodIn wsX9_hearsInAgree (wsV RX9 134 RX9 yX9_into wsX9_into) := goodIn_app (goodIn_of _ (by decide +kernel)) ggX9_hearsInAgree_X9_into
set_option maxRecDepth 20000 in
theorem ggX9_hearsInAgree_X9_hearsOffer : GoodIn wsX9_hearsInAgree wsX9_hearsOffer := goodIn_r _ [35, 1, 2, 3, 4, 5, 6, 7, 8, 9, 10, 11, 24, 25, 26, 27, 12, 13, 14, 15, 16, 17, 18, 19, 20, 21, 22, 23, 28, 29, 30, 31, 36, 37, 38, 39, 40, 41, 42, 43, 44, 45, 46, 47, 48, 49, 50, 51, 52, 53, 54, 55, 56, 57, 58, 59, 60, 61, 62, 63, 64, 65] (by decide +kernel) (by decide +kernel)
set_option maxRecDepth 20000 in
theorem gX9_hearsInAgree_X9_hearsOffer : GoodIn wsX9_hearsInAgree (wsV RX9 143 RX9 yX9_hearsOffer wsX9_hearsOffer) := goodIn_app (goodIn_of _ (by decide +kernel)) ggX9_hearsInAgree_X9_hearsOffer
theorem dX9_hearsInAgree_0 : decode cX9_hearsInAgree 0 = .ok (.aload_n 0, 1) := by decide +kernel
theorem dX9_hearsInAgree_1 : decode cX9_hearsInAgree 1 = .ok (.iload_n 1, 1) := by decide +kernel
theorem dX9_hearsInAgree_2 : decode cX9_hearsInAgree 2 = .ok (.iconst 0, 1) := by decide +kernel
theorem dX9_hearsInAgree_3 : decode cX9_hearsInAgree 3 = .ok (.invokevirtual 137, 3) := by decide +kernel
theorem dX9_hearsInAgree_6 : decode cX9_hearsInAgree 6 = .ok (.bipush 6, 2) := by decide +kernel
theorem dX9_hearsInAgree_8 : decode cX9_hearsInAgree 8 = .ok (.if_icmp .eq 14, 3) := by decide +kernel
theorem dX9_hearsInAgree_11 : decode cX9_hearsInAgree 11 = .ok (.aload_n 0, 1) := by decide +kernel
theorem dX9_hearsInAgree_12 : decode cX9_hearsInAgree 12 = .ok (.iload_n 1, 1) := by decide +kernel
theorem dX9_hearsInAgree_13 : decode cX9_hearsInAgree 13 = .ok (.iconst 0, 1) := by decide +kernel
theorem dX9_hearsInAgree_14 : decode cX9_hearsInAgree 14 = .ok (.invokevirtual 137, 3) := by decide +kernel
theorem dX9_hearsInAgree_17 : decode cX9_hearsInAgree 17 = .ok (.bipush 7, 2) := by decide +kernel
theorem dX9_hearsInAgree_19 : decode cX9_hearsInAgree 19 = .ok (.if_icmp .ne 28, 3) := by decide +kernel
theorem dX9_hearsInAgree_22 : decode cX9_hearsInAgree 22 = .ok (.aload_n 0, 1) := by decide +kernel
theorem dX9_hearsInAgree_23 : decode cX9_hearsInAgree 23 = .ok (.iload_n 1, 1) := by decide +kernel
theorem dX9_hearsInAgree_24 : decode cX9_hearsInAgree 24 = .ok (.iconst 1, 1) := by decide +kernel
theorem dX9_hearsInAgree_25 : decode cX9_hearsInAgree 25 = .ok (.invokevirtual 137, 3) := by decide +kernel
theorem dX9_hearsInAgree_28 : decode cX9_hearsInAgree 28 = .ok (.aload_n 0, 1) := by decide +kernel
theorem dX9_hearsInAgree_29 : decode cX9_hearsInAgree 29 = .ok (.iload_n 1, 1) := by decide +kernel
theorem dX9_hearsInAgree_30 : decode cX9_hearsInAgree 30 = .ok (.iconst 2, 1) := by decide +kernel
theorem dX9_hearsInAgree_31 : decode cX9_hearsInAgree 31 = .ok (.invokevirtual 106, 3) := by decide +kernel
theorem dX9_hearsInAgree_34 : decode cX9_hearsInAgree 34 = .ok (.if_icmp .ne 13, 3) := by decide +kernel
theorem dX9_hearsInAgree_37 : decode cX9_hearsInAgree 37 = .ok (.aload_n 0, 1) := by decide +kernel
theorem dX9_hearsInAgree_38 : decode cX9_hearsInAgree 38 = .ok (.iload_n 1, 1) := by decide +kernel
theorem dX9_hearsInAgree_39 : decode cX9_hearsInAgree 39 = .ok (.bipush 7, 2) := by decide +kernel
theorem dX9_hearsInAgree_41 : decode cX9_hearsInAgree 41 = .ok (.invokevirtual 134, 3) := by decide +kernel
theorem dX9_hearsInAgree_44 : decode cX9_hearsInAgree 44 = .ok (.goto 8, 3) := by decide +kernel
theorem dX9_hearsInAgree_47 : decode cX9_hearsInAgree 47 = .ok (.aload_n 0, 1) := by decide +kernel
theorem dX9_hearsInAgree_48 : decode cX9_hearsInAgree 48 = .ok (.iload_n 1, 1) := by decide +kernel
theorem dX9_hearsInAgree_49 : decode cX9_hearsInAgree 49 = .ok (.invokevirtual 143, 3) := by decide +kernel
theorem dX9_hearsInAgree_52 : decode cX9_hearsInAgree 52 = .ok (.return_, 1) := by decide +kernel
set_option maxRecDepth 20000 in
theorem ggX9_hearsIn_X9_of : GoodIn wsX9_hearsIn wsX9_of := goodIn_r _ [5, 6, 68, 69, 70, 71, 72, 73, 74, 75, 76, 77, 78, 79, 80, 81, 82, 83, 84, 85, 86, 87, 88, 89, 90, 91, 92, 93, 94, 95, 96, 97] (by decide +kernel) (by decide +kernel)
set_option maxRecDepth 20000 in
theorem gX9_hearsIn_X9_of : GoodIn wsX9_hearsIn (wsV RX9 106 RX9 yX9_of wsX9_of) := goodIn_app (goodIn_of _ (by decide +kernel)) ggX9_hearsIn_X9_of
set_option maxRecDepth 20000 in
theorem ggX9_hearsIn_X9_ear : GoodIn wsX9_hearsIn wsX9_ear := goodIn_r _ [10, 11, 68, 69, 70, 71, 72, 73, 74, 75, 76, 77, 78, 79, 80, 81, 82, 83, 84, 85, 86, 87, 88, 89, 90, 91, 92, 93, 94, 95, 96, 97] (by decide +kernel) (by decide +kernel)
set_option maxRecDepth 20000 in
theorem gX9_hearsIn_X9_ear : GoodIn wsX9_hearsIn (wsV RX9 137 RX9 yX9_ear wsX9_ear) := goodIn_app (goodIn_of _ (by decide +kernel)) ggX9_hearsIn_X9_ear
set_option maxRecDepth 20000 in
theorem ggX9_hearsIn_X9_into : GoodIn wsX9_hearsIn wsX9_into := goodIn_r _ [15, 16, 17, 18, 19, 20, 21, 22, 4, 23, 24, 25, 26, 27, 6, 1, 2, 3, 5, 28, 29, 30, 31, 68, 69, 70, 71, 72, 73, 74, 75, 76, 77, 78, 79, 80, 81, 82, 83, 84, 85, 86, 87, 88, 89, 90, 91, 92, 93, 94, 95, 96, 97] (by decide +kernel) (by decide +kernel)
set_option maxRecDepth 20000 in
theorem gX9_hearsIn_X9_into : GoodIn wsX9_hearsIn (wsV RX9 134 RX9 yX9_into wsX9_into) := goodIn_app (goodIn_of _ (by decide +kernel)) ggX9_hearsIn_X9_into
set_option maxRecDepth 20000 in
theorem ggX9_hearsIn_X9_answers : GoodIn wsX9_hearsIn wsX9_answers := goodIn_r _ [35, 7, 8, 9, 4, 10, 11, 12, 13, 14, 15, 16, 17, 18, 19, 20, 21, 22, 23, 24, 25, 26, 27, 6, 1, 2, 3, 5, 28, 29, 30, 31, 36, 37, 38, 39, 40, 68, 69, 70, 71, 72, 73, 74, 75, 76, 77, 78, 79, 80, 81, 82, 83, 84, 85, 86, 87, 88, 89, 90, 91, 92, 93, 94, 95, 96, 97] (by decide +kernel) (by decide +kernel)
set_option maxRecDepth 20000 in
theorem gX9_hearsIn_X9_answers : GoodIn wsX9_hearsIn (wsV RX9 156 RX9 yX9_answers wsX9_answers) := goodIn_app (goodIn_of _ (by decide +kernel)) ggX9_hearsIn_X9_answers
set_option maxRecDepth 20000 in
theorem ggX9_hearsIn_X9_note : GoodIn wsX9_hearsIn wsX9_note := goodIn_r _ [39, 18, 40, 7, 8, 9, 4, 10, 11, 68, 69, 70, 71, 72, 73, 74, 75, 76, 77, 78, 79, 80, 81, 82, 83, 84, 85, 86, 87, 88, 89, 90, 91, 92, 93, 94, 95, 96, 97] (by decide +kernel) (by decide +kernel)
set_option maxRecDepth 20000 in
theorem gX9_hearsIn_X9_note : GoodIn wsX9_hearsIn (wsV RX9 153 RX9 yX9_note wsX9_note) := goodIn_app (goodIn_of _ (by decide +kernel)) ggX9_hearsIn_X9_note
set_option maxRecDepth 20000 in
theorem ggX9_hearsIn_X9_bargains : GoodIn wsX9_hearsIn wsX9_bargains := goodIn_r _ [44, 7, 8, 9, 4, 10, 11, 1, 2, 3, 5, 6, 45, 46, 47, 48, 24, 25, 26, 27, 12, 13, 14, 15, 16, 17, 18, 19, 20, 21, 22, 23, 28, 29, 30, 31, 49, 50, 51, 52, 68, 69, 70, 71, 72, 73, 74, 75, 76, 77, 78, 79, 80, 81, 82, 83, 84, 85, 86, 87, 88, 89, 90, 91, 92, 93, 94, 95, 96, 97] (by decide +kernel) (by decide +kernel)
set_option maxRecDepth 20000 in
theorem gX9_hearsIn_X9_bargains : GoodIn wsX9_hearsIn (wsV RX9 159 RX9 yX9_bargains wsX9_bargains) := goodIn_app (goodIn_of _ (by decide +kernel)) ggX9_hearsIn_X9_bargains
set_option maxRecDepth 20000 in
theorem ggX9_hearsIn_X9_hearsInAgree : GoodIn wsX9_hearsIn wsX9_hearsInAgree := goodIn_r _ [56, 7, 8, 9, 4, 10, 11, 1, 2, 3, 5, 6, 12, 13, 14, 15, 16, 17, 18, 19, 20, 21, 22, 23, 24, 25, 26, 27, 28, 29, 30, 31, 49, 50, 51, 52, 68, 69, 70, 71, 72, 73, 74, 75, 76, 77, 78, 79, 80, 81, 82, 83, 84, 85, 86, 87, 88, 89, 90, 91, 92, 93, 94, 95, 96, 97] (by decide +kernel) (by decide +kernel)
set_option maxRecDepth 20000 in
theorem gX9_hearsIn_X9_hearsInAgree : GoodIn wsX9_hearsIn (wsV RX9 162 RX9 yX9_hearsInAgree wsX9_hearsInAgree) := goodIn_app (goodIn_of _ (by decide +kernel)) ggX9_hearsIn_X9_hearsInAgree
set_option maxRecDepth 20000 in
theorem ggX9_hearsIn_X9_hearsInData : GoodIn wsX9_hearsIn wsX9_hearsInData := goodIn_r _ [60, 61, 16, 1, 2, 3, 4, 5, 6, 7, 8, 9, 10, 11, 24, 25, 26, 27, 49, 50, 51, 52, 12, 13, 14, 15, 17, 18, 19, 20, 21, 22, 23, 28, 29, 30, 31, 62, 63, 64, 65, 66, 67, 68, 69, 70, 71, 72, 73, 74, 75, 76, 77, 78, 79, 80, 81, 82, 83, 84, 85, 86, 87, 88, 89, 90, 91, 92, 93, 94, 95, 96, 97] (by decide +kernel) (by decide +kernel)
set_option maxRecDepth 20000 in
theorem gX9_hearsIn_X9_hearsInData : GoodIn wsX9_hearsIn (wsV RX9 165 RX9 yX9_hearsInData wsX9_hearsInData) := goodIn_app (goodIn_of _ (by decide +kernel)) ggX9_hearsIn_X9_hearsInData
theorem dX9_hearsIn_0 : decode cX9_hearsIn 0 = .ok (.aload_n 0, 1) := by decide +kernel
theorem dX9_hearsIn_1 : decode cX9_hearsIn 1 = .ok (.iload_n 1, 1) := by decide +kernel
theorem dX9_hearsIn_2 : decode cX9_hearsIn 2 = .ok (.iconst 0, 1) := by decide +kernel
theorem dX9_hearsIn_3 : decode cX9_hearsIn 3 = .ok (.invokevirtual 106, 3) := by decide +kernel
theorem dX9_hearsIn_6 : decode cX9_hearsIn 6 = .ok (.tableswitch 125 0 6 #[42, 61, 80, 88, 106, 109, 117], 42) := by decide +kernel
theorem dX9_hearsIn_48 : decode cX9_hearsIn 48 = .ok (.aload_n 0, 1) := by decide +kernel
theorem dX9_hearsIn_49 : decode cX9_hearsIn 49 = .ok (.iload_n 1, 1) := by decide +kernel
theorem dX9_hearsIn_50 : decode cX9_hearsIn 50 = .ok (.iconst 0, 1) := by decide +kernel
theorem dX9_hearsIn_51 : decode cX9_hearsIn 51 = .ok (.invokevirtual 137, 3) := by decide +kernel
theorem dX9_hearsIn_54 : decode cX9_hearsIn 54 = .ok (.iconst 1, 1) := by decide +kernel
theorem dX9_hearsIn_55 : decode cX9_hearsIn 55 = .ok (.if_icmp .ne 81, 3) := by decide +kernel
theorem dX9_hearsIn_58 : decode cX9_hearsIn 58 = .ok (.aload_n 0, 1) := by decide +kernel
theorem dX9_hearsIn_59 : decode cX9_hearsIn 59 = .ok (.iload_n 1, 1) := by decide +kernel
theorem dX9_hearsIn_60 : decode cX9_hearsIn 60 = .ok (.iconst 2, 1) := by decide +kernel
theorem dX9_hearsIn_61 : decode cX9_hearsIn 61 = .ok (.invokevirtual 134, 3) := by decide +kernel
theorem dX9_hearsIn_64 : decode cX9_hearsIn 64 = .ok (.goto 72, 3) := by decide +kernel
theorem dX9_hearsIn_67 : decode cX9_hearsIn 67 = .ok (.aload_n 0, 1) := by decide +kernel
theorem dX9_hearsIn_68 : decode cX9_hearsIn 68 = .ok (.iload_n 1, 1) := by decide +kernel
theorem dX9_hearsIn_69 : decode cX9_hearsIn 69 = .ok (.iconst 0, 1) := by decide +kernel
theorem dX9_hearsIn_70 : decode cX9_hearsIn 70 = .ok (.invokevirtual 137, 3) := by decide +kernel
theorem dX9_hearsIn_73 : decode cX9_hearsIn 73 = .ok (.iconst 2, 1) := by decide +kernel
theorem dX9_hearsIn_74 : decode cX9_hearsIn 74 = .ok (.if_icmp .ne 62, 3) := by decide +kernel
theorem dX9_hearsIn_77 : decode cX9_hearsIn 77 = .ok (.aload_n 0, 1) := by decide +kernel
theorem dX9_hearsIn_78 : decode cX9_hearsIn 78 = .ok (.iload_n 1, 1) := by decide +kernel
theorem dX9_hearsIn_79 : decode cX9_hearsIn 79 = .ok (.iconst 3, 1) := by decide +kernel
theorem dX9_hearsIn_80 : decode cX9_hearsIn 80 = .ok (.invokevirtual 134, 3) := by decide +kernel
theorem dX9_hearsIn_83 : decode cX9_hearsIn 83 = .ok (.goto 53, 3) := by decide +kernel
theorem dX9_hearsIn_86 : decode cX9_hearsIn 86 = .ok (.aload_n 0, 1) := by decide +kernel
theorem dX9_hearsIn_87 : decode cX9_hearsIn 87 = .ok (.iload_n 1, 1) := by decide +kernel
theorem dX9_hearsIn_88 : decode cX9_hearsIn 88 = .ok (.invokevirtual 156, 3) := by decide +kernel
theorem dX9_hearsIn_91 : decode cX9_hearsIn 91 = .ok (.goto 45, 3) := by decide +kernel
theorem dX9_hearsIn_94 : decode cX9_hearsIn 94 = .ok (.aload_n 0, 1) := by decide +kernel
theorem dX9_hearsIn_95 : decode cX9_hearsIn 95 = .ok (.iload_n 1, 1) := by decide +kernel
theorem dX9_hearsIn_96 : decode cX9_hearsIn 96 = .ok (.iconst 0, 1) := by decide +kernel
theorem dX9_hearsIn_97 : decode cX9_hearsIn 97 = .ok (.invokevirtual 137, 3) := by decide +kernel
theorem dX9_hearsIn_100 : decode cX9_hearsIn 100 = .ok (.iconst 3, 1) := by decide +kernel
theorem dX9_hearsIn_101 : decode cX9_hearsIn 101 = .ok (.if_icmp .ne 35, 3) := by decide +kernel
theorem dX9_hearsIn_104 : decode cX9_hearsIn 104 = .ok (.aload_n 0, 1) := by decide +kernel
theorem dX9_hearsIn_105 : decode cX9_hearsIn 105 = .ok (.iload_n 1, 1) := by decide +kernel
theorem dX9_hearsIn_106 : decode cX9_hearsIn 106 = .ok (.invokevirtual 153, 3) := by decide +kernel
theorem dX9_hearsIn_109 : decode cX9_hearsIn 109 = .ok (.goto 27, 3) := by decide +kernel
theorem dX9_hearsIn_112 : decode cX9_hearsIn 112 = .ok (.goto 24, 3) := by decide +kernel
theorem dX9_hearsIn_115 : decode cX9_hearsIn 115 = .ok (.aload_n 0, 1) := by decide +kernel
theorem dX9_hearsIn_116 : decode cX9_hearsIn 116 = .ok (.iload_n 1, 1) := by decide +kernel
theorem dX9_hearsIn_117 : decode cX9_hearsIn 117 = .ok (.invokevirtual 159, 3) := by decide +kernel
theorem dX9_hearsIn_120 : decode cX9_hearsIn 120 = .ok (.goto 16, 3) := by decide +kernel
theorem dX9_hearsIn_123 : decode cX9_hearsIn 123 = .ok (.aload_n 0, 1) := by decide +kernel
theorem dX9_hearsIn_124 : decode cX9_hearsIn 124 = .ok (.iload_n 1, 1) := by decide +kernel
theorem dX9_hearsIn_125 : decode cX9_hearsIn 125 = .ok (.invokevirtual 162, 3) := by decide +kernel
theorem dX9_hearsIn_128 : decode cX9_hearsIn 128 = .ok (.goto 8, 3) := by decide +kernel
theorem dX9_hearsIn_131 : decode cX9_hearsIn 131 = .ok (.aload_n 0, 1) := by decide +kernel
theorem dX9_hearsIn_132 : decode cX9_hearsIn 132 = .ok (.iload_n 1, 1) := by decide +kernel
theorem dX9_hearsIn_133 : decode cX9_hearsIn 133 = .ok (.invokevirtual 165, 3) := by decide +kernel
theorem dX9_hearsIn_136 : decode cX9_hearsIn 136 = .ok (.return_, 1) := by decide +kernel
theorem dX9_size_0 : decode cX9_size 0 = .ok (.iload_n 0, 1) := by decide +kernel
theorem dX9_size_1 : decode cX9_size 1 = .ok (.ifCond .ge 8, 3) := by decide +kernel
theorem dX9_size_4 : decode cX9_size 4 = .ok (.iload_n 0, 1) := by decide +kernel
theorem dX9_size_5 : decode cX9_size 5 = .ok (.ineg, 1) := by decide +kernel
theorem dX9_size_6 : decode cX9_size 6 = .ok (.goto 4, 3) := by decide +kernel
theorem dX9_size_9 : decode cX9_size 9 = .ok (.iload_n 0, 1) := by decide +kernel
theorem dX9_size_10 : decode cX9_size 10 = .ok (.ireturn, 1) := by decide +kernel
set_option maxRecDepth 20000 in
theorem ggX9_makeOffer_X9_size : GoodIn wsX9_makeOffer wsX9_size := goodIn_r _ [7] (by decide +kernel) (by decide +kernel)
set_option maxRecDepth 20000 in
theorem gX9_makeOffer_X9_size : GoodIn wsX9_makeOffer (va_wsS RX9 168 yX9_size wsX9_size) := goodIn_app (goodIn_of _ (by decide +kernel)) ggX9_makeOffer_X9_size
set_option maxRecDepth 20000 in
theorem ggX9_makeOffer_X9_put : GoodIn wsX9_makeOffer wsX9_put := goodIn_r _ [11, 12, 13, 14, 15, 16, 17, 18, 19, 20, 21, 22, 23, 24, 25, 26, 27, 28, 29, 30, 31, 32, 33, 34, 35, 36, 37, 38, 39, 40, 41, 42] (by decide +kernel) (by decide +kernel)
set_option maxRecDepth 20000 in
theorem gX9_makeOffer_X9_put : GoodIn wsX9_makeOffer (wsV RX9 114 RX9 yX9_put wsX9_put) := goodIn_app (goodIn_of _ (by decide +kernel)) ggX9_makeOffer_X9_put
theorem dX9_makeOffer_0 : decode cX9_makeOffer 0 = .ok (.iconst 0, 1) := by decide +kernel
theorem dX9_makeOffer_1 : decode cX9_makeOffer 1 = .ok (.istore_n 2, 1) := by decide +kernel
theorem dX9_makeOffer_2 : decode cX9_makeOffer 2 = .ok (.iconst 0, 1) := by decide +kernel
theorem dX9_makeOffer_3 : decode cX9_makeOffer 3 = .ok (.istore_n 3, 1) := by decide +kernel
theorem dX9_makeOffer_4 : decode cX9_makeOffer 4 = .ok (.iload_n 3, 1) := by decide +kernel
theorem dX9_makeOffer_5 : decode cX9_makeOffer 5 = .ok (.iconst 4, 1) := by decide +kernel
theorem dX9_makeOffer_6 : decode cX9_makeOffer 6 = .ok (.if_icmp .ge 39, 3) := by decide +kernel
theorem dX9_makeOffer_9 : decode cX9_makeOffer 9 = .ok (.iload_n 2, 1) := by decide +kernel
theorem dX9_makeOffer_10 : decode cX9_makeOffer 10 = .ok (.bipush 16, 2) := by decide +kernel
theorem dX9_makeOffer_12 : decode cX9_makeOffer 12 = .ok (.aload_n 0, 1) := by decide +kernel
theorem dX9_makeOffer_13 : decode cX9_makeOffer 13 = .ok (.getfield 19, 3) := by decide +kernel
theorem dX9_makeOffer_16 : decode cX9_makeOffer 16 = .ok (.iconst 4, 1) := by decide +kernel
theorem dX9_makeOffer_17 : decode cX9_makeOffer 17 = .ok (.iload_n 1, 1) := by decide +kernel
theorem dX9_makeOffer_18 : decode cX9_makeOffer 18 = .ok (.imul, 1) := by decide +kernel
theorem dX9_makeOffer_19 : decode cX9_makeOffer 19 = .ok (.iload_n 3, 1) := by decide +kernel
theorem dX9_makeOffer_20 : decode cX9_makeOffer 20 = .ok (.iadd, 1) := by decide +kernel
theorem dX9_makeOffer_21 : decode cX9_makeOffer 21 = .ok (.iaload, 1) := by decide +kernel
theorem dX9_makeOffer_22 : decode cX9_makeOffer 22 = .ok (.imul, 1) := by decide +kernel
theorem dX9_makeOffer_23 : decode cX9_makeOffer 23 = .ok (.aload_n 0, 1) := by decide +kernel
theorem dX9_makeOffer_24 : decode cX9_makeOffer 24 = .ok (.getfield 16, 3) := by decide +kernel
theorem dX9_makeOffer_27 : decode cX9_makeOffer 27 = .ok (.iconst 4, 1) := by decide +kernel
theorem dX9_makeOffer_28 : decode cX9_makeOffer 28 = .ok (.iload_n 1, 1) := by decide +kernel
theorem dX9_makeOffer_29 : decode cX9_makeOffer 29 = .ok (.imul, 1) := by decide +kernel
theorem dX9_makeOffer_30 : decode cX9_makeOffer 30 = .ok (.iload_n 3, 1) := by decide +kernel
theorem dX9_makeOffer_31 : decode cX9_makeOffer 31 = .ok (.iadd, 1) := by decide +kernel
theorem dX9_makeOffer_32 : decode cX9_makeOffer 32 = .ok (.iaload, 1) := by decide +kernel
theorem dX9_makeOffer_33 : decode cX9_makeOffer 33 = .ok (.isub, 1) := by decide +kernel
theorem dX9_makeOffer_34 : decode cX9_makeOffer 34 = .ok (.invokestatic 168, 3) := by decide +kernel
theorem dX9_makeOffer_37 : decode cX9_makeOffer 37 = .ok (.iadd, 1) := by decide +kernel
theorem dX9_makeOffer_38 : decode cX9_makeOffer 38 = .ok (.istore_n 2, 1) := by decide +kernel
theorem dX9_makeOffer_39 : decode cX9_makeOffer 39 = .ok (.iinc 3 1, 3) := by decide +kernel
theorem dX9_makeOffer_42 : decode cX9_makeOffer 42 = .ok (.goto (-38), 3) := by decide +kernel
theorem dX9_makeOffer_45 : decode cX9_makeOffer 45 = .ok (.iload_n 2, 1) := by decide +kernel
theorem dX9_makeOffer_46 : decode cX9_makeOffer 46 = .ok (.bipush 16, 2) := by decide +kernel
theorem dX9_makeOffer_48 : decode cX9_makeOffer 48 = .ok (.idiv, 1) := by decide +kernel
theorem dX9_makeOffer_49 : decode cX9_makeOffer 49 = .ok (.istore_n 3, 1) := by decide +kernel
theorem dX9_makeOffer_50 : decode cX9_makeOffer 50 = .ok (.iconst 0, 1) := by decide +kernel
theorem dX9_makeOffer_51 : decode cX9_makeOffer 51 = .ok (.istore 4, 2) := by decide +kernel
theorem dX9_makeOffer_53 : decode cX9_makeOffer 53 = .ok (.iconst 0, 1) := by decide +kernel
theorem dX9_makeOffer_54 : decode cX9_makeOffer 54 = .ok (.istore 5, 2) := by decide +kernel
theorem dX9_makeOffer_56 : decode cX9_makeOffer 56 = .ok (.iload 5, 2) := by decide +kernel
theorem dX9_makeOffer_58 : decode cX9_makeOffer 58 = .ok (.bipush 8, 2) := by decide +kernel
theorem dX9_makeOffer_60 : decode cX9_makeOffer 60 = .ok (.if_icmp .ge 66, 3) := by decide +kernel
theorem dX9_makeOffer_63 : decode cX9_makeOffer 63 = .ok (.aload_n 0, 1) := by decide +kernel
theorem dX9_makeOffer_64 : decode cX9_makeOffer 64 = .ok (.getfield 13, 3) := by decide +kernel
theorem dX9_makeOffer_67 : decode cX9_makeOffer 67 = .ok (.bipush 8, 2) := by decide +kernel
theorem dX9_makeOffer_69 : decode cX9_makeOffer 69 = .ok (.iload_n 1, 1) := by decide +kernel
theorem dX9_makeOffer_70 : decode cX9_makeOffer 70 = .ok (.imul, 1) := by decide +kernel
theorem dX9_makeOffer_71 : decode cX9_makeOffer 71 = .ok (.iload 5, 2) := by decide +kernel
theorem dX9_makeOffer_73 : decode cX9_makeOffer 73 = .ok (.iadd, 1) := by decide +kernel
theorem dX9_makeOffer_74 : decode cX9_makeOffer 74 = .ok (.iaload, 1) := by decide +kernel
theorem dX9_makeOffer_75 : decode cX9_makeOffer 75 = .ok (.iload_n 3, 1) := by decide +kernel
theorem dX9_makeOffer_76 : decode cX9_makeOffer 76 = .ok (.bipush 20, 2) := by decide +kernel
theorem dX9_makeOffer_78 : decode cX9_makeOffer 78 = .ok (.idiv, 1) := by decide +kernel
theorem dX9_makeOffer_79 : decode cX9_makeOffer 79 = .ok (.isub, 1) := by decide +kernel
theorem dX9_makeOffer_80 : decode cX9_makeOffer 80 = .ok (.istore 6, 2) := by decide +kernel
theorem dX9_makeOffer_82 : decode cX9_makeOffer 82 = .ok (.iload 4, 2) := by decide +kernel
theorem dX9_makeOffer_84 : decode cX9_makeOffer 84 = .ok (.iload 6, 2) := by decide +kernel
theorem dX9_makeOffer_86 : decode cX9_makeOffer 86 = .ok (.iconst 4, 1) := by decide +kernel
theorem dX9_makeOffer_87 : decode cX9_makeOffer 87 = .ok (.if_icmp .ge 7, 3) := by decide +kernel
theorem dX9_makeOffer_90 : decode cX9_makeOffer 90 = .ok (.iconst 0, 1) := by decide +kernel
theorem dX9_makeOffer_91 : decode cX9_makeOffer 91 = .ok (.goto 26, 3) := by decide +kernel
theorem dX9_makeOffer_94 : decode cX9_makeOffer 94 = .ok (.iload 6, 2) := by decide +kernel
theorem dX9_makeOffer_96 : decode cX9_makeOffer 96 = .ok (.bipush 8, 2) := by decide +kernel
theorem dX9_makeOffer_98 : decode cX9_makeOffer 98 = .ok (.if_icmp .ge 7, 3) := by decide +kernel
theorem dX9_makeOffer_101 : decode cX9_makeOffer 101 = .ok (.iconst 1, 1) := by decide +kernel
theorem dX9_makeOffer_102 : decode cX9_makeOffer 102 = .ok (.goto 15, 3) := by decide +kernel
theorem dX9_makeOffer_105 : decode cX9_makeOffer 105 = .ok (.iload 6, 2) := by decide +kernel
theorem dX9_makeOffer_107 : decode cX9_makeOffer 107 = .ok (.bipush 12, 2) := by decide +kernel
theorem dX9_makeOffer_109 : decode cX9_makeOffer 109 = .ok (.if_icmp .ge 7, 3) := by decide +kernel
theorem dX9_makeOffer_112 : decode cX9_makeOffer 112 = .ok (.iconst 2, 1) := by decide +kernel
theorem dX9_makeOffer_113 : decode cX9_makeOffer 113 = .ok (.goto 4, 3) := by decide +kernel
theorem dX9_makeOffer_116 : decode cX9_makeOffer 116 = .ok (.iconst 3, 1) := by decide +kernel
theorem dX9_makeOffer_117 : decode cX9_makeOffer 117 = .ok (.iadd, 1) := by decide +kernel
theorem dX9_makeOffer_118 : decode cX9_makeOffer 118 = .ok (.istore 4, 2) := by decide +kernel
theorem dX9_makeOffer_120 : decode cX9_makeOffer 120 = .ok (.iinc 5 1, 3) := by decide +kernel
theorem dX9_makeOffer_123 : decode cX9_makeOffer 123 = .ok (.goto (-67), 3) := by decide +kernel
theorem dX9_makeOffer_126 : decode cX9_makeOffer 126 = .ok (.aload_n 0, 1) := by decide +kernel
theorem dX9_makeOffer_127 : decode cX9_makeOffer 127 = .ok (.iload_n 1, 1) := by decide +kernel
theorem dX9_makeOffer_128 : decode cX9_makeOffer 128 = .ok (.bipush 11, 2) := by decide +kernel
theorem dX9_makeOffer_130 : decode cX9_makeOffer 130 = .ok (.iload_n 3, 1) := by decide +kernel
theorem dX9_makeOffer_131 : decode cX9_makeOffer 131 = .ok (.invokevirtual 114, 3) := by decide +kernel
theorem dX9_makeOffer_134 : decode cX9_makeOffer 134 = .ok (.aload_n 0, 1) := by decide +kernel
theorem dX9_makeOffer_135 : decode cX9_makeOffer 135 = .ok (.iload_n 1, 1) := by decide +kernel
theorem dX9_makeOffer_136 : decode cX9_makeOffer 136 = .ok (.iconst 3, 1) := by decide +kernel
theorem dX9_makeOffer_137 : decode cX9_makeOffer 137 = .ok (.iload 4, 2) := by decide +kernel
theorem dX9_makeOffer_139 : decode cX9_makeOffer 139 = .ok (.invokevirtual 114, 3) := by decide +kernel
theorem dX9_makeOffer_142 : decode cX9_makeOffer 142 = .ok (.return_, 1) := by decide +kernel
theorem dX9_ones_0 : decode cX9_ones 0 = .ok (.iconst 0, 1) := by decide +kernel
theorem dX9_ones_1 : decode cX9_ones 1 = .ok (.istore_n 1, 1) := by decide +kernel
theorem dX9_ones_2 : decode cX9_ones 2 = .ok (.iconst 0, 1) := by decide +kernel
theorem dX9_ones_3 : decode cX9_ones 3 = .ok (.istore_n 2, 1) := by decide +kernel
theorem dX9_ones_4 : decode cX9_ones 4 = .ok (.iload_n 2, 1) := by decide +kernel
theorem dX9_ones_5 : decode cX9_ones 5 = .ok (.bipush 8, 2) := by decide +kernel
theorem dX9_ones_7 : decode cX9_ones 7 = .ok (.if_icmp .ge 17, 3) := by decide +kernel
theorem dX9_ones_10 : decode cX9_ones 10 = .ok (.iload_n 1, 1) := by decide +kernel
theorem dX9_ones_11 : decode cX9_ones 11 = .ok (.iload_n 0, 1) := by decide +kernel
theorem dX9_ones_12 : decode cX9_ones 12 = .ok (.iload_n 2, 1) := by decide +kernel
theorem dX9_ones_13 : decode cX9_ones 13 = .ok (.ishr, 1) := by decide +kernel
theorem dX9_ones_14 : decode cX9_ones 14 = .ok (.iconst 1, 1) := by decide +kernel
theorem dX9_ones_15 : decode cX9_ones 15 = .ok (.iand, 1) := by decide +kernel
theorem dX9_ones_16 : decode cX9_ones 16 = .ok (.iadd, 1) := by decide +kernel
theorem dX9_ones_17 : decode cX9_ones 17 = .ok (.istore_n 1, 1) := by decide +kernel
theorem dX9_ones_18 : decode cX9_ones 18 = .ok (.iinc 2 1, 3) := by decide +kernel
theorem dX9_ones_21 : decode cX9_ones 21 = .ok (.goto (-17), 3) := by decide +kernel
theorem dX9_ones_24 : decode cX9_ones 24 = .ok (.iload_n 1, 1) := by decide +kernel
theorem dX9_ones_25 : decode cX9_ones 25 = .ok (.ireturn, 1) := by decide +kernel
set_option maxRecDepth 20000 in
theorem ggX9_looksInData_X9_of : GoodIn wsX9_looksInData wsX9_of := goodIn_r _ [7, 8, 32, 33, 34, 35, 36, 37, 38, 39, 40, 41, 42, 43, 44, 45, 46, 47, 48, 49, 50, 51, 52, 53, 54, 55, 56, 57, 58, 59, 60, 61] (by decide +kernel) (by decide +kernel)
set_option maxRecDepth 20000 in
theorem gX9_looksInData_X9_of : GoodIn wsX9_looksInData (wsV RX9 106 RX9 yX9_of wsX9_of) := goodIn_app (goodIn_of _ (by decide +kernel)) ggX9_looksInData_X9_of
set_option maxRecDepth 20000 in
theorem ggX9_looksInData_X9_put : GoodIn wsX9_looksInData wsX9_put := goodIn_r _ [12, 8, 32, 33, 34, 35, 36, 37, 38, 39, 40, 41, 42, 43, 44, 45, 46, 47, 48, 49, 50, 51, 52, 53, 54, 55, 56, 57, 58, 59, 60, 61] (by decide +kernel) (by decide +kernel)
set_option maxRecDepth 20000 in
theorem gX9_looksInData_X9_put : GoodIn wsX9_looksInData (wsV RX9 114 RX9 yX9_put wsX9_put) := goodIn_app (goodIn_of _ (by decide +kernel)) ggX9_looksInData_X9_put
set_option maxRecDepth 20000 in
theorem ggX9_looksInData_X9_ones : GoodIn wsX9_looksInData wsX9_ones := goodIn_r _ [15] (by decide +kernel) (by decide +kernel)
set_option maxRecDepth 20000 in
theorem gX9_looksInData_X9_ones : GoodIn wsX9_looksInData (va_wsS RX9 171 yX9_ones wsX9_ones) := goodIn_app (goodIn_of _ (by decide +kernel)) ggX9_looksInData_X9_ones
set_option maxRecDepth 20000 in
theorem ggX9_looksInData_X9_add : GoodIn wsX9_looksInData wsX9_add := goodIn_r _ [19, 8, 32, 33, 34, 35, 36, 37, 38, 39, 40, 41, 42, 43, 44, 45, 46, 47, 48, 49, 50, 51, 52, 53, 54, 55, 56, 57, 58, 59, 60, 61] (by decide +kernel) (by decide +kernel)
set_option maxRecDepth 20000 in
theorem gX9_looksInData_X9_add : GoodIn wsX9_looksInData (wsV RX9 110 RX9 yX9_add wsX9_add) := goodIn_app (goodIn_of _ (by decide +kernel)) ggX9_looksInData_X9_add
set_option maxRecDepth 20000 in
theorem ggX9_looksInData_X9_into : GoodIn wsX9_looksInData wsX9_into := goodIn_r _ [23, 24, 25, 26, 27, 28, 29, 30, 6, 31, 9, 10, 11, 12, 8, 3, 4, 5, 7, 16, 17, 18, 19, 32, 33, 34, 35, 36, 37, 38, 39, 40, 41, 42, 43, 44, 45, 46, 47, 48, 49, 50, 51, 52, 53, 54, 55, 56, 57, 58, 59, 60, 61] (by decide +kernel) (by decide +kernel)
set_option maxRecDepth 20000 in
theorem gX9_looksInData_X9_into : GoodIn wsX9_looksInData (wsV RX9 134 RX9 yX9_into wsX9_into) := goodIn_app (goodIn_of _ (by decide +kernel)) ggX9_looksInData_X9_into
theorem dX9_looksInData_0 : decode cX9_looksInData 0 = .ok (.aload_n 0, 1) := by decide +kernel
theorem dX9_looksInData_1 : decode cX9_looksInData 1 = .ok (.iload_n 1, 1) := by decide +kernel
theorem dX9_looksInData_2 : decode cX9_looksInData 2 = .ok (.bipush 10, 2) := by decide +kernel
theorem dX9_looksInData_4 : decode cX9_looksInData 4 = .ok (.aload_n 0, 1) := by decide +kernel
theorem dX9_looksInData_5 : decode cX9_looksInData 5 = .ok (.iload_n 1, 1) := by decide +kernel
theorem dX9_looksInData_6 : decode cX9_looksInData 6 = .ok (.bipush 8, 2) := by decide +kernel
theorem dX9_looksInData_8 : decode cX9_looksInData 8 = .ok (.invokevirtual 106, 3) := by decide +kernel
theorem dX9_looksInData_11 : decode cX9_looksInData 11 = .ok (.aload_n 0, 1) := by decide +kernel
theorem dX9_looksInData_12 : decode cX9_looksInData 12 = .ok (.iload_n 1, 1) := by decide +kernel
theorem dX9_looksInData_13 : decode cX9_looksInData 13 = .ok (.bipush 7, 2) := by decide +kernel
theorem dX9_looksInData_15 : decode cX9_looksInData 15 = .ok (.invokevirtual 106, 3) := by decide +kernel
theorem dX9_looksInData_18 : decode cX9_looksInData 18 = .ok (.if_icmp .ge 22, 3) := by decide +kernel
theorem dX9_looksInData_21 : decode cX9_looksInData 21 = .ok (.aload_n 0, 1) := by decide +kernel
theorem dX9_looksInData_22 : decode cX9_looksInData 22 = .ok (.getfield 147, 3) := by decide +kernel
theorem dX9_looksInData_25 : decode cX9_looksInData 25 = .ok (.ifCond .ne 15, 3) := by decide +kernel
theorem dX9_looksInData_28 : decode cX9_looksInData 28 = .ok (.aload_n 0, 1) := by decide +kernel
theorem dX9_looksInData_29 : decode cX9_looksInData 29 = .ok (.iload_n 1, 1) := by decide +kernel
theorem dX9_looksInData_30 : decode cX9_looksInData 30 = .ok (.bipush 10, 2) := by decide +kernel
theorem dX9_looksInData_32 : decode cX9_looksInData 32 = .ok (.invokevirtual 106, 3) := by decide +kernel
theorem dX9_looksInData_35 : decode cX9_looksInData 35 = .ok (.iconst 1, 1) := by decide +kernel
theorem dX9_looksInData_36 : decode cX9_looksInData 36 = .ok (.iadd, 1) := by decide +kernel
theorem dX9_looksInData_37 : decode cX9_looksInData 37 = .ok (.goto 4, 3) := by decide +kernel
theorem dX9_looksInData_40 : decode cX9_looksInData 40 = .ok (.iconst 0, 1) := by decide +kernel
theorem dX9_looksInData_41 : decode cX9_looksInData 41 = .ok (.invokevirtual 114, 3) := by decide +kernel
theorem dX9_looksInData_44 : decode cX9_looksInData 44 = .ok (.aload_n 0, 1) := by decide +kernel
theorem dX9_looksInData_45 : decode cX9_looksInData 45 = .ok (.iload_n 1, 1) := by decide +kernel
theorem dX9_looksInData_46 : decode cX9_looksInData 46 = .ok (.bipush 10, 2) := by decide +kernel
theorem dX9_looksInData_48 : decode cX9_looksInData 48 = .ok (.invokevirtual 106, 3) := by decide +kernel
theorem dX9_looksInData_51 : decode cX9_looksInData 51 = .ok (.iconst 2, 1) := by decide +kernel
theorem dX9_looksInData_52 : decode cX9_looksInData 52 = .ok (.aload_n 0, 1) := by decide +kernel
theorem dX9_looksInData_53 : decode cX9_looksInData 53 = .ok (.getfield 34, 3) := by decide +kernel
theorem dX9_looksInData_56 : decode cX9_looksInData 56 = .ok (.imul, 1) := by decide +kernel
theorem dX9_looksInData_57 : decode cX9_looksInData 57 = .ok (.iconst 4, 1) := by decide +kernel
theorem dX9_looksInData_58 : decode cX9_looksInData 58 = .ok (.iadd, 1) := by decide +kernel
theorem dX9_looksInData_59 : decode cX9_looksInData 59 = .ok (.if_icmp .lt 25, 3) := by decide +kernel
theorem dX9_looksInData_62 : decode cX9_looksInData 62 = .ok (.aload_n 0, 1) := by decide +kernel
theorem dX9_looksInData_63 : decode cX9_looksInData 63 = .ok (.iload_n 1, 1) := by decide +kernel
theorem dX9_looksInData_64 : decode cX9_looksInData 64 = .ok (.bipush 10, 2) := by decide +kernel
theorem dX9_looksInData_66 : decode cX9_looksInData 66 = .ok (.iconst 0, 1) := by decide +kernel
theorem dX9_looksInData_67 : decode cX9_looksInData 67 = .ok (.invokevirtual 114, 3) := by decide +kernel
theorem dX9_looksInData_70 : decode cX9_looksInData 70 = .ok (.aload_n 0, 1) := by decide +kernel
theorem dX9_looksInData_71 : decode cX9_looksInData 71 = .ok (.iload_n 1, 1) := by decide +kernel
theorem dX9_looksInData_72 : decode cX9_looksInData 72 = .ok (.bipush 7, 2) := by decide +kernel
theorem dX9_looksInData_74 : decode cX9_looksInData 74 = .ok (.aload_n 0, 1) := by decide +kernel
theorem dX9_looksInData_75 : decode cX9_looksInData 75 = .ok (.iload_n 1, 1) := by decide +kernel
theorem dX9_looksInData_76 : decode cX9_looksInData 76 = .ok (.bipush 8, 2) := by decide +kernel
theorem dX9_looksInData_78 : decode cX9_looksInData 78 = .ok (.invokevirtual 106, 3) := by decide +kernel
theorem dX9_looksInData_81 : decode cX9_looksInData 81 = .ok (.invokevirtual 114, 3) := by decide +kernel
theorem dX9_looksInData_84 : decode cX9_looksInData 84 = .ok (.aload_n 0, 1) := by decide +kernel
theorem dX9_looksInData_85 : decode cX9_looksInData 85 = .ok (.iload_n 1, 1) := by decide +kernel
theorem dX9_looksInData_86 : decode cX9_looksInData 86 = .ok (.bipush 15, 2) := by decide +kernel
theorem dX9_looksInData_88 : decode cX9_looksInData 88 = .ok (.invokevirtual 106, 3) := by decide +kernel
theorem dX9_looksInData_91 : decode cX9_looksInData 91 = .ok (.invokestatic 171, 3) := by decide +kernel
theorem dX9_looksInData_94 : decode cX9_looksInData 94 = .ok (.iconst 3, 1) := by decide +kernel
theorem dX9_looksInData_95 : decode cX9_looksInData 95 = .ok (.if_icmp .lt 52, 3) := by decide +kernel
theorem dX9_looksInData_98 : decode cX9_looksInData 98 = .ok (.aload_n 0, 1) := by decide +kernel
theorem dX9_looksInData_99 : decode cX9_looksInData 99 = .ok (.iload_n 1, 1) := by decide +kernel
theorem dX9_looksInData_100 : decode cX9_looksInData 100 = .ok (.iconst 3, 1) := by decide +kernel
theorem dX9_looksInData_101 : decode cX9_looksInData 101 = .ok (.invokevirtual 106, 3) := by decide +kernel
theorem dX9_looksInData_104 : decode cX9_looksInData 104 = .ok (.iconst 1, 1) := by decide +kernel
theorem dX9_looksInData_105 : decode cX9_looksInData 105 = .ok (.if_icmp .le 42, 3) := by decide +kernel
theorem dX9_looksInData_108 : decode cX9_looksInData 108 = .ok (.aload_n 0, 1) := by decide +kernel
theorem dX9_looksInData_109 : decode cX9_looksInData 109 = .ok (.iload_n 1, 1) := by decide +kernel
theorem dX9_looksInData_110 : decode cX9_looksInData 110 = .ok (.iconst 1, 1) := by decide +kernel
theorem dX9_looksInData_111 : decode cX9_looksInData 111 = .ok (.invokevirtual 106, 3) := by decide +kernel
theorem dX9_looksInData_114 : decode cX9_looksInData 114 = .ok (.bipush 8, 2) := by decide +kernel
theorem dX9_looksInData_116 : decode cX9_looksInData 116 = .ok (.if_icmp .lt 31, 3) := by decide +kernel
theorem dX9_looksInData_119 : decode cX9_looksInData 119 = .ok (.aload_n 0, 1) := by decide +kernel
theorem dX9_looksInData_120 : decode cX9_looksInData 120 = .ok (.iload_n 1, 1) := by decide +kernel
theorem dX9_looksInData_121 : decode cX9_looksInData 121 = .ok (.bipush 13, 2) := by decide +kernel
theorem dX9_looksInData_123 : decode cX9_looksInData 123 = .ok (.iconst 1, 1) := by decide +kernel
theorem dX9_looksInData_124 : decode cX9_looksInData 124 = .ok (.invokevirtual 110, 3) := by decide +kernel
theorem dX9_looksInData_127 : decode cX9_looksInData 127 = .ok (.aload_n 0, 1) := by decide +kernel
theorem dX9_looksInData_128 : decode cX9_looksInData 128 = .ok (.iload_n 1, 1) := by decide +kernel
theorem dX9_looksInData_129 : decode cX9_looksInData 129 = .ok (.iconst 2, 1) := by decide +kernel
theorem dX9_looksInData_130 : decode cX9_looksInData 130 = .ok (.iconst 1, 1) := by decide +kernel
theorem dX9_looksInData_131 : decode cX9_looksInData 131 = .ok (.invokevirtual 110, 3) := by decide +kernel
theorem dX9_looksInData_134 : decode cX9_looksInData 134 = .ok (.aload_n 0, 1) := by decide +kernel
theorem dX9_looksInData_135 : decode cX9_looksInData 135 = .ok (.iload_n 1, 1) := by decide +kernel
theorem dX9_looksInData_136 : decode cX9_looksInData 136 = .ok (.iconst 3, 1) := by decide +kernel
theorem dX9_looksInData_137 : decode cX9_looksInData 137 = .ok (.iconst (-1), 1) := by decide +kernel
theorem dX9_looksInData_138 : decode cX9_looksInData 138 = .ok (.invokevirtual 110, 3) := by decide +kernel
theorem dX9_looksInData_141 : decode cX9_looksInData 141 = .ok (.aload_n 0, 1) := by decide +kernel
theorem dX9_looksInData_142 : decode cX9_looksInData 142 = .ok (.iload_n 1, 1) := by decide +kernel
theorem dX9_looksInData_143 : decode cX9_looksInData 143 = .ok (.iconst 5, 1) := by decide +kernel
theorem dX9_looksInData_144 : decode cX9_looksInData 144 = .ok (.invokevirtual 134, 3) := by decide +kernel
theorem dX9_looksInData_147 : decode cX9_looksInData 147 = .ok (.return_, 1) := by decide +kernel
set_option maxRecDepth 20000 in
theorem ggX9_looksIn_X9_of : GoodIn wsX9_looksIn wsX9_of := goodIn_r _ [6, 7, 44, 45, 46, 47, 48, 49, 50, 51, 52, 53, 54, 55, 56, 57, 58, 59, 60, 61, 62, 63, 64, 65, 66, 67, 68, 69, 70, 71, 72, 73] (by decide +kernel) (by decide +kernel)
set_option maxRecDepth 20000 in
theorem gX9_looksIn_X9_of : GoodIn wsX9_looksIn (wsV RX9 106 RX9 yX9_of wsX9_of) := goodIn_app (goodIn_of _ (by decide +kernel)) ggX9_looksIn_X9_of
set_option maxRecDepth 20000 in
theorem ggX9_looksIn_X9_into : GoodIn wsX9_looksIn wsX9_into := goodIn_r _ [11, 12, 13, 14, 15, 16, 17, 18, 5, 19, 20, 21, 22, 23, 7, 2, 3, 4, 6, 24, 25, 26, 27, 44, 45, 46, 47, 48, 49, 50, 51, 52, 53, 54, 55, 56, 57, 58, 59, 60, 61, 62, 63, 64, 65, 66, 67, 68, 69, 70, 71, 72, 73] (by decide +kernel) (by decide +kernel)
set_option maxRecDepth 20000 in
theorem gX9_looksIn_X9_into : GoodIn wsX9_looksIn (wsV RX9 134 RX9 yX9_into wsX9_into) := goodIn_app (goodIn_of _ (by decide +kernel)) ggX9_looksIn_X9_into
set_option maxRecDepth 20000 in
theorem ggX9_looksIn_X9_put : GoodIn wsX9_looksIn wsX9_put := goodIn_r _ [23, 7, 44, 45, 46, 47, 48, 49, 50, 51, 52, 53, 54, 55, 56, 57, 58, 59, 60, 61, 62, 63, 64, 65, 66, 67, 68, 69, 70, 71, 72, 73] (by decide +kernel) (by decide +kernel)
set_option maxRecDepth 20000 in
theorem gX9_looksIn_X9_put : GoodIn wsX9_looksIn (wsV RX9 114 RX9 yX9_put wsX9_put) := goodIn_app (goodIn_of _ (by decide +kernel)) ggX9_looksIn_X9_put
set_option maxRecDepth 20000 in
theorem ggX9_looksIn_X9_makeOffer : GoodIn wsX9_looksIn wsX9_makeOffer := goodIn_r _ [31, 32, 15, 14, 33, 34, 5, 35, 20, 21, 22, 23, 7, 44, 45, 46, 47, 48, 49, 50, 51, 52, 53, 54, 55, 56, 57, 58, 59, 60, 61, 62, 63, 64, 65, 66, 67, 68, 69, 70, 71, 72, 73] (by decide +kernel) (by decide +kernel)
set_option maxRecDepth 20000 in
theorem gX9_looksIn_X9_makeOffer : GoodIn wsX9_looksIn (wsV RX9 174 RX9 yX9_makeOffer wsX9_makeOffer) := goodIn_app (goodIn_of _ (by decide +kernel)) ggX9_looksIn_X9_makeOffer
set_option maxRecDepth 20000 in
theorem ggX9_looksIn_X9_looksInData : GoodIn wsX9_looksIn wsX9_looksInData := goodIn_r _ [39, 40, 1, 2, 3, 4, 5, 6, 7, 20, 21, 22, 23, 41, 42, 43, 24, 25, 26, 27, 8, 9, 10, 11, 12, 13, 14, 15, 16, 17, 18, 19, 44, 45, 46, 47, 48, 49, 50, 51, 52, 53, 54, 55, 56, 57, 58, 59, 60, 61, 62, 63, 64, 65, 66, 67, 68, 69, 70, 71, 72, 73] (by decide +kernel) (by decide +kernel)
set_option maxRecDepth 20000 in
theorem gX9_looksIn_X9_looksInData : GoodIn wsX9_looksIn (wsV RX9 177 RX9 yX9_looksInData wsX9_looksInData) := goodIn_app (goodIn_of _ (by decide +kernel)) ggX9_looksIn_X9_looksInData
theorem dX9_looksIn_0 : decode cX9_looksIn 0 = .ok (.aload_n 0, 1) := by decide +kernel
theorem dX9_looksIn_1 : decode cX9_looksIn 1 = .ok (.iload_n 1, 1) := by decide +kernel
theorem dX9_looksIn_2 : decode cX9_looksIn 2 = .ok (.iconst 0, 1) := by decide +kernel
theorem dX9_looksIn_3 : decode cX9_looksIn 3 = .ok (.invokevirtual 106, 3) := by decide +kernel
theorem dX9_looksIn_6 : decode cX9_looksIn 6 = .ok (.istore_n 2, 1) := by decide +kernel
theorem dX9_looksIn_7 : decode cX9_looksIn 7 = .ok (.iload_n 2, 1) := by decide +kernel
theorem dX9_looksIn_8 : decode cX9_looksIn 8 = .ok (.iconst 3, 1) := by decide +kernel
theorem dX9_looksIn_9 : decode cX9_looksIn 9 = .ok (.if_icmp .ne 30, 3) := by decide +kernel
theorem dX9_looksIn_12 : decode cX9_looksIn 12 = .ok (.aload_n 0, 1) := by decide +kernel
theorem dX9_looksIn_13 : decode cX9_looksIn 13 = .ok (.iload_n 1, 1) := by decide +kernel
theorem dX9_looksIn_14 : decode cX9_looksIn 14 = .ok (.iconst 1, 1) := by decide +kernel
theorem dX9_looksIn_15 : decode cX9_looksIn 15 = .ok (.invokevirtual 106, 3) := by decide +kernel
theorem dX9_looksIn_18 : decode cX9_looksIn 18 = .ok (.bipush 10, 2) := by decide +kernel
theorem dX9_looksIn_20 : decode cX9_looksIn 20 = .ok (.iconst 2, 1) := by decide +kernel
theorem dX9_looksIn_21 : decode cX9_looksIn 21 = .ok (.aload_n 0, 1) := by decide +kernel
theorem dX9_looksIn_22 : decode cX9_looksIn 22 = .ok (.getfield 34, 3) := by decide +kernel
theorem dX9_looksIn_25 : decode cX9_looksIn 25 = .ok (.imul, 1) := by decide +kernel
theorem dX9_looksIn_26 : decode cX9_looksIn 26 = .ok (.iadd, 1) := by decide +kernel
theorem dX9_looksIn_27 : decode cX9_looksIn 27 = .ok (.if_icmp .lt 12, 3) := by decide +kernel
theorem dX9_looksIn_30 : decode cX9_looksIn 30 = .ok (.aload_n 0, 1) := by decide +kernel
theorem dX9_looksIn_31 : decode cX9_looksIn 31 = .ok (.iload_n 1, 1) := by decide +kernel
theorem dX9_looksIn_32 : decode cX9_looksIn 32 = .ok (.iconst 4, 1) := by decide +kernel
theorem dX9_looksIn_33 : decode cX9_looksIn 33 = .ok (.invokevirtual 134, 3) := by decide +kernel
theorem dX9_looksIn_36 : decode cX9_looksIn 36 = .ok (.goto 51, 3) := by decide +kernel
theorem dX9_looksIn_39 : decode cX9_looksIn 39 = .ok (.iload_n 2, 1) := by decide +kernel
theorem dX9_looksIn_40 : decode cX9_looksIn 40 = .ok (.iconst 4, 1) := by decide +kernel
theorem dX9_looksIn_41 : decode cX9_looksIn 41 = .ok (.if_icmp .ne 35, 3) := by decide +kernel
theorem dX9_looksIn_44 : decode cX9_looksIn 44 = .ok (.aload_n 0, 1) := by decide +kernel
theorem dX9_looksIn_45 : decode cX9_looksIn 45 = .ok (.iload_n 1, 1) := by decide +kernel
theorem dX9_looksIn_46 : decode cX9_looksIn 46 = .ok (.iconst 1, 1) := by decide +kernel
theorem dX9_looksIn_47 : decode cX9_looksIn 47 = .ok (.invokevirtual 106, 3) := by decide +kernel
theorem dX9_looksIn_50 : decode cX9_looksIn 50 = .ok (.bipush 32, 2) := by decide +kernel
theorem dX9_looksIn_52 : decode cX9_looksIn 52 = .ok (.if_icmp .lt 24, 3) := by decide +kernel
theorem dX9_looksIn_55 : decode cX9_looksIn 55 = .ok (.aload_n 0, 1) := by decide +kernel
theorem dX9_looksIn_56 : decode cX9_looksIn 56 = .ok (.iload_n 1, 1) := by decide +kernel
theorem dX9_looksIn_57 : decode cX9_looksIn 57 = .ok (.iconst 5, 1) := by decide +kernel
theorem dX9_looksIn_58 : decode cX9_looksIn 58 = .ok (.invokevirtual 134, 3) := by decide +kernel
theorem dX9_looksIn_61 : decode cX9_looksIn 61 = .ok (.aload_n 0, 1) := by decide +kernel
theorem dX9_looksIn_62 : decode cX9_looksIn 62 = .ok (.iload_n 1, 1) := by decide +kernel
theorem dX9_looksIn_63 : decode cX9_looksIn 63 = .ok (.iconst 2, 1) := by decide +kernel
theorem dX9_looksIn_64 : decode cX9_looksIn 64 = .ok (.iconst 1, 1) := by decide +kernel
theorem dX9_looksIn_65 : decode cX9_looksIn 65 = .ok (.invokevirtual 114, 3) := by decide +kernel
theorem dX9_looksIn_68 : decode cX9_looksIn 68 = .ok (.aload_n 0, 1) := by decide +kernel
theorem dX9_looksIn_69 : decode cX9_looksIn 69 = .ok (.iload_n 1, 1) := by decide +kernel
theorem dX9_looksIn_70 : decode cX9_looksIn 70 = .ok (.invokevirtual 174, 3) := by decide +kernel
theorem dX9_looksIn_73 : decode cX9_looksIn 73 = .ok (.goto 14, 3) := by decide +kernel
theorem dX9_looksIn_76 : decode cX9_looksIn 76 = .ok (.iload_n 2, 1) := by decide +kernel
theorem dX9_looksIn_77 : decode cX9_looksIn 77 = .ok (.bipush 7, 2) := by decide +kernel
theorem dX9_looksIn_79 : decode cX9_looksIn 79 = .ok (.if_icmp .ne 8, 3) := by decide +kernel
theorem dX9_looksIn_82 : decode cX9_looksIn 82 = .ok (.aload_n 0, 1) := by decide +kernel
theorem dX9_looksIn_83 : decode cX9_looksIn 83 = .ok (.iload_n 1, 1) := by decide +kernel
theorem dX9_looksIn_84 : decode cX9_looksIn 84 = .ok (.invokevirtual 177, 3) := by decide +kernel
theorem dX9_looksIn_87 : decode cX9_looksIn 87 = .ok (.return_, 1) := by decide +kernel
set_option maxRecDepth 20000 in
theorem ggX9_send_X9_slot : GoodIn wsX9_send wsX9_slot := goodIn_r _ [10] (by decide +kernel) (by decide +kernel)
set_option maxRecDepth 20000 in
theorem gX9_send_X9_slot : GoodIn wsX9_send (wsV RX9 124 RX9 yX9_slot wsX9_slot) := goodIn_app (goodIn_of _ (by decide +kernel)) ggX9_send_X9_slot
theorem dX9_send_0 : decode cX9_send 0 = .ok (.aload_n 0, 1) := by decide +kernel
theorem dX9_send_1 : decode cX9_send 1 = .ok (.aload_n 0, 1) := by decide +kernel
theorem dX9_send_2 : decode cX9_send 2 = .ok (.iload_n 1, 1) := by decide +kernel
theorem dX9_send_3 : decode cX9_send 3 = .ok (.aload_n 0, 1) := by decide +kernel
theorem dX9_send_4 : decode cX9_send 4 = .ok (.getfield 121, 3) := by decide +kernel
theorem dX9_send_7 : decode cX9_send 7 = .ok (.aload_n 0, 1) := by decide +kernel
theorem dX9_send_8 : decode cX9_send 8 = .ok (.getfield 34, 3) := by decide +kernel
theorem dX9_send_11 : decode cX9_send 11 = .ok (.iadd, 1) := by decide +kernel
theorem dX9_send_12 : decode cX9_send 12 = .ok (.invokevirtual 124, 3) := by decide +kernel
theorem dX9_send_15 : decode cX9_send 15 = .ok (.putfield 180, 3) := by decide +kernel
theorem dX9_send_18 : decode cX9_send 18 = .ok (.aload_n 0, 1) := by decide +kernel
theorem dX9_send_19 : decode cX9_send 19 = .ok (.getfield 41, 3) := by decide +kernel
theorem dX9_send_22 : decode cX9_send 22 = .ok (.aload_n 0, 1) := by decide +kernel
theorem dX9_send_23 : decode cX9_send 23 = .ok (.getfield 180, 3) := by decide +kernel
theorem dX9_send_26 : decode cX9_send 26 = .ok (.iconst 1, 1) := by decide +kernel
theorem dX9_send_27 : decode cX9_send 27 = .ok (.iastore, 1) := by decide +kernel
theorem dX9_send_28 : decode cX9_send 28 = .ok (.aload_n 0, 1) := by decide +kernel
theorem dX9_send_29 : decode cX9_send 29 = .ok (.getfield 41, 3) := by decide +kernel
theorem dX9_send_32 : decode cX9_send 32 = .ok (.aload_n 0, 1) := by decide +kernel
theorem dX9_send_33 : decode cX9_send 33 = .ok (.getfield 180, 3) := by decide +kernel
theorem dX9_send_36 : decode cX9_send 36 = .ok (.iconst 1, 1) := by decide +kernel
theorem dX9_send_37 : decode cX9_send 37 = .ok (.iadd, 1) := by decide +kernel
theorem dX9_send_38 : decode cX9_send 38 = .ok (.iload_n 2, 1) := by decide +kernel
theorem dX9_send_39 : decode cX9_send 39 = .ok (.iastore, 1) := by decide +kernel
theorem dX9_send_40 : decode cX9_send 40 = .ok (.aload_n 0, 1) := by decide +kernel
theorem dX9_send_41 : decode cX9_send 41 = .ok (.getfield 41, 3) := by decide +kernel
theorem dX9_send_44 : decode cX9_send 44 = .ok (.aload_n 0, 1) := by decide +kernel
theorem dX9_send_45 : decode cX9_send 45 = .ok (.getfield 180, 3) := by decide +kernel
theorem dX9_send_48 : decode cX9_send 48 = .ok (.iconst 2, 1) := by decide +kernel
theorem dX9_send_49 : decode cX9_send 49 = .ok (.iadd, 1) := by decide +kernel
theorem dX9_send_50 : decode cX9_send 50 = .ok (.iload_n 3, 1) := by decide +kernel
theorem dX9_send_51 : decode cX9_send 51 = .ok (.iastore, 1) := by decide +kernel
theorem dX9_send_52 : decode cX9_send 52 = .ok (.aload_n 0, 1) := by decide +kernel
theorem dX9_send_53 : decode cX9_send 53 = .ok (.getfield 41, 3) := by decide +kernel
theorem dX9_send_56 : decode cX9_send 56 = .ok (.aload_n 0, 1) := by decide +kernel
theorem dX9_send_57 : decode cX9_send 57 = .ok (.getfield 180, 3) := by decide +kernel
theorem dX9_send_60 : decode cX9_send 60 = .ok (.iconst 3, 1) := by decide +kernel
theorem dX9_send_61 : decode cX9_send 61 = .ok (.iadd, 1) := by decide +kernel
theorem dX9_send_62 : decode cX9_send 62 = .ok (.iload 4, 2) := by decide +kernel
theorem dX9_send_64 : decode cX9_send 64 = .ok (.iastore, 1) := by decide +kernel
theorem dX9_send_65 : decode cX9_send 65 = .ok (.aload_n 0, 1) := by decide +kernel
theorem dX9_send_66 : decode cX9_send 66 = .ok (.getfield 41, 3) := by decide +kernel
theorem dX9_send_69 : decode cX9_send 69 = .ok (.aload_n 0, 1) := by decide +kernel
theorem dX9_send_70 : decode cX9_send 70 = .ok (.getfield 180, 3) := by decide +kernel
theorem dX9_send_73 : decode cX9_send 73 = .ok (.iconst 4, 1) := by decide +kernel
theorem dX9_send_74 : decode cX9_send 74 = .ok (.iadd, 1) := by decide +kernel
theorem dX9_send_75 : decode cX9_send 75 = .ok (.iload 5, 2) := by decide +kernel
theorem dX9_send_77 : decode cX9_send 77 = .ok (.iastore, 1) := by decide +kernel
theorem dX9_send_78 : decode cX9_send 78 = .ok (.aload_n 0, 1) := by decide +kernel
theorem dX9_send_79 : decode cX9_send 79 = .ok (.getfield 44, 3) := by decide +kernel
theorem dX9_send_82 : decode cX9_send 82 = .ok (.aload_n 0, 1) := by decide +kernel
theorem dX9_send_83 : decode cX9_send 83 = .ok (.getfield 180, 3) := by decide +kernel
theorem dX9_send_86 : decode cX9_send 86 = .ok (.bipush 8, 2) := by decide +kernel
theorem dX9_send_88 : decode cX9_send 88 = .ok (.idiv, 1) := by decide +kernel
theorem dX9_send_89 : decode cX9_send 89 = .ok (.iload 6, 2) := by decide +kernel
theorem dX9_send_91 : decode cX9_send 91 = .ok (.iastore, 1) := by decide +kernel
theorem dX9_send_92 : decode cX9_send 92 = .ok (.return_, 1) := by decide +kernel
theorem dX9_signOf_0 : decode cX9_signOf 0 = .ok (.iload_n 0, 1) := by decide +kernel
theorem dX9_signOf_1 : decode cX9_signOf 1 = .ok (.ifCond .ge 7, 3) := by decide +kernel
theorem dX9_signOf_4 : decode cX9_signOf 4 = .ok (.iconst 0, 1) := by decide +kernel
theorem dX9_signOf_5 : decode cX9_signOf 5 = .ok (.goto 20, 3) := by decide +kernel
theorem dX9_signOf_8 : decode cX9_signOf 8 = .ok (.iload_n 0, 1) := by decide +kernel
theorem dX9_signOf_9 : decode cX9_signOf 9 = .ok (.iconst 3, 1) := by decide +kernel
theorem dX9_signOf_10 : decode cX9_signOf 10 = .ok (.irem, 1) := by decide +kernel
theorem dX9_signOf_11 : decode cX9_signOf 11 = .ok (.ifCond .eq 9, 3) := by decide +kernel
theorem dX9_signOf_14 : decode cX9_signOf 14 = .ok (.iload_n 0, 1) := by decide +kernel
theorem dX9_signOf_15 : decode cX9_signOf 15 = .ok (.iconst 5, 1) := by decide +kernel
theorem dX9_signOf_16 : decode cX9_signOf 16 = .ok (.irem, 1) := by decide +kernel
theorem dX9_signOf_17 : decode cX9_signOf 17 = .ok (.ifCond .ne 7, 3) := by decide +kernel
theorem dX9_signOf_20 : decode cX9_signOf 20 = .ok (.iconst 1, 1) := by decide +kernel
theorem dX9_signOf_21 : decode cX9_signOf 21 = .ok (.goto 4, 3) := by decide +kernel
theorem dX9_signOf_24 : decode cX9_signOf 24 = .ok (.iconst (-1), 1) := by decide +kernel
theorem dX9_signOf_25 : decode cX9_signOf 25 = .ok (.ireturn, 1) := by decide +kernel
set_option maxRecDepth 20000 in
theorem ggX9_trains_X9_of : GoodIn wsX9_trains wsX9_of := goodIn_r _ [7, 8, 12, 13, 14, 15, 16, 17, 18, 19, 20, 21, 22, 23, 24, 25, 26, 27, 28, 29, 30, 31, 32, 33, 34, 35, 36, 37, 38, 39, 40, 41] (by decide +kernel) (by decide +kernel)
set_option maxRecDepth 20000 in
theorem gX9_trains_X9_of : GoodIn wsX9_trains (wsV RX9 106 RX9 yX9_of wsX9_of) := goodIn_app (goodIn_of _ (by decide +kernel)) ggX9_trains_X9_of
set_option maxRecDepth 20000 in
theorem ggX9_trains_X9_signOf : GoodIn wsX9_trains wsX9_signOf := goodIn_r _ [11] (by decide +kernel) (by decide +kernel)
set_option maxRecDepth 20000 in
theorem gX9_trains_X9_signOf : GoodIn wsX9_trains (va_wsS RX9 183 yX9_signOf wsX9_signOf) := goodIn_app (goodIn_of _ (by decide +kernel)) ggX9_trains_X9_signOf
theorem dX9_trains_0 : decode cX9_trains 0 = .ok (.aload_n 0, 1) := by decide +kernel
theorem dX9_trains_1 : decode cX9_trains 1 = .ok (.iload_n 1, 1) := by decide +kernel
theorem dX9_trains_2 : decode cX9_trains 2 = .ok (.iconst 1, 1) := by decide +kernel
theorem dX9_trains_3 : decode cX9_trains 3 = .ok (.invokevirtual 106, 3) := by decide +kernel
theorem dX9_trains_6 : decode cX9_trains 6 = .ok (.istore_n 2, 1) := by decide +kernel
theorem dX9_trains_7 : decode cX9_trains 7 = .ok (.iconst 0, 1) := by decide +kernel
theorem dX9_trains_8 : decode cX9_trains 8 = .ok (.istore_n 3, 1) := by decide +kernel
theorem dX9_trains_9 : decode cX9_trains 9 = .ok (.iconst 0, 1) := by decide +kernel
theorem dX9_trains_10 : decode cX9_trains 10 = .ok (.istore 4, 2) := by decide +kernel
theorem dX9_trains_12 : decode cX9_trains 12 = .ok (.iload 4, 2) := by decide +kernel
theorem dX9_trains_14 : decode cX9_trains 14 = .ok (.iconst 4, 1) := by decide +kernel
theorem dX9_trains_15 : decode cX9_trains 15 = .ok (.if_icmp .ge 46, 3) := by decide +kernel
theorem dX9_trains_18 : decode cX9_trains 18 = .ok (.iload_n 3, 1) := by decide +kernel
theorem dX9_trains_19 : decode cX9_trains 19 = .ok (.bipush 16, 2) := by decide +kernel
theorem dX9_trains_21 : decode cX9_trains 21 = .ok (.aload_n 0, 1) := by decide +kernel
theorem dX9_trains_22 : decode cX9_trains 22 = .ok (.getfield 19, 3) := by decide +kernel
theorem dX9_trains_25 : decode cX9_trains 25 = .ok (.iconst 4, 1) := by decide +kernel
theorem dX9_trains_26 : decode cX9_trains 26 = .ok (.iload_n 1, 1) := by decide +kernel
theorem dX9_trains_27 : decode cX9_trains 27 = .ok (.imul, 1) := by decide +kernel
theorem dX9_trains_28 : decode cX9_trains 28 = .ok (.iload 4, 2) := by decide +kernel
theorem dX9_trains_30 : decode cX9_trains 30 = .ok (.iadd, 1) := by decide +kernel
theorem dX9_trains_31 : decode cX9_trains 31 = .ok (.iaload, 1) := by decide +kernel
theorem dX9_trains_32 : decode cX9_trains 32 = .ok (.imul, 1) := by decide +kernel
theorem dX9_trains_33 : decode cX9_trains 33 = .ok (.aload_n 0, 1) := by decide +kernel
theorem dX9_trains_34 : decode cX9_trains 34 = .ok (.getfield 16, 3) := by decide +kernel
theorem dX9_trains_37 : decode cX9_trains 37 = .ok (.iconst 4, 1) := by decide +kernel
theorem dX9_trains_38 : decode cX9_trains 38 = .ok (.iload_n 1, 1) := by decide +kernel
theorem dX9_trains_39 : decode cX9_trains 39 = .ok (.imul, 1) := by decide +kernel
theorem dX9_trains_40 : decode cX9_trains 40 = .ok (.iload 4, 2) := by decide +kernel
theorem dX9_trains_42 : decode cX9_trains 42 = .ok (.iadd, 1) := by decide +kernel
theorem dX9_trains_43 : decode cX9_trains 43 = .ok (.iaload, 1) := by decide +kernel
theorem dX9_trains_44 : decode cX9_trains 44 = .ok (.isub, 1) := by decide +kernel
theorem dX9_trains_45 : decode cX9_trains 45 = .ok (.iload_n 2, 1) := by decide +kernel
theorem dX9_trains_46 : decode cX9_trains 46 = .ok (.iload 4, 2) := by decide +kernel
theorem dX9_trains_48 : decode cX9_trains 48 = .ok (.isub, 1) := by decide +kernel
theorem dX9_trains_49 : decode cX9_trains 49 = .ok (.invokestatic 183, 3) := by decide +kernel
theorem dX9_trains_52 : decode cX9_trains 52 = .ok (.imul, 1) := by decide +kernel
theorem dX9_trains_53 : decode cX9_trains 53 = .ok (.iadd, 1) := by decide +kernel
theorem dX9_trains_54 : decode cX9_trains 54 = .ok (.istore_n 3, 1) := by decide +kernel
theorem dX9_trains_55 : decode cX9_trains 55 = .ok (.iinc 4 1, 3) := by decide +kernel
theorem dX9_trains_58 : decode cX9_trains 58 = .ok (.goto (-46), 3) := by decide +kernel
theorem dX9_trains_61 : decode cX9_trains 61 = .ok (.iconst 0, 1) := by decide +kernel
theorem dX9_trains_62 : decode cX9_trains 62 = .ok (.istore 4, 2) := by decide +kernel
theorem dX9_trains_64 : decode cX9_trains 64 = .ok (.iload 4, 2) := by decide +kernel
theorem dX9_trains_66 : decode cX9_trains 66 = .ok (.iconst 4, 1) := by decide +kernel
theorem dX9_trains_67 : decode cX9_trains 67 = .ok (.if_icmp .ge 35, 3) := by decide +kernel
theorem dX9_trains_70 : decode cX9_trains 70 = .ok (.aload_n 0, 1) := by decide +kernel
theorem dX9_trains_71 : decode cX9_trains 71 = .ok (.getfield 16, 3) := by decide +kernel
theorem dX9_trains_74 : decode cX9_trains 74 = .ok (.iconst 4, 1) := by decide +kernel
theorem dX9_trains_75 : decode cX9_trains 75 = .ok (.iload_n 1, 1) := by decide +kernel
theorem dX9_trains_76 : decode cX9_trains 76 = .ok (.imul, 1) := by decide +kernel
theorem dX9_trains_77 : decode cX9_trains 77 = .ok (.iload 4, 2) := by decide +kernel
theorem dX9_trains_79 : decode cX9_trains 79 = .ok (.iadd, 1) := by decide +kernel
theorem dX9_trains_80 : decode cX9_trains 80 = .ok (.dup2, 1) := by decide +kernel
theorem dX9_trains_81 : decode cX9_trains 81 = .ok (.iaload, 1) := by decide +kernel
theorem dX9_trains_82 : decode cX9_trains 82 = .ok (.iload_n 3, 1) := by decide +kernel
theorem dX9_trains_83 : decode cX9_trains 83 = .ok (.iload_n 2, 1) := by decide +kernel
theorem dX9_trains_84 : decode cX9_trains 84 = .ok (.iload 4, 2) := by decide +kernel
theorem dX9_trains_86 : decode cX9_trains 86 = .ok (.isub, 1) := by decide +kernel
theorem dX9_trains_87 : decode cX9_trains 87 = .ok (.invokestatic 183, 3) := by decide +kernel
theorem dX9_trains_90 : decode cX9_trains 90 = .ok (.imul, 1) := by decide +kernel
theorem dX9_trains_91 : decode cX9_trains 91 = .ok (.bipush 8, 2) := by decide +kernel
theorem dX9_trains_93 : decode cX9_trains 93 = .ok (.idiv, 1) := by decide +kernel
theorem dX9_trains_94 : decode cX9_trains 94 = .ok (.iadd, 1) := by decide +kernel
theorem dX9_trains_95 : decode cX9_trains 95 = .ok (.iastore, 1) := by decide +kernel
theorem dX9_trains_96 : decode cX9_trains 96 = .ok (.iinc 4 1, 3) := by decide +kernel
theorem dX9_trains_99 : decode cX9_trains 99 = .ok (.goto (-35), 3) := by decide +kernel
theorem dX9_trains_102 : decode cX9_trains 102 = .ok (.return_, 1) := by decide +kernel
theorem dX9_lesser_0 : decode cX9_lesser 0 = .ok (.iload_n 0, 1) := by decide +kernel
theorem dX9_lesser_1 : decode cX9_lesser 1 = .ok (.iload_n 1, 1) := by decide +kernel
theorem dX9_lesser_2 : decode cX9_lesser 2 = .ok (.if_icmp .ge 7, 3) := by decide +kernel
theorem dX9_lesser_5 : decode cX9_lesser 5 = .ok (.iload_n 0, 1) := by decide +kernel
theorem dX9_lesser_6 : decode cX9_lesser 6 = .ok (.goto 4, 3) := by decide +kernel
theorem dX9_lesser_9 : decode cX9_lesser 9 = .ok (.iload_n 1, 1) := by decide +kernel
theorem dX9_lesser_10 : decode cX9_lesser 10 = .ok (.ireturn, 1) := by decide +kernel
set_option maxRecDepth 20000 in
theorem ggX9_sendsFrame_X9_of : GoodIn wsX9_sendsFrame wsX9_of := goodIn_r _ [9, 10, 33, 34, 35, 36, 37, 38, 39, 40, 41, 42, 43, 44, 45, 46, 47, 48, 49, 50, 51, 52, 53, 54, 55, 56, 57, 58, 59, 60, 61, 62] (by decide +kernel) (by decide +kernel)
set_option maxRecDepth 20000 in
theorem gX9_sendsFrame_X9_of : GoodIn wsX9_sendsFrame (wsV RX9 106 RX9 yX9_of wsX9_of) := goodIn_app (goodIn_of _ (by decide +kernel)) ggX9_sendsFrame_X9_of
set_option maxRecDepth 20000 in
theorem ggX9_sendsFrame_X9_lesser : GoodIn wsX9_sendsFrame wsX9_lesser := goodIn_r _ [13] (by decide +kernel) (by decide +kernel)
set_option maxRecDepth 20000 in
theorem gX9_sendsFrame_X9_lesser : GoodIn wsX9_sendsFrame (va_wsS RX9 186 yX9_lesser wsX9_lesser) := goodIn_app (goodIn_of _ (by decide +kernel)) ggX9_sendsFrame_X9_lesser
set_option maxRecDepth 20000 in
theorem ggX9_sendsFrame_X9_put : GoodIn wsX9_sendsFrame wsX9_put := goodIn_r _ [17, 10, 33, 34, 35, 36, 37, 38, 39, 40, 41, 42, 43, 44, 45, 46, 47, 48, 49, 50, 51, 52, 53, 54, 55, 56, 57, 58, 59, 60, 61, 62] (by decide +kernel) (by decide +kernel)
set_option maxRecDepth 20000 in
theorem gX9_sendsFrame_X9_put : GoodIn wsX9_sendsFrame (wsV RX9 114 RX9 yX9_put wsX9_put) := goodIn_app (goodIn_of _ (by decide +kernel)) ggX9_sendsFrame_X9_put
set_option maxRecDepth 20000 in
theorem ggX9_sendsFrame_X9_send : GoodIn wsX9_sendsFrame wsX9_send := goodIn_r _ [21, 22, 23, 2, 1, 24, 25, 26, 27, 8, 28, 33, 34, 35, 36, 37, 38, 39, 40, 41, 42, 43, 44, 45, 46, 47, 48, 49, 50, 51, 52, 53, 54, 55, 56, 57, 58, 59, 60, 61, 62] (by decide +kernel) (by decide +kernel)
set_option maxRecDepth 20000 in
theorem gX9_sendsFrame_X9_send : GoodIn wsX9_sendsFrame (wsV RX9 189 RX9 yX9_send wsX9_send) := goodIn_app (goodIn_of _ (by decide +kernel)) ggX9_sendsFrame_X9_send
set_option maxRecDepth 20000 in
theorem ggX9_sendsFrame_X9_add : GoodIn wsX9_sendsFrame wsX9_add := goodIn_r _ [32, 10, 33, 34, 35, 36, 37, 38, 39, 40, 41, 42, 43, 44, 45, 46, 47, 48, 49, 50, 51, 52, 53, 54, 55, 56, 57, 58, 59, 60, 61, 62] (by decide +kernel) (by decide +kernel)
set_option maxRecDepth 20000 in
theorem gX9_sendsFrame_X9_add : GoodIn wsX9_sendsFrame (wsV RX9 110 RX9 yX9_add wsX9_add) := goodIn_app (goodIn_of _ (by decide +kernel)) ggX9_sendsFrame_X9_add
theorem dX9_sendsFrame_0 : decode cX9_sendsFrame 0 = .ok (.aload_n 0, 1) := by decide +kernel
theorem dX9_sendsFrame_1 : decode cX9_sendsFrame 1 = .ok (.iload_n 1, 1) := by decide +kernel
theorem dX9_sendsFrame_2 : decode cX9_sendsFrame 2 = .ok (.iconst 5, 1) := by decide +kernel
theorem dX9_sendsFrame_3 : decode cX9_sendsFrame 3 = .ok (.bipush 24, 2) := by decide +kernel
theorem dX9_sendsFrame_5 : decode cX9_sendsFrame 5 = .ok (.aload_n 0, 1) := by decide +kernel
theorem dX9_sendsFrame_6 : decode cX9_sendsFrame 6 = .ok (.iload_n 1, 1) := by decide +kernel
theorem dX9_sendsFrame_7 : decode cX9_sendsFrame 7 = .ok (.iconst 5, 1) := by decide +kernel
theorem dX9_sendsFrame_8 : decode cX9_sendsFrame 8 = .ok (.invokevirtual 106, 3) := by decide +kernel
theorem dX9_sendsFrame_11 : decode cX9_sendsFrame 11 = .ok (.aload_n 0, 1) := by decide +kernel
theorem dX9_sendsFrame_12 : decode cX9_sendsFrame 12 = .ok (.iload_n 1, 1) := by decide +kernel
theorem dX9_sendsFrame_13 : decode cX9_sendsFrame 13 = .ok (.iconst 4, 1) := by decide +kernel
theorem dX9_sendsFrame_14 : decode cX9_sendsFrame 14 = .ok (.invokevirtual 106, 3) := by decide +kernel
theorem dX9_sendsFrame_17 : decode cX9_sendsFrame 17 = .ok (.iadd, 1) := by decide +kernel
theorem dX9_sendsFrame_18 : decode cX9_sendsFrame 18 = .ok (.invokestatic 186, 3) := by decide +kernel
theorem dX9_sendsFrame_21 : decode cX9_sendsFrame 21 = .ok (.invokevirtual 114, 3) := by decide +kernel
theorem dX9_sendsFrame_24 : decode cX9_sendsFrame 24 = .ok (.aload_n 0, 1) := by decide +kernel
theorem dX9_sendsFrame_25 : decode cX9_sendsFrame 25 = .ok (.iload_n 1, 1) := by decide +kernel
theorem dX9_sendsFrame_26 : decode cX9_sendsFrame 26 = .ok (.bipush 7, 2) := by decide +kernel
theorem dX9_sendsFrame_28 : decode cX9_sendsFrame 28 = .ok (.invokevirtual 106, 3) := by decide +kernel
theorem dX9_sendsFrame_31 : decode cX9_sendsFrame 31 = .ok (.istore_n 2, 1) := by decide +kernel
theorem dX9_sendsFrame_32 : decode cX9_sendsFrame 32 = .ok (.aload_n 0, 1) := by decide +kernel
theorem dX9_sendsFrame_33 : decode cX9_sendsFrame 33 = .ok (.iload_n 1, 1) := by decide +kernel
theorem dX9_sendsFrame_34 : decode cX9_sendsFrame 34 = .ok (.iconst 5, 1) := by decide +kernel
theorem dX9_sendsFrame_35 : decode cX9_sendsFrame 35 = .ok (.invokevirtual 106, 3) := by decide +kernel
theorem dX9_sendsFrame_38 : decode cX9_sendsFrame 38 = .ok (.bipush 8, 2) := by decide +kernel
theorem dX9_sendsFrame_40 : decode cX9_sendsFrame 40 = .ok (.idiv, 1) := by decide +kernel
theorem dX9_sendsFrame_41 : decode cX9_sendsFrame 41 = .ok (.aload_n 0, 1) := by decide +kernel
theorem dX9_sendsFrame_42 : decode cX9_sendsFrame 42 = .ok (.iload_n 1, 1) := by decide +kernel
theorem dX9_sendsFrame_43 : decode cX9_sendsFrame 43 = .ok (.bipush 6, 2) := by decide +kernel
theorem dX9_sendsFrame_45 : decode cX9_sendsFrame 45 = .ok (.invokevirtual 106, 3) := by decide +kernel
theorem dX9_sendsFrame_48 : decode cX9_sendsFrame 48 = .ok (.iload_n 2, 1) := by decide +kernel
theorem dX9_sendsFrame_49 : decode cX9_sendsFrame 49 = .ok (.isub, 1) := by decide +kernel
theorem dX9_sendsFrame_50 : decode cX9_sendsFrame 50 = .ok (.aload_n 0, 1) := by decide +kernel
theorem dX9_sendsFrame_51 : decode cX9_sendsFrame 51 = .ok (.iload_n 1, 1) := by decide +kernel
theorem dX9_sendsFrame_52 : decode cX9_sendsFrame 52 = .ok (.bipush 8, 2) := by decide +kernel
theorem dX9_sendsFrame_54 : decode cX9_sendsFrame 54 = .ok (.invokevirtual 106, 3) := by decide +kernel
theorem dX9_sendsFrame_57 : decode cX9_sendsFrame 57 = .ok (.bipush 64, 2) := by decide +kernel
theorem dX9_sendsFrame_59 : decode cX9_sendsFrame 59 = .ok (.iadd, 1) := by decide +kernel
theorem dX9_sendsFrame_60 : decode cX9_sendsFrame 60 = .ok (.iload_n 2, 1) := by decide +kernel
theorem dX9_sendsFrame_61 : decode cX9_sendsFrame 61 = .ok (.isub, 1) := by decide +kernel
theorem dX9_sendsFrame_62 : decode cX9_sendsFrame 62 = .ok (.invokestatic 186, 3) := by decide +kernel
theorem dX9_sendsFrame_65 : decode cX9_sendsFrame 65 = .ok (.invokestatic 186, 3) := by decide +kernel
theorem dX9_sendsFrame_68 : decode cX9_sendsFrame 68 = .ok (.istore_n 3, 1) := by decide +kernel
theorem dX9_sendsFrame_69 : decode cX9_sendsFrame 69 = .ok (.aload_n 0, 1) := by decide +kernel
theorem dX9_sendsFrame_70 : decode cX9_sendsFrame 70 = .ok (.iload_n 1, 1) := by decide +kernel
theorem dX9_sendsFrame_71 : decode cX9_sendsFrame 71 = .ok (.bipush 7, 2) := by decide +kernel
theorem dX9_sendsFrame_73 : decode cX9_sendsFrame 73 = .ok (.aload_n 0, 1) := by decide +kernel
theorem dX9_sendsFrame_74 : decode cX9_sendsFrame 74 = .ok (.iload_n 1, 1) := by decide +kernel
theorem dX9_sendsFrame_75 : decode cX9_sendsFrame 75 = .ok (.iconst 2, 1) := by decide +kernel
theorem dX9_sendsFrame_76 : decode cX9_sendsFrame 76 = .ok (.invokevirtual 106, 3) := by decide +kernel
theorem dX9_sendsFrame_79 : decode cX9_sendsFrame 79 = .ok (.iload_n 2, 1) := by decide +kernel
theorem dX9_sendsFrame_80 : decode cX9_sendsFrame 80 = .ok (.iload_n 3, 1) := by decide +kernel
theorem dX9_sendsFrame_81 : decode cX9_sendsFrame 81 = .ok (.aload_n 0, 1) := by decide +kernel
theorem dX9_sendsFrame_82 : decode cX9_sendsFrame 82 = .ok (.iload_n 1, 1) := by decide +kernel
theorem dX9_sendsFrame_83 : decode cX9_sendsFrame 83 = .ok (.bipush 9, 2) := by decide +kernel
theorem dX9_sendsFrame_85 : decode cX9_sendsFrame 85 = .ok (.invokevirtual 106, 3) := by decide +kernel
theorem dX9_sendsFrame_88 : decode cX9_sendsFrame 88 = .ok (.invokevirtual 189, 3) := by decide +kernel
theorem dX9_sendsFrame_91 : decode cX9_sendsFrame 91 = .ok (.iconst 0, 1) := by decide +kernel
theorem dX9_sendsFrame_92 : decode cX9_sendsFrame 92 = .ok (.istore 4, 2) := by decide +kernel
theorem dX9_sendsFrame_94 : decode cX9_sendsFrame 94 = .ok (.iload 4, 2) := by decide +kernel
theorem dX9_sendsFrame_96 : decode cX9_sendsFrame 96 = .ok (.iload_n 3, 1) := by decide +kernel
theorem dX9_sendsFrame_97 : decode cX9_sendsFrame 97 = .ok (.if_icmp .ge 66, 3) := by decide +kernel
theorem dX9_sendsFrame_100 : decode cX9_sendsFrame 100 = .ok (.aload_n 0, 1) := by decide +kernel
theorem dX9_sendsFrame_101 : decode cX9_sendsFrame 101 = .ok (.getfield 41, 3) := by decide +kernel
theorem dX9_sendsFrame_104 : decode cX9_sendsFrame 104 = .ok (.aload_n 0, 1) := by decide +kernel
theorem dX9_sendsFrame_105 : decode cX9_sendsFrame 105 = .ok (.getfield 180, 3) := by decide +kernel
theorem dX9_sendsFrame_108 : decode cX9_sendsFrame 108 = .ok (.iconst 5, 1) := by decide +kernel
theorem dX9_sendsFrame_109 : decode cX9_sendsFrame 109 = .ok (.iadd, 1) := by decide +kernel
theorem dX9_sendsFrame_110 : decode cX9_sendsFrame 110 = .ok (.iload 4, 2) := by decide +kernel
theorem dX9_sendsFrame_112 : decode cX9_sendsFrame 112 = .ok (.iadd, 1) := by decide +kernel
theorem dX9_sendsFrame_113 : decode cX9_sendsFrame 113 = .ok (.aload_n 0, 1) := by decide +kernel
theorem dX9_sendsFrame_114 : decode cX9_sendsFrame 114 = .ok (.getfield 22, 3) := by decide +kernel
theorem dX9_sendsFrame_117 : decode cX9_sendsFrame 117 = .ok (.sipush 200, 3) := by decide +kernel
theorem dX9_sendsFrame_120 : decode cX9_sendsFrame 120 = .ok (.iload_n 1, 1) := by decide +kernel
theorem dX9_sendsFrame_121 : decode cX9_sendsFrame 121 = .ok (.imul, 1) := by decide +kernel
theorem dX9_sendsFrame_122 : decode cX9_sendsFrame 122 = .ok (.iload_n 2, 1) := by decide +kernel
theorem dX9_sendsFrame_123 : decode cX9_sendsFrame 123 = .ok (.iadd, 1) := by decide +kernel
theorem dX9_sendsFrame_124 : decode cX9_sendsFrame 124 = .ok (.iload 4, 2) := by decide +kernel
theorem dX9_sendsFrame_126 : decode cX9_sendsFrame 126 = .ok (.iadd, 1) := by decide +kernel
theorem dX9_sendsFrame_127 : decode cX9_sendsFrame 127 = .ok (.iaload, 1) := by decide +kernel
theorem dX9_sendsFrame_128 : decode cX9_sendsFrame 128 = .ok (.iastore, 1) := by decide +kernel
theorem dX9_sendsFrame_129 : decode cX9_sendsFrame 129 = .ok (.aload_n 0, 1) := by decide +kernel
theorem dX9_sendsFrame_130 : decode cX9_sendsFrame 130 = .ok (.dup, 1) := by decide +kernel
theorem dX9_sendsFrame_131 : decode cX9_sendsFrame 131 = .ok (.getfield 193, 3) := by decide +kernel
theorem dX9_sendsFrame_134 : decode cX9_sendsFrame 134 = .ok (.iload_n 2, 1) := by decide +kernel
theorem dX9_sendsFrame_135 : decode cX9_sendsFrame 135 = .ok (.iload 4, 2) := by decide +kernel
theorem dX9_sendsFrame_137 : decode cX9_sendsFrame 137 = .ok (.iadd, 1) := by decide +kernel
theorem dX9_sendsFrame_138 : decode cX9_sendsFrame 138 = .ok (.aload_n 0, 1) := by decide +kernel
theorem dX9_sendsFrame_139 : decode cX9_sendsFrame 139 = .ok (.iload_n 1, 1) := by decide +kernel
theorem dX9_sendsFrame_140 : decode cX9_sendsFrame 140 = .ok (.bipush 17, 2) := by decide +kernel
theorem dX9_sendsFrame_142 : decode cX9_sendsFrame 142 = .ok (.invokevirtual 106, 3) := by decide +kernel
theorem dX9_sendsFrame_145 : decode cX9_sendsFrame 145 = .ok (.if_icmp .ge 7, 3) := by decide +kernel
theorem dX9_sendsFrame_148 : decode cX9_sendsFrame 148 = .ok (.iconst 1, 1) := by decide +kernel
theorem dX9_sendsFrame_149 : decode cX9_sendsFrame 149 = .ok (.goto 4, 3) := by decide +kernel
theorem dX9_sendsFrame_152 : decode cX9_sendsFrame 152 = .ok (.iconst 0, 1) := by decide +kernel
theorem dX9_sendsFrame_153 : decode cX9_sendsFrame 153 = .ok (.iadd, 1) := by decide +kernel
theorem dX9_sendsFrame_154 : decode cX9_sendsFrame 154 = .ok (.putfield 193, 3) := by decide +kernel
theorem dX9_sendsFrame_157 : decode cX9_sendsFrame 157 = .ok (.iinc 4 1, 3) := by decide +kernel
theorem dX9_sendsFrame_160 : decode cX9_sendsFrame 160 = .ok (.goto (-66), 3) := by decide +kernel
theorem dX9_sendsFrame_163 : decode cX9_sendsFrame 163 = .ok (.aload_n 0, 1) := by decide +kernel
theorem dX9_sendsFrame_164 : decode cX9_sendsFrame 164 = .ok (.iload_n 1, 1) := by decide +kernel
theorem dX9_sendsFrame_165 : decode cX9_sendsFrame 165 = .ok (.iconst 5, 1) := by decide +kernel
theorem dX9_sendsFrame_166 : decode cX9_sendsFrame 166 = .ok (.bipush (-8), 2) := by decide +kernel
theorem dX9_sendsFrame_168 : decode cX9_sendsFrame 168 = .ok (.iload_n 3, 1) := by decide +kernel
theorem dX9_sendsFrame_169 : decode cX9_sendsFrame 169 = .ok (.imul, 1) := by decide +kernel
theorem dX9_sendsFrame_170 : decode cX9_sendsFrame 170 = .ok (.invokevirtual 110, 3) := by decide +kernel
theorem dX9_sendsFrame_173 : decode cX9_sendsFrame 173 = .ok (.aload_n 0, 1) := by decide +kernel
theorem dX9_sendsFrame_174 : decode cX9_sendsFrame 174 = .ok (.iload_n 1, 1) := by decide +kernel
theorem dX9_sendsFrame_175 : decode cX9_sendsFrame 175 = .ok (.bipush 7, 2) := by decide +kernel
theorem dX9_sendsFrame_177 : decode cX9_sendsFrame 177 = .ok (.iload_n 2, 1) := by decide +kernel
theorem dX9_sendsFrame_178 : decode cX9_sendsFrame 178 = .ok (.iload_n 3, 1) := by decide +kernel
theorem dX9_sendsFrame_179 : decode cX9_sendsFrame 179 = .ok (.iadd, 1) := by decide +kernel
theorem dX9_sendsFrame_180 : decode cX9_sendsFrame 180 = .ok (.invokevirtual 114, 3) := by decide +kernel
theorem dX9_sendsFrame_183 : decode cX9_sendsFrame 183 = .ok (.aload_n 0, 1) := by decide +kernel
theorem dX9_sendsFrame_184 : decode cX9_sendsFrame 184 = .ok (.iload_n 1, 1) := by decide +kernel
theorem dX9_sendsFrame_185 : decode cX9_sendsFrame 185 = .ok (.bipush 17, 2) := by decide +kernel
theorem dX9_sendsFrame_187 : decode cX9_sendsFrame 187 = .ok (.iload_n 2, 1) := by decide +kernel
theorem dX9_sendsFrame_188 : decode cX9_sendsFrame 188 = .ok (.iload_n 3, 1) := by decide +kernel
theorem dX9_sendsFrame_189 : decode cX9_sendsFrame 189 = .ok (.iadd, 1) := by decide +kernel
theorem dX9_sendsFrame_190 : decode cX9_sendsFrame 190 = .ok (.aload_n 0, 1) := by decide +kernel
theorem dX9_sendsFrame_191 : decode cX9_sendsFrame 191 = .ok (.iload_n 1, 1) := by decide +kernel
theorem dX9_sendsFrame_192 : decode cX9_sendsFrame 192 = .ok (.bipush 17, 2) := by decide +kernel
theorem dX9_sendsFrame_194 : decode cX9_sendsFrame 194 = .ok (.invokevirtual 106, 3) := by decide +kernel
theorem dX9_sendsFrame_197 : decode cX9_sendsFrame 197 = .ok (.if_icmp .le 9, 3) := by decide +kernel
theorem dX9_sendsFrame_200 : decode cX9_sendsFrame 200 = .ok (.iload_n 2, 1) := by decide +kernel
theorem dX9_sendsFrame_201 : decode cX9_sendsFrame 201 = .ok (.iload_n 3, 1) := by decide +kernel
theorem dX9_sendsFrame_202 : decode cX9_sendsFrame 202 = .ok (.iadd, 1) := by decide +kernel
theorem dX9_sendsFrame_203 : decode cX9_sendsFrame 203 = .ok (.goto 10, 3) := by decide +kernel
theorem dX9_sendsFrame_206 : decode cX9_sendsFrame 206 = .ok (.aload_n 0, 1) := by decide +kernel
theorem dX9_sendsFrame_207 : decode cX9_sendsFrame 207 = .ok (.iload_n 1, 1) := by decide +kernel
theorem dX9_sendsFrame_208 : decode cX9_sendsFrame 208 = .ok (.bipush 17, 2) := by decide +kernel
theorem dX9_sendsFrame_210 : decode cX9_sendsFrame 210 = .ok (.invokevirtual 106, 3) := by decide +kernel
theorem dX9_sendsFrame_213 : decode cX9_sendsFrame 213 = .ok (.invokevirtual 114, 3) := by decide +kernel
theorem dX9_sendsFrame_216 : decode cX9_sendsFrame 216 = .ok (.return_, 1) := by decide +kernel
set_option maxRecDepth 20000 in
theorem ggX9_sendsIn_X9_of : GoodIn wsX9_sendsIn wsX9_of := goodIn_r _ [5, 6, 46, 47, 48, 49, 50, 51, 52, 53, 54, 55, 56, 57, 58, 59, 60, 61, 62, 63, 64, 65, 66, 67, 68, 69, 70, 71, 72, 73, 74, 75] (by decide +kernel) (by decide +kernel)
set_option maxRecDepth 20000 in
theorem gX9_sendsIn_X9_of : GoodIn wsX9_sendsIn (wsV RX9 106 RX9 yX9_of wsX9_of) := goodIn_app (goodIn_of _ (by decide +kernel)) ggX9_sendsIn_X9_of
set_option maxRecDepth 20000 in
theorem ggX9_sendsIn_X9_send : GoodIn wsX9_sendsIn wsX9_send := goodIn_r _ [10, 11, 12, 13, 14, 15, 16, 17, 18, 4, 19, 46, 47, 48, 49, 50, 51, 52, 53, 54, 55, 56, 57, 58, 59, 60, 61, 62, 63, 64, 65, 66, 67, 68, 69, 70, 71, 72, 73, 74, 75] (by decide +kernel) (by decide +kernel)
set_option maxRecDepth 20000 in
theorem gX9_sendsIn_X9_send : GoodIn wsX9_sendsIn (wsV RX9 189 RX9 yX9_send wsX9_send) := goodIn_app (goodIn_of _ (by decide +kernel)) ggX9_sendsIn_X9_send
set_option maxRecDepth 20000 in
theorem ggX9_sendsIn_X9_trains : GoodIn wsX9_sendsIn wsX9_trains := goodIn_r _ [23, 24, 25, 1, 2, 3, 4, 5, 6, 26, 27, 28, 46, 47, 48, 49, 50, 51, 52, 53, 54, 55, 56, 57, 58, 59, 60, 61, 62, 63, 64, 65, 66, 67, 68, 69, 70, 71, 72, 73, 74, 75] (by decide +kernel) (by decide +kernel)
set_option maxRecDepth 20000 in
theorem gX9_sendsIn_X9_trains : GoodIn wsX9_sendsIn (wsV RX9 196 RX9 yX9_trains wsX9_trains) := goodIn_app (goodIn_of _ (by decide +kernel)) ggX9_sendsIn_X9_trains
set_option maxRecDepth 20000 in
theorem ggX9_sendsIn_X9_sendsFrame : GoodIn wsX9_sendsIn wsX9_sendsFrame := goodIn_r _ [32, 14, 13, 33, 34, 1, 2, 3, 4, 5, 6, 35, 36, 37, 38, 39, 40, 41, 7, 8, 9, 10, 11, 12, 15, 16, 17, 18, 19, 42, 43, 44, 45, 46, 47, 48, 49, 50, 51, 52, 53, 54, 55, 56, 57, 58, 59, 60, 61, 62, 63, 64, 65, 66, 67, 68, 69, 70, 71, 72, 73, 74, 75] (by decide +kernel) (by decide +kernel)
set_option maxRecDepth 20000 in
theorem gX9_sendsIn_X9_sendsFrame : GoodIn wsX9_sendsIn (wsV RX9 199 RX9 yX9_sendsFrame wsX9_sendsFrame) := goodIn_app (goodIn_of _ (by decide +kernel)) ggX9_sendsIn_X9_sendsFrame
theorem dX9_sendsIn_0 : decode cX9_sendsIn 0 = .ok (.aload_n 0, 1) := by decide +kernel
theorem dX9_sendsIn_1 : decode cX9_sendsIn 1 = .ok (.iload_n 1, 1) := by decide +kernel
theorem dX9_sendsIn_2 : decode cX9_sendsIn 2 = .ok (.iconst 0, 1) := by decide +kernel
theorem dX9_sendsIn_3 : decode cX9_sendsIn 3 = .ok (.invokevirtual 106, 3) := by decide +kernel
theorem dX9_sendsIn_6 : decode cX9_sendsIn 6 = .ok (.tableswitch 197 0 6 #[42, 55, 68, 81, 132, 150, 173], 42) := by decide +kernel
theorem dX9_sendsIn_48 : decode cX9_sendsIn 48 = .ok (.aload_n 0, 1) := by decide +kernel
theorem dX9_sendsIn_49 : decode cX9_sendsIn 49 = .ok (.iload_n 1, 1) := by decide +kernel
theorem dX9_sendsIn_50 : decode cX9_sendsIn 50 = .ok (.iconst 0, 1) := by decide +kernel
theorem dX9_sendsIn_51 : decode cX9_sendsIn 51 = .ok (.iconst 0, 1) := by decide +kernel
theorem dX9_sendsIn_52 : decode cX9_sendsIn 52 = .ok (.iconst 0, 1) := by decide +kernel
theorem dX9_sendsIn_53 : decode cX9_sendsIn 53 = .ok (.iconst 0, 1) := by decide +kernel
theorem dX9_sendsIn_54 : decode cX9_sendsIn 54 = .ok (.iconst 0, 1) := by decide +kernel
theorem dX9_sendsIn_55 : decode cX9_sendsIn 55 = .ok (.invokevirtual 189, 3) := by decide +kernel
theorem dX9_sendsIn_58 : decode cX9_sendsIn 58 = .ok (.goto 150, 3) := by decide +kernel
theorem dX9_sendsIn_61 : decode cX9_sendsIn 61 = .ok (.aload_n 0, 1) := by decide +kernel
theorem dX9_sendsIn_62 : decode cX9_sendsIn 62 = .ok (.iload_n 1, 1) := by decide +kernel
theorem dX9_sendsIn_63 : decode cX9_sendsIn 63 = .ok (.iconst 1, 1) := by decide +kernel
theorem dX9_sendsIn_64 : decode cX9_sendsIn 64 = .ok (.iconst 0, 1) := by decide +kernel
theorem dX9_sendsIn_65 : decode cX9_sendsIn 65 = .ok (.iconst 0, 1) := by decide +kernel
theorem dX9_sendsIn_66 : decode cX9_sendsIn 66 = .ok (.iconst 0, 1) := by decide +kernel
theorem dX9_sendsIn_67 : decode cX9_sendsIn 67 = .ok (.iconst 0, 1) := by decide +kernel
theorem dX9_sendsIn_68 : decode cX9_sendsIn 68 = .ok (.invokevirtual 189, 3) := by decide +kernel
theorem dX9_sendsIn_71 : decode cX9_sendsIn 71 = .ok (.goto 137, 3) := by decide +kernel
theorem dX9_sendsIn_74 : decode cX9_sendsIn 74 = .ok (.aload_n 0, 1) := by decide +kernel
theorem dX9_sendsIn_75 : decode cX9_sendsIn 75 = .ok (.iload_n 1, 1) := by decide +kernel
theorem dX9_sendsIn_76 : decode cX9_sendsIn 76 = .ok (.iconst 2, 1) := by decide +kernel
theorem dX9_sendsIn_77 : decode cX9_sendsIn 77 = .ok (.iconst 0, 1) := by decide +kernel
theorem dX9_sendsIn_78 : decode cX9_sendsIn 78 = .ok (.iconst 0, 1) := by decide +kernel
theorem dX9_sendsIn_79 : decode cX9_sendsIn 79 = .ok (.iconst 0, 1) := by decide +kernel
theorem dX9_sendsIn_80 : decode cX9_sendsIn 80 = .ok (.iconst 0, 1) := by decide +kernel
theorem dX9_sendsIn_81 : decode cX9_sendsIn 81 = .ok (.invokevirtual 189, 3) := by decide +kernel
theorem dX9_sendsIn_84 : decode cX9_sendsIn 84 = .ok (.goto 124, 3) := by decide +kernel
theorem dX9_sendsIn_87 : decode cX9_sendsIn 87 = .ok (.aload_n 0, 1) := by decide +kernel
theorem dX9_sendsIn_88 : decode cX9_sendsIn 88 = .ok (.iload_n 1, 1) := by decide +kernel
theorem dX9_sendsIn_89 : decode cX9_sendsIn 89 = .ok (.iconst 1, 1) := by decide +kernel
theorem dX9_sendsIn_90 : decode cX9_sendsIn 90 = .ok (.invokevirtual 106, 3) := by decide +kernel
theorem dX9_sendsIn_93 : decode cX9_sendsIn 93 = .ok (.bipush 8, 2) := by decide +kernel
theorem dX9_sendsIn_95 : decode cX9_sendsIn 95 = .ok (.if_icmp .ge 7, 3) := by decide +kernel
theorem dX9_sendsIn_98 : decode cX9_sendsIn 98 = .ok (.iconst 1, 1) := by decide +kernel
theorem dX9_sendsIn_99 : decode cX9_sendsIn 99 = .ok (.goto 4, 3) := by decide +kernel
theorem dX9_sendsIn_102 : decode cX9_sendsIn 102 = .ok (.iconst 0, 1) := by decide +kernel
theorem dX9_sendsIn_103 : decode cX9_sendsIn 103 = .ok (.istore_n 2, 1) := by decide +kernel
theorem dX9_sendsIn_104 : decode cX9_sendsIn 104 = .ok (.aload_n 0, 1) := by decide +kernel
theorem dX9_sendsIn_105 : decode cX9_sendsIn 105 = .ok (.iload_n 1, 1) := by decide +kernel
theorem dX9_sendsIn_106 : decode cX9_sendsIn 106 = .ok (.iload_n 2, 1) := by decide +kernel
theorem dX9_sendsIn_107 : decode cX9_sendsIn 107 = .ok (.ifCond .eq 7, 3) := by decide +kernel
theorem dX9_sendsIn_110 : decode cX9_sendsIn 110 = .ok (.iconst 3, 1) := by decide +kernel
theorem dX9_sendsIn_111 : decode cX9_sendsIn 111 = .ok (.goto 4, 3) := by decide +kernel
theorem dX9_sendsIn_114 : decode cX9_sendsIn 114 = .ok (.iconst 0, 1) := by decide +kernel
theorem dX9_sendsIn_115 : decode cX9_sendsIn 115 = .ok (.iload_n 2, 1) := by decide +kernel
theorem dX9_sendsIn_116 : decode cX9_sendsIn 116 = .ok (.ifCond .eq 12, 3) := by decide +kernel
theorem dX9_sendsIn_119 : decode cX9_sendsIn 119 = .ok (.aload_n 0, 1) := by decide +kernel
theorem dX9_sendsIn_120 : decode cX9_sendsIn 120 = .ok (.iload_n 1, 1) := by decide +kernel
theorem dX9_sendsIn_121 : decode cX9_sendsIn 121 = .ok (.iconst 1, 1) := by decide +kernel
theorem dX9_sendsIn_122 : decode cX9_sendsIn 122 = .ok (.invokevirtual 106, 3) := by decide +kernel
theorem dX9_sendsIn_125 : decode cX9_sendsIn 125 = .ok (.goto 4, 3) := by decide +kernel
theorem dX9_sendsIn_128 : decode cX9_sendsIn 128 = .ok (.iconst 0, 1) := by decide +kernel
theorem dX9_sendsIn_129 : decode cX9_sendsIn 129 = .ok (.iconst 0, 1) := by decide +kernel
theorem dX9_sendsIn_130 : decode cX9_sendsIn 130 = .ok (.iconst 0, 1) := by decide +kernel
theorem dX9_sendsIn_131 : decode cX9_sendsIn 131 = .ok (.iconst 0, 1) := by decide +kernel
theorem dX9_sendsIn_132 : decode cX9_sendsIn 132 = .ok (.invokevirtual 189, 3) := by decide +kernel
theorem dX9_sendsIn_135 : decode cX9_sendsIn 135 = .ok (.goto 73, 3) := by decide +kernel
theorem dX9_sendsIn_138 : decode cX9_sendsIn 138 = .ok (.aload_n 0, 1) := by decide +kernel
theorem dX9_sendsIn_139 : decode cX9_sendsIn 139 = .ok (.iload_n 1, 1) := by decide +kernel
theorem dX9_sendsIn_140 : decode cX9_sendsIn 140 = .ok (.iconst 4, 1) := by decide +kernel
theorem dX9_sendsIn_141 : decode cX9_sendsIn 141 = .ok (.iconst 0, 1) := by decide +kernel
theorem dX9_sendsIn_142 : decode cX9_sendsIn 142 = .ok (.iconst 0, 1) := by decide +kernel
theorem dX9_sendsIn_143 : decode cX9_sendsIn 143 = .ok (.iconst 0, 1) := by decide +kernel
theorem dX9_sendsIn_144 : decode cX9_sendsIn 144 = .ok (.iconst 0, 1) := by decide +kernel
theorem dX9_sendsIn_145 : decode cX9_sendsIn 145 = .ok (.invokevirtual 189, 3) := by decide +kernel
theorem dX9_sendsIn_148 : decode cX9_sendsIn 148 = .ok (.aload_n 0, 1) := by decide +kernel
theorem dX9_sendsIn_149 : decode cX9_sendsIn 149 = .ok (.iload_n 1, 1) := by decide +kernel
theorem dX9_sendsIn_150 : decode cX9_sendsIn 150 = .ok (.invokevirtual 196, 3) := by decide +kernel
theorem dX9_sendsIn_153 : decode cX9_sendsIn 153 = .ok (.goto 55, 3) := by decide +kernel
theorem dX9_sendsIn_156 : decode cX9_sendsIn 156 = .ok (.aload_n 0, 1) := by decide +kernel
theorem dX9_sendsIn_157 : decode cX9_sendsIn 157 = .ok (.iload_n 1, 1) := by decide +kernel
theorem dX9_sendsIn_158 : decode cX9_sendsIn 158 = .ok (.iconst 5, 1) := by decide +kernel
theorem dX9_sendsIn_159 : decode cX9_sendsIn 159 = .ok (.aload_n 0, 1) := by decide +kernel
theorem dX9_sendsIn_160 : decode cX9_sendsIn 160 = .ok (.iload_n 1, 1) := by decide +kernel
theorem dX9_sendsIn_161 : decode cX9_sendsIn 161 = .ok (.iconst 2, 1) := by decide +kernel
theorem dX9_sendsIn_162 : decode cX9_sendsIn 162 = .ok (.invokevirtual 106, 3) := by decide +kernel
theorem dX9_sendsIn_165 : decode cX9_sendsIn 165 = .ok (.aload_n 0, 1) := by decide +kernel
theorem dX9_sendsIn_166 : decode cX9_sendsIn 166 = .ok (.iload_n 1, 1) := by decide +kernel
theorem dX9_sendsIn_167 : decode cX9_sendsIn 167 = .ok (.iconst 3, 1) := by decide +kernel
theorem dX9_sendsIn_168 : decode cX9_sendsIn 168 = .ok (.invokevirtual 106, 3) := by decide +kernel
theorem dX9_sendsIn_171 : decode cX9_sendsIn 171 = .ok (.iconst 0, 1) := by decide +kernel
theorem dX9_sendsIn_172 : decode cX9_sendsIn 172 = .ok (.iconst 0, 1) := by decide +kernel
theorem dX9_sendsIn_173 : decode cX9_sendsIn 173 = .ok (.invokevirtual 189, 3) := by decide +kernel
theorem dX9_sendsIn_176 : decode cX9_sendsIn 176 = .ok (.goto 32, 3) := by decide +kernel
theorem dX9_sendsIn_179 : decode cX9_sendsIn 179 = .ok (.aload_n 0, 1) := by decide +kernel
theorem dX9_sendsIn_180 : decode cX9_sendsIn 180 = .ok (.iload_n 1, 1) := by decide +kernel
theorem dX9_sendsIn_181 : decode cX9_sendsIn 181 = .ok (.bipush 6, 2) := by decide +kernel
theorem dX9_sendsIn_183 : decode cX9_sendsIn 183 = .ok (.aload_n 0, 1) := by decide +kernel
theorem dX9_sendsIn_184 : decode cX9_sendsIn 184 = .ok (.iload_n 1, 1) := by decide +kernel
theorem dX9_sendsIn_185 : decode cX9_sendsIn 185 = .ok (.iconst 2, 1) := by decide +kernel
theorem dX9_sendsIn_186 : decode cX9_sendsIn 186 = .ok (.invokevirtual 106, 3) := by decide +kernel
theorem dX9_sendsIn_189 : decode cX9_sendsIn 189 = .ok (.aload_n 0, 1) := by decide +kernel
theorem dX9_sendsIn_190 : decode cX9_sendsIn 190 = .ok (.iload_n 1, 1) := by decide +kernel
theorem dX9_sendsIn_191 : decode cX9_sendsIn 191 = .ok (.iconst 4, 1) := by decide +kernel
theorem dX9_sendsIn_192 : decode cX9_sendsIn 192 = .ok (.invokevirtual 106, 3) := by decide +kernel
theorem dX9_sendsIn_195 : decode cX9_sendsIn 195 = .ok (.iconst 0, 1) := by decide +kernel
theorem dX9_sendsIn_196 : decode cX9_sendsIn 196 = .ok (.iconst 0, 1) := by decide +kernel
theorem dX9_sendsIn_197 : decode cX9_sendsIn 197 = .ok (.invokevirtual 189, 3) := by decide +kernel
theorem dX9_sendsIn_200 : decode cX9_sendsIn 200 = .ok (.goto 8, 3) := by decide +kernel
theorem dX9_sendsIn_203 : decode cX9_sendsIn 203 = .ok (.aload_n 0, 1) := by decide +kernel
theorem dX9_sendsIn_204 : decode cX9_sendsIn 204 = .ok (.iload_n 1, 1) := by decide +kernel
theorem dX9_sendsIn_205 : decode cX9_sendsIn 205 = .ok (.invokevirtual 199, 3) := by decide +kernel
theorem dX9_sendsIn_208 : decode cX9_sendsIn 208 = .ok (.return_, 1) := by decide +kernel
set_option maxRecDepth 20000 in
theorem ggX9_does_X9_hear : GoodIn wsX9_does wsX9_hear := goodIn_r _ [6, 7, 8, 9, 10, 11, 12, 13, 14, 15, 16, 17, 5, 18, 135, 136, 137, 138, 139, 140, 141, 142, 143, 144, 145, 146, 147, 148, 149, 150, 151, 152, 153, 154, 155, 156, 157, 158, 159, 160, 161, 162, 163, 164] (by decide +kernel) (by decide +kernel)
set_option maxRecDepth 20000 in
theorem gX9_does_X9_hear : GoodIn wsX9_does (wsV RX9 202 RX9 yX9_hear wsX9_hear) := goodIn_app (goodIn_of _ (by decide +kernel)) ggX9_does_X9_hear
set_option maxRecDepth 20000 in
theorem ggX9_does_X9_mayGiveUp : GoodIn wsX9_does wsX9_mayGiveUp := goodIn_r _ [22, 23, 24, 25, 5, 26, 27, 28, 29, 30, 31, 32, 33, 34, 35, 1, 36, 37, 38, 39, 40, 41, 42, 43, 44, 45, 46, 135, 136, 137, 138, 139, 140, 141, 142, 143, 144, 145, 146, 147, 148, 149, 150, 151, 152, 153, 154, 155, 156, 157, 158, 159, 160, 161, 162, 163, 164] (by decide +kernel) (by decide +kernel)
set_option maxRecDepth 20000 in
theorem gX9_does_X9_mayGiveUp : GoodIn wsX9_does (wsV RX9 205 RX9 yX9_mayGiveUp wsX9_mayGiveUp) := goodIn_app (goodIn_of _ (by decide +kernel)) ggX9_does_X9_mayGiveUp
set_option maxRecDepth 20000 in
theorem ggX9_does_X9_hearsIn : GoodIn wsX9_does wsX9_hearsIn := goodIn_r _ [50, 23, 24, 25, 5, 26, 27, 51, 52, 53, 54, 12, 32, 33, 34, 35, 1, 36, 37, 38, 39, 40, 41, 42, 43, 44, 45, 46, 28, 29, 30, 31, 55, 56, 57, 58, 59, 60, 61, 62, 63, 64, 65, 66, 67, 68, 69, 70, 71, 72, 73, 74, 75, 76, 77, 78, 79, 80, 81, 82, 83, 84, 85, 86, 87, 88, 89, 14, 135, 136, 137, 138, 139, 140, 141, 142, 143, 144, 145, 146, 147, 148, 149, 150, 151, 152, 153, 154, 155, 156, 157, 158, 159, 160, 161, 162, 163, 164] (by decide +kernel) (by decide +kernel)
set_option maxRecDepth 20000 in
theorem gX9_does_X9_hearsIn : GoodIn wsX9_does (wsV RX9 208 RX9 yX9_hearsIn wsX9_hearsIn) := goodIn_app (goodIn_of _ (by decide +kernel)) ggX9_does_X9_hearsIn
set_option maxRecDepth 20000 in
theorem ggX9_does_X9_looksIn : GoodIn wsX9_does wsX9_looksIn := goodIn_r _ [93, 94, 23, 24, 25, 5, 26, 27, 32, 33, 34, 35, 1, 36, 37, 38, 39, 40, 41, 42, 43, 44, 45, 46, 28, 29, 30, 31, 95, 96, 97, 98, 99, 100, 101, 102, 103, 104, 105, 106, 84, 107, 108, 109, 135, 136, 137, 138, 139, 140, 141, 142, 143, 144, 145, 146, 147, 148, 149, 150, 151, 152, 153, 154, 155, 156, 157, 158, 159, 160, 161, 162, 163, 164] (by decide +kernel) (by decide +kernel)
set_option maxRecDepth 20000 in
theorem gX9_does_X9_looksIn : GoodIn wsX9_does (wsV RX9 211 RX9 yX9_looksIn wsX9_looksIn) := goodIn_app (goodIn_of _ (by decide +kernel)) ggX9_does_X9_looksIn
set_option maxRecDepth 20000 in
theorem ggX9_does_X9_sendsIn : GoodIn wsX9_does wsX9_sendsIn := goodIn_r _ [113, 23, 24, 25, 5, 26, 27, 114, 115, 116, 117, 7, 94, 118, 8, 13, 15, 16, 17, 18, 119, 120, 121, 122, 99, 38, 123, 124, 125, 126, 127, 128, 129, 130, 131, 132, 133, 134, 43, 44, 45, 46, 28, 29, 30, 31, 135, 136, 137, 138, 139, 140, 141, 142, 143, 144, 145, 146, 147, 148, 149, 150, 151, 152, 153, 154, 155, 156, 157, 158, 159, 160, 161, 162, 163, 164] (by decide +kernel) (by decide +kernel)
set_option maxRecDepth 20000 in
theorem gX9_does_X9_sendsIn : GoodIn wsX9_does (wsV RX9 214 RX9 yX9_sendsIn wsX9_sendsIn) := goodIn_app (goodIn_of _ (by decide +kernel)) ggX9_does_X9_sendsIn
set_option maxRecDepth 20000 in
theorem ggX9_does_X9_add : GoodIn wsX9_does wsX9_add := goodIn_r _ [31, 27, 135, 136, 137, 138, 139, 140, 141, 142, 143, 144, 145, 146, 147, 148, 149, 150, 151, 152, 153, 154, 155, 156, 157, 158, 159, 160, 161, 162, 163, 164] (by decide +kernel) (by decide +kernel)
set_option maxRecDepth 20000 in
theorem gX9_does_X9_add : GoodIn wsX9_does (wsV RX9 110 RX9 yX9_add wsX9_add) := goodIn_app (goodIn_of _ (by decide +kernel)) ggX9_does_X9_add
theorem dX9_does_0 : decode cX9_does 0 = .ok (.aload_n 0, 1) := by decide +kernel
theorem dX9_does_1 : decode cX9_does 1 = .ok (.iload_n 1, 1) := by decide +kernel
theorem dX9_does_2 : decode cX9_does 2 = .ok (.invokevirtual 202, 3) := by decide +kernel
theorem dX9_does_5 : decode cX9_does 5 = .ok (.aload_n 0, 1) := by decide +kernel
theorem dX9_does_6 : decode cX9_does 6 = .ok (.iconst 0, 1) := by decide +kernel
theorem dX9_does_7 : decode cX9_does 7 = .ok (.putfield 127, 3) := by decide +kernel
theorem dX9_does_10 : decode cX9_does 10 = .ok (.aload_n 0, 1) := by decide +kernel
theorem dX9_does_11 : decode cX9_does 11 = .ok (.iload_n 1, 1) := by decide +kernel
theorem dX9_does_12 : decode cX9_does 12 = .ok (.invokevirtual 205, 3) := by decide +kernel
theorem dX9_does_15 : decode cX9_does 15 = .ok (.aload_n 0, 1) := by decide +kernel
theorem dX9_does_16 : decode cX9_does 16 = .ok (.getfield 127, 3) := by decide +kernel
theorem dX9_does_19 : decode cX9_does 19 = .ok (.ifCond .ne 8, 3) := by decide +kernel
theorem dX9_does_22 : decode cX9_does 22 = .ok (.aload_n 0, 1) := by decide +kernel
theorem dX9_does_23 : decode cX9_does 23 = .ok (.iload_n 1, 1) := by decide +kernel
theorem dX9_does_24 : decode cX9_does 24 = .ok (.invokevirtual 208, 3) := by decide +kernel
theorem dX9_does_27 : decode cX9_does 27 = .ok (.aload_n 0, 1) := by decide +kernel
theorem dX9_does_28 : decode cX9_does 28 = .ok (.getfield 127, 3) := by decide +kernel
theorem dX9_does_31 : decode cX9_does 31 = .ok (.ifCond .ne 8, 3) := by decide +kernel
theorem dX9_does_34 : decode cX9_does 34 = .ok (.aload_n 0, 1) := by decide +kernel
theorem dX9_does_35 : decode cX9_does 35 = .ok (.iload_n 1, 1) := by decide +kernel
theorem dX9_does_36 : decode cX9_does 36 = .ok (.invokevirtual 211, 3) := by decide +kernel
theorem dX9_does_39 : decode cX9_does 39 = .ok (.aload_n 0, 1) := by decide +kernel
theorem dX9_does_40 : decode cX9_does 40 = .ok (.iload_n 1, 1) := by decide +kernel
theorem dX9_does_41 : decode cX9_does 41 = .ok (.invokevirtual 214, 3) := by decide +kernel
theorem dX9_does_44 : decode cX9_does 44 = .ok (.aload_n 0, 1) := by decide +kernel
theorem dX9_does_45 : decode cX9_does 45 = .ok (.iload_n 1, 1) := by decide +kernel
theorem dX9_does_46 : decode cX9_does 46 = .ok (.iconst 1, 1) := by decide +kernel
theorem dX9_does_47 : decode cX9_does 47 = .ok (.iconst 1, 1) := by decide +kernel
theorem dX9_does_48 : decode cX9_does 48 = .ok (.invokevirtual 110, 3) := by decide +kernel
theorem dX9_does_51 : decode cX9_does 51 = .ok (.return_, 1) := by decide +kernel
set_option maxRecDepth 20000 in
theorem ggX9_go_X9_within : GoodIn wsX9_go wsX9_within := goodIn_r _ [6] (by decide +kernel) (by decide +kernel)
set_option maxRecDepth 20000 in
theorem gX9_go_X9_within : GoodIn wsX9_go (va_wsS RX9 65 yX9_within wsX9_within) := goodIn_app (goodIn_of _ (by decide +kernel)) ggX9_go_X9_within
set_option maxRecDepth 20000 in
theorem ggX9_go_X9_does : GoodIn wsX9_go wsX9_does := goodIn_r _ [10, 11, 12, 13, 14, 5, 15, 2, 16, 17, 18, 19, 20, 21, 22, 23, 24, 25, 26, 27, 28, 29, 30, 31, 32, 33, 34, 35, 36, 37, 38, 39, 40, 41, 42, 43, 1, 44, 45, 46, 47, 48, 49, 50, 51, 52, 53, 54, 55, 56, 57, 58, 59, 60, 61, 62, 63, 64, 65, 66, 67, 68, 69, 70, 71, 72, 73, 74, 75, 76, 77, 78, 79, 80, 81, 82, 83, 84, 85, 86, 87, 88, 89, 90, 91, 92, 93, 94, 95, 96, 97, 98, 99, 100, 101, 102, 103, 104, 105, 106, 107, 108, 109, 110, 111, 112, 113, 114, 115, 116, 117, 118, 119, 120, 121, 122, 123, 124, 125, 126, 127, 128, 129, 130, 131, 132, 133, 134, 135, 136, 137, 138, 139, 140, 141, 142, 143, 144, 145, 146, 147, 148, 149, 150, 151, 152, 153, 154, 155, 156, 157, 158, 159, 160, 161, 162, 163, 164, 165, 166, 167, 168, 169, 170, 171] (by decide +kernel) (by decide +kernel)
set_option maxRecDepth 20000 in
theorem gX9_go_X9_does : GoodIn wsX9_go (wsV RX9 217 RX9 yX9_does wsX9_does) := goodIn_app (goodIn_of _ (by decide +kernel)) ggX9_go_X9_does
theorem dX9_go_0 : decode cX9_go 0 = .ok (.iload_n 1, 1) := by decide +kernel
theorem dX9_go_1 : decode cX9_go 1 = .ok (.iconst 1, 1) := by decide +kernel
theorem dX9_go_2 : decode cX9_go 2 = .ok (.bipush 100, 2) := by decide +kernel
theorem dX9_go_4 : decode cX9_go 4 = .ok (.invokestatic 65, 3) := by decide +kernel
theorem dX9_go_7 : decode cX9_go 7 = .ok (.ifCond .ne 7, 3) := by decide +kernel
theorem dX9_go_10 : decode cX9_go 10 = .ok (.sipush (-1002), 3) := by decide +kernel
theorem dX9_go_13 : decode cX9_go 13 = .ok (.ireturn, 1) := by decide +kernel
theorem dX9_go_14 : decode cX9_go 14 = .ok (.aload_n 0, 1) := by decide +kernel
theorem dX9_go_15 : decode cX9_go 15 = .ok (.getfield 131, 3) := by decide +kernel
theorem dX9_go_18 : decode cX9_go 18 = .ok (.istore_n 2, 1) := by decide +kernel
theorem dX9_go_19 : decode cX9_go 19 = .ok (.iconst 0, 1) := by decide +kernel
theorem dX9_go_20 : decode cX9_go 20 = .ok (.istore_n 3, 1) := by decide +kernel
theorem dX9_go_21 : decode cX9_go 21 = .ok (.iload_n 3, 1) := by decide +kernel
theorem dX9_go_22 : decode cX9_go 22 = .ok (.iload_n 1, 1) := by decide +kernel
theorem dX9_go_23 : decode cX9_go 23 = .ok (.if_icmp .ge 29, 3) := by decide +kernel
theorem dX9_go_26 : decode cX9_go 26 = .ok (.aload_n 0, 1) := by decide +kernel
theorem dX9_go_27 : decode cX9_go 27 = .ok (.iconst 0, 1) := by decide +kernel
theorem dX9_go_28 : decode cX9_go 28 = .ok (.invokevirtual 217, 3) := by decide +kernel
theorem dX9_go_31 : decode cX9_go 31 = .ok (.aload_n 0, 1) := by decide +kernel
theorem dX9_go_32 : decode cX9_go 32 = .ok (.iconst 1, 1) := by decide +kernel
theorem dX9_go_33 : decode cX9_go 33 = .ok (.invokevirtual 217, 3) := by decide +kernel
theorem dX9_go_36 : decode cX9_go 36 = .ok (.aload_n 0, 1) := by decide +kernel
theorem dX9_go_37 : decode cX9_go 37 = .ok (.dup, 1) := by decide +kernel
theorem dX9_go_38 : decode cX9_go 38 = .ok (.getfield 121, 3) := by decide +kernel
theorem dX9_go_41 : decode cX9_go 41 = .ok (.iconst 1, 1) := by decide +kernel
theorem dX9_go_42 : decode cX9_go 42 = .ok (.iadd, 1) := by decide +kernel
theorem dX9_go_43 : decode cX9_go 43 = .ok (.putfield 121, 3) := by decide +kernel
theorem dX9_go_46 : decode cX9_go 46 = .ok (.iinc 3 1, 3) := by decide +kernel
theorem dX9_go_49 : decode cX9_go 49 = .ok (.goto (-28), 3) := by decide +kernel
theorem dX9_go_52 : decode cX9_go 52 = .ok (.aload_n 0, 1) := by decide +kernel
theorem dX9_go_53 : decode cX9_go 53 = .ok (.getfield 131, 3) := by decide +kernel
theorem dX9_go_56 : decode cX9_go 56 = .ok (.iload_n 2, 1) := by decide +kernel
theorem dX9_go_57 : decode cX9_go 57 = .ok (.isub, 1) := by decide +kernel
theorem dX9_go_58 : decode cX9_go 58 = .ok (.ireturn, 1) := by decide +kernel
set_option maxRecDepth 20000 in
theorem ggX9_end_X9_isEnd : GoodIn wsX9_end wsX9_isEnd := goodIn_r _ [4, 5, 6, 3, 7] (by decide +kernel) (by decide +kernel)
set_option maxRecDepth 20000 in
theorem gX9_end_X9_isEnd : GoodIn wsX9_end (va_wsS RX9 103 yX9_isEnd wsX9_isEnd) := goodIn_app (goodIn_of _ (by decide +kernel)) ggX9_end_X9_isEnd
set_option maxRecDepth 20000 in
theorem ggX9_end_X9_within : GoodIn wsX9_end wsX9_within := goodIn_r _ [7] (by decide +kernel) (by decide +kernel)
set_option maxRecDepth 20000 in
theorem gX9_end_X9_within : GoodIn wsX9_end (va_wsS RX9 65 yX9_within wsX9_within) := goodIn_app (goodIn_of _ (by decide +kernel)) ggX9_end_X9_within
set_option maxRecDepth 20000 in
theorem ggX9_end_X9_of : GoodIn wsX9_end wsX9_of := goodIn_r _ [11, 12, 13, 14, 15, 16, 17, 18, 19, 20, 21, 22, 23, 24, 25, 26, 27, 28, 29, 30, 31, 32, 33, 34, 35, 36, 37, 38, 39, 40, 41, 42] (by decide +kernel) (by decide +kernel)
set_option maxRecDepth 20000 in
theorem gX9_end_X9_of : GoodIn wsX9_end (wsV RX9 106 RX9 yX9_of wsX9_of) := goodIn_app (goodIn_of _ (by decide +kernel)) ggX9_end_X9_of
theorem dX9_end_0 : decode cX9_end 0 = .ok (.iload_n 1, 1) := by decide +kernel
theorem dX9_end_1 : decode cX9_end 1 = .ok (.invokestatic 103, 3) := by decide +kernel
theorem dX9_end_4 : decode cX9_end 4 = .ok (.ifCond .ne 7, 3) := by decide +kernel
theorem dX9_end_7 : decode cX9_end 7 = .ok (.sipush (-1001), 3) := by decide +kernel
theorem dX9_end_10 : decode cX9_end 10 = .ok (.ireturn, 1) := by decide +kernel
theorem dX9_end_11 : decode cX9_end 11 = .ok (.iload_n 2, 1) := by decide +kernel
theorem dX9_end_12 : decode cX9_end 12 = .ok (.iconst 0, 1) := by decide +kernel
theorem dX9_end_13 : decode cX9_end 13 = .ok (.bipush 15, 2) := by decide +kernel
theorem dX9_end_15 : decode cX9_end 15 = .ok (.invokestatic 65, 3) := by decide +kernel
theorem dX9_end_18 : decode cX9_end 18 = .ok (.ifCond .eq 12, 3) := by decide +kernel
theorem dX9_end_21 : decode cX9_end 21 = .ok (.aload_n 0, 1) := by decide +kernel
theorem dX9_end_22 : decode cX9_end 22 = .ok (.iload_n 1, 1) := by decide +kernel
theorem dX9_end_23 : decode cX9_end 23 = .ok (.iload_n 2, 1) := by decide +kernel
theorem dX9_end_24 : decode cX9_end 24 = .ok (.invokevirtual 106, 3) := by decide +kernel
theorem dX9_end_27 : decode cX9_end 27 = .ok (.goto 6, 3) := by decide +kernel
theorem dX9_end_30 : decode cX9_end 30 = .ok (.sipush (-1002), 3) := by decide +kernel
theorem dX9_end_33 : decode cX9_end 33 = .ok (.ireturn, 1) := by decide +kernel
set_option maxRecDepth 20000 in
theorem ggX9_band_X9_isEnd : GoodIn wsX9_band wsX9_isEnd := goodIn_r _ [5, 6, 7, 4, 8] (by decide +kernel) (by decide +kernel)
set_option maxRecDepth 20000 in
theorem gX9_band_X9_isEnd : GoodIn wsX9_band (va_wsS RX9 103 yX9_isEnd wsX9_isEnd) := goodIn_app (goodIn_of _ (by decide +kernel)) ggX9_band_X9_isEnd
set_option maxRecDepth 20000 in
theorem ggX9_band_X9_within : GoodIn wsX9_band wsX9_within := goodIn_r _ [8] (by decide +kernel) (by decide +kernel)
set_option maxRecDepth 20000 in
theorem gX9_band_X9_within : GoodIn wsX9_band (va_wsS RX9 65 yX9_within wsX9_within) := goodIn_app (goodIn_of _ (by decide +kernel)) ggX9_band_X9_within
theorem dX9_band_0 : decode cX9_band 0 = .ok (.iload_n 1, 1) := by decide +kernel
theorem dX9_band_1 : decode cX9_band 1 = .ok (.invokestatic 103, 3) := by decide +kernel
theorem dX9_band_4 : decode cX9_band 4 = .ok (.ifCond .eq 27, 3) := by decide +kernel
theorem dX9_band_7 : decode cX9_band 7 = .ok (.iload_n 2, 1) := by decide +kernel
theorem dX9_band_8 : decode cX9_band 8 = .ok (.iconst 0, 1) := by decide +kernel
theorem dX9_band_9 : decode cX9_band 9 = .ok (.bipush 7, 2) := by decide +kernel
theorem dX9_band_11 : decode cX9_band 11 = .ok (.invokestatic 65, 3) := by decide +kernel
theorem dX9_band_14 : decode cX9_band 14 = .ok (.ifCond .eq 17, 3) := by decide +kernel
theorem dX9_band_17 : decode cX9_band 17 = .ok (.aload_n 0, 1) := by decide +kernel
theorem dX9_band_18 : decode cX9_band 18 = .ok (.getfield 13, 3) := by decide +kernel
theorem dX9_band_21 : decode cX9_band 21 = .ok (.bipush 8, 2) := by decide +kernel
theorem dX9_band_23 : decode cX9_band 23 = .ok (.iload_n 1, 1) := by decide +kernel
theorem dX9_band_24 : decode cX9_band 24 = .ok (.imul, 1) := by decide +kernel
theorem dX9_band_25 : decode cX9_band 25 = .ok (.iload_n 2, 1) := by decide +kernel
theorem dX9_band_26 : decode cX9_band 26 = .ok (.iadd, 1) := by decide +kernel
theorem dX9_band_27 : decode cX9_band 27 = .ok (.iaload, 1) := by decide +kernel
theorem dX9_band_28 : decode cX9_band 28 = .ok (.goto 6, 3) := by decide +kernel
theorem dX9_band_31 : decode cX9_band 31 = .ok (.sipush (-1001), 3) := by decide +kernel
theorem dX9_band_34 : decode cX9_band 34 = .ok (.ireturn, 1) := by decide +kernel
set_option maxRecDepth 20000 in
theorem ggX9_learnt_X9_isEnd : GoodIn wsX9_learnt wsX9_isEnd := goodIn_r _ [5, 6, 7, 4, 8] (by decide +kernel) (by decide +kernel)
set_option maxRecDepth 20000 in
theorem gX9_learnt_X9_isEnd : GoodIn wsX9_learnt (va_wsS RX9 103 yX9_isEnd wsX9_isEnd) := goodIn_app (goodIn_of _ (by decide +kernel)) ggX9_learnt_X9_isEnd
set_option maxRecDepth 20000 in
theorem ggX9_learnt_X9_within : GoodIn wsX9_learnt wsX9_within := goodIn_r _ [8] (by decide +kernel) (by decide +kernel)
set_option maxRecDepth 20000 in
theorem gX9_learnt_X9_within : GoodIn wsX9_learnt (va_wsS RX9 65 yX9_within wsX9_within) := goodIn_app (goodIn_of _ (by decide +kernel)) ggX9_learnt_X9_within
theorem dX9_learnt_0 : decode cX9_learnt 0 = .ok (.iload_n 1, 1) := by decide +kernel
theorem dX9_learnt_1 : decode cX9_learnt 1 = .ok (.invokestatic 103, 3) := by decide +kernel
theorem dX9_learnt_4 : decode cX9_learnt 4 = .ok (.ifCond .eq 25, 3) := by decide +kernel
theorem dX9_learnt_7 : decode cX9_learnt 7 = .ok (.iload_n 2, 1) := by decide +kernel
theorem dX9_learnt_8 : decode cX9_learnt 8 = .ok (.iconst 0, 1) := by decide +kernel
theorem dX9_learnt_9 : decode cX9_learnt 9 = .ok (.iconst 3, 1) := by decide +kernel
theorem dX9_learnt_10 : decode cX9_learnt 10 = .ok (.invokestatic 65, 3) := by decide +kernel
theorem dX9_learnt_13 : decode cX9_learnt 13 = .ok (.ifCond .eq 16, 3) := by decide +kernel
theorem dX9_learnt_16 : decode cX9_learnt 16 = .ok (.aload_n 0, 1) := by decide +kernel
theorem dX9_learnt_17 : decode cX9_learnt 17 = .ok (.getfield 16, 3) := by decide +kernel
theorem dX9_learnt_20 : decode cX9_learnt 20 = .ok (.iconst 4, 1) := by decide +kernel
theorem dX9_learnt_21 : decode cX9_learnt 21 = .ok (.iload_n 1, 1) := by decide +kernel
theorem dX9_learnt_22 : decode cX9_learnt 22 = .ok (.imul, 1) := by decide +kernel
theorem dX9_learnt_23 : decode cX9_learnt 23 = .ok (.iload_n 2, 1) := by decide +kernel
theorem dX9_learnt_24 : decode cX9_learnt 24 = .ok (.iadd, 1) := by decide +kernel
theorem dX9_learnt_25 : decode cX9_learnt 25 = .ok (.iaload, 1) := by decide +kernel
theorem dX9_learnt_26 : decode cX9_learnt 26 = .ok (.goto 6, 3) := by decide +kernel
theorem dX9_learnt_29 : decode cX9_learnt 29 = .ok (.sipush (-1001), 3) := by decide +kernel
theorem dX9_learnt_32 : decode cX9_learnt 32 = .ok (.ireturn, 1) := by decide +kernel
set_option maxRecDepth 20000 in
theorem ggX9_got_X9_isEnd : GoodIn wsX9_got wsX9_isEnd := goodIn_r _ [5, 6, 7, 4, 8] (by decide +kernel) (by decide +kernel)
set_option maxRecDepth 20000 in
theorem gX9_got_X9_isEnd : GoodIn wsX9_got (va_wsS RX9 103 yX9_isEnd wsX9_isEnd) := goodIn_app (goodIn_of _ (by decide +kernel)) ggX9_got_X9_isEnd
set_option maxRecDepth 20000 in
theorem ggX9_got_X9_of : GoodIn wsX9_got wsX9_of := goodIn_r _ [12, 13, 14, 15, 16, 17, 18, 19, 20, 21, 22, 23, 24, 25, 26, 27, 28, 29, 30, 31, 32, 33, 34, 35, 36, 37, 38, 39, 40, 41, 42, 43] (by decide +kernel) (by decide +kernel)
set_option maxRecDepth 20000 in
theorem gX9_got_X9_of : GoodIn wsX9_got (wsV RX9 106 RX9 yX9_of wsX9_of) := goodIn_app (goodIn_of _ (by decide +kernel)) ggX9_got_X9_of
set_option maxRecDepth 20000 in
theorem ggX9_got_X9_within : GoodIn wsX9_got wsX9_within := goodIn_r _ [8] (by decide +kernel) (by decide +kernel)
set_option maxRecDepth 20000 in
theorem gX9_got_X9_within : GoodIn wsX9_got (va_wsS RX9 65 yX9_within wsX9_within) := goodIn_app (goodIn_of _ (by decide +kernel)) ggX9_got_X9_within
theorem dX9_got_0 : decode cX9_got 0 = .ok (.iload_n 1, 1) := by decide +kernel
theorem dX9_got_1 : decode cX9_got 1 = .ok (.invokestatic 103, 3) := by decide +kernel
theorem dX9_got_4 : decode cX9_got 4 = .ok (.ifCond .eq 35, 3) := by decide +kernel
theorem dX9_got_7 : decode cX9_got 7 = .ok (.iload_n 2, 1) := by decide +kernel
theorem dX9_got_8 : decode cX9_got 8 = .ok (.iconst 0, 1) := by decide +kernel
theorem dX9_got_9 : decode cX9_got 9 = .ok (.aload_n 0, 1) := by decide +kernel
theorem dX9_got_10 : decode cX9_got 10 = .ok (.iload_n 1, 1) := by decide +kernel
theorem dX9_got_11 : decode cX9_got 11 = .ok (.bipush 9, 2) := by decide +kernel
theorem dX9_got_13 : decode cX9_got 13 = .ok (.invokevirtual 106, 3) := by decide +kernel
theorem dX9_got_16 : decode cX9_got 16 = .ok (.iconst 1, 1) := by decide +kernel
theorem dX9_got_17 : decode cX9_got 17 = .ok (.isub, 1) := by decide +kernel
theorem dX9_got_18 : decode cX9_got 18 = .ok (.invokestatic 65, 3) := by decide +kernel
theorem dX9_got_21 : decode cX9_got 21 = .ok (.ifCond .eq 18, 3) := by decide +kernel
theorem dX9_got_24 : decode cX9_got 24 = .ok (.aload_n 0, 1) := by decide +kernel
theorem dX9_got_25 : decode cX9_got 25 = .ok (.getfield 25, 3) := by decide +kernel
theorem dX9_got_28 : decode cX9_got 28 = .ok (.sipush 200, 3) := by decide +kernel
theorem dX9_got_31 : decode cX9_got 31 = .ok (.iload_n 1, 1) := by decide +kernel
theorem dX9_got_32 : decode cX9_got 32 = .ok (.imul, 1) := by decide +kernel
theorem dX9_got_33 : decode cX9_got 33 = .ok (.iload_n 2, 1) := by decide +kernel
theorem dX9_got_34 : decode cX9_got 34 = .ok (.iadd, 1) := by decide +kernel
theorem dX9_got_35 : decode cX9_got 35 = .ok (.iaload, 1) := by decide +kernel
theorem dX9_got_36 : decode cX9_got 36 = .ok (.goto 6, 3) := by decide +kernel
theorem dX9_got_39 : decode cX9_got 39 = .ok (.sipush (-1001), 3) := by decide +kernel
theorem dX9_got_42 : decode cX9_got 42 = .ok (.ireturn, 1) := by decide +kernel
set_option maxRecDepth 20000 in
theorem ggX9_heard_X9_isEnd : GoodIn wsX9_heard wsX9_isEnd := goodIn_r _ [5, 6, 7, 4, 8] (by decide +kernel) (by decide +kernel)
set_option maxRecDepth 20000 in
theorem gX9_heard_X9_isEnd : GoodIn wsX9_heard (va_wsS RX9 103 yX9_isEnd wsX9_isEnd) := goodIn_app (goodIn_of _ (by decide +kernel)) ggX9_heard_X9_isEnd
set_option maxRecDepth 20000 in
theorem ggX9_heard_X9_within : GoodIn wsX9_heard wsX9_within := goodIn_r _ [8] (by decide +kernel) (by decide +kernel)
set_option maxRecDepth 20000 in
theorem gX9_heard_X9_within : GoodIn wsX9_heard (va_wsS RX9 65 yX9_within wsX9_within) := goodIn_app (goodIn_of _ (by decide +kernel)) ggX9_heard_X9_within
theorem dX9_heard_0 : decode cX9_heard 0 = .ok (.iload_n 1, 1) := by decide +kernel
theorem dX9_heard_1 : decode cX9_heard 1 = .ok (.invokestatic 103, 3) := by decide +kernel
theorem dX9_heard_4 : decode cX9_heard 4 = .ok (.ifCond .ne 7, 3) := by decide +kernel
theorem dX9_heard_7 : decode cX9_heard 7 = .ok (.sipush (-1001), 3) := by decide +kernel
theorem dX9_heard_10 : decode cX9_heard 10 = .ok (.ireturn, 1) := by decide +kernel
theorem dX9_heard_11 : decode cX9_heard 11 = .ok (.iload_n 2, 1) := by decide +kernel
theorem dX9_heard_12 : decode cX9_heard 12 = .ok (.iconst 0, 1) := by decide +kernel
theorem dX9_heard_13 : decode cX9_heard 13 = .ok (.iconst 4, 1) := by decide +kernel
theorem dX9_heard_14 : decode cX9_heard 14 = .ok (.invokestatic 65, 3) := by decide +kernel
theorem dX9_heard_17 : decode cX9_heard 17 = .ok (.ifCond .eq 16, 3) := by decide +kernel
theorem dX9_heard_20 : decode cX9_heard 20 = .ok (.aload_n 0, 1) := by decide +kernel
theorem dX9_heard_21 : decode cX9_heard 21 = .ok (.getfield 28, 3) := by decide +kernel
theorem dX9_heard_24 : decode cX9_heard 24 = .ok (.iconst 5, 1) := by decide +kernel
theorem dX9_heard_25 : decode cX9_heard 25 = .ok (.iload_n 1, 1) := by decide +kernel
theorem dX9_heard_26 : decode cX9_heard 26 = .ok (.imul, 1) := by decide +kernel
theorem dX9_heard_27 : decode cX9_heard 27 = .ok (.iload_n 2, 1) := by decide +kernel
theorem dX9_heard_28 : decode cX9_heard 28 = .ok (.iadd, 1) := by decide +kernel
theorem dX9_heard_29 : decode cX9_heard 29 = .ok (.iaload, 1) := by decide +kernel
theorem dX9_heard_30 : decode cX9_heard 30 = .ok (.goto 6, 3) := by decide +kernel
theorem dX9_heard_33 : decode cX9_heard 33 = .ok (.sipush (-1002), 3) := by decide +kernel
theorem dX9_heard_36 : decode cX9_heard 36 = .ok (.ireturn, 1) := by decide +kernel
theorem dX9_onWay_0 : decode cX9_onWay 0 = .ok (.iconst 0, 1) := by decide +kernel
theorem dX9_onWay_1 : decode cX9_onWay 1 = .ok (.istore_n 1, 1) := by decide +kernel
theorem dX9_onWay_2 : decode cX9_onWay 2 = .ok (.iconst 0, 1) := by decide +kernel
theorem dX9_onWay_3 : decode cX9_onWay 3 = .ok (.istore_n 2, 1) := by decide +kernel
theorem dX9_onWay_4 : decode cX9_onWay 4 = .ok (.iload_n 2, 1) := by decide +kernel
theorem dX9_onWay_5 : decode cX9_onWay 5 = .ok (.bipush 32, 2) := by decide +kernel
theorem dX9_onWay_7 : decode cX9_onWay 7 = .ok (.if_icmp .ge 21, 3) := by decide +kernel
theorem dX9_onWay_10 : decode cX9_onWay 10 = .ok (.iload_n 1, 1) := by decide +kernel
theorem dX9_onWay_11 : decode cX9_onWay 11 = .ok (.aload_n 0, 1) := by decide +kernel
theorem dX9_onWay_12 : decode cX9_onWay 12 = .ok (.getfield 41, 3) := by decide +kernel
theorem dX9_onWay_15 : decode cX9_onWay 15 = .ok (.bipush 8, 2) := by decide +kernel
theorem dX9_onWay_17 : decode cX9_onWay 17 = .ok (.iload_n 2, 1) := by decide +kernel
theorem dX9_onWay_18 : decode cX9_onWay 18 = .ok (.imul, 1) := by decide +kernel
theorem dX9_onWay_19 : decode cX9_onWay 19 = .ok (.iaload, 1) := by decide +kernel
theorem dX9_onWay_20 : decode cX9_onWay 20 = .ok (.iadd, 1) := by decide +kernel
theorem dX9_onWay_21 : decode cX9_onWay 21 = .ok (.istore_n 1, 1) := by decide +kernel
theorem dX9_onWay_22 : decode cX9_onWay 22 = .ok (.iinc 2 1, 3) := by decide +kernel
theorem dX9_onWay_25 : decode cX9_onWay 25 = .ok (.goto (-21), 3) := by decide +kernel
theorem dX9_onWay_28 : decode cX9_onWay 28 = .ok (.iload_n 1, 1) := by decide +kernel
theorem dX9_onWay_29 : decode cX9_onWay 29 = .ok (.ireturn, 1) := by decide +kernel
set_option maxRecDepth 20000 in
theorem ggX9_aboutNow_X9_onWay : GoodIn wsX9_aboutNow wsX9_onWay := goodIn_r _ [8, 9, 10, 11, 12, 13, 14, 15, 16, 17, 18, 19, 20, 21, 22, 23, 24, 25, 26, 27, 28, 29, 30, 31, 32, 33, 34, 35, 36, 37, 38, 39] (by decide +kernel) (by decide +kernel)
set_option maxRecDepth 20000 in
theorem gX9_aboutNow_X9_onWay : GoodIn wsX9_aboutNow (wsV RX9 220 RX9 yX9_onWay wsX9_onWay) := goodIn_app (goodIn_of _ (by decide +kernel)) ggX9_aboutNow_X9_onWay
theorem dX9_aboutNow_0 : decode cX9_aboutNow 0 = .ok (.iload_n 1, 1) := by decide +kernel
theorem dX9_aboutNow_1 : decode cX9_aboutNow 1 = .ok (.tableswitch 55 0 3 #[31, 36, 43, 50], 31) := by decide +kernel
theorem dX9_aboutNow_32 : decode cX9_aboutNow 32 = .ok (.aload_n 0, 1) := by decide +kernel
theorem dX9_aboutNow_33 : decode cX9_aboutNow 33 = .ok (.getfield 34, 3) := by decide +kernel
theorem dX9_aboutNow_36 : decode cX9_aboutNow 36 = .ok (.ireturn, 1) := by decide +kernel
theorem dX9_aboutNow_37 : decode cX9_aboutNow 37 = .ok (.aload_n 0, 1) := by decide +kernel
theorem dX9_aboutNow_38 : decode cX9_aboutNow 38 = .ok (.getfield 38, 3) := by decide +kernel
theorem dX9_aboutNow_41 : decode cX9_aboutNow 41 = .ok (.iconst 0, 1) := by decide +kernel
theorem dX9_aboutNow_42 : decode cX9_aboutNow 42 = .ok (.iaload, 1) := by decide +kernel
theorem dX9_aboutNow_43 : decode cX9_aboutNow 43 = .ok (.ireturn, 1) := by decide +kernel
theorem dX9_aboutNow_44 : decode cX9_aboutNow 44 = .ok (.aload_n 0, 1) := by decide +kernel
theorem dX9_aboutNow_45 : decode cX9_aboutNow 45 = .ok (.getfield 38, 3) := by decide +kernel
theorem dX9_aboutNow_48 : decode cX9_aboutNow 48 = .ok (.iconst 1, 1) := by decide +kernel
theorem dX9_aboutNow_49 : decode cX9_aboutNow 49 = .ok (.iaload, 1) := by decide +kernel
theorem dX9_aboutNow_50 : decode cX9_aboutNow 50 = .ok (.ireturn, 1) := by decide +kernel
theorem dX9_aboutNow_51 : decode cX9_aboutNow 51 = .ok (.aload_n 0, 1) := by decide +kernel
theorem dX9_aboutNow_52 : decode cX9_aboutNow 52 = .ok (.invokevirtual 220, 3) := by decide +kernel
theorem dX9_aboutNow_55 : decode cX9_aboutNow 55 = .ok (.ireturn, 1) := by decide +kernel
theorem dX9_aboutNow_56 : decode cX9_aboutNow 56 = .ok (.aload_n 0, 1) := by decide +kernel
theorem dX9_aboutNow_57 : decode cX9_aboutNow 57 = .ok (.getfield 31, 3) := by decide +kernel
theorem dX9_aboutNow_60 : decode cX9_aboutNow 60 = .ok (.iload_n 1, 1) := by decide +kernel
theorem dX9_aboutNow_61 : decode cX9_aboutNow 61 = .ok (.bipush 20, 2) := by decide +kernel
theorem dX9_aboutNow_63 : decode cX9_aboutNow 63 = .ok (.if_icmp .ge 10, 3) := by decide +kernel
theorem dX9_aboutNow_66 : decode cX9_aboutNow 66 = .ok (.iload_n 1, 1) := by decide +kernel
theorem dX9_aboutNow_67 : decode cX9_aboutNow 67 = .ok (.bipush 10, 2) := by decide +kernel
theorem dX9_aboutNow_69 : decode cX9_aboutNow 69 = .ok (.isub, 1) := by decide +kernel
theorem dX9_aboutNow_70 : decode cX9_aboutNow 70 = .ok (.goto 7, 3) := by decide +kernel
theorem dX9_aboutNow_73 : decode cX9_aboutNow 73 = .ok (.iload_n 1, 1) := by decide +kernel
theorem dX9_aboutNow_74 : decode cX9_aboutNow 74 = .ok (.bipush 12, 2) := by decide +kernel
theorem dX9_aboutNow_76 : decode cX9_aboutNow 76 = .ok (.isub, 1) := by decide +kernel
theorem dX9_aboutNow_77 : decode cX9_aboutNow 77 = .ok (.iaload, 1) := by decide +kernel
theorem dX9_aboutNow_78 : decode cX9_aboutNow 78 = .ok (.ireturn, 1) := by decide +kernel
set_option maxRecDepth 20000 in
theorem ggX9_about_X9_within : GoodIn wsX9_about wsX9_within := goodIn_r _ [4] (by decide +kernel) (by decide +kernel)
set_option maxRecDepth 20000 in
theorem gX9_about_X9_within : GoodIn wsX9_about (va_wsS RX9 65 yX9_within wsX9_within) := goodIn_app (goodIn_of _ (by decide +kernel)) ggX9_about_X9_within
set_option maxRecDepth 20000 in
theorem ggX9_about_X9_aboutNow : GoodIn wsX9_about wsX9_aboutNow := goodIn_r _ [8, 9, 10, 11, 12, 13, 14, 3, 15, 16, 17, 18, 19, 20, 21, 22, 23, 24, 25, 26, 27, 28, 29, 30, 31, 32, 33, 34, 35, 36, 37, 38, 39, 40, 41, 42, 43, 44, 45, 46] (by decide +kernel) (by decide +kernel)
set_option maxRecDepth 20000 in
theorem gX9_about_X9_aboutNow : GoodIn wsX9_about (wsV RX9 223 RX9 yX9_aboutNow wsX9_aboutNow) := goodIn_app (goodIn_of _ (by decide +kernel)) ggX9_about_X9_aboutNow
theorem dX9_about_0 : decode cX9_about 0 = .ok (.iload_n 1, 1) := by decide +kernel
theorem dX9_about_1 : decode cX9_about 1 = .ok (.iconst 0, 1) := by decide +kernel
theorem dX9_about_2 : decode cX9_about 2 = .ok (.iconst 3, 1) := by decide +kernel
theorem dX9_about_3 : decode cX9_about 3 = .ok (.invokestatic 65, 3) := by decide +kernel
theorem dX9_about_6 : decode cX9_about 6 = .ok (.ifCond .ne 25, 3) := by decide +kernel
theorem dX9_about_9 : decode cX9_about 9 = .ok (.iload_n 1, 1) := by decide +kernel
theorem dX9_about_10 : decode cX9_about 10 = .ok (.bipush 10, 2) := by decide +kernel
theorem dX9_about_12 : decode cX9_about 12 = .ok (.bipush 17, 2) := by decide +kernel
theorem dX9_about_14 : decode cX9_about 14 = .ok (.invokestatic 65, 3) := by decide +kernel
theorem dX9_about_17 : decode cX9_about 17 = .ok (.ifCond .ne 14, 3) := by decide +kernel
theorem dX9_about_20 : decode cX9_about 20 = .ok (.iload_n 1, 1) := by decide +kernel
theorem dX9_about_21 : decode cX9_about 21 = .ok (.bipush 20, 2) := by decide +kernel
theorem dX9_about_23 : decode cX9_about 23 = .ok (.bipush 27, 2) := by decide +kernel
theorem dX9_about_25 : decode cX9_about 25 = .ok (.invokestatic 65, 3) := by decide +kernel
theorem dX9_about_28 : decode cX9_about 28 = .ok (.ifCond .eq 11, 3) := by decide +kernel
theorem dX9_about_31 : decode cX9_about 31 = .ok (.aload_n 0, 1) := by decide +kernel
theorem dX9_about_32 : decode cX9_about 32 = .ok (.iload_n 1, 1) := by decide +kernel
theorem dX9_about_33 : decode cX9_about 33 = .ok (.invokevirtual 223, 3) := by decide +kernel
theorem dX9_about_36 : decode cX9_about 36 = .ok (.goto 6, 3) := by decide +kernel
theorem dX9_about_39 : decode cX9_about 39 = .ok (.sipush (-1002), 3) := by decide +kernel
theorem dX9_about_42 : decode cX9_about 42 = .ok (.ireturn, 1) := by decide +kernel
theorem dX9_howMany_0 : decode cX9_howMany 0 = .ok (.iload_n 1, 1) := by decide +kernel
theorem dX9_howMany_1 : decode cX9_howMany 1 = .ok (.tableswitch 104 0 8 #[51, 56, 61, 68, 75, 82, 89, 94, 99], 51) := by decide +kernel
theorem dX9_howMany_52 : decode cX9_howMany 52 = .ok (.aload_n 0, 1) := by decide +kernel
theorem dX9_howMany_53 : decode cX9_howMany 53 = .ok (.getfield 69, 3) := by decide +kernel
theorem dX9_howMany_56 : decode cX9_howMany 56 = .ok (.ireturn, 1) := by decide +kernel
theorem dX9_howMany_57 : decode cX9_howMany 57 = .ok (.aload_n 0, 1) := by decide +kernel
theorem dX9_howMany_58 : decode cX9_howMany 58 = .ok (.getfield 121, 3) := by decide +kernel
theorem dX9_howMany_61 : decode cX9_howMany 61 = .ok (.ireturn, 1) := by decide +kernel
theorem dX9_howMany_62 : decode cX9_howMany 62 = .ok (.aload_n 0, 1) := by decide +kernel
theorem dX9_howMany_63 : decode cX9_howMany 63 = .ok (.getfield 47, 3) := by decide +kernel
theorem dX9_howMany_66 : decode cX9_howMany 66 = .ok (.iconst 0, 1) := by decide +kernel
theorem dX9_howMany_67 : decode cX9_howMany 67 = .ok (.iaload, 1) := by decide +kernel
theorem dX9_howMany_68 : decode cX9_howMany 68 = .ok (.ireturn, 1) := by decide +kernel
theorem dX9_howMany_69 : decode cX9_howMany 69 = .ok (.aload_n 0, 1) := by decide +kernel
theorem dX9_howMany_70 : decode cX9_howMany 70 = .ok (.getfield 47, 3) := by decide +kernel
theorem dX9_howMany_73 : decode cX9_howMany 73 = .ok (.iconst 1, 1) := by decide +kernel
theorem dX9_howMany_74 : decode cX9_howMany 74 = .ok (.iaload, 1) := by decide +kernel
theorem dX9_howMany_75 : decode cX9_howMany 75 = .ok (.ireturn, 1) := by decide +kernel
theorem dX9_howMany_76 : decode cX9_howMany 76 = .ok (.aload_n 0, 1) := by decide +kernel
theorem dX9_howMany_77 : decode cX9_howMany 77 = .ok (.getfield 50, 3) := by decide +kernel
theorem dX9_howMany_80 : decode cX9_howMany 80 = .ok (.iconst 0, 1) := by decide +kernel
theorem dX9_howMany_81 : decode cX9_howMany 81 = .ok (.iaload, 1) := by decide +kernel
theorem dX9_howMany_82 : decode cX9_howMany 82 = .ok (.ireturn, 1) := by decide +kernel
theorem dX9_howMany_83 : decode cX9_howMany 83 = .ok (.aload_n 0, 1) := by decide +kernel
theorem dX9_howMany_84 : decode cX9_howMany 84 = .ok (.getfield 50, 3) := by decide +kernel
theorem dX9_howMany_87 : decode cX9_howMany 87 = .ok (.iconst 1, 1) := by decide +kernel
theorem dX9_howMany_88 : decode cX9_howMany 88 = .ok (.iaload, 1) := by decide +kernel
theorem dX9_howMany_89 : decode cX9_howMany 89 = .ok (.ireturn, 1) := by decide +kernel
theorem dX9_howMany_90 : decode cX9_howMany 90 = .ok (.aload_n 0, 1) := by decide +kernel
theorem dX9_howMany_91 : decode cX9_howMany 91 = .ok (.getfield 131, 3) := by decide +kernel
theorem dX9_howMany_94 : decode cX9_howMany 94 = .ok (.ireturn, 1) := by decide +kernel
theorem dX9_howMany_95 : decode cX9_howMany 95 = .ok (.aload_n 0, 1) := by decide +kernel
theorem dX9_howMany_96 : decode cX9_howMany 96 = .ok (.getfield 100, 3) := by decide +kernel
theorem dX9_howMany_99 : decode cX9_howMany 99 = .ok (.ireturn, 1) := by decide +kernel
theorem dX9_howMany_100 : decode cX9_howMany 100 = .ok (.aload_n 0, 1) := by decide +kernel
theorem dX9_howMany_101 : decode cX9_howMany 101 = .ok (.getfield 193, 3) := by decide +kernel
theorem dX9_howMany_104 : decode cX9_howMany 104 = .ok (.ireturn, 1) := by decide +kernel
theorem dX9_howMany_105 : decode cX9_howMany 105 = .ok (.sipush (-1002), 3) := by decide +kernel
theorem dX9_howMany_108 : decode cX9_howMany 108 = .ok (.ireturn, 1) := by decide +kernel
set_option maxRecDepth 20000 in
theorem ggX9_count_X9_howMany : GoodIn wsX9_count wsX9_howMany := goodIn_r _ [5, 6, 7, 8, 9, 10, 11, 12, 13, 14, 15, 16, 17, 18, 19, 20, 21, 22, 23, 24, 25, 26, 27, 28, 29, 30, 31, 32, 33, 34, 35, 36, 37, 38, 39, 40, 41, 42] (by decide +kernel) (by decide +kernel)
set_option maxRecDepth 20000 in
theorem gX9_count_X9_howMany : GoodIn wsX9_count (wsV RX9 226 RX9 yX9_howMany wsX9_howMany) := goodIn_app (goodIn_of _ (by decide +kernel)) ggX9_count_X9_howMany
theorem dX9_count_0 : decode cX9_count 0 = .ok (.aload_n 0, 1) := by decide +kernel
theorem dX9_count_1 : decode cX9_count 1 = .ok (.iload_n 1, 1) := by decide +kernel
theorem dX9_count_2 : decode cX9_count 2 = .ok (.invokevirtual 226, 3) := by decide +kernel
theorem dX9_count_5 : decode cX9_count 5 = .ok (.ireturn, 1) := by decide +kernel
theorem dX9_mix_0 : decode cX9_mix 0 = .ok (.aload_n 0, 1) := by decide +kernel
theorem dX9_mix_1 : decode cX9_mix 1 = .ok (.ldc2_w 229, 3) := by decide +kernel
theorem dX9_mix_4 : decode cX9_mix 4 = .ok (.aload_n 0, 1) := by decide +kernel
theorem dX9_mix_5 : decode cX9_mix 5 = .ok (.getfield 231, 3) := by decide +kernel
theorem dX9_mix_8 : decode cX9_mix 8 = .ok (.lmul, 1) := by decide +kernel
theorem dX9_mix_9 : decode cX9_mix 9 = .ok (.lload_n 1, 1) := by decide +kernel
theorem dX9_mix_10 : decode cX9_mix 10 = .ok (.ladd, 1) := by decide +kernel
theorem dX9_mix_11 : decode cX9_mix 11 = .ok (.putfield 231, 3) := by decide +kernel
theorem dX9_mix_14 : decode cX9_mix 14 = .ok (.return_, 1) := by decide +kernel
set_option maxRecDepth 20000 in
theorem ggX9_mixEnd_X9_of : GoodIn wsX9_mixEnd wsX9_of := goodIn_r _ [10, 11, 18, 19, 20, 21, 22, 23, 24, 25, 26, 27, 28, 29, 30, 31, 32, 33, 34, 35, 36, 37, 38, 39, 40, 41, 42, 43, 44, 45, 46, 47] (by decide +kernel) (by decide +kernel)
set_option maxRecDepth 20000 in
theorem gX9_mixEnd_X9_of : GoodIn wsX9_mixEnd (wsV RX9 106 RX9 yX9_of wsX9_of) := goodIn_app (goodIn_of _ (by decide +kernel)) ggX9_mixEnd_X9_of
set_option maxRecDepth 20000 in
theorem ggX9_mixEnd_X9_mix : GoodIn wsX9_mixEnd wsX9_mix := goodIn_r _ [15, 16, 17, 18, 19, 20, 21, 22, 23, 24, 25, 26, 27, 28, 29, 30, 31, 32, 33, 34, 35, 36, 37, 38, 39, 40, 41, 42, 43, 44, 45, 46, 47] (by decide +kernel) (by decide +kernel)
set_option maxRecDepth 20000 in
theorem gX9_mixEnd_X9_mix : GoodIn wsX9_mixEnd (wsV RX9 235 RX9 yX9_mix wsX9_mix) := goodIn_app (goodIn_of _ (by decide +kernel)) ggX9_mixEnd_X9_mix
theorem dX9_mixEnd_0 : decode cX9_mixEnd 0 = .ok (.iconst 0, 1) := by decide +kernel
theorem dX9_mixEnd_1 : decode cX9_mixEnd 1 = .ok (.istore_n 2, 1) := by decide +kernel
theorem dX9_mixEnd_2 : decode cX9_mixEnd 2 = .ok (.iload_n 2, 1) := by decide +kernel
theorem dX9_mixEnd_3 : decode cX9_mixEnd 3 = .ok (.bipush 16, 2) := by decide +kernel
theorem dX9_mixEnd_5 : decode cX9_mixEnd 5 = .ok (.if_icmp .ge 20, 3) := by decide +kernel
theorem dX9_mixEnd_8 : decode cX9_mixEnd 8 = .ok (.aload_n 0, 1) := by decide +kernel
theorem dX9_mixEnd_9 : decode cX9_mixEnd 9 = .ok (.aload_n 0, 1) := by decide +kernel
theorem dX9_mixEnd_10 : decode cX9_mixEnd 10 = .ok (.iload_n 1, 1) := by decide +kernel
theorem dX9_mixEnd_11 : decode cX9_mixEnd 11 = .ok (.iload_n 2, 1) := by decide +kernel
theorem dX9_mixEnd_12 : decode cX9_mixEnd 12 = .ok (.invokevirtual 106, 3) := by decide +kernel
theorem dX9_mixEnd_15 : decode cX9_mixEnd 15 = .ok (.i2l, 1) := by decide +kernel
theorem dX9_mixEnd_16 : decode cX9_mixEnd 16 = .ok (.invokevirtual 235, 3) := by decide +kernel
theorem dX9_mixEnd_19 : decode cX9_mixEnd 19 = .ok (.iinc 2 1, 3) := by decide +kernel
theorem dX9_mixEnd_22 : decode cX9_mixEnd 22 = .ok (.goto (-20), 3) := by decide +kernel
theorem dX9_mixEnd_25 : decode cX9_mixEnd 25 = .ok (.iconst 0, 1) := by decide +kernel
theorem dX9_mixEnd_26 : decode cX9_mixEnd 26 = .ok (.istore_n 2, 1) := by decide +kernel
theorem dX9_mixEnd_27 : decode cX9_mixEnd 27 = .ok (.iload_n 2, 1) := by decide +kernel
theorem dX9_mixEnd_28 : decode cX9_mixEnd 28 = .ok (.bipush 8, 2) := by decide +kernel
theorem dX9_mixEnd_30 : decode cX9_mixEnd 30 = .ok (.if_icmp .ge 25, 3) := by decide +kernel
theorem dX9_mixEnd_33 : decode cX9_mixEnd 33 = .ok (.aload_n 0, 1) := by decide +kernel
theorem dX9_mixEnd_34 : decode cX9_mixEnd 34 = .ok (.aload_n 0, 1) := by decide +kernel
theorem dX9_mixEnd_35 : decode cX9_mixEnd 35 = .ok (.getfield 13, 3) := by decide +kernel
theorem dX9_mixEnd_38 : decode cX9_mixEnd 38 = .ok (.bipush 8, 2) := by decide +kernel
theorem dX9_mixEnd_40 : decode cX9_mixEnd 40 = .ok (.iload_n 1, 1) := by decide +kernel
theorem dX9_mixEnd_41 : decode cX9_mixEnd 41 = .ok (.imul, 1) := by decide +kernel
theorem dX9_mixEnd_42 : decode cX9_mixEnd 42 = .ok (.iload_n 2, 1) := by decide +kernel
theorem dX9_mixEnd_43 : decode cX9_mixEnd 43 = .ok (.iadd, 1) := by decide +kernel
theorem dX9_mixEnd_44 : decode cX9_mixEnd 44 = .ok (.iaload, 1) := by decide +kernel
theorem dX9_mixEnd_45 : decode cX9_mixEnd 45 = .ok (.i2l, 1) := by decide +kernel
theorem dX9_mixEnd_46 : decode cX9_mixEnd 46 = .ok (.invokevirtual 235, 3) := by decide +kernel
theorem dX9_mixEnd_49 : decode cX9_mixEnd 49 = .ok (.iinc 2 1, 3) := by decide +kernel
theorem dX9_mixEnd_52 : decode cX9_mixEnd 52 = .ok (.goto (-25), 3) := by decide +kernel
theorem dX9_mixEnd_55 : decode cX9_mixEnd 55 = .ok (.iconst 0, 1) := by decide +kernel
theorem dX9_mixEnd_56 : decode cX9_mixEnd 56 = .ok (.istore_n 2, 1) := by decide +kernel
theorem dX9_mixEnd_57 : decode cX9_mixEnd 57 = .ok (.iload_n 2, 1) := by decide +kernel
theorem dX9_mixEnd_58 : decode cX9_mixEnd 58 = .ok (.iconst 4, 1) := by decide +kernel
theorem dX9_mixEnd_59 : decode cX9_mixEnd 59 = .ok (.if_icmp .ge 24, 3) := by decide +kernel
theorem dX9_mixEnd_62 : decode cX9_mixEnd 62 = .ok (.aload_n 0, 1) := by decide +kernel
theorem dX9_mixEnd_63 : decode cX9_mixEnd 63 = .ok (.aload_n 0, 1) := by decide +kernel
theorem dX9_mixEnd_64 : decode cX9_mixEnd 64 = .ok (.getfield 16, 3) := by decide +kernel
theorem dX9_mixEnd_67 : decode cX9_mixEnd 67 = .ok (.iconst 4, 1) := by decide +kernel
theorem dX9_mixEnd_68 : decode cX9_mixEnd 68 = .ok (.iload_n 1, 1) := by decide +kernel
theorem dX9_mixEnd_69 : decode cX9_mixEnd 69 = .ok (.imul, 1) := by decide +kernel
theorem dX9_mixEnd_70 : decode cX9_mixEnd 70 = .ok (.iload_n 2, 1) := by decide +kernel
theorem dX9_mixEnd_71 : decode cX9_mixEnd 71 = .ok (.iadd, 1) := by decide +kernel
theorem dX9_mixEnd_72 : decode cX9_mixEnd 72 = .ok (.iaload, 1) := by decide +kernel
theorem dX9_mixEnd_73 : decode cX9_mixEnd 73 = .ok (.i2l, 1) := by decide +kernel
theorem dX9_mixEnd_74 : decode cX9_mixEnd 74 = .ok (.invokevirtual 235, 3) := by decide +kernel
theorem dX9_mixEnd_77 : decode cX9_mixEnd 77 = .ok (.iinc 2 1, 3) := by decide +kernel
theorem dX9_mixEnd_80 : decode cX9_mixEnd 80 = .ok (.goto (-23), 3) := by decide +kernel
theorem dX9_mixEnd_83 : decode cX9_mixEnd 83 = .ok (.iconst 0, 1) := by decide +kernel
theorem dX9_mixEnd_84 : decode cX9_mixEnd 84 = .ok (.istore_n 2, 1) := by decide +kernel
theorem dX9_mixEnd_85 : decode cX9_mixEnd 85 = .ok (.iload_n 2, 1) := by decide +kernel
theorem dX9_mixEnd_86 : decode cX9_mixEnd 86 = .ok (.iconst 4, 1) := by decide +kernel
theorem dX9_mixEnd_87 : decode cX9_mixEnd 87 = .ok (.if_icmp .ge 24, 3) := by decide +kernel
theorem dX9_mixEnd_90 : decode cX9_mixEnd 90 = .ok (.aload_n 0, 1) := by decide +kernel
theorem dX9_mixEnd_91 : decode cX9_mixEnd 91 = .ok (.aload_n 0, 1) := by decide +kernel
theorem dX9_mixEnd_92 : decode cX9_mixEnd 92 = .ok (.getfield 19, 3) := by decide +kernel
theorem dX9_mixEnd_95 : decode cX9_mixEnd 95 = .ok (.iconst 4, 1) := by decide +kernel
theorem dX9_mixEnd_96 : decode cX9_mixEnd 96 = .ok (.iload_n 1, 1) := by decide +kernel
theorem dX9_mixEnd_97 : decode cX9_mixEnd 97 = .ok (.imul, 1) := by decide +kernel
theorem dX9_mixEnd_98 : decode cX9_mixEnd 98 = .ok (.iload_n 2, 1) := by decide +kernel
theorem dX9_mixEnd_99 : decode cX9_mixEnd 99 = .ok (.iadd, 1) := by decide +kernel
theorem dX9_mixEnd_100 : decode cX9_mixEnd 100 = .ok (.iaload, 1) := by decide +kernel
theorem dX9_mixEnd_101 : decode cX9_mixEnd 101 = .ok (.i2l, 1) := by decide +kernel
theorem dX9_mixEnd_102 : decode cX9_mixEnd 102 = .ok (.invokevirtual 235, 3) := by decide +kernel
theorem dX9_mixEnd_105 : decode cX9_mixEnd 105 = .ok (.iinc 2 1, 3) := by decide +kernel
theorem dX9_mixEnd_108 : decode cX9_mixEnd 108 = .ok (.goto (-23), 3) := by decide +kernel
theorem dX9_mixEnd_111 : decode cX9_mixEnd 111 = .ok (.iconst 0, 1) := by decide +kernel
theorem dX9_mixEnd_112 : decode cX9_mixEnd 112 = .ok (.istore_n 2, 1) := by decide +kernel
theorem dX9_mixEnd_113 : decode cX9_mixEnd 113 = .ok (.iload_n 2, 1) := by decide +kernel
theorem dX9_mixEnd_114 : decode cX9_mixEnd 114 = .ok (.iconst 5, 1) := by decide +kernel
theorem dX9_mixEnd_115 : decode cX9_mixEnd 115 = .ok (.if_icmp .ge 24, 3) := by decide +kernel
theorem dX9_mixEnd_118 : decode cX9_mixEnd 118 = .ok (.aload_n 0, 1) := by decide +kernel
theorem dX9_mixEnd_119 : decode cX9_mixEnd 119 = .ok (.aload_n 0, 1) := by decide +kernel
theorem dX9_mixEnd_120 : decode cX9_mixEnd 120 = .ok (.getfield 28, 3) := by decide +kernel
theorem dX9_mixEnd_123 : decode cX9_mixEnd 123 = .ok (.iconst 5, 1) := by decide +kernel
theorem dX9_mixEnd_124 : decode cX9_mixEnd 124 = .ok (.iload_n 1, 1) := by decide +kernel
theorem dX9_mixEnd_125 : decode cX9_mixEnd 125 = .ok (.imul, 1) := by decide +kernel
theorem dX9_mixEnd_126 : decode cX9_mixEnd 126 = .ok (.iload_n 2, 1) := by decide +kernel
theorem dX9_mixEnd_127 : decode cX9_mixEnd 127 = .ok (.iadd, 1) := by decide +kernel
theorem dX9_mixEnd_128 : decode cX9_mixEnd 128 = .ok (.iaload, 1) := by decide +kernel
theorem dX9_mixEnd_129 : decode cX9_mixEnd 129 = .ok (.i2l, 1) := by decide +kernel
theorem dX9_mixEnd_130 : decode cX9_mixEnd 130 = .ok (.invokevirtual 235, 3) := by decide +kernel
theorem dX9_mixEnd_133 : decode cX9_mixEnd 133 = .ok (.iinc 2 1, 3) := by decide +kernel
theorem dX9_mixEnd_136 : decode cX9_mixEnd 136 = .ok (.goto (-23), 3) := by decide +kernel
theorem dX9_mixEnd_139 : decode cX9_mixEnd 139 = .ok (.iconst 0, 1) := by decide +kernel
theorem dX9_mixEnd_140 : decode cX9_mixEnd 140 = .ok (.istore_n 2, 1) := by decide +kernel
theorem dX9_mixEnd_141 : decode cX9_mixEnd 141 = .ok (.iload_n 2, 1) := by decide +kernel
theorem dX9_mixEnd_142 : decode cX9_mixEnd 142 = .ok (.aload_n 0, 1) := by decide +kernel
theorem dX9_mixEnd_143 : decode cX9_mixEnd 143 = .ok (.iload_n 1, 1) := by decide +kernel
theorem dX9_mixEnd_144 : decode cX9_mixEnd 144 = .ok (.bipush 9, 2) := by decide +kernel
theorem dX9_mixEnd_146 : decode cX9_mixEnd 146 = .ok (.invokevirtual 106, 3) := by decide +kernel
theorem dX9_mixEnd_149 : decode cX9_mixEnd 149 = .ok (.if_icmp .ge 26, 3) := by decide +kernel
theorem dX9_mixEnd_152 : decode cX9_mixEnd 152 = .ok (.aload_n 0, 1) := by decide +kernel
theorem dX9_mixEnd_153 : decode cX9_mixEnd 153 = .ok (.aload_n 0, 1) := by decide +kernel
theorem dX9_mixEnd_154 : decode cX9_mixEnd 154 = .ok (.getfield 25, 3) := by decide +kernel
theorem dX9_mixEnd_157 : decode cX9_mixEnd 157 = .ok (.sipush 200, 3) := by decide +kernel
theorem dX9_mixEnd_160 : decode cX9_mixEnd 160 = .ok (.iload_n 1, 1) := by decide +kernel
theorem dX9_mixEnd_161 : decode cX9_mixEnd 161 = .ok (.imul, 1) := by decide +kernel
theorem dX9_mixEnd_162 : decode cX9_mixEnd 162 = .ok (.iload_n 2, 1) := by decide +kernel
theorem dX9_mixEnd_163 : decode cX9_mixEnd 163 = .ok (.iadd, 1) := by decide +kernel
theorem dX9_mixEnd_164 : decode cX9_mixEnd 164 = .ok (.iaload, 1) := by decide +kernel
theorem dX9_mixEnd_165 : decode cX9_mixEnd 165 = .ok (.i2l, 1) := by decide +kernel
theorem dX9_mixEnd_166 : decode cX9_mixEnd 166 = .ok (.invokevirtual 235, 3) := by decide +kernel
theorem dX9_mixEnd_169 : decode cX9_mixEnd 169 = .ok (.iinc 2 1, 3) := by decide +kernel
theorem dX9_mixEnd_172 : decode cX9_mixEnd 172 = .ok (.goto (-31), 3) := by decide +kernel
theorem dX9_mixEnd_175 : decode cX9_mixEnd 175 = .ok (.return_, 1) := by decide +kernel
set_option maxRecDepth 20000 in
theorem ggX9_digest_X9_mixEnd : GoodIn wsX9_digest wsX9_mixEnd := goodIn_r _ [9, 10, 11, 12, 13, 14, 15, 16, 17, 8, 18, 19, 20, 21, 22, 23, 24, 2, 50, 51, 52, 53, 54, 55, 56, 57, 58, 59, 60, 61, 62, 63, 64, 65, 66, 67, 68, 69, 70, 71, 72, 73, 74, 75, 76, 77, 78, 79] (by decide +kernel) (by decide +kernel)
set_option maxRecDepth 20000 in
theorem gX9_digest_X9_mixEnd : GoodIn wsX9_digest (wsV RX9 241 RX9 yX9_mixEnd wsX9_mixEnd) := goodIn_app (goodIn_of _ (by decide +kernel)) ggX9_digest_X9_mixEnd
set_option maxRecDepth 20000 in
theorem ggX9_digest_X9_within : GoodIn wsX9_digest wsX9_within := goodIn_r _ [27] (by decide +kernel) (by decide +kernel)
set_option maxRecDepth 20000 in
theorem gX9_digest_X9_within : GoodIn wsX9_digest (va_wsS RX9 65 yX9_within wsX9_within) := goodIn_app (goodIn_of _ (by decide +kernel)) ggX9_digest_X9_within
set_option maxRecDepth 20000 in
theorem ggX9_digest_X9_aboutNow : GoodIn wsX9_digest wsX9_aboutNow := goodIn_r _ [31, 32, 33, 34, 35, 36, 37, 8, 38, 39, 50, 51, 52, 53, 54, 55, 56, 57, 58, 59, 60, 61, 62, 63, 64, 65, 66, 67, 68, 69, 70, 71, 72, 73, 74, 75, 76, 77, 78, 79] (by decide +kernel) (by decide +kernel)
set_option maxRecDepth 20000 in
theorem gX9_digest_X9_aboutNow : GoodIn wsX9_digest (wsV RX9 223 RX9 yX9_aboutNow wsX9_aboutNow) := goodIn_app (goodIn_of _ (by decide +kernel)) ggX9_digest_X9_aboutNow
set_option maxRecDepth 20000 in
theorem ggX9_digest_X9_mix : GoodIn wsX9_digest wsX9_mix := goodIn_r _ [23, 24, 2, 50, 51, 52, 53, 54, 55, 56, 57, 58, 59, 60, 61, 62, 63, 64, 65, 66, 67, 68, 69, 70, 71, 72, 73, 74, 75, 76, 77, 78, 79] (by decide +kernel) (by decide +kernel)
set_option maxRecDepth 20000 in
theorem gX9_digest_X9_mix : GoodIn wsX9_digest (wsV RX9 235 RX9 yX9_mix wsX9_mix) := goodIn_app (goodIn_of _ (by decide +kernel)) ggX9_digest_X9_mix
set_option maxRecDepth 20000 in
theorem ggX9_digest_X9_howMany : GoodIn wsX9_digest wsX9_howMany := goodIn_r _ [43, 3, 44, 45, 46, 47, 48, 49, 50, 51, 52, 53, 54, 55, 56, 57, 58, 59, 60, 61, 62, 63, 64, 65, 66, 67, 68, 69, 70, 71, 72, 73, 74, 75, 76, 77, 78, 79] (by decide +kernel) (by decide +kernel)
set_option maxRecDepth 20000 in
theorem gX9_digest_X9_howMany : GoodIn wsX9_digest (wsV RX9 226 RX9 yX9_howMany wsX9_howMany) := goodIn_app (goodIn_of _ (by decide +kernel)) ggX9_digest_X9_howMany
theorem dX9_digest_0 : decode cX9_digest 0 = .ok (.aload_n 0, 1) := by decide +kernel
theorem dX9_digest_1 : decode cX9_digest 1 = .ok (.ldc2_w 239, 3) := by decide +kernel
theorem dX9_digest_4 : decode cX9_digest 4 = .ok (.putfield 231, 3) := by decide +kernel
theorem dX9_digest_7 : decode cX9_digest 7 = .ok (.aload_n 0, 1) := by decide +kernel
theorem dX9_digest_8 : decode cX9_digest 8 = .ok (.iconst 0, 1) := by decide +kernel
theorem dX9_digest_9 : decode cX9_digest 9 = .ok (.invokevirtual 241, 3) := by decide +kernel
theorem dX9_digest_12 : decode cX9_digest 12 = .ok (.aload_n 0, 1) := by decide +kernel
theorem dX9_digest_13 : decode cX9_digest 13 = .ok (.iconst 1, 1) := by decide +kernel
theorem dX9_digest_14 : decode cX9_digest 14 = .ok (.invokevirtual 241, 3) := by decide +kernel
theorem dX9_digest_17 : decode cX9_digest 17 = .ok (.iconst 0, 1) := by decide +kernel
theorem dX9_digest_18 : decode cX9_digest 18 = .ok (.istore_n 1, 1) := by decide +kernel
theorem dX9_digest_19 : decode cX9_digest 19 = .ok (.iload_n 1, 1) := by decide +kernel
theorem dX9_digest_20 : decode cX9_digest 20 = .ok (.bipush 28, 2) := by decide +kernel
theorem dX9_digest_22 : decode cX9_digest 22 = .ok (.if_icmp .ge 50, 3) := by decide +kernel
theorem dX9_digest_25 : decode cX9_digest 25 = .ok (.iload_n 1, 1) := by decide +kernel
theorem dX9_digest_26 : decode cX9_digest 26 = .ok (.iconst 0, 1) := by decide +kernel
theorem dX9_digest_27 : decode cX9_digest 27 = .ok (.iconst 3, 1) := by decide +kernel
theorem dX9_digest_28 : decode cX9_digest 28 = .ok (.invokestatic 65, 3) := by decide +kernel
theorem dX9_digest_31 : decode cX9_digest 31 = .ok (.ifCond .ne 25, 3) := by decide +kernel
theorem dX9_digest_34 : decode cX9_digest 34 = .ok (.iload_n 1, 1) := by decide +kernel
theorem dX9_digest_35 : decode cX9_digest 35 = .ok (.bipush 10, 2) := by decide +kernel
theorem dX9_digest_37 : decode cX9_digest 37 = .ok (.bipush 17, 2) := by decide +kernel
theorem dX9_digest_39 : decode cX9_digest 39 = .ok (.invokestatic 65, 3) := by decide +kernel
theorem dX9_digest_42 : decode cX9_digest 42 = .ok (.ifCond .ne 14, 3) := by decide +kernel
theorem dX9_digest_45 : decode cX9_digest 45 = .ok (.iload_n 1, 1) := by decide +kernel
theorem dX9_digest_46 : decode cX9_digest 46 = .ok (.bipush 20, 2) := by decide +kernel
theorem dX9_digest_48 : decode cX9_digest 48 = .ok (.bipush 27, 2) := by decide +kernel
theorem dX9_digest_50 : decode cX9_digest 50 = .ok (.invokestatic 65, 3) := by decide +kernel
theorem dX9_digest_53 : decode cX9_digest 53 = .ok (.ifCond .eq 13, 3) := by decide +kernel
theorem dX9_digest_56 : decode cX9_digest 56 = .ok (.aload_n 0, 1) := by decide +kernel
theorem dX9_digest_57 : decode cX9_digest 57 = .ok (.aload_n 0, 1) := by decide +kernel
theorem dX9_digest_58 : decode cX9_digest 58 = .ok (.iload_n 1, 1) := by decide +kernel
theorem dX9_digest_59 : decode cX9_digest 59 = .ok (.invokevirtual 223, 3) := by decide +kernel
theorem dX9_digest_62 : decode cX9_digest 62 = .ok (.i2l, 1) := by decide +kernel
theorem dX9_digest_63 : decode cX9_digest 63 = .ok (.invokevirtual 235, 3) := by decide +kernel
theorem dX9_digest_66 : decode cX9_digest 66 = .ok (.iinc 1 1, 3) := by decide +kernel
theorem dX9_digest_69 : decode cX9_digest 69 = .ok (.goto (-50), 3) := by decide +kernel
theorem dX9_digest_72 : decode cX9_digest 72 = .ok (.iconst 0, 1) := by decide +kernel
theorem dX9_digest_73 : decode cX9_digest 73 = .ok (.istore_n 1, 1) := by decide +kernel
theorem dX9_digest_74 : decode cX9_digest 74 = .ok (.iload_n 1, 1) := by decide +kernel
theorem dX9_digest_75 : decode cX9_digest 75 = .ok (.aload_n 0, 1) := by decide +kernel
theorem dX9_digest_76 : decode cX9_digest 76 = .ok (.getfield 69, 3) := by decide +kernel
theorem dX9_digest_79 : decode cX9_digest 79 = .ok (.if_icmp .ge 20, 3) := by decide +kernel
theorem dX9_digest_82 : decode cX9_digest 82 = .ok (.aload_n 0, 1) := by decide +kernel
theorem dX9_digest_83 : decode cX9_digest 83 = .ok (.aload_n 0, 1) := by decide +kernel
theorem dX9_digest_84 : decode cX9_digest 84 = .ok (.getfield 53, 3) := by decide +kernel
theorem dX9_digest_87 : decode cX9_digest 87 = .ok (.iload_n 1, 1) := by decide +kernel
theorem dX9_digest_88 : decode cX9_digest 88 = .ok (.iaload, 1) := by decide +kernel
theorem dX9_digest_89 : decode cX9_digest 89 = .ok (.i2l, 1) := by decide +kernel
theorem dX9_digest_90 : decode cX9_digest 90 = .ok (.invokevirtual 235, 3) := by decide +kernel
theorem dX9_digest_93 : decode cX9_digest 93 = .ok (.iinc 1 1, 3) := by decide +kernel
theorem dX9_digest_96 : decode cX9_digest 96 = .ok (.goto (-22), 3) := by decide +kernel
theorem dX9_digest_99 : decode cX9_digest 99 = .ok (.iconst 0, 1) := by decide +kernel
theorem dX9_digest_100 : decode cX9_digest 100 = .ok (.istore_n 1, 1) := by decide +kernel
theorem dX9_digest_101 : decode cX9_digest 101 = .ok (.iload_n 1, 1) := by decide +kernel
theorem dX9_digest_102 : decode cX9_digest 102 = .ok (.bipush 9, 2) := by decide +kernel
theorem dX9_digest_104 : decode cX9_digest 104 = .ok (.if_icmp .ge 19, 3) := by decide +kernel
theorem dX9_digest_107 : decode cX9_digest 107 = .ok (.aload_n 0, 1) := by decide +kernel
theorem dX9_digest_108 : decode cX9_digest 108 = .ok (.aload_n 0, 1) := by decide +kernel
theorem dX9_digest_109 : decode cX9_digest 109 = .ok (.iload_n 1, 1) := by decide +kernel
theorem dX9_digest_110 : decode cX9_digest 110 = .ok (.invokevirtual 226, 3) := by decide +kernel
theorem dX9_digest_113 : decode cX9_digest 113 = .ok (.i2l, 1) := by decide +kernel
theorem dX9_digest_114 : decode cX9_digest 114 = .ok (.invokevirtual 235, 3) := by decide +kernel
theorem dX9_digest_117 : decode cX9_digest 117 = .ok (.iinc 1 1, 3) := by decide +kernel
theorem dX9_digest_120 : decode cX9_digest 120 = .ok (.goto (-19), 3) := by decide +kernel
theorem dX9_digest_123 : decode cX9_digest 123 = .ok (.aload_n 0, 1) := by decide +kernel
theorem dX9_digest_124 : decode cX9_digest 124 = .ok (.getfield 231, 3) := by decide +kernel
theorem dX9_digest_127 : decode cX9_digest 127 = .ok (.lreturn, 1) := by decide +kernel
theorem dJ6_bitCount_0f7a4_0 : decode cJ6_bitCount_0f7a4 0 = .ok (.iload_n 0, 1) := by decide +kernel
theorem dJ6_bitCount_0f7a4_1 : decode cJ6_bitCount_0f7a4 1 = .ok (.iload_n 0, 1) := by decide +kernel
theorem dJ6_bitCount_0f7a4_2 : decode cJ6_bitCount_0f7a4 2 = .ok (.iconst 1, 1) := by decide +kernel
theorem dJ6_bitCount_0f7a4_3 : decode cJ6_bitCount_0f7a4 3 = .ok (.iushr, 1) := by decide +kernel
theorem dJ6_bitCount_0f7a4_4 : decode cJ6_bitCount_0f7a4 4 = .ok (.ldc_w 265, 3) := by decide +kernel
theorem dJ6_bitCount_0f7a4_7 : decode cJ6_bitCount_0f7a4 7 = .ok (.iand, 1) := by decide +kernel
theorem dJ6_bitCount_0f7a4_8 : decode cJ6_bitCount_0f7a4 8 = .ok (.isub, 1) := by decide +kernel
theorem dJ6_bitCount_0f7a4_9 : decode cJ6_bitCount_0f7a4 9 = .ok (.istore_n 0, 1) := by decide +kernel
theorem dJ6_bitCount_0f7a4_10 : decode cJ6_bitCount_0f7a4 10 = .ok (.iload_n 0, 1) := by decide +kernel
theorem dJ6_bitCount_0f7a4_11 : decode cJ6_bitCount_0f7a4 11 = .ok (.ldc_w 266, 3) := by decide +kernel
theorem dJ6_bitCount_0f7a4_14 : decode cJ6_bitCount_0f7a4 14 = .ok (.iand, 1) := by decide +kernel
theorem dJ6_bitCount_0f7a4_15 : decode cJ6_bitCount_0f7a4 15 = .ok (.iload_n 0, 1) := by decide +kernel
theorem dJ6_bitCount_0f7a4_16 : decode cJ6_bitCount_0f7a4 16 = .ok (.iconst 2, 1) := by decide +kernel
theorem dJ6_bitCount_0f7a4_17 : decode cJ6_bitCount_0f7a4 17 = .ok (.iushr, 1) := by decide +kernel
theorem dJ6_bitCount_0f7a4_18 : decode cJ6_bitCount_0f7a4 18 = .ok (.ldc_w 266, 3) := by decide +kernel
theorem dJ6_bitCount_0f7a4_21 : decode cJ6_bitCount_0f7a4 21 = .ok (.iand, 1) := by decide +kernel
theorem dJ6_bitCount_0f7a4_22 : decode cJ6_bitCount_0f7a4 22 = .ok (.iadd, 1) := by decide +kernel
theorem dJ6_bitCount_0f7a4_23 : decode cJ6_bitCount_0f7a4 23 = .ok (.istore_n 0, 1) := by decide +kernel
theorem dJ6_bitCount_0f7a4_24 : decode cJ6_bitCount_0f7a4 24 = .ok (.iload_n 0, 1) := by decide +kernel
theorem dJ6_bitCount_0f7a4_25 : decode cJ6_bitCount_0f7a4 25 = .ok (.iload_n 0, 1) := by decide +kernel
theorem dJ6_bitCount_0f7a4_26 : decode cJ6_bitCount_0f7a4 26 = .ok (.iconst 4, 1) := by decide +kernel
theorem dJ6_bitCount_0f7a4_27 : decode cJ6_bitCount_0f7a4 27 = .ok (.iushr, 1) := by decide +kernel
theorem dJ6_bitCount_0f7a4_28 : decode cJ6_bitCount_0f7a4 28 = .ok (.iadd, 1) := by decide +kernel
theorem dJ6_bitCount_0f7a4_29 : decode cJ6_bitCount_0f7a4 29 = .ok (.ldc_w 267, 3) := by decide +kernel
theorem dJ6_bitCount_0f7a4_32 : decode cJ6_bitCount_0f7a4 32 = .ok (.iand, 1) := by decide +kernel
theorem dJ6_bitCount_0f7a4_33 : decode cJ6_bitCount_0f7a4 33 = .ok (.istore_n 0, 1) := by decide +kernel
theorem dJ6_bitCount_0f7a4_34 : decode cJ6_bitCount_0f7a4 34 = .ok (.iload_n 0, 1) := by decide +kernel
theorem dJ6_bitCount_0f7a4_35 : decode cJ6_bitCount_0f7a4 35 = .ok (.iload_n 0, 1) := by decide +kernel
theorem dJ6_bitCount_0f7a4_36 : decode cJ6_bitCount_0f7a4 36 = .ok (.bipush 8, 2) := by decide +kernel
theorem dJ6_bitCount_0f7a4_38 : decode cJ6_bitCount_0f7a4 38 = .ok (.iushr, 1) := by decide +kernel
theorem dJ6_bitCount_0f7a4_39 : decode cJ6_bitCount_0f7a4 39 = .ok (.iadd, 1) := by decide +kernel
theorem dJ6_bitCount_0f7a4_40 : decode cJ6_bitCount_0f7a4 40 = .ok (.istore_n 0, 1) := by decide +kernel
theorem dJ6_bitCount_0f7a4_41 : decode cJ6_bitCount_0f7a4 41 = .ok (.iload_n 0, 1) := by decide +kernel
theorem dJ6_bitCount_0f7a4_42 : decode cJ6_bitCount_0f7a4 42 = .ok (.iload_n 0, 1) := by decide +kernel
theorem dJ6_bitCount_0f7a4_43 : decode cJ6_bitCount_0f7a4 43 = .ok (.bipush 16, 2) := by decide +kernel
theorem dJ6_bitCount_0f7a4_45 : decode cJ6_bitCount_0f7a4 45 = .ok (.iushr, 1) := by decide +kernel
theorem dJ6_bitCount_0f7a4_46 : decode cJ6_bitCount_0f7a4 46 = .ok (.iadd, 1) := by decide +kernel
theorem dJ6_bitCount_0f7a4_47 : decode cJ6_bitCount_0f7a4 47 = .ok (.istore_n 0, 1) := by decide +kernel
theorem dJ6_bitCount_0f7a4_48 : decode cJ6_bitCount_0f7a4 48 = .ok (.iload_n 0, 1) := by decide +kernel
theorem dJ6_bitCount_0f7a4_49 : decode cJ6_bitCount_0f7a4 49 = .ok (.bipush 63, 2) := by decide +kernel
theorem dJ6_bitCount_0f7a4_51 : decode cJ6_bitCount_0f7a4 51 = .ok (.iand, 1) := by decide +kernel
theorem dJ6_bitCount_0f7a4_52 : decode cJ6_bitCount_0f7a4 52 = .ok (.ireturn, 1) := by decide +kernel
theorem dJ9_abs_0f7a4_0 : decode cJ9_abs_0f7a4 0 = .ok (.iload_n 0, 1) := by decide +kernel
theorem dJ9_abs_0f7a4_1 : decode cJ9_abs_0f7a4 1 = .ok (.ifCond .ge 8, 3) := by decide +kernel
theorem dJ9_abs_0f7a4_4 : decode cJ9_abs_0f7a4 4 = .ok (.iload_n 0, 1) := by decide +kernel
theorem dJ9_abs_0f7a4_5 : decode cJ9_abs_0f7a4 5 = .ok (.ineg, 1) := by decide +kernel
theorem dJ9_abs_0f7a4_6 : decode cJ9_abs_0f7a4 6 = .ok (.goto 4, 3) := by decide +kernel
theorem dJ9_abs_0f7a4_9 : decode cJ9_abs_0f7a4 9 = .ok (.iload_n 0, 1) := by decide +kernel
theorem dJ9_abs_0f7a4_10 : decode cJ9_abs_0f7a4 10 = .ok (.ireturn, 1) := by decide +kernel
theorem dJ9_max_7cf53_0 : decode cJ9_max_7cf53 0 = .ok (.iload_n 0, 1) := by decide +kernel
theorem dJ9_max_7cf53_1 : decode cJ9_max_7cf53 1 = .ok (.iload_n 1, 1) := by decide +kernel
theorem dJ9_max_7cf53_2 : decode cJ9_max_7cf53 2 = .ok (.if_icmp .lt 7, 3) := by decide +kernel
theorem dJ9_max_7cf53_5 : decode cJ9_max_7cf53 5 = .ok (.iload_n 0, 1) := by decide +kernel
theorem dJ9_max_7cf53_6 : decode cJ9_max_7cf53 6 = .ok (.goto 4, 3) := by decide +kernel
theorem dJ9_max_7cf53_9 : decode cJ9_max_7cf53 9 = .ok (.iload_n 1, 1) := by decide +kernel
theorem dJ9_max_7cf53_10 : decode cJ9_max_7cf53 10 = .ok (.ireturn, 1) := by decide +kernel
theorem dJ9_min_7cf53_0 : decode cJ9_min_7cf53 0 = .ok (.iload_n 0, 1) := by decide +kernel
theorem dJ9_min_7cf53_1 : decode cJ9_min_7cf53 1 = .ok (.iload_n 1, 1) := by decide +kernel
theorem dJ9_min_7cf53_2 : decode cJ9_min_7cf53 2 = .ok (.if_icmp .gt 7, 3) := by decide +kernel
theorem dJ9_min_7cf53_5 : decode cJ9_min_7cf53 5 = .ok (.iload_n 0, 1) := by decide +kernel
theorem dJ9_min_7cf53_6 : decode cJ9_min_7cf53 6 = .ok (.goto 4, 3) := by decide +kernel
theorem dJ9_min_7cf53_9 : decode cJ9_min_7cf53 9 = .ok (.iload_n 1, 1) := by decide +kernel
theorem dJ9_min_7cf53_10 : decode cJ9_min_7cf53 10 = .ok (.ireturn, 1) := by decide +kernel
set_option maxRecDepth 20000 in
theorem ggL_law_X8_init : GoodIn wsL_law wsX8_init := goodIn_r _ [8, 9, 10, 11, 12, 13, 14, 15, 16, 17, 18, 19, 20, 21, 22, 23, 24, 25, 26, 27, 28, 29, 30, 31, 32, 33, 34, 35, 36, 37, 38, 39, 40, 41, 42, 43, 44, 45, 46, 47, 48, 49, 50, 51, 52, 53, 54, 55, 56, 57, 58, 59, 60, 61, 62, 63, 64, 65, 66, 67, 68, 69, 70, 71, 72, 73, 74, 75, 76, 77, 78, 79, 80, 81, 82, 83, 84, 85, 86, 87, 88, 89, 90, 91, 92, 93, 94, 95, 96, 97, 98, 99, 100, 101, 102, 737, 738, 739, 740, 741, 742, 702, 703, 704, 705, 706, 743, 744, 745, 746, 747, 748, 749, 750, 751, 752, 753, 754, 755, 756, 757, 758, 759, 760, 761, 762, 763, 764, 765, 766, 767, 768, 769, 770, 771, 772, 773, 774, 775, 776, 777, 778, 779, 780] (by decide +kernel) (by decide +kernel)
set_option maxRecDepth 20000 in
theorem gL_law_X8_init : GoodIn wsL_law (wsX8_init) := ggL_law_X8_init
set_option maxRecDepth 20000 in
theorem ggL_law_X9_init : GoodIn wsL_law wsX9_init := goodIn_r _ [105, 106, 10, 11, 42, 107, 108, 109, 110, 111, 112, 113, 114, 115, 116, 117, 118, 119, 120, 121, 122, 123, 124, 707, 708, 709, 710, 711, 712, 713, 714, 715, 716, 717, 718, 719, 720, 721, 722, 723, 724, 725, 726, 727, 728, 729, 730, 731, 732, 733, 734, 735, 736] (by decide +kernel) (by decide +kernel)
set_option maxRecDepth 20000 in
theorem gL_law_X9_init : GoodIn wsL_law (wsX9_init) := ggL_law_X9_init
set_option maxRecDepth 20000 in
theorem ggL_law_X8_letter : GoodIn wsL_law wsX8_letter := goodIn_r _ [128, 18, 129, 130, 131, 132, 17, 133, 56, 55, 702, 703, 704, 705, 706, 741, 742] (by decide +kernel) (by decide +kernel)
set_option maxRecDepth 20000 in
theorem gL_law_X8_letter : GoodIn wsL_law (wsV RL 13 RX8 yX8_letter wsX8_letter) := goodIn_app (goodIn_of _ (by decide +kernel)) ggL_law_X8_letter
set_option maxRecDepth 20000 in
theorem ggL_law_X9_letter : GoodIn wsL_law wsX9_letter := goodIn_r _ [137, 138, 121, 139, 140, 5, 141, 707, 708, 709, 710, 711, 712, 713, 714, 715, 716, 717, 718, 719, 720, 721, 722, 723, 724, 725, 726, 727, 728, 729, 730, 731, 732, 733, 734, 735, 736] (by decide +kernel) (by decide +kernel)
set_option maxRecDepth 20000 in
theorem gL_law_X9_letter : GoodIn wsL_law (wsV RL 17 RX9 yX9_letter wsX9_letter) := goodIn_app (goodIn_of _ (by decide +kernel)) ggL_law_X9_letter
set_option maxRecDepth 20000 in
theorem ggL_law_X8_blank : GoodIn wsL_law wsX8_blank := goodIn_r _ [145, 18, 129, 702, 703, 704, 705, 706, 741, 742] (by decide +kernel) (by decide +kernel)
set_option maxRecDepth 20000 in
theorem gL_law_X8_blank : GoodIn wsL_law (wsV RL 18 RX8 yX8_blank wsX8_blank) := goodIn_app (goodIn_of _ (by decide +kernel)) ggL_law_X8_blank
set_option maxRecDepth 20000 in
theorem ggL_law_X9_blank : GoodIn wsL_law wsX9_blank := goodIn_r _ [149, 138, 707, 708, 709, 710, 711, 712, 713, 714, 715, 716, 717, 718, 719, 720, 721, 722, 723, 724, 725, 726, 727, 728, 729, 730, 731, 732, 733, 734, 735, 736] (by decide +kernel) (by decide +kernel)
set_option maxRecDepth 20000 in
theorem gL_law_X9_blank : GoodIn wsL_law (wsV RL 22 RX9 yX9_blank wsX9_blank) := goodIn_app (goodIn_of _ (by decide +kernel)) ggL_law_X9_blank
set_option maxRecDepth 20000 in
theorem ggL_law_X8_fault : GoodIn wsL_law wsX8_fault := goodIn_r _ [153, 18, 154, 155, 156, 17, 157, 56, 158, 159, 160, 161, 162, 163, 164, 165, 55, 166, 167, 168, 169, 170, 171, 172, 173, 174, 175, 176, 177, 178, 179, 180, 181, 702, 703, 704, 705, 706, 741, 742] (by decide +kernel) (by decide +kernel)
set_option maxRecDepth 20000 in
theorem gL_law_X8_fault : GoodIn wsL_law (wsV RL 23 RX8 yX8_fault wsX8_fault) := goodIn_app (goodIn_of _ (by decide +kernel)) ggL_law_X8_fault
set_option maxRecDepth 20000 in
theorem ggL_law_X9_fault : GoodIn wsL_law wsX9_fault := goodIn_r _ [185, 186, 187, 188, 5, 189, 123, 190, 191, 138, 121, 192, 193, 194, 195, 196, 197, 198, 199, 200, 122, 201, 202, 203, 139, 140, 141, 204, 205, 206, 207, 707, 708, 709, 710, 711, 712, 713, 714, 715, 716, 717, 718, 719, 720, 721, 722, 723, 724, 725, 726, 727, 728, 729, 730, 731, 732, 733, 734, 735, 736] (by decide +kernel) (by decide +kernel)
set_option maxRecDepth 20000 in
theorem gL_law_X9_fault : GoodIn wsL_law (wsV RL 26 RX9 yX9_fault wsX9_fault) := goodIn_app (goodIn_of _ (by decide +kernel)) ggL_law_X9_fault
set_option maxRecDepth 20000 in
theorem ggL_law_X8_line : GoodIn wsL_law wsX8_line := goodIn_r _ [211, 18, 19, 129, 212, 213, 214, 215, 17, 216, 56, 217, 155, 156, 157, 158, 159, 160, 161, 162, 163, 164, 165, 55, 166, 167, 168, 169, 170, 171, 172, 173, 174, 175, 176, 177, 178, 179, 180, 181, 218, 219, 220, 14, 221, 34, 222, 35, 36, 223, 37, 224, 225, 226, 227, 228, 229, 230, 231, 232, 233, 234, 235, 702, 703, 704, 705, 706, 741, 742, 737, 738, 739, 740, 763, 764, 765, 766, 767, 768, 769, 770] (by decide +kernel) (by decide +kernel)
set_option maxRecDepth 20000 in
theorem gL_law_X8_line : GoodIn wsL_law (wsV RL 27 RX8 yX8_line wsX8_line) := goodIn_app (goodIn_of _ (by decide +kernel)) ggL_law_X8_line
set_option maxRecDepth 20000 in
theorem ggL_law_X9_line : GoodIn wsL_law wsX9_line := goodIn_r _ [239, 138, 190, 191, 114, 122, 196, 115, 116, 123, 240, 186, 187, 188, 5, 189, 121, 192, 193, 194, 195, 197, 198, 199, 200, 201, 202, 203, 139, 140, 141, 204, 205, 206, 207, 707, 708, 709, 710, 711, 712, 713, 714, 715, 716, 717, 718, 719, 720, 721, 722, 723, 724, 725, 726, 727, 728, 729, 730, 731, 732, 733, 734, 735, 736] (by decide +kernel) (by decide +kernel)
set_option maxRecDepth 20000 in
theorem gL_law_X9_line : GoodIn wsL_law (wsV RL 30 RX9 yX9_line wsX9_line) := goodIn_app (goodIn_of _ (by decide +kernel)) ggL_law_X9_line
set_option maxRecDepth 20000 in
theorem ggL_law_X8_say : GoodIn wsL_law wsX8_say := goodIn_r _ [244, 245, 246, 18, 129, 247, 248, 249, 2, 250, 25, 26, 251, 163, 164, 17, 165, 56, 55, 252, 253, 254, 67, 255, 97, 95, 743, 744, 745, 746, 747, 748, 749, 750, 751, 752, 753, 754, 755, 756, 757, 758, 759, 760, 761, 762, 773, 774, 775, 776, 777, 778, 779, 780, 702, 703, 704, 705, 706, 741, 742] (by decide +kernel) (by decide +kernel)
set_option maxRecDepth 20000 in
theorem gL_law_X8_say : GoodIn wsL_law (wsV RL 31 RX8 yX8_say wsX8_say) := goodIn_app (goodIn_of _ (by decide +kernel)) ggL_law_X8_say
set_option maxRecDepth 20000 in
theorem ggL_law_X9_say : GoodIn wsL_law wsX9_say := goodIn_r _ [259, 138, 111, 121, 260, 261, 5, 262, 139, 140, 141, 263, 264, 265, 266, 107, 267, 268, 269, 270, 707, 708, 709, 710, 711, 712, 713, 714, 715, 716, 717, 718, 719, 720, 721, 722, 723, 724, 725, 726, 727, 728, 729, 730, 731, 732, 733, 734, 735, 736] (by decide +kernel) (by decide +kernel)
set_option maxRecDepth 20000 in
theorem gL_law_X9_say : GoodIn wsL_law (wsV RL 34 RX9 yX9_say wsX9_say) := goodIn_app (goodIn_of _ (by decide +kernel)) ggL_law_X9_say
set_option maxRecDepth 20000 in
theorem ggL_law_X8_echo : GoodIn wsL_law wsX8_echo := goodIn_r _ [274, 275, 276, 247, 248, 249, 2, 250, 25, 26, 743, 744, 745, 746, 747, 748, 749, 750, 751, 752, 753, 754, 755, 756, 757, 758, 759, 760, 761, 762, 771, 772, 702, 703, 704, 705, 706] (by decide +kernel) (by decide +kernel)
set_option maxRecDepth 20000 in
theorem gL_law_X8_echo : GoodIn wsL_law (wsV RL 35 RX8 yX8_echo wsX8_echo) := goodIn_app (goodIn_of _ (by decide +kernel)) ggL_law_X8_echo
set_option maxRecDepth 20000 in
theorem ggL_law_X9_echo : GoodIn wsL_law wsX9_echo := goodIn_r _ [280, 110, 260, 261, 5, 262, 139, 140, 141, 707, 708, 709, 710, 711, 712, 713, 714, 715, 716, 717, 718, 719, 720, 721, 722, 723, 724, 725, 726, 727, 728, 729, 730, 731, 732, 733, 734, 735, 736] (by decide +kernel) (by decide +kernel)
set_option maxRecDepth 20000 in
theorem gL_law_X9_echo : GoodIn wsL_law (wsV RL 39 RX9 yX9_echo wsX9_echo) := goodIn_app (goodIn_of _ (by decide +kernel)) ggL_law_X9_echo
set_option maxRecDepth 20000 in
theorem ggL_law_X8_call : GoodIn wsL_law wsX8_call := goodIn_r _ [284, 285, 247, 248, 249, 2, 250, 25, 26, 286, 287, 288, 22, 289, 70, 72, 743, 744, 745, 746, 747, 748, 749, 750, 751, 752, 753, 754, 755, 756, 757, 758, 759, 760, 761, 762, 702, 703, 704, 705, 706] (by decide +kernel) (by decide +kernel)
set_option maxRecDepth 20000 in
theorem gL_law_X8_call : GoodIn wsL_law (wsV RL 40 RX8 yX8_call wsX8_call) := goodIn_app (goodIn_of _ (by decide +kernel)) ggL_law_X8_call
set_option maxRecDepth 20000 in
theorem ggL_law_X9_call : GoodIn wsL_law wsX9_call := goodIn_r _ [293, 260, 261, 5, 262, 139, 140, 141, 263, 264, 265, 266, 107, 294, 295, 296, 297, 298, 299, 300, 301, 707, 708, 709, 710, 711, 712, 713, 714, 715, 716, 717, 718, 719, 720, 721, 722, 723, 724, 725, 726, 727, 728, 729, 730, 731, 732, 733, 734, 735, 736] (by decide +kernel) (by decide +kernel)
set_option maxRecDepth 20000 in
theorem gL_law_X9_call : GoodIn wsL_law (wsV RL 43 RX9 yX9_call wsX9_call) := goodIn_app (goodIn_of _ (by decide +kernel)) ggL_law_X9_call
set_option maxRecDepth 20000 in
theorem ggL_law_X8_hang : GoodIn wsL_law wsX8_hang := goodIn_r _ [305, 285, 247, 248, 249, 2, 250, 25, 26, 286, 287, 288, 22, 289, 70, 72, 743, 744, 745, 746, 747, 748, 749, 750, 751, 752, 753, 754, 755, 756, 757, 758, 759, 760, 761, 762, 702, 703, 704, 705, 706] (by decide +kernel) (by decide +kernel)
set_option maxRecDepth 20000 in
theorem gL_law_X8_hang : GoodIn wsL_law (wsV RL 44 RX8 yX8_hang wsX8_hang) := goodIn_app (goodIn_of _ (by decide +kernel)) ggL_law_X8_hang
set_option maxRecDepth 20000 in
theorem ggL_law_X9_hang : GoodIn wsL_law wsX9_hang := goodIn_r _ [309, 260, 261, 5, 262, 139, 140, 141, 263, 264, 265, 266, 107, 294, 295, 296, 297, 298, 299, 300, 301, 707, 708, 709, 710, 711, 712, 713, 714, 715, 716, 717, 718, 719, 720, 721, 722, 723, 724, 725, 726, 727, 728, 729, 730, 731, 732, 733, 734, 735, 736] (by decide +kernel) (by decide +kernel)
set_option maxRecDepth 20000 in
theorem gL_law_X9_hang : GoodIn wsL_law (wsV RL 47 RX9 yX9_hang wsX9_hang) := goodIn_app (goodIn_of _ (by decide +kernel)) ggL_law_X9_hang
set_option maxRecDepth 20000 in
theorem ggL_law_X8_go : GoodIn wsL_law wsX8_go := goodIn_r _ [313, 25, 27, 26, 314, 315, 316, 2, 317, 318, 319, 320, 321, 22, 322, 70, 71, 68, 323, 85, 73, 84, 324, 72, 325, 326, 327, 33, 328, 47, 51, 49, 48, 50, 44, 45, 329, 330, 331, 332, 81, 333, 334, 335, 336, 69, 64, 77, 78, 80, 337, 83, 338, 339, 340, 63, 341, 91, 342, 343, 344, 345, 346, 347, 348, 349, 350, 351, 352, 353, 354, 355, 356, 357, 358, 359, 360, 361, 362, 75, 363, 364, 365, 366, 367, 368, 369, 370, 74, 371, 372, 373, 374, 375, 376, 377, 378, 76, 379, 380, 381, 382, 383, 384, 385, 386, 387, 388, 389, 67, 390, 98, 96, 99, 391, 392, 393, 394, 395, 396, 397, 398, 399, 400, 401, 402, 403, 404, 405, 406, 407, 408, 409, 410, 411, 412, 413, 414, 79, 415, 416, 417, 418, 419, 90, 420, 421, 422, 423, 424, 425, 426, 427, 428, 429, 430, 82, 431, 432, 433, 434, 435, 436, 437, 438, 439, 440, 441, 86, 442, 443, 444, 445, 446, 447, 448, 449, 450, 451, 452, 453, 454, 455, 456, 457, 458, 459, 460, 461, 462, 463, 464, 465, 466, 97, 100, 467, 468, 469, 470, 471, 95, 102, 101, 472, 473, 474, 475, 702, 703, 704, 705, 706, 743, 744, 745, 746, 747, 748, 749, 750, 751, 752, 753, 754, 755, 756, 757, 758, 759, 760, 761, 762, 773, 774, 775, 776, 777, 778, 779, 780, 737, 738, 739, 740, 763, 764, 765, 766, 767, 768, 769, 770, 771, 772] (by decide +kernel) (by decide +kernel)
set_option maxRecDepth 20000 in
theorem gL_law_X8_go : GoodIn wsL_law (wsV RL 48 RX8 yX8_go wsX8_go) := goodIn_app (goodIn_of _ (by decide +kernel)) ggL_law_X8_go
set_option maxRecDepth 20000 in
theorem ggL_law_X9_go : GoodIn wsL_law wsX9_go := goodIn_r _ [479, 480, 481, 139, 140, 5, 141, 482, 483, 484, 485, 486, 487, 488, 489, 490, 117, 119, 116, 120, 113, 118, 124, 491, 492, 493, 494, 495, 496, 497, 498, 263, 264, 265, 266, 107, 267, 268, 269, 270, 499, 500, 501, 502, 108, 109, 294, 295, 296, 297, 298, 299, 300, 301, 503, 504, 505, 506, 507, 508, 509, 510, 511, 512, 513, 514, 515, 516, 517, 518, 114, 519, 520, 521, 522, 523, 524, 525, 526, 527, 528, 529, 530, 531, 532, 533, 534, 535, 536, 537, 538, 539, 540, 541, 542, 543, 112, 544, 545, 546, 547, 115, 548, 549, 550, 551, 110, 552, 553, 554, 555, 556, 557, 558, 559, 560, 561, 562, 563, 564, 565, 566, 567, 568, 569, 570, 571, 572, 573, 574, 575, 576, 577, 578, 579, 580, 581, 111, 582, 583, 584, 585, 707, 708, 709, 710, 711, 712, 713, 714, 715, 716, 717, 718, 719, 720, 721, 722, 723, 724, 725, 726, 727, 728, 729, 730, 731, 732, 733, 734, 735, 736] (by decide +kernel) (by decide +kernel)
set_option maxRecDepth 20000 in
theorem gL_law_X9_go : GoodIn wsL_law (wsV RL 51 RX9 yX9_go wsX9_go) := goodIn_app (goodIn_of _ (by decide +kernel)) ggL_law_X9_go
set_option maxRecDepth 20000 in
theorem ggL_law_X8_end : GoodIn wsL_law wsX8_end := goodIn_r _ [589, 247, 248, 249, 2, 250, 25, 26, 590, 591, 592, 22, 593, 70, 72, 74, 75, 76, 77, 68, 594, 337, 323, 462, 78, 79, 81, 82, 83, 80, 702, 703, 704, 705, 706, 743, 744, 745, 746, 747, 748, 749, 750, 751, 752, 753, 754, 755, 756, 757, 758, 759, 760, 761, 762, 773, 774, 775, 776, 777, 778, 779, 780] (by decide +kernel) (by decide +kernel)
set_option maxRecDepth 20000 in
theorem gL_law_X8_end : GoodIn wsL_law (wsV RL 52 RX8 yX8_end wsX8_end) := goodIn_app (goodIn_of _ (by decide +kernel)) ggL_law_X8_end
set_option maxRecDepth 20000 in
theorem ggL_law_X9_end : GoodIn wsL_law wsX9_end := goodIn_r _ [598, 260, 261, 5, 262, 139, 140, 141, 263, 264, 265, 266, 107, 707, 708, 709, 710, 711, 712, 713, 714, 715, 716, 717, 718, 719, 720, 721, 722, 723, 724, 725, 726, 727, 728, 729, 730, 731, 732, 733, 734, 735, 736] (by decide +kernel) (by decide +kernel)
set_option maxRecDepth 20000 in
theorem gL_law_X9_end : GoodIn wsL_law (wsV RL 56 RX9 yX9_end wsX9_end) := goodIn_app (goodIn_of _ (by decide +kernel)) ggL_law_X9_end
set_option maxRecDepth 20000 in
theorem ggL_law_X8_band : GoodIn wsL_law wsX8_band := goodIn_r _ [602, 603, 247, 248, 249, 2, 250, 25, 26, 743, 744, 745, 746, 747, 748, 749, 750, 751, 752, 753, 754, 755, 756, 757, 758, 759, 760, 761, 762, 702, 703, 704, 705, 706] (by decide +kernel) (by decide +kernel)
set_option maxRecDepth 20000 in
theorem gL_law_X8_band : GoodIn wsL_law (wsV RL 57 RX8 yX8_band wsX8_band) := goodIn_app (goodIn_of _ (by decide +kernel)) ggL_law_X8_band
set_option maxRecDepth 20000 in
theorem ggL_law_X9_band : GoodIn wsL_law wsX9_band := goodIn_r _ [607, 108, 260, 261, 5, 262, 139, 140, 141, 707, 708, 709, 710, 711, 712, 713, 714, 715, 716, 717, 718, 719, 720, 721, 722, 723, 724, 725, 726, 727, 728, 729, 730, 731, 732, 733, 734, 735, 736] (by decide +kernel) (by decide +kernel)
set_option maxRecDepth 20000 in
theorem gL_law_X9_band : GoodIn wsL_law (wsV RL 60 RX9 yX9_band wsX9_band) := goodIn_app (goodIn_of _ (by decide +kernel)) ggL_law_X9_band
set_option maxRecDepth 20000 in
theorem ggL_law_X8_learnt : GoodIn wsL_law wsX8_learnt := goodIn_r _ [611, 275, 612, 247, 248, 249, 2, 250, 25, 26, 743, 744, 745, 746, 747, 748, 749, 750, 751, 752, 753, 754, 755, 756, 757, 758, 759, 760, 761, 762, 771, 772, 702, 703, 704, 705, 706] (by decide +kernel) (by decide +kernel)
set_option maxRecDepth 20000 in
theorem gL_law_X8_learnt : GoodIn wsL_law (wsV RL 61 RX8 yX8_learnt wsX8_learnt) := goodIn_app (goodIn_of _ (by decide +kernel)) ggL_law_X8_learnt
set_option maxRecDepth 20000 in
theorem ggL_law_X9_learnt : GoodIn wsL_law wsX9_learnt := goodIn_r _ [616, 109, 260, 261, 5, 262, 139, 140, 141, 707, 708, 709, 710, 711, 712, 713, 714, 715, 716, 717, 718, 719, 720, 721, 722, 723, 724, 725, 726, 727, 728, 729, 730, 731, 732, 733, 734, 735, 736] (by decide +kernel) (by decide +kernel)
set_option maxRecDepth 20000 in
theorem gL_law_X9_learnt : GoodIn wsL_law (wsV RL 64 RX9 yX9_learnt wsX9_learnt) := goodIn_app (goodIn_of _ (by decide +kernel)) ggL_law_X9_learnt
set_option maxRecDepth 20000 in
theorem ggL_law_X8_got : GoodIn wsL_law wsX8_got := goodIn_r _ [620, 245, 621, 247, 248, 249, 2, 250, 25, 26, 622, 623, 624, 67, 625, 98, 96, 743, 744, 745, 746, 747, 748, 749, 750, 751, 752, 753, 754, 755, 756, 757, 758, 759, 760, 761, 762, 773, 774, 775, 776, 777, 778, 779, 780, 702, 703, 704, 705, 706] (by decide +kernel) (by decide +kernel)
set_option maxRecDepth 20000 in
theorem gL_law_X8_got : GoodIn wsL_law (wsV RL 65 RX8 yX8_got wsX8_got) := goodIn_app (goodIn_of _ (by decide +kernel)) ggL_law_X8_got
set_option maxRecDepth 20000 in
theorem ggL_law_X9_got : GoodIn wsL_law wsX9_got := goodIn_r _ [629, 112, 260, 261, 5, 262, 139, 140, 141, 263, 264, 265, 266, 107, 707, 708, 709, 710, 711, 712, 713, 714, 715, 716, 717, 718, 719, 720, 721, 722, 723, 724, 725, 726, 727, 728, 729, 730, 731, 732, 733, 734, 735, 736] (by decide +kernel) (by decide +kernel)
set_option maxRecDepth 20000 in
theorem gL_law_X9_got : GoodIn wsL_law (wsV RL 68 RX9 yX9_got wsX9_got) := goodIn_app (goodIn_of _ (by decide +kernel)) ggL_law_X9_got
set_option maxRecDepth 20000 in
theorem ggL_law_X8_heard : GoodIn wsL_law wsX8_heard := goodIn_r _ [633, 634, 635, 247, 248, 249, 2, 250, 25, 26, 743, 744, 745, 746, 747, 748, 749, 750, 751, 752, 753, 754, 755, 756, 757, 758, 759, 760, 761, 762, 763, 764, 765, 766, 767, 768, 769, 770, 702, 703, 704, 705, 706] (by decide +kernel) (by decide +kernel)
set_option maxRecDepth 20000 in
theorem gL_law_X8_heard : GoodIn wsL_law (wsV RL 69 RX8 yX8_heard wsX8_heard) := goodIn_app (goodIn_of _ (by decide +kernel)) ggL_law_X8_heard
set_option maxRecDepth 20000 in
theorem ggL_law_X9_heard : GoodIn wsL_law wsX9_heard := goodIn_r _ [639, 113, 260, 261, 5, 262, 139, 140, 141, 707, 708, 709, 710, 711, 712, 713, 714, 715, 716, 717, 718, 719, 720, 721, 722, 723, 724, 725, 726, 727, 728, 729, 730, 731, 732, 733, 734, 735, 736] (by decide +kernel) (by decide +kernel)
set_option maxRecDepth 20000 in
theorem gL_law_X9_heard : GoodIn wsL_law (wsV RL 72 RX9 yX9_heard wsX9_heard) := goodIn_app (goodIn_of _ (by decide +kernel)) ggL_law_X9_heard
set_option maxRecDepth 20000 in
theorem ggL_law_X8_about : GoodIn wsL_law wsX8_about := goodIn_r _ [643, 19, 24, 644, 23, 212, 645, 646, 702, 703, 704, 705, 706, 737, 738, 739, 740, 763, 764, 765, 766, 767, 768, 769, 770] (by decide +kernel) (by decide +kernel)
set_option maxRecDepth 20000 in
theorem gL_law_X8_about : GoodIn wsL_law (wsV RL 73 RX8 yX8_about wsX8_about) := goodIn_app (goodIn_of _ (by decide +kernel)) ggL_law_X8_about
set_option maxRecDepth 20000 in
theorem ggL_law_X9_about : GoodIn wsL_law wsX9_about := goodIn_r _ [650, 139, 140, 5, 141, 651, 652, 653, 654, 115, 116, 114, 655, 656, 657, 658, 117, 707, 708, 709, 710, 711, 712, 713, 714, 715, 716, 717, 718, 719, 720, 721, 722, 723, 724, 725, 726, 727, 728, 729, 730, 731, 732, 733, 734, 735, 736] (by decide +kernel) (by decide +kernel)
set_option maxRecDepth 20000 in
theorem gL_law_X9_about : GoodIn wsL_law (wsV RL 76 RX9 yX9_about wsX9_about) := goodIn_app (goodIn_of _ (by decide +kernel)) ggL_law_X9_about
set_option maxRecDepth 20000 in
theorem ggL_law_X8_count : GoodIn wsL_law wsX8_count := goodIn_r _ [662, 18, 129, 27, 19, 24, 663, 23, 664, 665, 25, 245, 666, 26, 314, 315, 316, 2, 317, 318, 702, 703, 704, 705, 706, 741, 742, 737, 738, 739, 740, 763, 764, 765, 766, 767, 768, 769, 770, 743, 744, 745, 746, 747, 748, 749, 750, 751, 752, 753, 754, 755, 756, 757, 758, 759, 760, 761, 762, 773, 774, 775, 776, 777, 778, 779, 780] (by decide +kernel) (by decide +kernel)
set_option maxRecDepth 20000 in
theorem gL_law_X8_count : GoodIn wsL_law (wsV RL 77 RX8 yX8_count wsX8_count) := goodIn_app (goodIn_of _ (by decide +kernel)) ggL_law_X8_count
set_option maxRecDepth 20000 in
theorem ggL_law_X9_count : GoodIn wsL_law wsX9_count := goodIn_r _ [670, 671, 672, 673, 5, 674, 138, 481, 119, 120, 480, 240, 582, 707, 708, 709, 710, 711, 712, 713, 714, 715, 716, 717, 718, 719, 720, 721, 722, 723, 724, 725, 726, 727, 728, 729, 730, 731, 732, 733, 734, 735, 736] (by decide +kernel) (by decide +kernel)
set_option maxRecDepth 20000 in
theorem gL_law_X9_count : GoodIn wsL_law (wsV RL 80 RX9 yX9_count wsX9_count) := goodIn_app (goodIn_of _ (by decide +kernel)) ggL_law_X9_count
set_option maxRecDepth 20000 in
theorem ggL_law_X8_digest : GoodIn wsL_law wsX8_digest := goodIn_r _ [678, 679, 680, 18, 129, 681, 682, 683, 2, 684, 603, 275, 612, 276, 634, 635, 245, 621, 247, 248, 249, 250, 25, 26, 590, 591, 592, 22, 593, 70, 72, 74, 75, 76, 77, 68, 594, 337, 323, 462, 78, 79, 81, 82, 83, 80, 622, 623, 624, 67, 625, 98, 96, 685, 641, 642, 643, 19, 24, 644, 23, 212, 645, 646, 251, 163, 164, 17, 165, 56, 55, 686, 660, 661, 662, 27, 663, 664, 665, 666, 314, 315, 316, 317, 318, 702, 703, 704, 705, 706, 741, 742, 743, 744, 745, 746, 747, 748, 749, 750, 751, 752, 753, 754, 755, 756, 757, 758, 759, 760, 761, 762, 771, 772, 763, 764, 765, 766, 767, 768, 769, 770, 773, 774, 775, 776, 777, 778, 779, 780, 737, 738, 739, 740] (by decide +kernel) (by decide +kernel)
set_option maxRecDepth 20000 in
theorem gL_law_X8_digest : GoodIn wsL_law (wsV RL 81 RX8 yX8_digest wsX8_digest) := goodIn_app (goodIn_of _ (by decide +kernel)) ggL_law_X8_digest
set_option maxRecDepth 20000 in
theorem ggL_law_X9_digest : GoodIn wsL_law wsX9_digest := goodIn_r _ [690, 691, 692, 138, 121, 693, 694, 695, 5, 696, 108, 109, 110, 113, 112, 263, 264, 265, 266, 107, 697, 698, 699, 700, 701, 139, 140, 141, 651, 652, 653, 654, 115, 116, 114, 655, 656, 657, 658, 117, 671, 672, 673, 674, 481, 119, 120, 480, 240, 582, 707, 708, 709, 710, 711, 712, 713, 714, 715, 716, 717, 718, 719, 720, 721, 722, 723, 724, 725, 726, 727, 728, 729, 730, 731, 732, 733, 734, 735, 736] (by decide +kernel) (by decide +kernel)
set_option maxRecDepth 20000 in
theorem gL_law_X9_digest : GoodIn wsL_law (wsV RL 85 RX9 yX9_digest wsX9_digest) := goodIn_app (goodIn_of _ (by decide +kernel)) ggL_law_X9_digest
theorem dL_law_0 : decode cL_law 0 = .ok (.new 7, 3) := by decide +kernel
theorem dL_law_3 : decode cL_law 3 = .ok (.dup, 1) := by decide +kernel
theorem dL_law_4 : decode cL_law 4 = .ok (.invokespecial 9, 3) := by decide +kernel
theorem dL_law_7 : decode cL_law 7 = .ok (.astore_n 1, 1) := by decide +kernel
theorem dL_law_8 : decode cL_law 8 = .ok (.new 10, 3) := by decide +kernel
theorem dL_law_11 : decode cL_law 11 = .ok (.dup, 1) := by decide +kernel
theorem dL_law_12 : decode cL_law 12 = .ok (.invokespecial 12, 3) := by decide +kernel
theorem dL_law_15 : decode cL_law 15 = .ok (.astore_n 2, 1) := by decide +kernel
theorem dL_law_16 : decode cL_law 16 = .ok (.iconst 0, 1) := by decide +kernel
theorem dL_law_17 : decode cL_law 17 = .ok (.istore_n 3, 1) := by decide +kernel
theorem dL_law_18 : decode cL_law 18 = .ok (.iload_n 3, 1) := by decide +kernel
theorem dL_law_19 : decode cL_law 19 = .ok (.aload_n 0, 1) := by decide +kernel
theorem dL_law_20 : decode cL_law 20 = .ok (.arraylength, 1) := by decide +kernel
theorem dL_law_21 : decode cL_law 21 = .ok (.iconst 4, 1) := by decide +kernel
theorem dL_law_22 : decode cL_law 22 = .ok (.isub, 1) := by decide +kernel
theorem dL_law_23 : decode cL_law 23 = .ok (.if_icmp .gt 521, 3) := by decide +kernel
theorem dL_law_26 : decode cL_law 26 = .ok (.aload_n 0, 1) := by decide +kernel
theorem dL_law_27 : decode cL_law 27 = .ok (.iload_n 3, 1) := by decide +kernel
theorem dL_law_28 : decode cL_law 28 = .ok (.iaload, 1) := by decide +kernel
theorem dL_law_29 : decode cL_law 29 = .ok (.bipush 31, 2) := by decide +kernel
theorem dL_law_31 : decode cL_law 31 = .ok (.iand, 1) := by decide +kernel
theorem dL_law_32 : decode cL_law 32 = .ok (.tableswitch 506 0 16 #[84, 107, 120, 133, 146, 169, 212, 235, 258, 281, 314, 347, 380, 413, 446, 469, 492], 84) := by decide +kernel
theorem dL_law_116 : decode cL_law 116 = .ok (.aload_n 1, 1) := by decide +kernel
theorem dL_law_117 : decode cL_law 117 = .ok (.aload_n 0, 1) := by decide +kernel
theorem dL_law_118 : decode cL_law 118 = .ok (.iload_n 3, 1) := by decide +kernel
theorem dL_law_119 : decode cL_law 119 = .ok (.iconst 1, 1) := by decide +kernel
theorem dL_law_120 : decode cL_law 120 = .ok (.iadd, 1) := by decide +kernel
theorem dL_law_121 : decode cL_law 121 = .ok (.iaload, 1) := by decide +kernel
theorem dL_law_122 : decode cL_law 122 = .ok (.invokevirtual 13, 3) := by decide +kernel
theorem dL_law_125 : decode cL_law 125 = .ok (.aload_n 2, 1) := by decide +kernel
theorem dL_law_126 : decode cL_law 126 = .ok (.aload_n 0, 1) := by decide +kernel
theorem dL_law_127 : decode cL_law 127 = .ok (.iload_n 3, 1) := by decide +kernel
theorem dL_law_128 : decode cL_law 128 = .ok (.iconst 1, 1) := by decide +kernel
theorem dL_law_129 : decode cL_law 129 = .ok (.iadd, 1) := by decide +kernel
theorem dL_law_130 : decode cL_law 130 = .ok (.iaload, 1) := by decide +kernel
theorem dL_law_131 : decode cL_law 131 = .ok (.invokevirtual 17, 3) := by decide +kernel
theorem dL_law_134 : decode cL_law 134 = .ok (.if_icmp .eq 404, 3) := by decide +kernel
theorem dL_law_137 : decode cL_law 137 = .ok (.iconst 0, 1) := by decide +kernel
theorem dL_law_138 : decode cL_law 138 = .ok (.ireturn, 1) := by decide +kernel
theorem dL_law_139 : decode cL_law 139 = .ok (.aload_n 1, 1) := by decide +kernel
theorem dL_law_140 : decode cL_law 140 = .ok (.invokevirtual 18, 3) := by decide +kernel
theorem dL_law_143 : decode cL_law 143 = .ok (.aload_n 2, 1) := by decide +kernel
theorem dL_law_144 : decode cL_law 144 = .ok (.invokevirtual 22, 3) := by decide +kernel
theorem dL_law_147 : decode cL_law 147 = .ok (.if_icmp .eq 391, 3) := by decide +kernel
theorem dL_law_150 : decode cL_law 150 = .ok (.iconst 0, 1) := by decide +kernel
theorem dL_law_151 : decode cL_law 151 = .ok (.ireturn, 1) := by decide +kernel
theorem dL_law_152 : decode cL_law 152 = .ok (.aload_n 1, 1) := by decide +kernel
theorem dL_law_153 : decode cL_law 153 = .ok (.invokevirtual 23, 3) := by decide +kernel
theorem dL_law_156 : decode cL_law 156 = .ok (.aload_n 2, 1) := by decide +kernel
theorem dL_law_157 : decode cL_law 157 = .ok (.invokevirtual 26, 3) := by decide +kernel
theorem dL_law_160 : decode cL_law 160 = .ok (.if_icmp .eq 378, 3) := by decide +kernel
theorem dL_law_163 : decode cL_law 163 = .ok (.iconst 0, 1) := by decide +kernel
theorem dL_law_164 : decode cL_law 164 = .ok (.ireturn, 1) := by decide +kernel
theorem dL_law_165 : decode cL_law 165 = .ok (.aload_n 1, 1) := by decide +kernel
theorem dL_law_166 : decode cL_law 166 = .ok (.invokevirtual 27, 3) := by decide +kernel
theorem dL_law_169 : decode cL_law 169 = .ok (.aload_n 2, 1) := by decide +kernel
theorem dL_law_170 : decode cL_law 170 = .ok (.invokevirtual 30, 3) := by decide +kernel
theorem dL_law_173 : decode cL_law 173 = .ok (.if_icmp .eq 365, 3) := by decide +kernel
theorem dL_law_176 : decode cL_law 176 = .ok (.iconst 0, 1) := by decide +kernel
theorem dL_law_177 : decode cL_law 177 = .ok (.ireturn, 1) := by decide +kernel
theorem dL_law_178 : decode cL_law 178 = .ok (.aload_n 1, 1) := by decide +kernel
theorem dL_law_179 : decode cL_law 179 = .ok (.aload_n 0, 1) := by decide +kernel
theorem dL_law_180 : decode cL_law 180 = .ok (.iload_n 3, 1) := by decide +kernel
theorem dL_law_181 : decode cL_law 181 = .ok (.iconst 1, 1) := by decide +kernel
theorem dL_law_182 : decode cL_law 182 = .ok (.iadd, 1) := by decide +kernel
theorem dL_law_183 : decode cL_law 183 = .ok (.iaload, 1) := by decide +kernel
theorem dL_law_184 : decode cL_law 184 = .ok (.invokevirtual 31, 3) := by decide +kernel
theorem dL_law_187 : decode cL_law 187 = .ok (.aload_n 2, 1) := by decide +kernel
theorem dL_law_188 : decode cL_law 188 = .ok (.aload_n 0, 1) := by decide +kernel
theorem dL_law_189 : decode cL_law 189 = .ok (.iload_n 3, 1) := by decide +kernel
theorem dL_law_190 : decode cL_law 190 = .ok (.iconst 1, 1) := by decide +kernel
theorem dL_law_191 : decode cL_law 191 = .ok (.iadd, 1) := by decide +kernel
theorem dL_law_192 : decode cL_law 192 = .ok (.iaload, 1) := by decide +kernel
theorem dL_law_193 : decode cL_law 193 = .ok (.invokevirtual 34, 3) := by decide +kernel
theorem dL_law_196 : decode cL_law 196 = .ok (.if_icmp .eq 342, 3) := by decide +kernel
theorem dL_law_199 : decode cL_law 199 = .ok (.iconst 0, 1) := by decide +kernel
theorem dL_law_200 : decode cL_law 200 = .ok (.ireturn, 1) := by decide +kernel
theorem dL_law_201 : decode cL_law 201 = .ok (.aload_n 1, 1) := by decide +kernel
theorem dL_law_202 : decode cL_law 202 = .ok (.aload_n 0, 1) := by decide +kernel
theorem dL_law_203 : decode cL_law 203 = .ok (.iload_n 3, 1) := by decide +kernel
theorem dL_law_204 : decode cL_law 204 = .ok (.iconst 1, 1) := by decide +kernel
theorem dL_law_205 : decode cL_law 205 = .ok (.iadd, 1) := by decide +kernel
theorem dL_law_206 : decode cL_law 206 = .ok (.iaload, 1) := by decide +kernel
theorem dL_law_207 : decode cL_law 207 = .ok (.aload_n 0, 1) := by decide +kernel
theorem dL_law_208 : decode cL_law 208 = .ok (.iload_n 3, 1) := by decide +kernel
theorem dL_law_209 : decode cL_law 209 = .ok (.iconst 2, 1) := by decide +kernel
theorem dL_law_210 : decode cL_law 210 = .ok (.iadd, 1) := by decide +kernel
theorem dL_law_211 : decode cL_law 211 = .ok (.iaload, 1) := by decide +kernel
theorem dL_law_212 : decode cL_law 212 = .ok (.aload_n 0, 1) := by decide +kernel
theorem dL_law_213 : decode cL_law 213 = .ok (.iload_n 3, 1) := by decide +kernel
theorem dL_law_214 : decode cL_law 214 = .ok (.iconst 3, 1) := by decide +kernel
theorem dL_law_215 : decode cL_law 215 = .ok (.iadd, 1) := by decide +kernel
theorem dL_law_216 : decode cL_law 216 = .ok (.iaload, 1) := by decide +kernel
theorem dL_law_217 : decode cL_law 217 = .ok (.invokevirtual 35, 3) := by decide +kernel
theorem dL_law_220 : decode cL_law 220 = .ok (.aload_n 2, 1) := by decide +kernel
theorem dL_law_221 : decode cL_law 221 = .ok (.aload_n 0, 1) := by decide +kernel
theorem dL_law_222 : decode cL_law 222 = .ok (.iload_n 3, 1) := by decide +kernel
theorem dL_law_223 : decode cL_law 223 = .ok (.iconst 1, 1) := by decide +kernel
theorem dL_law_224 : decode cL_law 224 = .ok (.iadd, 1) := by decide +kernel
theorem dL_law_225 : decode cL_law 225 = .ok (.iaload, 1) := by decide +kernel
theorem dL_law_226 : decode cL_law 226 = .ok (.aload_n 0, 1) := by decide +kernel
theorem dL_law_227 : decode cL_law 227 = .ok (.iload_n 3, 1) := by decide +kernel
theorem dL_law_228 : decode cL_law 228 = .ok (.iconst 2, 1) := by decide +kernel
theorem dL_law_229 : decode cL_law 229 = .ok (.iadd, 1) := by decide +kernel
theorem dL_law_230 : decode cL_law 230 = .ok (.iaload, 1) := by decide +kernel
theorem dL_law_231 : decode cL_law 231 = .ok (.aload_n 0, 1) := by decide +kernel
theorem dL_law_232 : decode cL_law 232 = .ok (.iload_n 3, 1) := by decide +kernel
theorem dL_law_233 : decode cL_law 233 = .ok (.iconst 3, 1) := by decide +kernel
theorem dL_law_234 : decode cL_law 234 = .ok (.iadd, 1) := by decide +kernel
theorem dL_law_235 : decode cL_law 235 = .ok (.iaload, 1) := by decide +kernel
theorem dL_law_236 : decode cL_law 236 = .ok (.invokevirtual 39, 3) := by decide +kernel
theorem dL_law_239 : decode cL_law 239 = .ok (.if_icmp .eq 299, 3) := by decide +kernel
theorem dL_law_242 : decode cL_law 242 = .ok (.iconst 0, 1) := by decide +kernel
theorem dL_law_243 : decode cL_law 243 = .ok (.ireturn, 1) := by decide +kernel
theorem dL_law_244 : decode cL_law 244 = .ok (.aload_n 1, 1) := by decide +kernel
theorem dL_law_245 : decode cL_law 245 = .ok (.aload_n 0, 1) := by decide +kernel
theorem dL_law_246 : decode cL_law 246 = .ok (.iload_n 3, 1) := by decide +kernel
theorem dL_law_247 : decode cL_law 247 = .ok (.iconst 1, 1) := by decide +kernel
theorem dL_law_248 : decode cL_law 248 = .ok (.iadd, 1) := by decide +kernel
theorem dL_law_249 : decode cL_law 249 = .ok (.iaload, 1) := by decide +kernel
theorem dL_law_250 : decode cL_law 250 = .ok (.invokevirtual 40, 3) := by decide +kernel
theorem dL_law_253 : decode cL_law 253 = .ok (.aload_n 2, 1) := by decide +kernel
theorem dL_law_254 : decode cL_law 254 = .ok (.aload_n 0, 1) := by decide +kernel
theorem dL_law_255 : decode cL_law 255 = .ok (.iload_n 3, 1) := by decide +kernel
theorem dL_law_256 : decode cL_law 256 = .ok (.iconst 1, 1) := by decide +kernel
theorem dL_law_257 : decode cL_law 257 = .ok (.iadd, 1) := by decide +kernel
theorem dL_law_258 : decode cL_law 258 = .ok (.iaload, 1) := by decide +kernel
theorem dL_law_259 : decode cL_law 259 = .ok (.invokevirtual 43, 3) := by decide +kernel
theorem dL_law_262 : decode cL_law 262 = .ok (.if_icmp .eq 276, 3) := by decide +kernel
theorem dL_law_265 : decode cL_law 265 = .ok (.iconst 0, 1) := by decide +kernel
theorem dL_law_266 : decode cL_law 266 = .ok (.ireturn, 1) := by decide +kernel
theorem dL_law_267 : decode cL_law 267 = .ok (.aload_n 1, 1) := by decide +kernel
theorem dL_law_268 : decode cL_law 268 = .ok (.aload_n 0, 1) := by decide +kernel
theorem dL_law_269 : decode cL_law 269 = .ok (.iload_n 3, 1) := by decide +kernel
theorem dL_law_270 : decode cL_law 270 = .ok (.iconst 1, 1) := by decide +kernel
theorem dL_law_271 : decode cL_law 271 = .ok (.iadd, 1) := by decide +kernel
theorem dL_law_272 : decode cL_law 272 = .ok (.iaload, 1) := by decide +kernel
theorem dL_law_273 : decode cL_law 273 = .ok (.invokevirtual 44, 3) := by decide +kernel
theorem dL_law_276 : decode cL_law 276 = .ok (.aload_n 2, 1) := by decide +kernel
theorem dL_law_277 : decode cL_law 277 = .ok (.aload_n 0, 1) := by decide +kernel
theorem dL_law_278 : decode cL_law 278 = .ok (.iload_n 3, 1) := by decide +kernel
theorem dL_law_279 : decode cL_law 279 = .ok (.iconst 1, 1) := by decide +kernel
theorem dL_law_280 : decode cL_law 280 = .ok (.iadd, 1) := by decide +kernel
theorem dL_law_281 : decode cL_law 281 = .ok (.iaload, 1) := by decide +kernel
theorem dL_law_282 : decode cL_law 282 = .ok (.invokevirtual 47, 3) := by decide +kernel
theorem dL_law_285 : decode cL_law 285 = .ok (.if_icmp .eq 253, 3) := by decide +kernel
theorem dL_law_288 : decode cL_law 288 = .ok (.iconst 0, 1) := by decide +kernel
theorem dL_law_289 : decode cL_law 289 = .ok (.ireturn, 1) := by decide +kernel
theorem dL_law_290 : decode cL_law 290 = .ok (.aload_n 1, 1) := by decide +kernel
theorem dL_law_291 : decode cL_law 291 = .ok (.aload_n 0, 1) := by decide +kernel
theorem dL_law_292 : decode cL_law 292 = .ok (.iload_n 3, 1) := by decide +kernel
theorem dL_law_293 : decode cL_law 293 = .ok (.iconst 1, 1) := by decide +kernel
theorem dL_law_294 : decode cL_law 294 = .ok (.iadd, 1) := by decide +kernel
theorem dL_law_295 : decode cL_law 295 = .ok (.iaload, 1) := by decide +kernel
theorem dL_law_296 : decode cL_law 296 = .ok (.invokevirtual 48, 3) := by decide +kernel
theorem dL_law_299 : decode cL_law 299 = .ok (.aload_n 2, 1) := by decide +kernel
theorem dL_law_300 : decode cL_law 300 = .ok (.aload_n 0, 1) := by decide +kernel
theorem dL_law_301 : decode cL_law 301 = .ok (.iload_n 3, 1) := by decide +kernel
theorem dL_law_302 : decode cL_law 302 = .ok (.iconst 1, 1) := by decide +kernel
theorem dL_law_303 : decode cL_law 303 = .ok (.iadd, 1) := by decide +kernel
theorem dL_law_304 : decode cL_law 304 = .ok (.iaload, 1) := by decide +kernel
theorem dL_law_305 : decode cL_law 305 = .ok (.invokevirtual 51, 3) := by decide +kernel
theorem dL_law_308 : decode cL_law 308 = .ok (.if_icmp .eq 230, 3) := by decide +kernel
theorem dL_law_311 : decode cL_law 311 = .ok (.iconst 0, 1) := by decide +kernel
theorem dL_law_312 : decode cL_law 312 = .ok (.ireturn, 1) := by decide +kernel
theorem dL_law_313 : decode cL_law 313 = .ok (.aload_n 1, 1) := by decide +kernel
theorem dL_law_314 : decode cL_law 314 = .ok (.aload_n 0, 1) := by decide +kernel
theorem dL_law_315 : decode cL_law 315 = .ok (.iload_n 3, 1) := by decide +kernel
theorem dL_law_316 : decode cL_law 316 = .ok (.iconst 1, 1) := by decide +kernel
theorem dL_law_317 : decode cL_law 317 = .ok (.iadd, 1) := by decide +kernel
theorem dL_law_318 : decode cL_law 318 = .ok (.iaload, 1) := by decide +kernel
theorem dL_law_319 : decode cL_law 319 = .ok (.aload_n 0, 1) := by decide +kernel
theorem dL_law_320 : decode cL_law 320 = .ok (.iload_n 3, 1) := by decide +kernel
theorem dL_law_321 : decode cL_law 321 = .ok (.iconst 2, 1) := by decide +kernel
theorem dL_law_322 : decode cL_law 322 = .ok (.iadd, 1) := by decide +kernel
theorem dL_law_323 : decode cL_law 323 = .ok (.iaload, 1) := by decide +kernel
theorem dL_law_324 : decode cL_law 324 = .ok (.invokevirtual 52, 3) := by decide +kernel
theorem dL_law_327 : decode cL_law 327 = .ok (.aload_n 2, 1) := by decide +kernel
theorem dL_law_328 : decode cL_law 328 = .ok (.aload_n 0, 1) := by decide +kernel
theorem dL_law_329 : decode cL_law 329 = .ok (.iload_n 3, 1) := by decide +kernel
theorem dL_law_330 : decode cL_law 330 = .ok (.iconst 1, 1) := by decide +kernel
theorem dL_law_331 : decode cL_law 331 = .ok (.iadd, 1) := by decide +kernel
theorem dL_law_332 : decode cL_law 332 = .ok (.iaload, 1) := by decide +kernel
theorem dL_law_333 : decode cL_law 333 = .ok (.aload_n 0, 1) := by decide +kernel
theorem dL_law_334 : decode cL_law 334 = .ok (.iload_n 3, 1) := by decide +kernel
theorem dL_law_335 : decode cL_law 335 = .ok (.iconst 2, 1) := by decide +kernel
theorem dL_law_336 : decode cL_law 336 = .ok (.iadd, 1) := by decide +kernel
theorem dL_law_337 : decode cL_law 337 = .ok (.iaload, 1) := by decide +kernel
theorem dL_law_338 : decode cL_law 338 = .ok (.invokevirtual 56, 3) := by decide +kernel
theorem dL_law_341 : decode cL_law 341 = .ok (.if_icmp .eq 197, 3) := by decide +kernel
theorem dL_law_344 : decode cL_law 344 = .ok (.iconst 0, 1) := by decide +kernel
theorem dL_law_345 : decode cL_law 345 = .ok (.ireturn, 1) := by decide +kernel
theorem dL_law_346 : decode cL_law 346 = .ok (.aload_n 1, 1) := by decide +kernel
theorem dL_law_347 : decode cL_law 347 = .ok (.aload_n 0, 1) := by decide +kernel
theorem dL_law_348 : decode cL_law 348 = .ok (.iload_n 3, 1) := by decide +kernel
theorem dL_law_349 : decode cL_law 349 = .ok (.iconst 1, 1) := by decide +kernel
theorem dL_law_350 : decode cL_law 350 = .ok (.iadd, 1) := by decide +kernel
theorem dL_law_351 : decode cL_law 351 = .ok (.iaload, 1) := by decide +kernel
theorem dL_law_352 : decode cL_law 352 = .ok (.aload_n 0, 1) := by decide +kernel
theorem dL_law_353 : decode cL_law 353 = .ok (.iload_n 3, 1) := by decide +kernel
theorem dL_law_354 : decode cL_law 354 = .ok (.iconst 2, 1) := by decide +kernel
theorem dL_law_355 : decode cL_law 355 = .ok (.iadd, 1) := by decide +kernel
theorem dL_law_356 : decode cL_law 356 = .ok (.iaload, 1) := by decide +kernel
theorem dL_law_357 : decode cL_law 357 = .ok (.invokevirtual 57, 3) := by decide +kernel
theorem dL_law_360 : decode cL_law 360 = .ok (.aload_n 2, 1) := by decide +kernel
theorem dL_law_361 : decode cL_law 361 = .ok (.aload_n 0, 1) := by decide +kernel
theorem dL_law_362 : decode cL_law 362 = .ok (.iload_n 3, 1) := by decide +kernel
theorem dL_law_363 : decode cL_law 363 = .ok (.iconst 1, 1) := by decide +kernel
theorem dL_law_364 : decode cL_law 364 = .ok (.iadd, 1) := by decide +kernel
theorem dL_law_365 : decode cL_law 365 = .ok (.iaload, 1) := by decide +kernel
theorem dL_law_366 : decode cL_law 366 = .ok (.aload_n 0, 1) := by decide +kernel
theorem dL_law_367 : decode cL_law 367 = .ok (.iload_n 3, 1) := by decide +kernel
theorem dL_law_368 : decode cL_law 368 = .ok (.iconst 2, 1) := by decide +kernel
theorem dL_law_369 : decode cL_law 369 = .ok (.iadd, 1) := by decide +kernel
theorem dL_law_370 : decode cL_law 370 = .ok (.iaload, 1) := by decide +kernel
theorem dL_law_371 : decode cL_law 371 = .ok (.invokevirtual 60, 3) := by decide +kernel
theorem dL_law_374 : decode cL_law 374 = .ok (.if_icmp .eq 164, 3) := by decide +kernel
theorem dL_law_377 : decode cL_law 377 = .ok (.iconst 0, 1) := by decide +kernel
theorem dL_law_378 : decode cL_law 378 = .ok (.ireturn, 1) := by decide +kernel
theorem dL_law_379 : decode cL_law 379 = .ok (.aload_n 1, 1) := by decide +kernel
theorem dL_law_380 : decode cL_law 380 = .ok (.aload_n 0, 1) := by decide +kernel
theorem dL_law_381 : decode cL_law 381 = .ok (.iload_n 3, 1) := by decide +kernel
theorem dL_law_382 : decode cL_law 382 = .ok (.iconst 1, 1) := by decide +kernel
theorem dL_law_383 : decode cL_law 383 = .ok (.iadd, 1) := by decide +kernel
theorem dL_law_384 : decode cL_law 384 = .ok (.iaload, 1) := by decide +kernel
theorem dL_law_385 : decode cL_law 385 = .ok (.aload_n 0, 1) := by decide +kernel
theorem dL_law_386 : decode cL_law 386 = .ok (.iload_n 3, 1) := by decide +kernel
theorem dL_law_387 : decode cL_law 387 = .ok (.iconst 2, 1) := by decide +kernel
theorem dL_law_388 : decode cL_law 388 = .ok (.iadd, 1) := by decide +kernel
theorem dL_law_389 : decode cL_law 389 = .ok (.iaload, 1) := by decide +kernel
theorem dL_law_390 : decode cL_law 390 = .ok (.invokevirtual 61, 3) := by decide +kernel
theorem dL_law_393 : decode cL_law 393 = .ok (.aload_n 2, 1) := by decide +kernel
theorem dL_law_394 : decode cL_law 394 = .ok (.aload_n 0, 1) := by decide +kernel
theorem dL_law_395 : decode cL_law 395 = .ok (.iload_n 3, 1) := by decide +kernel
theorem dL_law_396 : decode cL_law 396 = .ok (.iconst 1, 1) := by decide +kernel
theorem dL_law_397 : decode cL_law 397 = .ok (.iadd, 1) := by decide +kernel
theorem dL_law_398 : decode cL_law 398 = .ok (.iaload, 1) := by decide +kernel
theorem dL_law_399 : decode cL_law 399 = .ok (.aload_n 0, 1) := by decide +kernel
theorem dL_law_400 : decode cL_law 400 = .ok (.iload_n 3, 1) := by decide +kernel
theorem dL_law_401 : decode cL_law 401 = .ok (.iconst 2, 1) := by decide +kernel
theorem dL_law_402 : decode cL_law 402 = .ok (.iadd, 1) := by decide +kernel
theorem dL_law_403 : decode cL_law 403 = .ok (.iaload, 1) := by decide +kernel
theorem dL_law_404 : decode cL_law 404 = .ok (.invokevirtual 64, 3) := by decide +kernel
theorem dL_law_407 : decode cL_law 407 = .ok (.if_icmp .eq 131, 3) := by decide +kernel
theorem dL_law_410 : decode cL_law 410 = .ok (.iconst 0, 1) := by decide +kernel
theorem dL_law_411 : decode cL_law 411 = .ok (.ireturn, 1) := by decide +kernel
theorem dL_law_412 : decode cL_law 412 = .ok (.aload_n 1, 1) := by decide +kernel
theorem dL_law_413 : decode cL_law 413 = .ok (.aload_n 0, 1) := by decide +kernel
theorem dL_law_414 : decode cL_law 414 = .ok (.iload_n 3, 1) := by decide +kernel
theorem dL_law_415 : decode cL_law 415 = .ok (.iconst 1, 1) := by decide +kernel
theorem dL_law_416 : decode cL_law 416 = .ok (.iadd, 1) := by decide +kernel
theorem dL_law_417 : decode cL_law 417 = .ok (.iaload, 1) := by decide +kernel
theorem dL_law_418 : decode cL_law 418 = .ok (.aload_n 0, 1) := by decide +kernel
theorem dL_law_419 : decode cL_law 419 = .ok (.iload_n 3, 1) := by decide +kernel
theorem dL_law_420 : decode cL_law 420 = .ok (.iconst 2, 1) := by decide +kernel
theorem dL_law_421 : decode cL_law 421 = .ok (.iadd, 1) := by decide +kernel
theorem dL_law_422 : decode cL_law 422 = .ok (.iaload, 1) := by decide +kernel
theorem dL_law_423 : decode cL_law 423 = .ok (.invokevirtual 65, 3) := by decide +kernel
theorem dL_law_426 : decode cL_law 426 = .ok (.aload_n 2, 1) := by decide +kernel
theorem dL_law_427 : decode cL_law 427 = .ok (.aload_n 0, 1) := by decide +kernel
theorem dL_law_428 : decode cL_law 428 = .ok (.iload_n 3, 1) := by decide +kernel
theorem dL_law_429 : decode cL_law 429 = .ok (.iconst 1, 1) := by decide +kernel
theorem dL_law_430 : decode cL_law 430 = .ok (.iadd, 1) := by decide +kernel
theorem dL_law_431 : decode cL_law 431 = .ok (.iaload, 1) := by decide +kernel
theorem dL_law_432 : decode cL_law 432 = .ok (.aload_n 0, 1) := by decide +kernel
theorem dL_law_433 : decode cL_law 433 = .ok (.iload_n 3, 1) := by decide +kernel
theorem dL_law_434 : decode cL_law 434 = .ok (.iconst 2, 1) := by decide +kernel
theorem dL_law_435 : decode cL_law 435 = .ok (.iadd, 1) := by decide +kernel
theorem dL_law_436 : decode cL_law 436 = .ok (.iaload, 1) := by decide +kernel
theorem dL_law_437 : decode cL_law 437 = .ok (.invokevirtual 68, 3) := by decide +kernel
theorem dL_law_440 : decode cL_law 440 = .ok (.if_icmp .eq 98, 3) := by decide +kernel
theorem dL_law_443 : decode cL_law 443 = .ok (.iconst 0, 1) := by decide +kernel
theorem dL_law_444 : decode cL_law 444 = .ok (.ireturn, 1) := by decide +kernel
theorem dL_law_445 : decode cL_law 445 = .ok (.aload_n 1, 1) := by decide +kernel
theorem dL_law_446 : decode cL_law 446 = .ok (.aload_n 0, 1) := by decide +kernel
theorem dL_law_447 : decode cL_law 447 = .ok (.iload_n 3, 1) := by decide +kernel
theorem dL_law_448 : decode cL_law 448 = .ok (.iconst 1, 1) := by decide +kernel
theorem dL_law_449 : decode cL_law 449 = .ok (.iadd, 1) := by decide +kernel
theorem dL_law_450 : decode cL_law 450 = .ok (.iaload, 1) := by decide +kernel
theorem dL_law_451 : decode cL_law 451 = .ok (.aload_n 0, 1) := by decide +kernel
theorem dL_law_452 : decode cL_law 452 = .ok (.iload_n 3, 1) := by decide +kernel
theorem dL_law_453 : decode cL_law 453 = .ok (.iconst 2, 1) := by decide +kernel
theorem dL_law_454 : decode cL_law 454 = .ok (.iadd, 1) := by decide +kernel
theorem dL_law_455 : decode cL_law 455 = .ok (.iaload, 1) := by decide +kernel
theorem dL_law_456 : decode cL_law 456 = .ok (.invokevirtual 69, 3) := by decide +kernel
theorem dL_law_459 : decode cL_law 459 = .ok (.aload_n 2, 1) := by decide +kernel
theorem dL_law_460 : decode cL_law 460 = .ok (.aload_n 0, 1) := by decide +kernel
theorem dL_law_461 : decode cL_law 461 = .ok (.iload_n 3, 1) := by decide +kernel
theorem dL_law_462 : decode cL_law 462 = .ok (.iconst 1, 1) := by decide +kernel
theorem dL_law_463 : decode cL_law 463 = .ok (.iadd, 1) := by decide +kernel
theorem dL_law_464 : decode cL_law 464 = .ok (.iaload, 1) := by decide +kernel
theorem dL_law_465 : decode cL_law 465 = .ok (.aload_n 0, 1) := by decide +kernel
theorem dL_law_466 : decode cL_law 466 = .ok (.iload_n 3, 1) := by decide +kernel
theorem dL_law_467 : decode cL_law 467 = .ok (.iconst 2, 1) := by decide +kernel
theorem dL_law_468 : decode cL_law 468 = .ok (.iadd, 1) := by decide +kernel
theorem dL_law_469 : decode cL_law 469 = .ok (.iaload, 1) := by decide +kernel
theorem dL_law_470 : decode cL_law 470 = .ok (.invokevirtual 72, 3) := by decide +kernel
theorem dL_law_473 : decode cL_law 473 = .ok (.if_icmp .eq 65, 3) := by decide +kernel
theorem dL_law_476 : decode cL_law 476 = .ok (.iconst 0, 1) := by decide +kernel
theorem dL_law_477 : decode cL_law 477 = .ok (.ireturn, 1) := by decide +kernel
theorem dL_law_478 : decode cL_law 478 = .ok (.aload_n 1, 1) := by decide +kernel
theorem dL_law_479 : decode cL_law 479 = .ok (.aload_n 0, 1) := by decide +kernel
theorem dL_law_480 : decode cL_law 480 = .ok (.iload_n 3, 1) := by decide +kernel
theorem dL_law_481 : decode cL_law 481 = .ok (.iconst 1, 1) := by decide +kernel
theorem dL_law_482 : decode cL_law 482 = .ok (.iadd, 1) := by decide +kernel
theorem dL_law_483 : decode cL_law 483 = .ok (.iaload, 1) := by decide +kernel
theorem dL_law_484 : decode cL_law 484 = .ok (.invokevirtual 73, 3) := by decide +kernel
theorem dL_law_487 : decode cL_law 487 = .ok (.aload_n 2, 1) := by decide +kernel
theorem dL_law_488 : decode cL_law 488 = .ok (.aload_n 0, 1) := by decide +kernel
theorem dL_law_489 : decode cL_law 489 = .ok (.iload_n 3, 1) := by decide +kernel
theorem dL_law_490 : decode cL_law 490 = .ok (.iconst 1, 1) := by decide +kernel
theorem dL_law_491 : decode cL_law 491 = .ok (.iadd, 1) := by decide +kernel
theorem dL_law_492 : decode cL_law 492 = .ok (.iaload, 1) := by decide +kernel
theorem dL_law_493 : decode cL_law 493 = .ok (.invokevirtual 76, 3) := by decide +kernel
theorem dL_law_496 : decode cL_law 496 = .ok (.if_icmp .eq 42, 3) := by decide +kernel
theorem dL_law_499 : decode cL_law 499 = .ok (.iconst 0, 1) := by decide +kernel
theorem dL_law_500 : decode cL_law 500 = .ok (.ireturn, 1) := by decide +kernel
theorem dL_law_501 : decode cL_law 501 = .ok (.aload_n 1, 1) := by decide +kernel
theorem dL_law_502 : decode cL_law 502 = .ok (.aload_n 0, 1) := by decide +kernel
theorem dL_law_503 : decode cL_law 503 = .ok (.iload_n 3, 1) := by decide +kernel
theorem dL_law_504 : decode cL_law 504 = .ok (.iconst 1, 1) := by decide +kernel
theorem dL_law_505 : decode cL_law 505 = .ok (.iadd, 1) := by decide +kernel
theorem dL_law_506 : decode cL_law 506 = .ok (.iaload, 1) := by decide +kernel
theorem dL_law_507 : decode cL_law 507 = .ok (.invokevirtual 77, 3) := by decide +kernel
theorem dL_law_510 : decode cL_law 510 = .ok (.aload_n 2, 1) := by decide +kernel
theorem dL_law_511 : decode cL_law 511 = .ok (.aload_n 0, 1) := by decide +kernel
theorem dL_law_512 : decode cL_law 512 = .ok (.iload_n 3, 1) := by decide +kernel
theorem dL_law_513 : decode cL_law 513 = .ok (.iconst 1, 1) := by decide +kernel
theorem dL_law_514 : decode cL_law 514 = .ok (.iadd, 1) := by decide +kernel
theorem dL_law_515 : decode cL_law 515 = .ok (.iaload, 1) := by decide +kernel
theorem dL_law_516 : decode cL_law 516 = .ok (.invokevirtual 80, 3) := by decide +kernel
theorem dL_law_519 : decode cL_law 519 = .ok (.if_icmp .eq 19, 3) := by decide +kernel
theorem dL_law_522 : decode cL_law 522 = .ok (.iconst 0, 1) := by decide +kernel
theorem dL_law_523 : decode cL_law 523 = .ok (.ireturn, 1) := by decide +kernel
theorem dL_law_524 : decode cL_law 524 = .ok (.aload_n 1, 1) := by decide +kernel
theorem dL_law_525 : decode cL_law 525 = .ok (.invokevirtual 81, 3) := by decide +kernel
theorem dL_law_528 : decode cL_law 528 = .ok (.aload_n 2, 1) := by decide +kernel
theorem dL_law_529 : decode cL_law 529 = .ok (.invokevirtual 85, 3) := by decide +kernel
theorem dL_law_532 : decode cL_law 532 = .ok (.lcmp, 1) := by decide +kernel
theorem dL_law_533 : decode cL_law 533 = .ok (.ifCond .eq 5, 3) := by decide +kernel
theorem dL_law_536 : decode cL_law 536 = .ok (.iconst 0, 1) := by decide +kernel
theorem dL_law_537 : decode cL_law 537 = .ok (.ireturn, 1) := by decide +kernel
theorem dL_law_538 : decode cL_law 538 = .ok (.iinc 3 4, 3) := by decide +kernel
theorem dL_law_541 : decode cL_law 541 = .ok (.goto (-523), 3) := by decide +kernel
theorem dL_law_544 : decode cL_law 544 = .ok (.iconst 1, 1) := by decide +kernel
theorem dL_law_545 : decode cL_law 545 = .ok (.ireturn, 1) := by decide +kernel
abbrev vwCl : List vw_C := [(RX0, TX0, 2), (RX1, TX1, 4), (RX2, TX2, 8), (RX3, TX3, 20), (RX4, TX4, 2), (RX7, TX7, 8), (RX8, TX8, 5), (RX9, TX9, 30)]
end
section
theorem zz_last : True := trivial
end
