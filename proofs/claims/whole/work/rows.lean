section
-- ===== PART A: goes FIRST, ahead of the names: the tables' words, and 'selects' of the private methods out of them =====
/-- a private method of a class that the tables say can be made, by its rows of tables_1 -/
def lw_okq (q : MethodName × Nat) : Prop := (q.1.cls ≠ "java/lang/invoke/MethodHandle" ∧ q.1.cls ≠ "java/lang/invoke/VarHandle") ∧ Cond.instantiable q.1.cls q.2 ∈ tables_1 ∧ Cond.privateMethod q.1 ∈ tables_1 ∧ Cond.instanceMethod q.1 ∈ tables_1
theorem lw_p0 : lw_okq (⟨"TriggerHall", "sheetAt", "(I)LTriggerHall$Sheet;"⟩, 16) := ⟨⟨by decide +kernel, by decide +kernel⟩, List.mem_of_getElem? (i := 23) (by decide +kernel), List.mem_of_getElem? (i := 273) (by decide +kernel), List.mem_of_getElem? (i := 274) (by decide +kernel)⟩
theorem lw_p1 : lw_okq (⟨"TriggerHall$Sheet", "lay", "(II)V"⟩, 4) := ⟨⟨by decide +kernel, by decide +kernel⟩, List.mem_of_getElem? (i := 32) (by decide +kernel), List.mem_of_getElem? (i := 277) (by decide +kernel), List.mem_of_getElem? (i := 278) (by decide +kernel)⟩
theorem lw_p2 : lw_okq (⟨"TriggerHall$Sheet", "has", "(I)Z"⟩, 4) := ⟨⟨by decide +kernel, by decide +kernel⟩, List.mem_of_getElem? (i := 32) (by decide +kernel), List.mem_of_getElem? (i := 285) (by decide +kernel), List.mem_of_getElem? (i := 286) (by decide +kernel)⟩
theorem lw_p3 : lw_okq (⟨"TriggerHall$Sheet", "put", "(II)V"⟩, 4) := ⟨⟨by decide +kernel, by decide +kernel⟩, List.mem_of_getElem? (i := 32) (by decide +kernel), List.mem_of_getElem? (i := 289) (by decide +kernel), List.mem_of_getElem? (i := 290) (by decide +kernel)⟩
theorem lw_p4 : lw_okq (⟨"TriggerHall$Sheet", "numberAt", "(I)I"⟩, 4) := ⟨⟨by decide +kernel, by decide +kernel⟩, List.mem_of_getElem? (i := 32) (by decide +kernel), List.mem_of_getElem? (i := 319) (by decide +kernel), List.mem_of_getElem? (i := 320) (by decide +kernel)⟩
theorem lw_p5 : lw_okq (⟨"TriggerHall$Road", "setSpan", "(II)V"⟩, 3) := ⟨⟨by decide +kernel, by decide +kernel⟩, List.mem_of_getElem? (i := 351) (by decide +kernel), List.mem_of_getElem? (i := 367) (by decide +kernel), List.mem_of_getElem? (i := 368) (by decide +kernel)⟩
theorem lw_p6 : lw_okq (⟨"java/util/ArrayList", "add", "(Ljava/lang/Object;[Ljava/lang/Object;I)V"⟩, 3) := ⟨⟨by decide +kernel, by decide +kernel⟩, List.mem_of_getElem? (i := 53) (by decide +kernel), List.mem_of_getElem? (i := 382) (by decide +kernel), List.mem_of_getElem? (i := 383) (by decide +kernel)⟩
theorem lw_p7 : lw_okq (⟨"java/util/ArrayList", "grow", "()[Ljava/lang/Object;"⟩, 3) := ⟨⟨by decide +kernel, by decide +kernel⟩, List.mem_of_getElem? (i := 53) (by decide +kernel), List.mem_of_getElem? (i := 386) (by decide +kernel), List.mem_of_getElem? (i := 387) (by decide +kernel)⟩
theorem lw_p8 : lw_okq (⟨"java/util/ArrayList", "grow", "(I)[Ljava/lang/Object;"⟩, 3) := ⟨⟨by decide +kernel, by decide +kernel⟩, List.mem_of_getElem? (i := 53) (by decide +kernel), List.mem_of_getElem? (i := 390) (by decide +kernel), List.mem_of_getElem? (i := 391) (by decide +kernel)⟩
theorem lw_p9 : lw_okq (⟨"TriggerHall", "roadAt", "(I)LTriggerHall$Road;"⟩, 16) := ⟨⟨by decide +kernel, by decide +kernel⟩, List.mem_of_getElem? (i := 23) (by decide +kernel), List.mem_of_getElem? (i := 441) (by decide +kernel), List.mem_of_getElem? (i := 442) (by decide +kernel)⟩
theorem lw_p10 : lw_okq (⟨"TriggerHall$Road", "spanTold", "(I)I"⟩, 3) := ⟨⟨by decide +kernel, by decide +kernel⟩, List.mem_of_getElem? (i := 351) (by decide +kernel), List.mem_of_getElem? (i := 464) (by decide +kernel), List.mem_of_getElem? (i := 465) (by decide +kernel)⟩
theorem lw_p11 : lw_okq (⟨"TriggerHall$Look", "see", "([I[I[I)V"⟩, 4) := ⟨⟨by decide +kernel, by decide +kernel⟩, List.mem_of_getElem? (i := 79) (by decide +kernel), List.mem_of_getElem? (i := 472) (by decide +kernel), List.mem_of_getElem? (i := 473) (by decide +kernel)⟩
theorem lw_p12 : lw_okq (⟨"TriggerHall$Look", "light", "(Ljava/util/List;)V"⟩, 4) := ⟨⟨by decide +kernel, by decide +kernel⟩, List.mem_of_getElem? (i := 79) (by decide +kernel), List.mem_of_getElem? (i := 476) (by decide +kernel), List.mem_of_getElem? (i := 477) (by decide +kernel)⟩
theorem lw_p13 : lw_okq (⟨"TriggerHall$Road", "isLit", "([I)Z"⟩, 3) := ⟨⟨by decide +kernel, by decide +kernel⟩, List.mem_of_getElem? (i := 351) (by decide +kernel), List.mem_of_getElem? (i := 485) (by decide +kernel), List.mem_of_getElem? (i := 486) (by decide +kernel)⟩
theorem lw_p14 : lw_okq (⟨"TriggerHall$Road", "layersHeld", "([I)I"⟩, 3) := ⟨⟨by decide +kernel, by decide +kernel⟩, List.mem_of_getElem? (i := 351) (by decide +kernel), List.mem_of_getElem? (i := 489) (by decide +kernel), List.mem_of_getElem? (i := 490) (by decide +kernel)⟩
theorem lw_p15 : lw_okq (⟨"TriggerHall$Road", "seenIn", "(I[I)I"⟩, 3) := ⟨⟨by decide +kernel, by decide +kernel⟩, List.mem_of_getElem? (i := 351) (by decide +kernel), List.mem_of_getElem? (i := 493) (by decide +kernel), List.mem_of_getElem? (i := 494) (by decide +kernel)⟩
def lw_privs_1 : List (MethodName × Nat) := [(⟨"TriggerHall", "sheetAt", "(I)LTriggerHall$Sheet;"⟩, 16), (⟨"TriggerHall$Sheet", "lay", "(II)V"⟩, 4), (⟨"TriggerHall$Sheet", "has", "(I)Z"⟩, 4), (⟨"TriggerHall$Sheet", "put", "(II)V"⟩, 4), (⟨"TriggerHall$Sheet", "numberAt", "(I)I"⟩, 4), (⟨"TriggerHall$Road", "setSpan", "(II)V"⟩, 3), (⟨"java/util/ArrayList", "add", "(Ljava/lang/Object;[Ljava/lang/Object;I)V"⟩, 3), (⟨"java/util/ArrayList", "grow", "()[Ljava/lang/Object;"⟩, 3), (⟨"java/util/ArrayList", "grow", "(I)[Ljava/lang/Object;"⟩, 3), (⟨"TriggerHall", "roadAt", "(I)LTriggerHall$Road;"⟩, 16), (⟨"TriggerHall$Road", "spanTold", "(I)I"⟩, 3), (⟨"TriggerHall$Look", "see", "([I[I[I)V"⟩, 4), (⟨"TriggerHall$Look", "light", "(Ljava/util/List;)V"⟩, 4), (⟨"TriggerHall$Road", "isLit", "([I)Z"⟩, 3), (⟨"TriggerHall$Road", "layersHeld", "([I)I"⟩, 3), (⟨"TriggerHall$Road", "seenIn", "(I[I)I"⟩, 3)]
theorem lw_r1 : ∀ q ∈ lw_privs_1, lw_okq q := List.forall_mem_cons.mpr ⟨lw_p0, List.forall_mem_cons.mpr ⟨lw_p1, List.forall_mem_cons.mpr ⟨lw_p2, List.forall_mem_cons.mpr ⟨lw_p3, List.forall_mem_cons.mpr ⟨lw_p4, List.forall_mem_cons.mpr ⟨lw_p5, List.forall_mem_cons.mpr ⟨lw_p6, List.forall_mem_cons.mpr ⟨lw_p7, List.forall_mem_cons.mpr ⟨lw_p8, List.forall_mem_cons.mpr ⟨lw_p9, List.forall_mem_cons.mpr ⟨lw_p10, List.forall_mem_cons.mpr ⟨lw_p11, List.forall_mem_cons.mpr ⟨lw_p12, List.forall_mem_cons.mpr ⟨lw_p13, List.forall_mem_cons.mpr ⟨lw_p14, List.forall_mem_cons.mpr ⟨lw_p15, fun _ h => absurd h List.not_mem_nil⟩⟩⟩⟩⟩⟩⟩⟩⟩⟩⟩⟩⟩⟩⟩⟩
theorem lw_p16 : lw_okq (⟨"TriggerHall", "fitInHand", "(LTriggerHall$Road;)Z"⟩, 16) := ⟨⟨by decide +kernel, by decide +kernel⟩, List.mem_of_getElem? (i := 23) (by decide +kernel), List.mem_of_getElem? (i := 507) (by decide +kernel), List.mem_of_getElem? (i := 508) (by decide +kernel)⟩
theorem lw_p17 : lw_okq (⟨"TriggerHall$Look", "fitAlong", "(LTriggerHall$Road;)Z"⟩, 4) := ⟨⟨by decide +kernel, by decide +kernel⟩, List.mem_of_getElem? (i := 79) (by decide +kernel), List.mem_of_getElem? (i := 511) (by decide +kernel), List.mem_of_getElem? (i := 512) (by decide +kernel)⟩
theorem lw_p18 : lw_okq (⟨"TriggerHall$Fit", "along", "(LTriggerHall$Road;[I)V"⟩, 7) := ⟨⟨by decide +kernel, by decide +kernel⟩, List.mem_of_getElem? (i := 85) (by decide +kernel), List.mem_of_getElem? (i := 515) (by decide +kernel), List.mem_of_getElem? (i := 516) (by decide +kernel)⟩
theorem lw_p19 : lw_okq (⟨"TriggerHall$Fit", "tryCells", "(IIII)V"⟩, 7) := ⟨⟨by decide +kernel, by decide +kernel⟩, List.mem_of_getElem? (i := 85) (by decide +kernel), List.mem_of_getElem? (i := 521) (by decide +kernel), List.mem_of_getElem? (i := 522) (by decide +kernel)⟩
theorem lw_p20 : lw_okq (⟨"TriggerHall$Fit", "takeTrial", "(III)V"⟩, 7) := ⟨⟨by decide +kernel, by decide +kernel⟩, List.mem_of_getElem? (i := 85) (by decide +kernel), List.mem_of_getElem? (i := 525) (by decide +kernel), List.mem_of_getElem? (i := 526) (by decide +kernel)⟩
theorem lw_p21 : lw_okq (⟨"TriggerHall$Fit", "isPerfect", "()Z"⟩, 7) := ⟨⟨by decide +kernel, by decide +kernel⟩, List.mem_of_getElem? (i := 85) (by decide +kernel), List.mem_of_getElem? (i := 533) (by decide +kernel), List.mem_of_getElem? (i := 534) (by decide +kernel)⟩
theorem lw_p22 : lw_okq (⟨"TriggerHall$Fit", "above", "()I"⟩, 7) := ⟨⟨by decide +kernel, by decide +kernel⟩, List.mem_of_getElem? (i := 85) (by decide +kernel), List.mem_of_getElem? (i := 541) (by decide +kernel), List.mem_of_getElem? (i := 542) (by decide +kernel)⟩
theorem lw_p23 : lw_okq (⟨"TriggerHall$Fit", "below", "()I"⟩, 7) := ⟨⟨by decide +kernel, by decide +kernel⟩, List.mem_of_getElem? (i := 85) (by decide +kernel), List.mem_of_getElem? (i := 545) (by decide +kernel), List.mem_of_getElem? (i := 546) (by decide +kernel)⟩
theorem lw_p24 : lw_okq (⟨"TriggerHall$Fit", "worth", "()I"⟩, 7) := ⟨⟨by decide +kernel, by decide +kernel⟩, List.mem_of_getElem? (i := 85) (by decide +kernel), List.mem_of_getElem? (i := 558) (by decide +kernel), List.mem_of_getElem? (i := 559) (by decide +kernel)⟩
theorem lw_p25 : lw_okq (⟨"TriggerHall", "lookAt", "([I)V"⟩, 16) := ⟨⟨by decide +kernel, by decide +kernel⟩, List.mem_of_getElem? (i := 23) (by decide +kernel), List.mem_of_getElem? (i := 567) (by decide +kernel), List.mem_of_getElem? (i := 568) (by decide +kernel)⟩
theorem lw_p26 : lw_okq (⟨"TriggerHall$Look", "pile", "(Ljava/util/List;)V"⟩, 4) := ⟨⟨by decide +kernel, by decide +kernel⟩, List.mem_of_getElem? (i := 79) (by decide +kernel), List.mem_of_getElem? (i := 571) (by decide +kernel), List.mem_of_getElem? (i := 572) (by decide +kernel)⟩
theorem lw_p27 : lw_okq (⟨"TriggerHall$Heap", "empty", "()V"⟩, 7) := ⟨⟨by decide +kernel, by decide +kernel⟩, List.mem_of_getElem? (i := 115) (by decide +kernel), List.mem_of_getElem? (i := 575) (by decide +kernel), List.mem_of_getElem? (i := 576) (by decide +kernel)⟩
theorem lw_p28 : lw_okq (⟨"TriggerHall$Heap", "put", "(I[I)V"⟩, 7) := ⟨⟨by decide +kernel, by decide +kernel⟩, List.mem_of_getElem? (i := 115) (by decide +kernel), List.mem_of_getElem? (i := 581) (by decide +kernel), List.mem_of_getElem? (i := 582) (by decide +kernel)⟩
theorem lw_p29 : lw_okq (⟨"TriggerHall$Heap", "clash", "(II)Z"⟩, 7) := ⟨⟨by decide +kernel, by decide +kernel⟩, List.mem_of_getElem? (i := 115) (by decide +kernel), List.mem_of_getElem? (i := 585) (by decide +kernel), List.mem_of_getElem? (i := 586) (by decide +kernel)⟩
theorem lw_p30 : lw_okq (⟨"TriggerHall$Heap", "choose", "()V"⟩, 7) := ⟨⟨by decide +kernel, by decide +kernel⟩, List.mem_of_getElem? (i := 115) (by decide +kernel), List.mem_of_getElem? (i := 589) (by decide +kernel), List.mem_of_getElem? (i := 590) (by decide +kernel)⟩
theorem lw_p31 : lw_okq (⟨"TriggerHall$Heap", "chooseFrom", "(III)V"⟩, 7) := ⟨⟨by decide +kernel, by decide +kernel⟩, List.mem_of_getElem? (i := 115) (by decide +kernel), List.mem_of_getElem? (i := 593) (by decide +kernel), List.mem_of_getElem? (i := 594) (by decide +kernel)⟩
def lw_privs_2 : List (MethodName × Nat) := [(⟨"TriggerHall", "fitInHand", "(LTriggerHall$Road;)Z"⟩, 16), (⟨"TriggerHall$Look", "fitAlong", "(LTriggerHall$Road;)Z"⟩, 4), (⟨"TriggerHall$Fit", "along", "(LTriggerHall$Road;[I)V"⟩, 7), (⟨"TriggerHall$Fit", "tryCells", "(IIII)V"⟩, 7), (⟨"TriggerHall$Fit", "takeTrial", "(III)V"⟩, 7), (⟨"TriggerHall$Fit", "isPerfect", "()Z"⟩, 7), (⟨"TriggerHall$Fit", "above", "()I"⟩, 7), (⟨"TriggerHall$Fit", "below", "()I"⟩, 7), (⟨"TriggerHall$Fit", "worth", "()I"⟩, 7), (⟨"TriggerHall", "lookAt", "([I)V"⟩, 16), (⟨"TriggerHall$Look", "pile", "(Ljava/util/List;)V"⟩, 4), (⟨"TriggerHall$Heap", "empty", "()V"⟩, 7), (⟨"TriggerHall$Heap", "put", "(I[I)V"⟩, 7), (⟨"TriggerHall$Heap", "clash", "(II)Z"⟩, 7), (⟨"TriggerHall$Heap", "choose", "()V"⟩, 7), (⟨"TriggerHall$Heap", "chooseFrom", "(III)V"⟩, 7)]
theorem lw_r2 : ∀ q ∈ lw_privs_2, lw_okq q := List.forall_mem_cons.mpr ⟨lw_p16, List.forall_mem_cons.mpr ⟨lw_p17, List.forall_mem_cons.mpr ⟨lw_p18, List.forall_mem_cons.mpr ⟨lw_p19, List.forall_mem_cons.mpr ⟨lw_p20, List.forall_mem_cons.mpr ⟨lw_p21, List.forall_mem_cons.mpr ⟨lw_p22, List.forall_mem_cons.mpr ⟨lw_p23, List.forall_mem_cons.mpr ⟨lw_p24, List.forall_mem_cons.mpr ⟨lw_p25, List.forall_mem_cons.mpr ⟨lw_p26, List.forall_mem_cons.mpr ⟨lw_p27, List.forall_mem_cons.mpr ⟨lw_p28, List.forall_mem_cons.mpr ⟨lw_p29, List.forall_mem_cons.mpr ⟨lw_p30, List.forall_mem_cons.mpr ⟨lw_p31, fun _ h => absurd h List.not_mem_nil⟩⟩⟩⟩⟩⟩⟩⟩⟩⟩⟩⟩⟩⟩⟩⟩
theorem lw_p32 : lw_okq (⟨"TriggerHall$Text", "put", "(C)V"⟩, 2) := ⟨⟨by decide +kernel, by decide +kernel⟩, List.mem_of_getElem? (i := 164) (by decide +kernel), List.mem_of_getElem? (i := 613) (by decide +kernel), List.mem_of_getElem? (i := 614) (by decide +kernel)⟩
theorem lw_p33 : lw_okq (⟨"TriggerHall$Reader", "read", "(LTriggerHall$Text;LTriggerHall$Look;)Z"⟩, 4) := ⟨⟨by decide +kernel, by decide +kernel⟩, List.mem_of_getElem? (i := 180) (by decide +kernel), List.mem_of_getElem? (i := 628) (by decide +kernel), List.mem_of_getElem? (i := 629) (by decide +kernel)⟩
theorem lw_p34 : lw_okq (⟨"TriggerHall$Reader", "readAny", "(I)Z"⟩, 4) := ⟨⟨by decide +kernel, by decide +kernel⟩, List.mem_of_getElem? (i := 180) (by decide +kernel), List.mem_of_getElem? (i := 632) (by decide +kernel), List.mem_of_getElem? (i := 633) (by decide +kernel)⟩
theorem lw_p35 : lw_okq (⟨"TriggerHall$Reader", "readBoth", "(I)Z"⟩, 4) := ⟨⟨by decide +kernel, by decide +kernel⟩, List.mem_of_getElem? (i := 180) (by decide +kernel), List.mem_of_getElem? (i := 636) (by decide +kernel), List.mem_of_getElem? (i := 637) (by decide +kernel)⟩
theorem lw_p36 : lw_okq (⟨"TriggerHall$Reader", "readOne", "(I)Z"⟩, 4) := ⟨⟨by decide +kernel, by decide +kernel⟩, List.mem_of_getElem? (i := 180) (by decide +kernel), List.mem_of_getElem? (i := 640) (by decide +kernel), List.mem_of_getElem? (i := 641) (by decide +kernel)⟩
theorem lw_p37 : lw_okq (⟨"TriggerHall$Text", "letterAt", "(I)I"⟩, 2) := ⟨⟨by decide +kernel, by decide +kernel⟩, List.mem_of_getElem? (i := 164) (by decide +kernel), List.mem_of_getElem? (i := 644) (by decide +kernel), List.mem_of_getElem? (i := 645) (by decide +kernel)⟩
theorem lw_p38 : lw_okq (⟨"TriggerHall$Reader", "readAsked", "()Z"⟩, 4) := ⟨⟨by decide +kernel, by decide +kernel⟩, List.mem_of_getElem? (i := 180) (by decide +kernel), List.mem_of_getElem? (i := 648) (by decide +kernel), List.mem_of_getElem? (i := 649) (by decide +kernel)⟩
theorem lw_p39 : lw_okq (⟨"TriggerHall$Reader", "fail", "()Z"⟩, 4) := ⟨⟨by decide +kernel, by decide +kernel⟩, List.mem_of_getElem? (i := 180) (by decide +kernel), List.mem_of_getElem? (i := 655) (by decide +kernel), List.mem_of_getElem? (i := 656) (by decide +kernel)⟩
theorem lw_p40 : lw_okq (⟨"TriggerHall$Reader", "readNumber", "()I"⟩, 4) := ⟨⟨by decide +kernel, by decide +kernel⟩, List.mem_of_getElem? (i := 180) (by decide +kernel), List.mem_of_getElem? (i := 659) (by decide +kernel), List.mem_of_getElem? (i := 660) (by decide +kernel)⟩
theorem lw_p41 : lw_okq (⟨"TriggerHall$Look", "answers", "(II)Z"⟩, 4) := ⟨⟨by decide +kernel, by decide +kernel⟩, List.mem_of_getElem? (i := 79) (by decide +kernel), List.mem_of_getElem? (i := 666) (by decide +kernel), List.mem_of_getElem? (i := 667) (by decide +kernel)⟩
theorem lw_p42 : lw_okq (⟨"TriggerHall$Look", "layersSeen", "()I"⟩, 4) := ⟨⟨by decide +kernel, by decide +kernel⟩, List.mem_of_getElem? (i := 79) (by decide +kernel), List.mem_of_getElem? (i := 672) (by decide +kernel), List.mem_of_getElem? (i := 673) (by decide +kernel)⟩
theorem lw_p43 : lw_okq (⟨"TriggerHall$Reader", "passOver", "(C)Z"⟩, 4) := ⟨⟨by decide +kernel, by decide +kernel⟩, List.mem_of_getElem? (i := 180) (by decide +kernel), List.mem_of_getElem? (i := 676) (by decide +kernel), List.mem_of_getElem? (i := 677) (by decide +kernel)⟩
theorem lw_p44 : lw_okq (⟨"TriggerHall$Text", "copy", "(LTriggerHall$Text;)V"⟩, 2) := ⟨⟨by decide +kernel, by decide +kernel⟩, List.mem_of_getElem? (i := 164) (by decide +kernel), List.mem_of_getElem? (i := 688) (by decide +kernel), List.mem_of_getElem? (i := 689) (by decide +kernel)⟩
theorem lw_p45 : lw_okq (⟨"TriggerHall", "lineAt", "(I)LTriggerHall$Line;"⟩, 16) := ⟨⟨by decide +kernel, by decide +kernel⟩, List.mem_of_getElem? (i := 23) (by decide +kernel), List.mem_of_getElem? (i := 726) (by decide +kernel), List.mem_of_getElem? (i := 727) (by decide +kernel)⟩
theorem lw_p46 : lw_okq (⟨"TriggerHall", "loseCrossing", "()I"⟩, 16) := ⟨⟨by decide +kernel, by decide +kernel⟩, List.mem_of_getElem? (i := 23) (by decide +kernel), List.mem_of_getElem? (i := 742) (by decide +kernel), List.mem_of_getElem? (i := 743) (by decide +kernel)⟩
theorem lw_p47 : lw_okq (⟨"TriggerHall", "judgeCrossing", "(I)I"⟩, 16) := ⟨⟨by decide +kernel, by decide +kernel⟩, List.mem_of_getElem? (i := 23) (by decide +kernel), List.mem_of_getElem? (i := 746) (by decide +kernel), List.mem_of_getElem? (i := 747) (by decide +kernel)⟩
def lw_privs_3 : List (MethodName × Nat) := [(⟨"TriggerHall$Text", "put", "(C)V"⟩, 2), (⟨"TriggerHall$Reader", "read", "(LTriggerHall$Text;LTriggerHall$Look;)Z"⟩, 4), (⟨"TriggerHall$Reader", "readAny", "(I)Z"⟩, 4), (⟨"TriggerHall$Reader", "readBoth", "(I)Z"⟩, 4), (⟨"TriggerHall$Reader", "readOne", "(I)Z"⟩, 4), (⟨"TriggerHall$Text", "letterAt", "(I)I"⟩, 2), (⟨"TriggerHall$Reader", "readAsked", "()Z"⟩, 4), (⟨"TriggerHall$Reader", "fail", "()Z"⟩, 4), (⟨"TriggerHall$Reader", "readNumber", "()I"⟩, 4), (⟨"TriggerHall$Look", "answers", "(II)Z"⟩, 4), (⟨"TriggerHall$Look", "layersSeen", "()I"⟩, 4), (⟨"TriggerHall$Reader", "passOver", "(C)Z"⟩, 4), (⟨"TriggerHall$Text", "copy", "(LTriggerHall$Text;)V"⟩, 2), (⟨"TriggerHall", "lineAt", "(I)LTriggerHall$Line;"⟩, 16), (⟨"TriggerHall", "loseCrossing", "()I"⟩, 16), (⟨"TriggerHall", "judgeCrossing", "(I)I"⟩, 16)]
theorem lw_r3 : ∀ q ∈ lw_privs_3, lw_okq q := List.forall_mem_cons.mpr ⟨lw_p32, List.forall_mem_cons.mpr ⟨lw_p33, List.forall_mem_cons.mpr ⟨lw_p34, List.forall_mem_cons.mpr ⟨lw_p35, List.forall_mem_cons.mpr ⟨lw_p36, List.forall_mem_cons.mpr ⟨lw_p37, List.forall_mem_cons.mpr ⟨lw_p38, List.forall_mem_cons.mpr ⟨lw_p39, List.forall_mem_cons.mpr ⟨lw_p40, List.forall_mem_cons.mpr ⟨lw_p41, List.forall_mem_cons.mpr ⟨lw_p42, List.forall_mem_cons.mpr ⟨lw_p43, List.forall_mem_cons.mpr ⟨lw_p44, List.forall_mem_cons.mpr ⟨lw_p45, List.forall_mem_cons.mpr ⟨lw_p46, List.forall_mem_cons.mpr ⟨lw_p47, fun _ h => absurd h List.not_mem_nil⟩⟩⟩⟩⟩⟩⟩⟩⟩⟩⟩⟩⟩⟩⟩⟩
theorem lw_p48 : lw_okq (⟨"TriggerHall", "holdingLines", "()I"⟩, 16) := ⟨⟨by decide +kernel, by decide +kernel⟩, List.mem_of_getElem? (i := 23) (by decide +kernel), List.mem_of_getElem? (i := 750) (by decide +kernel), List.mem_of_getElem? (i := 751) (by decide +kernel)⟩
theorem lw_p49 : lw_okq (⟨"TriggerHall", "passLines", "(I)I"⟩, 16) := ⟨⟨by decide +kernel, by decide +kernel⟩, List.mem_of_getElem? (i := 23) (by decide +kernel), List.mem_of_getElem? (i := 754) (by decide +kernel), List.mem_of_getElem? (i := 755) (by decide +kernel)⟩
theorem lw_p50 : lw_okq (⟨"TriggerHall$Line", "countPasses", "()Z"⟩, 7) := ⟨⟨by decide +kernel, by decide +kernel⟩, List.mem_of_getElem? (i := 680) (by decide +kernel), List.mem_of_getElem? (i := 758) (by decide +kernel), List.mem_of_getElem? (i := 759) (by decide +kernel)⟩
theorem lw_p51 : lw_okq (⟨"TriggerHall", "barLines", "()I"⟩, 16) := ⟨⟨by decide +kernel, by decide +kernel⟩, List.mem_of_getElem? (i := 23) (by decide +kernel), List.mem_of_getElem? (i := 762) (by decide +kernel), List.mem_of_getElem? (i := 763) (by decide +kernel)⟩
theorem lw_p52 : lw_okq (⟨"TriggerHall", "creditLines", "(I)V"⟩, 16) := ⟨⟨by decide +kernel, by decide +kernel⟩, List.mem_of_getElem? (i := 23) (by decide +kernel), List.mem_of_getElem? (i := 766) (by decide +kernel), List.mem_of_getElem? (i := 767) (by decide +kernel)⟩
theorem lw_p53 : lw_okq (⟨"TriggerHall$Line", "credit", "(Z)V"⟩, 7) := ⟨⟨by decide +kernel, by decide +kernel⟩, List.mem_of_getElem? (i := 680) (by decide +kernel), List.mem_of_getElem? (i := 770) (by decide +kernel), List.mem_of_getElem? (i := 771) (by decide +kernel)⟩
theorem lw_p54 : lw_okq (⟨"TriggerHall$Raws", "keep", "(II[I)V"⟩, 4) := ⟨⟨by decide +kernel, by decide +kernel⟩, List.mem_of_getElem? (i := 200) (by decide +kernel), List.mem_of_getElem? (i := 774) (by decide +kernel), List.mem_of_getElem? (i := 775) (by decide +kernel)⟩
theorem lw_p55 : lw_okq (⟨"TriggerHall$Raws", "slotOf", "(I)I"⟩, 4) := ⟨⟨by decide +kernel, by decide +kernel⟩, List.mem_of_getElem? (i := 200) (by decide +kernel), List.mem_of_getElem? (i := 778) (by decide +kernel), List.mem_of_getElem? (i := 779) (by decide +kernel)⟩
theorem lw_p56 : lw_okq (⟨"TriggerHall$Raws", "size", "()I"⟩, 4) := ⟨⟨by decide +kernel, by decide +kernel⟩, List.mem_of_getElem? (i := 200) (by decide +kernel), List.mem_of_getElem? (i := 793) (by decide +kernel), List.mem_of_getElem? (i := 794) (by decide +kernel)⟩
theorem lw_p57 : lw_okq (⟨"TriggerHall$Raws", "has", "(I)Z"⟩, 4) := ⟨⟨by decide +kernel, by decide +kernel⟩, List.mem_of_getElem? (i := 200) (by decide +kernel), List.mem_of_getElem? (i := 802) (by decide +kernel), List.mem_of_getElem? (i := 803) (by decide +kernel)⟩
theorem lw_p58 : lw_okq (⟨"TriggerHall$Raws", "numberOf", "(I)I"⟩, 4) := ⟨⟨by decide +kernel, by decide +kernel⟩, List.mem_of_getElem? (i := 200) (by decide +kernel), List.mem_of_getElem? (i := 807) (by decide +kernel), List.mem_of_getElem? (i := 808) (by decide +kernel)⟩
theorem lw_p59 : lw_okq (⟨"TriggerHall$Raws", "passedAt", "(I)I"⟩, 4) := ⟨⟨by decide +kernel, by decide +kernel⟩, List.mem_of_getElem? (i := 200) (by decide +kernel), List.mem_of_getElem? (i := 811) (by decide +kernel), List.mem_of_getElem? (i := 812) (by decide +kernel)⟩
theorem lw_p60 : lw_okq (⟨"TriggerHall$Raws", "copyHits", "(I[I)V"⟩, 4) := ⟨⟨by decide +kernel, by decide +kernel⟩, List.mem_of_getElem? (i := 200) (by decide +kernel), List.mem_of_getElem? (i := 815) (by decide +kernel), List.mem_of_getElem? (i := 816) (by decide +kernel)⟩
theorem lw_p61 : lw_okq (⟨"TriggerHall$Line", "forget", "()V"⟩, 7) := ⟨⟨by decide +kernel, by decide +kernel⟩, List.mem_of_getElem? (i := 680) (by decide +kernel), List.mem_of_getElem? (i := 827) (by decide +kernel), List.mem_of_getElem? (i := 828) (by decide +kernel)⟩
theorem lw_p62 : lw_okq (⟨"TriggerHallModel", "allHits", "()I"⟩, 41) := ⟨⟨by decide +kernel, by decide +kernel⟩, List.mem_of_getElem? (i := 831) (by decide +kernel), List.mem_of_getElem? (i := 996) (by decide +kernel), List.mem_of_getElem? (i := 997) (by decide +kernel)⟩
theorem lw_p63 : lw_okq (⟨"TriggerHallModel", "seen", "(I)I"⟩, 41) := ⟨⟨by decide +kernel, by decide +kernel⟩, List.mem_of_getElem? (i := 831) (by decide +kernel), List.mem_of_getElem? (i := 1008) (by decide +kernel), List.mem_of_getElem? (i := 1009) (by decide +kernel)⟩
def lw_privs_4 : List (MethodName × Nat) := [(⟨"TriggerHall", "holdingLines", "()I"⟩, 16), (⟨"TriggerHall", "passLines", "(I)I"⟩, 16), (⟨"TriggerHall$Line", "countPasses", "()Z"⟩, 7), (⟨"TriggerHall", "barLines", "()I"⟩, 16), (⟨"TriggerHall", "creditLines", "(I)V"⟩, 16), (⟨"TriggerHall$Line", "credit", "(Z)V"⟩, 7), (⟨"TriggerHall$Raws", "keep", "(II[I)V"⟩, 4), (⟨"TriggerHall$Raws", "slotOf", "(I)I"⟩, 4), (⟨"TriggerHall$Raws", "size", "()I"⟩, 4), (⟨"TriggerHall$Raws", "has", "(I)Z"⟩, 4), (⟨"TriggerHall$Raws", "numberOf", "(I)I"⟩, 4), (⟨"TriggerHall$Raws", "passedAt", "(I)I"⟩, 4), (⟨"TriggerHall$Raws", "copyHits", "(I[I)V"⟩, 4), (⟨"TriggerHall$Line", "forget", "()V"⟩, 7), (⟨"TriggerHallModel", "allHits", "()I"⟩, 41), (⟨"TriggerHallModel", "seen", "(I)I"⟩, 41)]
theorem lw_r4 : ∀ q ∈ lw_privs_4, lw_okq q := List.forall_mem_cons.mpr ⟨lw_p48, List.forall_mem_cons.mpr ⟨lw_p49, List.forall_mem_cons.mpr ⟨lw_p50, List.forall_mem_cons.mpr ⟨lw_p51, List.forall_mem_cons.mpr ⟨lw_p52, List.forall_mem_cons.mpr ⟨lw_p53, List.forall_mem_cons.mpr ⟨lw_p54, List.forall_mem_cons.mpr ⟨lw_p55, List.forall_mem_cons.mpr ⟨lw_p56, List.forall_mem_cons.mpr ⟨lw_p57, List.forall_mem_cons.mpr ⟨lw_p58, List.forall_mem_cons.mpr ⟨lw_p59, List.forall_mem_cons.mpr ⟨lw_p60, List.forall_mem_cons.mpr ⟨lw_p61, List.forall_mem_cons.mpr ⟨lw_p62, List.forall_mem_cons.mpr ⟨lw_p63, fun _ h => absurd h List.not_mem_nil⟩⟩⟩⟩⟩⟩⟩⟩⟩⟩⟩⟩⟩⟩⟩⟩
theorem lw_p64 : lw_okq (⟨"TriggerHallModel", "isRoad", "(I)Z"⟩, 41) := ⟨⟨by decide +kernel, by decide +kernel⟩, List.mem_of_getElem? (i := 831) (by decide +kernel), List.mem_of_getElem? (i := 1024) (by decide +kernel), List.mem_of_getElem? (i := 1025) (by decide +kernel)⟩
theorem lw_p65 : lw_okq (⟨"TriggerHallModel", "isLit", "(I)Z"⟩, 41) := ⟨⟨by decide +kernel, by decide +kernel⟩, List.mem_of_getElem? (i := 831) (by decide +kernel), List.mem_of_getElem? (i := 1032) (by decide +kernel), List.mem_of_getElem? (i := 1033) (by decide +kernel)⟩
theorem lw_p66 : lw_okq (⟨"TriggerHallModel", "heldBy", "(IZ)I"⟩, 41) := ⟨⟨by decide +kernel, by decide +kernel⟩, List.mem_of_getElem? (i := 831) (by decide +kernel), List.mem_of_getElem? (i := 1036) (by decide +kernel), List.mem_of_getElem? (i := 1037) (by decide +kernel)⟩
theorem lw_p67 : lw_okq (⟨"TriggerHallModel", "isIn", "(III)Z"⟩, 41) := ⟨⟨by decide +kernel, by decide +kernel⟩, List.mem_of_getElem? (i := 831) (by decide +kernel), List.mem_of_getElem? (i := 1040) (by decide +kernel), List.mem_of_getElem? (i := 1041) (by decide +kernel)⟩
theorem lw_p68 : lw_okq (⟨"TriggerHallModel", "findTrack", "(I)Z"⟩, 41) := ⟨⟨by decide +kernel, by decide +kernel⟩, List.mem_of_getElem? (i := 831) (by decide +kernel), List.mem_of_getElem? (i := 1052) (by decide +kernel), List.mem_of_getElem? (i := 1053) (by decide +kernel)⟩
theorem lw_p69 : lw_okq (⟨"TriggerHallModel", "findFrom", "(III)V"⟩, 41) := ⟨⟨by decide +kernel, by decide +kernel⟩, List.mem_of_getElem? (i := 831) (by decide +kernel), List.mem_of_getElem? (i := 1056) (by decide +kernel), List.mem_of_getElem? (i := 1057) (by decide +kernel)⟩
theorem lw_p70 : lw_okq (⟨"TriggerHallModel", "miss", "(I)I"⟩, 41) := ⟨⟨by decide +kernel, by decide +kernel⟩, List.mem_of_getElem? (i := 831) (by decide +kernel), List.mem_of_getElem? (i := 1060) (by decide +kernel), List.mem_of_getElem? (i := 1061) (by decide +kernel)⟩
theorem lw_p71 : lw_okq (⟨"TriggerHallModel", "weightOf", "(I)I"⟩, 41) := ⟨⟨by decide +kernel, by decide +kernel⟩, List.mem_of_getElem? (i := 831) (by decide +kernel), List.mem_of_getElem? (i := 1075) (by decide +kernel), List.mem_of_getElem? (i := 1076) (by decide +kernel)⟩
theorem lw_p72 : lw_okq (⟨"TriggerHallModel", "findHeap", "()V"⟩, 41) := ⟨⟨by decide +kernel, by decide +kernel⟩, List.mem_of_getElem? (i := 831) (by decide +kernel), List.mem_of_getElem? (i := 1083) (by decide +kernel), List.mem_of_getElem? (i := 1084) (by decide +kernel)⟩
theorem lw_p73 : lw_okq (⟨"TriggerHallModel", "areApart", "(II)Z"⟩, 41) := ⟨⟨by decide +kernel, by decide +kernel⟩, List.mem_of_getElem? (i := 831) (by decide +kernel), List.mem_of_getElem? (i := 1087) (by decide +kernel), List.mem_of_getElem? (i := 1088) (by decide +kernel)⟩
theorem lw_p74 : lw_okq (⟨"TriggerHallModel", "faultOf", "()I"⟩, 41) := ⟨⟨by decide +kernel, by decide +kernel⟩, List.mem_of_getElem? (i := 831) (by decide +kernel), List.mem_of_getElem? (i := 1108) (by decide +kernel), List.mem_of_getElem? (i := 1109) (by decide +kernel)⟩
theorem lw_p75 : lw_okq (⟨"TriggerHallModel", "isLine", "(I)Z"⟩, 41) := ⟨⟨by decide +kernel, by decide +kernel⟩, List.mem_of_getElem? (i := 831) (by decide +kernel), List.mem_of_getElem? (i := 1122) (by decide +kernel), List.mem_of_getElem? (i := 1123) (by decide +kernel)⟩
theorem lw_p76 : lw_okq (⟨"TriggerHallModel", "holding", "()I"⟩, 41) := ⟨⟨by decide +kernel, by decide +kernel⟩, List.mem_of_getElem? (i := 831) (by decide +kernel), List.mem_of_getElem? (i := 1130) (by decide +kernel), List.mem_of_getElem? (i := 1131) (by decide +kernel)⟩
theorem lw_p77 : lw_okq (⟨"TriggerHallModel", "any", "()Z"⟩, 41) := ⟨⟨by decide +kernel, by decide +kernel⟩, List.mem_of_getElem? (i := 831) (by decide +kernel), List.mem_of_getElem? (i := 1134) (by decide +kernel), List.mem_of_getElem? (i := 1135) (by decide +kernel)⟩
theorem lw_p78 : lw_okq (⟨"TriggerHallModel", "both", "()Z"⟩, 41) := ⟨⟨by decide +kernel, by decide +kernel⟩, List.mem_of_getElem? (i := 831) (by decide +kernel), List.mem_of_getElem? (i := 1138) (by decide +kernel), List.mem_of_getElem? (i := 1139) (by decide +kernel)⟩
theorem lw_p79 : lw_okq (⟨"TriggerHallModel", "one", "()Z"⟩, 41) := ⟨⟨by decide +kernel, by decide +kernel⟩, List.mem_of_getElem? (i := 831) (by decide +kernel), List.mem_of_getElem? (i := 1142) (by decide +kernel), List.mem_of_getElem? (i := 1143) (by decide +kernel)⟩
def lw_privs_5 : List (MethodName × Nat) := [(⟨"TriggerHallModel", "isRoad", "(I)Z"⟩, 41), (⟨"TriggerHallModel", "isLit", "(I)Z"⟩, 41), (⟨"TriggerHallModel", "heldBy", "(IZ)I"⟩, 41), (⟨"TriggerHallModel", "isIn", "(III)Z"⟩, 41), (⟨"TriggerHallModel", "findTrack", "(I)Z"⟩, 41), (⟨"TriggerHallModel", "findFrom", "(III)V"⟩, 41), (⟨"TriggerHallModel", "miss", "(I)I"⟩, 41), (⟨"TriggerHallModel", "weightOf", "(I)I"⟩, 41), (⟨"TriggerHallModel", "findHeap", "()V"⟩, 41), (⟨"TriggerHallModel", "areApart", "(II)Z"⟩, 41), (⟨"TriggerHallModel", "faultOf", "()I"⟩, 41), (⟨"TriggerHallModel", "isLine", "(I)Z"⟩, 41), (⟨"TriggerHallModel", "holding", "()I"⟩, 41), (⟨"TriggerHallModel", "any", "()Z"⟩, 41), (⟨"TriggerHallModel", "both", "()Z"⟩, 41), (⟨"TriggerHallModel", "one", "()Z"⟩, 41)]
theorem lw_r5 : ∀ q ∈ lw_privs_5, lw_okq q := List.forall_mem_cons.mpr ⟨lw_p64, List.forall_mem_cons.mpr ⟨lw_p65, List.forall_mem_cons.mpr ⟨lw_p66, List.forall_mem_cons.mpr ⟨lw_p67, List.forall_mem_cons.mpr ⟨lw_p68, List.forall_mem_cons.mpr ⟨lw_p69, List.forall_mem_cons.mpr ⟨lw_p70, List.forall_mem_cons.mpr ⟨lw_p71, List.forall_mem_cons.mpr ⟨lw_p72, List.forall_mem_cons.mpr ⟨lw_p73, List.forall_mem_cons.mpr ⟨lw_p74, List.forall_mem_cons.mpr ⟨lw_p75, List.forall_mem_cons.mpr ⟨lw_p76, List.forall_mem_cons.mpr ⟨lw_p77, List.forall_mem_cons.mpr ⟨lw_p78, List.forall_mem_cons.mpr ⟨lw_p79, fun _ h => absurd h List.not_mem_nil⟩⟩⟩⟩⟩⟩⟩⟩⟩⟩⟩⟩⟩⟩⟩⟩
theorem lw_p80 : lw_okq (⟨"TriggerHallModel", "letter", "()I"⟩, 41) := ⟨⟨by decide +kernel, by decide +kernel⟩, List.mem_of_getElem? (i := 831) (by decide +kernel), List.mem_of_getElem? (i := 1146) (by decide +kernel), List.mem_of_getElem? (i := 1147) (by decide +kernel)⟩
theorem lw_p81 : lw_okq (⟨"TriggerHallModel", "is", "(II)Z"⟩, 41) := ⟨⟨by decide +kernel, by decide +kernel⟩, List.mem_of_getElem? (i := 831) (by decide +kernel), List.mem_of_getElem? (i := 1150) (by decide +kernel), List.mem_of_getElem? (i := 1151) (by decide +kernel)⟩
theorem lw_p82 : lw_okq (⟨"TriggerHallModel", "look", "()I"⟩, 41) := ⟨⟨by decide +kernel, by decide +kernel⟩, List.mem_of_getElem? (i := 831) (by decide +kernel), List.mem_of_getElem? (i := 1162) (by decide +kernel), List.mem_of_getElem? (i := 1163) (by decide +kernel)⟩
theorem lw_p83 : lw_okq (⟨"TriggerHallModel", "noHits", "()V"⟩, 41) := ⟨⟨by decide +kernel, by decide +kernel⟩, List.mem_of_getElem? (i := 831) (by decide +kernel), List.mem_of_getElem? (i := 1166) (by decide +kernel), List.mem_of_getElem? (i := 1167) (by decide +kernel)⟩
theorem lw_p84 : lw_okq (⟨"TriggerHallModel", "raws", "()I"⟩, 41) := ⟨⟨by decide +kernel, by decide +kernel⟩, List.mem_of_getElem? (i := 831) (by decide +kernel), List.mem_of_getElem? (i := 1179) (by decide +kernel), List.mem_of_getElem? (i := 1180) (by decide +kernel)⟩
theorem lw_p85 : lw_okq (⟨"TriggerHallModel", "rawAt", "(I)I"⟩, 41) := ⟨⟨by decide +kernel, by decide +kernel⟩, List.mem_of_getElem? (i := 831) (by decide +kernel), List.mem_of_getElem? (i := 1188) (by decide +kernel), List.mem_of_getElem? (i := 1189) (by decide +kernel)⟩
def lw_privs_6 : List (MethodName × Nat) := [(⟨"TriggerHallModel", "letter", "()I"⟩, 41), (⟨"TriggerHallModel", "is", "(II)Z"⟩, 41), (⟨"TriggerHallModel", "look", "()I"⟩, 41), (⟨"TriggerHallModel", "noHits", "()V"⟩, 41), (⟨"TriggerHallModel", "raws", "()I"⟩, 41), (⟨"TriggerHallModel", "rawAt", "(I)I"⟩, 41)]
theorem lw_r6 : ∀ q ∈ lw_privs_6, lw_okq q := List.forall_mem_cons.mpr ⟨lw_p80, List.forall_mem_cons.mpr ⟨lw_p81, List.forall_mem_cons.mpr ⟨lw_p82, List.forall_mem_cons.mpr ⟨lw_p83, List.forall_mem_cons.mpr ⟨lw_p84, List.forall_mem_cons.mpr ⟨lw_p85, fun _ h => absurd h List.not_mem_nil⟩⟩⟩⟩⟩⟩
def lw_privs : List (MethodName × Nat) := lw_privs_1 ++ (lw_privs_2 ++ (lw_privs_3 ++ (lw_privs_4 ++ (lw_privs_5 ++ (lw_privs_6)))))
def lw_tbl : List Cond := k2_sels lw_privs ++ tables_1
theorem lw_privs_ok : ∀ q ∈ lw_privs, lw_okq q := by
  show ∀ q ∈ lw_privs_1 ++ (lw_privs_2 ++ (lw_privs_3 ++ (lw_privs_4 ++ (lw_privs_5 ++ (lw_privs_6))))), lw_okq q
  exact List.forall_mem_append.mpr ⟨lw_r1, List.forall_mem_append.mpr ⟨lw_r2, List.forall_mem_append.mpr ⟨lw_r3, List.forall_mem_append.mpr ⟨lw_r4, List.forall_mem_append.mpr ⟨lw_r5, lw_r6⟩⟩⟩⟩⟩
def RX0 : String := "TriggerHall$Fit"
def TX0 : u_T := fun k => match k with
  | 0 => ("TriggerHall$Fit", "choices", "[I", true)
  | 1 => ("TriggerHall$Fit", "trial", "[I", true)
  | 2 => ("TriggerHall$Fit", "cells", "[I", true)
  | 3 => ("TriggerHall$Fit", "held", "I", false)
  | 4 => ("TriggerHall$Fit", "layerSum", "I", false)
  | 5 => ("TriggerHall$Fit", "spread", "I", false)
  | _ => ("TriggerHall$Fit", "least", "I", false)
def tyX0 : Nat → FieldType := fun k => match k with
  | 0 => .array .int
  | 1 => .array .int
  | 2 => .array .int
  | 3 => .int
  | 4 => .int
  | 5 => .int
  | _ => .int
abbrev wsX00 : List Cond := u_ws RX0 TX0 7
theorem nmX0 : ∀ a, a < 7 → ∀ b, b < 7 → a ≠ b → (TX0 a).2.1 ≠ (TX0 b).2.1 := by decide +kernel
theorem tyX0_ok : ∀ k, k < 7 → parseFieldDescriptor (TX0 k).2.2.1 = some (tyX0 k) := by decide +kernel
abbrev cX0_init : ByteArray := prog_2_method_1_code
def yX0_init : MethodName := ⟨RX0, "<init>", "()V"⟩
abbrev cX0_along : ByteArray := prog_2_method_2_code
def yX0_along : MethodName := ⟨RX0, "along", "(LTriggerHall$Road;[I)V"⟩
abbrev cX0_tryCells : ByteArray := prog_2_method_3_code
def yX0_tryCells : MethodName := ⟨RX0, "tryCells", "(IIII)V"⟩
abbrev cX0_isPerfect : ByteArray := prog_2_method_4_code
def yX0_isPerfect : MethodName := ⟨RX0, "isPerfect", "()Z"⟩
abbrev cX0_takeTrial : ByteArray := prog_2_method_5_code
def yX0_takeTrial : MethodName := ⟨RX0, "takeTrial", "(III)V"⟩
abbrev cX0_above : ByteArray := prog_2_method_6_code
def yX0_above : MethodName := ⟨RX0, "above", "()I"⟩
abbrev cX0_below : ByteArray := prog_2_method_7_code
def yX0_below : MethodName := ⟨RX0, "below", "()I"⟩
abbrev cX0_worth : ByteArray := prog_2_method_8_code
def yX0_worth : MethodName := ⟨RX0, "worth", "()I"⟩
def RX1 : String := "TriggerHall$Heap"
def TX1 : u_T := fun k => match k with
  | 0 => ("TriggerHall$Heap", "taken", "[I", true)
  | 1 => ("TriggerHall$Heap", "clashesAbove", "[I", true)
  | 2 => ("TriggerHall$Heap", "worths", "[I", true)
  | 3 => ("TriggerHall$Heap", "worthsUpTo", "[I", true)
  | 4 => ("TriggerHall$Heap", "size", "I", false)
  | 5 => ("TriggerHall$Heap", "bestRoads", "I", false)
  | _ => ("TriggerHall$Heap", "bestSum", "I", false)
def tyX1 : Nat → FieldType := fun k => match k with
  | 0 => .array .int
  | 1 => .array .int
  | 2 => .array .int
  | 3 => .array .int
  | 4 => .int
  | 5 => .int
  | _ => .int
abbrev wsX10 : List Cond := u_ws RX1 TX1 7
theorem nmX1 : ∀ a, a < 7 → ∀ b, b < 7 → a ≠ b → (TX1 a).2.1 ≠ (TX1 b).2.1 := by decide +kernel
theorem tyX1_ok : ∀ k, k < 7 → parseFieldDescriptor (TX1 k).2.2.1 = some (tyX1 k) := by decide +kernel
abbrev cX1_init : ByteArray := prog_3_method_1_code
def yX1_init : MethodName := ⟨RX1, "<init>", "()V"⟩
abbrev cX1_empty : ByteArray := prog_3_method_2_code
def yX1_empty : MethodName := ⟨RX1, "empty", "()V"⟩
abbrev cX1_put : ByteArray := prog_3_method_3_code
def yX1_put : MethodName := ⟨RX1, "put", "(I[I)V"⟩
abbrev cX1_clash : ByteArray := prog_3_method_4_code
def yX1_clash : MethodName := ⟨RX1, "clash", "(II)Z"⟩
abbrev cX1_choose : ByteArray := prog_3_method_5_code
def yX1_choose : MethodName := ⟨RX1, "choose", "()V"⟩
abbrev cX1_chooseFrom : ByteArray := prog_3_method_6_code
def yX1_chooseFrom : MethodName := ⟨RX1, "chooseFrom", "(III)V"⟩
def RX2 : String := "TriggerHall$Line"
def TX2 : u_T := fun k => match k with
  | 0 => ("TriggerHall$Line", "text", "LTriggerHall$Text;", true)
  | 1 => ("TriggerHall$Line", "bar", "Z", true)
  | 2 => ("TriggerHall$Line", "share", "I", false)
  | 3 => ("TriggerHall$Line", "count", "I", false)
  | 4 => ("TriggerHall$Line", "passed", "I", false)
  | 5 => ("TriggerHall$Line", "kept", "I", false)
  | _ => ("TriggerHall$Line", "keptAlone", "I", false)
def tyX2 : Nat → FieldType := fun k => match k with
  | 0 => .object "TriggerHall$Text"
  | 1 => .boolean
  | 2 => .int
  | 3 => .int
  | 4 => .int
  | 5 => .int
  | _ => .int
abbrev wsX20 : List Cond := u_ws RX2 TX2 7
theorem nmX2 : ∀ a, a < 7 → ∀ b, b < 7 → a ≠ b → (TX2 a).2.1 ≠ (TX2 b).2.1 := by decide +kernel
theorem tyX2_ok : ∀ k, k < 7 → parseFieldDescriptor (TX2 k).2.2.1 = some (tyX2 k) := by decide +kernel
abbrev cX2_init : ByteArray := prog_4_method_1_code
def yX2_init : MethodName := ⟨RX2, "<init>", "(LTriggerHall$Text;IZ)V"⟩
abbrev cX2_countPasses : ByteArray := prog_4_method_2_code
def yX2_countPasses : MethodName := ⟨RX2, "countPasses", "()Z"⟩
abbrev cX2_credit : ByteArray := prog_4_method_3_code
def yX2_credit : MethodName := ⟨RX2, "credit", "(Z)V"⟩
abbrev cX2_forget : ByteArray := prog_4_method_4_code
def yX2_forget : MethodName := ⟨RX2, "forget", "()V"⟩
def RX3 : String := "TriggerHall$Look"
def TX3 : u_T := fun k => match k with
  | 0 => ("TriggerHall$Look", "seen", "[I", true)
  | 1 => ("TriggerHall$Look", "fit", "LTriggerHall$Fit;", true)
  | 2 => ("TriggerHall$Look", "heap", "LTriggerHall$Heap;", true)
  | _ => ("TriggerHall$Look", "litRoads", "I", false)
def tyX3 : Nat → FieldType := fun k => match k with
  | 0 => .array .int
  | 1 => .object "TriggerHall$Fit"
  | 2 => .object "TriggerHall$Heap"
  | _ => .int
abbrev wsX30 : List Cond := u_ws RX3 TX3 4
theorem nmX3 : ∀ a, a < 4 → ∀ b, b < 4 → a ≠ b → (TX3 a).2.1 ≠ (TX3 b).2.1 := by decide +kernel
theorem tyX3_ok : ∀ k, k < 4 → parseFieldDescriptor (TX3 k).2.2.1 = some (tyX3 k) := by decide +kernel
abbrev cX3_init : ByteArray := prog_5_method_1_code
def yX3_init : MethodName := ⟨RX3, "<init>", "()V"⟩
abbrev cX3_see : ByteArray := prog_5_method_2_code
def yX3_see : MethodName := ⟨RX3, "see", "([I[I[I)V"⟩
abbrev cX3_light : ByteArray := prog_5_method_3_code
def yX3_light : MethodName := ⟨RX3, "light", "(Ljava/util/List;)V"⟩
abbrev cX3_fitAlong : ByteArray := prog_5_method_4_code
def yX3_fitAlong : MethodName := ⟨RX3, "fitAlong", "(LTriggerHall$Road;)Z"⟩
abbrev cX3_pile : ByteArray := prog_5_method_5_code
def yX3_pile : MethodName := ⟨RX3, "pile", "(Ljava/util/List;)V"⟩
abbrev cX3_layersSeen : ByteArray := prog_5_method_6_code
def yX3_layersSeen : MethodName := ⟨RX3, "layersSeen", "()I"⟩
abbrev cX3_answers : ByteArray := prog_5_method_7_code
def yX3_answers : MethodName := ⟨RX3, "answers", "(II)Z"⟩
def RX4 : String := "TriggerHall$Raws"
def TX4 : u_T := fun k => match k with
  | 0 => ("TriggerHall$Raws", "numbers", "[I", true)
  | 1 => ("TriggerHall$Raws", "passedLines", "[I", true)
  | 2 => ("TriggerHall$Raws", "rows", "[I", true)
  | _ => ("TriggerHall$Raws", "kept", "I", false)
def tyX4 : Nat → FieldType := fun k => match k with
  | 0 => .array .int
  | 1 => .array .int
  | 2 => .array .int
  | _ => .int
abbrev wsX40 : List Cond := u_ws RX4 TX4 4
theorem nmX4 : ∀ a, a < 4 → ∀ b, b < 4 → a ≠ b → (TX4 a).2.1 ≠ (TX4 b).2.1 := by decide +kernel
theorem tyX4_ok : ∀ k, k < 4 → parseFieldDescriptor (TX4 k).2.2.1 = some (tyX4 k) := by decide +kernel
abbrev cX4_init : ByteArray := prog_6_method_1_code
def yX4_init : MethodName := ⟨RX4, "<init>", "()V"⟩
abbrev cX4_size : ByteArray := prog_6_method_2_code
def yX4_size : MethodName := ⟨RX4, "size", "()I"⟩
abbrev cX4_has : ByteArray := prog_6_method_3_code
def yX4_has : MethodName := ⟨RX4, "has", "(I)Z"⟩
abbrev cX4_slotOf : ByteArray := prog_6_method_4_code
def yX4_slotOf : MethodName := ⟨RX4, "slotOf", "(I)I"⟩
abbrev cX4_keep : ByteArray := prog_6_method_5_code
def yX4_keep : MethodName := ⟨RX4, "keep", "(II[I)V"⟩
abbrev cX4_numberOf : ByteArray := prog_6_method_6_code
def yX4_numberOf : MethodName := ⟨RX4, "numberOf", "(I)I"⟩
abbrev cX4_passedAt : ByteArray := prog_6_method_7_code
def yX4_passedAt : MethodName := ⟨RX4, "passedAt", "(I)I"⟩
abbrev cX4_copyHits : ByteArray := prog_6_method_8_code
def yX4_copyHits : MethodName := ⟨RX4, "copyHits", "(I[I)V"⟩
def RX5 : String := "TriggerHall$Reader"
def TX5 : u_T := fun k => match k with
  | 0 => ("TriggerHall$Reader", "text", "LTriggerHall$Text;", false)
  | 1 => ("TriggerHall$Reader", "look", "LTriggerHall$Look;", false)
  | 2 => ("TriggerHall$Reader", "place", "I", false)
  | _ => ("TriggerHall$Reader", "fault", "I", false)
def tyX5 : Nat → FieldType := fun k => match k with
  | 0 => .object "TriggerHall$Text"
  | 1 => .object "TriggerHall$Look"
  | 2 => .int
  | _ => .int
abbrev wsX50 : List Cond := u_ws RX5 TX5 4
theorem nmX5 : ∀ a, a < 4 → ∀ b, b < 4 → a ≠ b → (TX5 a).2.1 ≠ (TX5 b).2.1 := by decide +kernel
theorem tyX5_ok : ∀ k, k < 4 → parseFieldDescriptor (TX5 k).2.2.1 = some (tyX5 k) := by decide +kernel
abbrev cX5_init : ByteArray := prog_7_method_1_code
def yX5_init : MethodName := ⟨RX5, "<init>", "()V"⟩
abbrev cX5_read : ByteArray := prog_7_method_2_code
def yX5_read : MethodName := ⟨RX5, "read", "(LTriggerHall$Text;LTriggerHall$Look;)Z"⟩
abbrev cX5_readAny : ByteArray := prog_7_method_3_code
def yX5_readAny : MethodName := ⟨RX5, "readAny", "(I)Z"⟩
abbrev cX5_readBoth : ByteArray := prog_7_method_4_code
def yX5_readBoth : MethodName := ⟨RX5, "readBoth", "(I)Z"⟩
abbrev cX5_readOne : ByteArray := prog_7_method_5_code
def yX5_readOne : MethodName := ⟨RX5, "readOne", "(I)Z"⟩
abbrev cX5_readAsked : ByteArray := prog_7_method_6_code
def yX5_readAsked : MethodName := ⟨RX5, "readAsked", "()Z"⟩
abbrev cX5_canAsk : ByteArray := prog_7_method_7_code
def yX5_canAsk : MethodName := ⟨RX5, "canAsk", "(I)Z"⟩
abbrev cX5_readNumber : ByteArray := prog_7_method_8_code
def yX5_readNumber : MethodName := ⟨RX5, "readNumber", "()I"⟩
abbrev cX5_isFigure : ByteArray := prog_7_method_9_code
def yX5_isFigure : MethodName := ⟨RX5, "isFigure", "(I)Z"⟩
abbrev cX5_passOver : ByteArray := prog_7_method_10_code
def yX5_passOver : MethodName := ⟨RX5, "passOver", "(C)Z"⟩
abbrev cX5_fail : ByteArray := prog_7_method_11_code
def yX5_fail : MethodName := ⟨RX5, "fail", "()Z"⟩
def RX6 : String := "TriggerHall$Road"
def TX6 : u_T := fun k => match k with
  | 0 => ("TriggerHall$Road", "first", "[I", true)
  | 1 => ("TriggerHall$Road", "last", "[I", true)
  | _ => ("TriggerHall$Road", "need", "I", true)
def tyX6 : Nat → FieldType := fun k => match k with
  | 0 => .array .int
  | 1 => .array .int
  | _ => .int
abbrev wsX60 : List Cond := u_ws RX6 TX6 3
theorem nmX6 : ∀ a, a < 3 → ∀ b, b < 3 → a ≠ b → (TX6 a).2.1 ≠ (TX6 b).2.1 := by decide +kernel
theorem tyX6_ok : ∀ k, k < 3 → parseFieldDescriptor (TX6 k).2.2.1 = some (tyX6 k) := by decide +kernel
abbrev cX6_init : ByteArray := prog_8_method_1_code
def yX6_init : MethodName := ⟨RX6, "<init>", "(I)V"⟩
abbrev cX6_setSpan : ByteArray := prog_8_method_2_code
def yX6_setSpan : MethodName := ⟨RX6, "setSpan", "(II)V"⟩
abbrev cX6_spanTold : ByteArray := prog_8_method_3_code
def yX6_spanTold : MethodName := ⟨RX6, "spanTold", "(I)I"⟩
abbrev cX6_seenIn : ByteArray := prog_8_method_4_code
def yX6_seenIn : MethodName := ⟨RX6, "seenIn", "(I[I)I"⟩
abbrev cX6_layersHeld : ByteArray := prog_8_method_5_code
def yX6_layersHeld : MethodName := ⟨RX6, "layersHeld", "([I)I"⟩
abbrev cX6_isLit : ByteArray := prog_8_method_6_code
def yX6_isLit : MethodName := ⟨RX6, "isLit", "([I)Z"⟩
def RX7 : String := "TriggerHall$Sheet"
def TX7 : u_T := fun k => match k with
  | 0 => ("TriggerHall$Sheet", "numbers", "[I", true)
  | 1 => ("TriggerHall$Sheet", "there", "Z", false)
  | 2 => ("TriggerHall$Sheet", "kind", "I", false)
  | _ => ("TriggerHall$Sheet", "length", "I", false)
def tyX7 : Nat → FieldType := fun k => match k with
  | 0 => .array .int
  | 1 => .boolean
  | 2 => .int
  | _ => .int
abbrev wsX70 : List Cond := u_ws RX7 TX7 4
theorem nmX7 : ∀ a, a < 4 → ∀ b, b < 4 → a ≠ b → (TX7 a).2.1 ≠ (TX7 b).2.1 := by decide +kernel
theorem tyX7_ok : ∀ k, k < 4 → parseFieldDescriptor (TX7 k).2.2.1 = some (tyX7 k) := by decide +kernel
abbrev cX7_init : ByteArray := prog_9_method_1_code
def yX7_init : MethodName := ⟨RX7, "<init>", "()V"⟩
abbrev cX7_lay : ByteArray := prog_9_method_2_code
def yX7_lay : MethodName := ⟨RX7, "lay", "(II)V"⟩
abbrev cX7_has : ByteArray := prog_9_method_3_code
def yX7_has : MethodName := ⟨RX7, "has", "(I)Z"⟩
abbrev cX7_numberAt : ByteArray := prog_9_method_4_code
def yX7_numberAt : MethodName := ⟨RX7, "numberAt", "(I)I"⟩
abbrev cX7_put : ByteArray := prog_9_method_5_code
def yX7_put : MethodName := ⟨RX7, "put", "(II)V"⟩
def RX8 : String := "TriggerHall$Text"
def TX8 : u_T := fun k => match k with
  | 0 => ("TriggerHall$Text", "letters", "[C", true)
  | _ => ("TriggerHall$Text", "length", "I", false)
def tyX8 : Nat → FieldType := fun k => match k with
  | 0 => .array .char
  | _ => .int
abbrev wsX80 : List Cond := u_ws RX8 TX8 2
theorem nmX8 : ∀ a, a < 2 → ∀ b, b < 2 → a ≠ b → (TX8 a).2.1 ≠ (TX8 b).2.1 := by decide +kernel
theorem tyX8_ok : ∀ k, k < 2 → parseFieldDescriptor (TX8 k).2.2.1 = some (tyX8 k) := by decide +kernel
abbrev cX8_init : ByteArray := prog_10_method_1_code
def yX8_init : MethodName := ⟨RX8, "<init>", "()V"⟩
abbrev cX8_put : ByteArray := prog_10_method_2_code
def yX8_put : MethodName := ⟨RX8, "put", "(C)V"⟩
abbrev cX8_copy : ByteArray := prog_10_method_3_code
def yX8_copy : MethodName := ⟨RX8, "copy", "(LTriggerHall$Text;)V"⟩
abbrev cX8_letterAt : ByteArray := prog_10_method_4_code
def yX8_letterAt : MethodName := ⟨RX8, "letterAt", "(I)I"⟩
def RX9 : String := "TriggerHall"
def TX9 : u_T := fun k => match k with
  | 0 => ("TriggerHall", "sheets", "[LTriggerHall$Sheet;", true)
  | 1 => ("TriggerHall", "hits", "[I", true)
  | 2 => ("TriggerHall", "dead", "[I", true)
  | 3 => ("TriggerHall", "noisy", "[I", true)
  | 4 => ("TriggerHall", "roads", "Ljava/util/List;", true)
  | 5 => ("TriggerHall", "look", "LTriggerHall$Look;", true)
  | 6 => ("TriggerHall", "tape", "LTriggerHall$Text;", true)
  | 7 => ("TriggerHall", "reader", "LTriggerHall$Reader;", true)
  | 8 => ("TriggerHall", "lines", "Ljava/util/List;", true)
  | 9 => ("TriggerHall", "raws", "LTriggerHall$Raws;", true)
  | 10 => ("TriggerHall", "rawHits", "[I", true)
  | 11 => ("TriggerHall", "rest", "I", false)
  | 12 => ("TriggerHall", "toLose", "I", false)
  | 13 => ("TriggerHall", "came", "I", false)
  | 14 => ("TriggerHall", "lost", "I", false)
  | _ => ("TriggerHall", "barred", "I", false)
def tyX9 : Nat → FieldType := fun k => match k with
  | 0 => .array (.object "TriggerHall$Sheet")
  | 1 => .array .int
  | 2 => .array .int
  | 3 => .array .int
  | 4 => .object "java/util/List"
  | 5 => .object "TriggerHall$Look"
  | 6 => .object "TriggerHall$Text"
  | 7 => .object "TriggerHall$Reader"
  | 8 => .object "java/util/List"
  | 9 => .object "TriggerHall$Raws"
  | 10 => .array .int
  | 11 => .int
  | 12 => .int
  | 13 => .int
  | 14 => .int
  | _ => .int
abbrev wsX90 : List Cond := u_ws RX9 TX9 16
theorem nmX9 : ∀ a, a < 16 → ∀ b, b < 16 → a ≠ b → (TX9 a).2.1 ≠ (TX9 b).2.1 := by decide +kernel
theorem tyX9_ok : ∀ k, k < 16 → parseFieldDescriptor (TX9 k).2.2.1 = some (tyX9 k) := by decide +kernel
abbrev cX9_init : ByteArray := prog_1_method_1_code
def yX9_init : MethodName := ⟨RX9, "<init>", "()V"⟩
abbrev cX9_sheet : ByteArray := prog_1_method_2_code
def yX9_sheet : MethodName := ⟨RX9, "sheet", "(III)I"⟩
abbrev cX9_cell : ByteArray := prog_1_method_3_code
def yX9_cell : MethodName := ⟨RX9, "cell", "(III)I"⟩
abbrev cX9_lose : ByteArray := prog_1_method_4_code
def yX9_lose : MethodName := ⟨RX9, "lose", "(I)I"⟩
abbrev cX9_hits : ByteArray := prog_1_method_5_code
def yX9_hits : MethodName := ⟨RX9, "hits", "(II)I"⟩
abbrev cX9_load : ByteArray := prog_1_method_6_code
def yX9_load : MethodName := ⟨RX9, "load", "(II)I"⟩
abbrev cX9_mask : ByteArray := prog_1_method_7_code
def yX9_mask : MethodName := ⟨RX9, "mask", "(III)I"⟩
abbrev cX9_layer : ByteArray := prog_1_method_8_code
def yX9_layer : MethodName := ⟨RX9, "layer", "(II)I"⟩
abbrev cX9_road : ByteArray := prog_1_method_9_code
def yX9_road : MethodName := ⟨RX9, "road", "(IIIIII)I"⟩
abbrev cX9_span : ByteArray := prog_1_method_10_code
def yX9_span : MethodName := ⟨RX9, "span", "(III)I"⟩
abbrev cX9_lit : ByteArray := prog_1_method_11_code
def yX9_lit : MethodName := ⟨RX9, "lit", "()I"⟩
abbrev cX9_held : ByteArray := prog_1_method_12_code
def yX9_held : MethodName := ⟨RX9, "held", "(I)I"⟩
abbrev cX9_track : ByteArray := prog_1_method_13_code
def yX9_track : MethodName := ⟨RX9, "track", "(II)I"⟩
abbrev cX9_miss : ByteArray := prog_1_method_14_code
def yX9_miss : MethodName := ⟨RX9, "miss", "(II)I"⟩
abbrev cX9_weight : ByteArray := prog_1_method_15_code
def yX9_weight : MethodName := ⟨RX9, "weight", "(I)I"⟩
abbrev cX9_heap : ByteArray := prog_1_method_16_code
def yX9_heap : MethodName := ⟨RX9, "heap", "(I)I"⟩
abbrev cX9_blind : ByteArray := prog_1_method_17_code
def yX9_blind : MethodName := ⟨RX9, "blind", "()I"⟩
abbrev cX9_feed : ByteArray := prog_1_method_18_code
def yX9_feed : MethodName := ⟨RX9, "feed", "(I)I"⟩
abbrev cX9_clear : ByteArray := prog_1_method_19_code
def yX9_clear : MethodName := ⟨RX9, "clear", "()I"⟩
abbrev cX9_line : ByteArray := prog_1_method_20_code
def yX9_line : MethodName := ⟨RX9, "line", "(IZ)I"⟩
abbrev cX9_thin : ByteArray := prog_1_method_21_code
def yX9_thin : MethodName := ⟨RX9, "thin", "(II)I"⟩
abbrev cX9_holds : ByteArray := prog_1_method_22_code
def yX9_holds : MethodName := ⟨RX9, "holds", "(I)I"⟩
abbrev cX9_of : ByteArray := prog_1_method_23_code
def yX9_of : MethodName := ⟨RX9, "of", "(II)I"⟩
abbrev cX9_fire : ByteArray := prog_1_method_24_code
def yX9_fire : MethodName := ⟨RX9, "fire", "()I"⟩
abbrev cX9_rest : ByteArray := prog_1_method_25_code
def yX9_rest : MethodName := ⟨RX9, "rest", "(I)I"⟩
abbrev cX9_many : ByteArray := prog_1_method_26_code
def yX9_many : MethodName := ⟨RX9, "many", "(I)I"⟩
abbrev cX9_raw : ByteArray := prog_1_method_27_code
def yX9_raw : MethodName := ⟨RX9, "raw", "(II)I"⟩
abbrev cX9_again : ByteArray := prog_1_method_28_code
def yX9_again : MethodName := ⟨RX9, "again", "(I)I"⟩
abbrev cX9_anew : ByteArray := prog_1_method_29_code
def yX9_anew : MethodName := ⟨RX9, "anew", "()I"⟩
abbrev cX9_isLayer : ByteArray := prog_1_method_30_code
def yX9_isLayer : MethodName := ⟨RX9, "isLayer", "(I)Z"⟩
abbrev cX9_areCells : ByteArray := prog_1_method_31_code
def yX9_areCells : MethodName := ⟨RX9, "areCells", "(I)Z"⟩
abbrev cX9_isShare : ByteArray := prog_1_method_32_code
def yX9_isShare : MethodName := ⟨RX9, "isShare", "(I)Z"⟩
abbrev cX9_isSpan : ByteArray := prog_1_method_33_code
def yX9_isSpan : MethodName := ⟨RX9, "isSpan", "(I)Z"⟩
abbrev cX9_cellsIn : ByteArray := prog_1_method_34_code
def yX9_cellsIn : MethodName := ⟨RX9, "cellsIn", "([I)I"⟩
abbrev cX9_letterIn : ByteArray := prog_1_method_35_code
def yX9_letterIn : MethodName := ⟨RX9, "letterIn", "(II)C"⟩
abbrev cX9_lettersIn : ByteArray := prog_1_method_36_code
def yX9_lettersIn : MethodName := ⟨RX9, "lettersIn", "(I)I"⟩
abbrev cX9_greatestDivisor : ByteArray := prog_1_method_37_code
def yX9_greatestDivisor : MethodName := ⟨RX9, "greatestDivisor", "(II)I"⟩
abbrev cX9_sheetAt : ByteArray := prog_1_method_38_code
def yX9_sheetAt : MethodName := ⟨RX9, "sheetAt", "(I)LTriggerHall$Sheet;"⟩
abbrev cX9_roadAt : ByteArray := prog_1_method_39_code
def yX9_roadAt : MethodName := ⟨RX9, "roadAt", "(I)LTriggerHall$Road;"⟩
abbrev cX9_lineAt : ByteArray := prog_1_method_40_code
def yX9_lineAt : MethodName := ⟨RX9, "lineAt", "(I)LTriggerHall$Line;"⟩
abbrev cX9_fitInHand : ByteArray := prog_1_method_41_code
def yX9_fitInHand : MethodName := ⟨RX9, "fitInHand", "(LTriggerHall$Road;)Z"⟩
abbrev cX9_lookAt : ByteArray := prog_1_method_42_code
def yX9_lookAt : MethodName := ⟨RX9, "lookAt", "([I)V"⟩
abbrev cX9_holdingLines : ByteArray := prog_1_method_43_code
def yX9_holdingLines : MethodName := ⟨RX9, "holdingLines", "()I"⟩
abbrev cX9_loseCrossing : ByteArray := prog_1_method_44_code
def yX9_loseCrossing : MethodName := ⟨RX9, "loseCrossing", "()I"⟩
abbrev cX9_judgeCrossing : ByteArray := prog_1_method_45_code
def yX9_judgeCrossing : MethodName := ⟨RX9, "judgeCrossing", "(I)I"⟩
abbrev cX9_passLines : ByteArray := prog_1_method_46_code
def yX9_passLines : MethodName := ⟨RX9, "passLines", "(I)I"⟩
abbrev cX9_barLines : ByteArray := prog_1_method_47_code
def yX9_barLines : MethodName := ⟨RX9, "barLines", "()I"⟩
abbrev cX9_creditLines : ByteArray := prog_1_method_48_code
def yX9_creditLines : MethodName := ⟨RX9, "creditLines", "(I)V"⟩
def RX10 : String := "TriggerHallModel"
def TX10 : u_T := fun k => match k with
  | 0 => ("TriggerHallModel", "kinds", "[I", true)
  | 1 => ("TriggerHallModel", "sizes", "[I", true)
  | 2 => ("TriggerHallModel", "numbers", "[I", true)
  | 3 => ("TriggerHallModel", "hits", "[I", true)
  | 4 => ("TriggerHallModel", "dead", "[I", true)
  | 5 => ("TriggerHallModel", "noisy", "[I", true)
  | 6 => ("TriggerHallModel", "roads", "I", false)
  | 7 => ("TriggerHallModel", "spans", "[I", true)
  | 8 => ("TriggerHallModel", "needs", "[I", true)
  | 9 => ("TriggerHallModel", "tape", "[B", true)
  | 10 => ("TriggerHallModel", "taped", "I", false)
  | 11 => ("TriggerHallModel", "lines", "I", false)
  | 12 => ("TriggerHallModel", "texts", "[B", true)
  | 13 => ("TriggerHallModel", "lengths", "[I", true)
  | 14 => ("TriggerHallModel", "shares", "[I", true)
  | 15 => ("TriggerHallModel", "bars", "[Z", true)
  | 16 => ("TriggerHallModel", "counts", "[I", true)
  | 17 => ("TriggerHallModel", "passed", "[I", true)
  | 18 => ("TriggerHallModel", "kept", "[I", true)
  | 19 => ("TriggerHallModel", "only", "[I", true)
  | 20 => ("TriggerHallModel", "came", "I", false)
  | 21 => ("TriggerHallModel", "lost", "I", false)
  | 22 => ("TriggerHallModel", "keptAll", "I", false)
  | 23 => ("TriggerHallModel", "barred", "I", false)
  | 24 => ("TriggerHallModel", "rest", "I", false)
  | 25 => ("TriggerHallModel", "left", "I", false)
  | 26 => ("TriggerHallModel", "rawNumber", "[I", true)
  | 27 => ("TriggerHallModel", "rawLines", "[I", true)
  | 28 => ("TriggerHallModel", "rawHits", "[I", true)
  | 29 => ("TriggerHallModel", "told", "[I", true)
  | 30 => ("TriggerHallModel", "row", "[I", true)
  | 31 => ("TriggerHallModel", "best", "[I", true)
  | 32 => ("TriggerHallModel", "bestTop", "[I", true)
  | 33 => ("TriggerHallModel", "bestLow", "[I", true)
  | 34 => ("TriggerHallModel", "low", "I", false)
  | 35 => ("TriggerHallModel", "heapSet", "I", false)
  | 36 => ("TriggerHallModel", "heapWeight", "I", false)
  | 37 => ("TriggerHallModel", "open", "[I", true)
  | 38 => ("TriggerHallModel", "asked", "I", false)
  | 39 => ("TriggerHallModel", "at", "I", false)
  | _ => ("TriggerHallModel", "hand", "[I", true)
def tyX10 : Nat → FieldType := fun k => match k with
  | 0 => .array .int
  | 1 => .array .int
  | 2 => .array .int
  | 3 => .array .int
  | 4 => .array .int
  | 5 => .array .int
  | 6 => .int
  | 7 => .array .int
  | 8 => .array .int
  | 9 => .array .byte
  | 10 => .int
  | 11 => .int
  | 12 => .array .byte
  | 13 => .array .int
  | 14 => .array .int
  | 15 => .array .boolean
  | 16 => .array .int
  | 17 => .array .int
  | 18 => .array .int
  | 19 => .array .int
  | 20 => .int
  | 21 => .int
  | 22 => .int
  | 23 => .int
  | 24 => .int
  | 25 => .int
  | 26 => .array .int
  | 27 => .array .int
  | 28 => .array .int
  | 29 => .array .int
  | 30 => .array .int
  | 31 => .array .int
  | 32 => .array .int
  | 33 => .array .int
  | 34 => .int
  | 35 => .int
  | 36 => .int
  | 37 => .array .int
  | 38 => .int
  | 39 => .int
  | _ => .array .int
abbrev wsX100 : List Cond := u_ws RX10 TX10 41
theorem nmX10 : ∀ a, a < 41 → ∀ b, b < 41 → a ≠ b → (TX10 a).2.1 ≠ (TX10 b).2.1 := by decide +kernel
theorem tyX10_ok : ∀ k, k < 41 → parseFieldDescriptor (TX10 k).2.2.1 = some (tyX10 k) := by decide +kernel
abbrev cX10_init : ByteArray := prog_12_method_1_code
def yX10_init : MethodName := ⟨RX10, "<init>", "()V"⟩
abbrev cX10_in : ByteArray := prog_12_method_2_code
def yX10_in : MethodName := ⟨RX10, "in", "(JJJ)Z"⟩
abbrev cX10_bitsOf : ByteArray := prog_12_method_3_code
def yX10_bitsOf : MethodName := ⟨RX10, "bitsOf", "(I)I"⟩
abbrev cX10_isLayer : ByteArray := prog_12_method_4_code
def yX10_isLayer : MethodName := ⟨RX10, "isLayer", "(I)Z"⟩
abbrev cX10_sheet : ByteArray := prog_12_method_5_code
def yX10_sheet : MethodName := ⟨RX10, "sheet", "(III)I"⟩
abbrev cX10_cell : ByteArray := prog_12_method_6_code
def yX10_cell : MethodName := ⟨RX10, "cell", "(III)I"⟩
abbrev cX10_lose : ByteArray := prog_12_method_7_code
def yX10_lose : MethodName := ⟨RX10, "lose", "(I)I"⟩
abbrev cX10_allHits : ByteArray := prog_12_method_8_code
def yX10_allHits : MethodName := ⟨RX10, "allHits", "()I"⟩
abbrev cX10_hits : ByteArray := prog_12_method_9_code
def yX10_hits : MethodName := ⟨RX10, "hits", "(II)I"⟩
abbrev cX10_load : ByteArray := prog_12_method_10_code
def yX10_load : MethodName := ⟨RX10, "load", "(II)I"⟩
abbrev cX10_mask : ByteArray := prog_12_method_11_code
def yX10_mask : MethodName := ⟨RX10, "mask", "(III)I"⟩
abbrev cX10_seen : ByteArray := prog_12_method_12_code
def yX10_seen : MethodName := ⟨RX10, "seen", "(I)I"⟩
abbrev cX10_layer : ByteArray := prog_12_method_13_code
def yX10_layer : MethodName := ⟨RX10, "layer", "(II)I"⟩
abbrev cX10_isSpan : ByteArray := prog_12_method_14_code
def yX10_isSpan : MethodName := ⟨RX10, "isSpan", "(I)Z"⟩
abbrev cX10_road : ByteArray := prog_12_method_15_code
def yX10_road : MethodName := ⟨RX10, "road", "(IIIIII)I"⟩
abbrev cX10_isRoad : ByteArray := prog_12_method_16_code
def yX10_isRoad : MethodName := ⟨RX10, "isRoad", "(I)Z"⟩
abbrev cX10_span : ByteArray := prog_12_method_17_code
def yX10_span : MethodName := ⟨RX10, "span", "(III)I"⟩
abbrev cX10_isIn : ByteArray := prog_12_method_18_code
def yX10_isIn : MethodName := ⟨RX10, "isIn", "(III)Z"⟩
abbrev cX10_heldBy : ByteArray := prog_12_method_19_code
def yX10_heldBy : MethodName := ⟨RX10, "heldBy", "(IZ)I"⟩
abbrev cX10_isLit : ByteArray := prog_12_method_20_code
def yX10_isLit : MethodName := ⟨RX10, "isLit", "(I)Z"⟩
abbrev cX10_lit : ByteArray := prog_12_method_21_code
def yX10_lit : MethodName := ⟨RX10, "lit", "()I"⟩
abbrev cX10_held : ByteArray := prog_12_method_22_code
def yX10_held : MethodName := ⟨RX10, "held", "(I)I"⟩
abbrev cX10_miss : ByteArray := prog_12_method_23_code
def yX10_miss : MethodName := ⟨RX10, "miss", "(I)I"⟩
abbrev cX10_findFrom : ByteArray := prog_12_method_24_code
def yX10_findFrom : MethodName := ⟨RX10, "findFrom", "(III)V"⟩
abbrev cX10_findTrack : ByteArray := prog_12_method_25_code
def yX10_findTrack : MethodName := ⟨RX10, "findTrack", "(I)Z"⟩
abbrev cX10_track : ByteArray := prog_12_method_26_code
def yX10_track : MethodName := ⟨RX10, "track", "(II)I"⟩
abbrev cX10_common : ByteArray := prog_12_method_27_code
def yX10_common : MethodName := ⟨RX10, "common", "(II)I"⟩
abbrev cX10_miss_ : ByteArray := prog_12_method_28_code
def yX10_miss_ : MethodName := ⟨RX10, "miss", "(II)I"⟩
abbrev cX10_weightOf : ByteArray := prog_12_method_29_code
def yX10_weightOf : MethodName := ⟨RX10, "weightOf", "(I)I"⟩
abbrev cX10_weight : ByteArray := prog_12_method_30_code
def yX10_weight : MethodName := ⟨RX10, "weight", "(I)I"⟩
abbrev cX10_areApart : ByteArray := prog_12_method_31_code
def yX10_areApart : MethodName := ⟨RX10, "areApart", "(II)Z"⟩
abbrev cX10_findHeap : ByteArray := prog_12_method_32_code
def yX10_findHeap : MethodName := ⟨RX10, "findHeap", "()V"⟩
abbrev cX10_heap : ByteArray := prog_12_method_33_code
def yX10_heap : MethodName := ⟨RX10, "heap", "(I)I"⟩
abbrev cX10_blind : ByteArray := prog_12_method_34_code
def yX10_blind : MethodName := ⟨RX10, "blind", "()I"⟩
abbrev cX10_feed : ByteArray := prog_12_method_35_code
def yX10_feed : MethodName := ⟨RX10, "feed", "(I)I"⟩
abbrev cX10_clear : ByteArray := prog_12_method_36_code
def yX10_clear : MethodName := ⟨RX10, "clear", "()I"⟩
abbrev cX10_isFigure : ByteArray := prog_12_method_37_code
def yX10_isFigure : MethodName := ⟨RX10, "isFigure", "(I)Z"⟩
abbrev cX10_isName : ByteArray := prog_12_method_38_code
def yX10_isName : MethodName := ⟨RX10, "isName", "(I)Z"⟩
abbrev cX10_faultOf : ByteArray := prog_12_method_39_code
def yX10_faultOf : MethodName := ⟨RX10, "faultOf", "()I"⟩
abbrev cX10_line : ByteArray := prog_12_method_40_code
def yX10_line : MethodName := ⟨RX10, "line", "(IZ)I"⟩
abbrev cX10_isLine : ByteArray := prog_12_method_41_code
def yX10_isLine : MethodName := ⟨RX10, "isLine", "(I)Z"⟩
abbrev cX10_thin : ByteArray := prog_12_method_42_code
def yX10_thin : MethodName := ⟨RX10, "thin", "(II)I"⟩
abbrev cX10_letter : ByteArray := prog_12_method_43_code
def yX10_letter : MethodName := ⟨RX10, "letter", "()I"⟩
abbrev cX10_any : ByteArray := prog_12_method_44_code
def yX10_any : MethodName := ⟨RX10, "any", "()Z"⟩
abbrev cX10_both : ByteArray := prog_12_method_45_code
def yX10_both : MethodName := ⟨RX10, "both", "()Z"⟩
abbrev cX10_one : ByteArray := prog_12_method_46_code
def yX10_one : MethodName := ⟨RX10, "one", "()Z"⟩
abbrev cX10_is : ByteArray := prog_12_method_47_code
def yX10_is : MethodName := ⟨RX10, "is", "(II)Z"⟩
abbrev cX10_holding : ByteArray := prog_12_method_48_code
def yX10_holding : MethodName := ⟨RX10, "holding", "()I"⟩
abbrev cX10_holds : ByteArray := prog_12_method_49_code
def yX10_holds : MethodName := ⟨RX10, "holds", "(I)I"⟩
abbrev cX10_of : ByteArray := prog_12_method_50_code
def yX10_of : MethodName := ⟨RX10, "of", "(II)I"⟩
abbrev cX10_noHits : ByteArray := prog_12_method_51_code
def yX10_noHits : MethodName := ⟨RX10, "noHits", "()V"⟩
abbrev cX10_look : ByteArray := prog_12_method_52_code
def yX10_look : MethodName := ⟨RX10, "look", "()I"⟩
abbrev cX10_fire : ByteArray := prog_12_method_53_code
def yX10_fire : MethodName := ⟨RX10, "fire", "()I"⟩
abbrev cX10_rest : ByteArray := prog_12_method_54_code
def yX10_rest : MethodName := ⟨RX10, "rest", "(I)I"⟩
abbrev cX10_raws : ByteArray := prog_12_method_55_code
def yX10_raws : MethodName := ⟨RX10, "raws", "()I"⟩
abbrev cX10_many : ByteArray := prog_12_method_56_code
def yX10_many : MethodName := ⟨RX10, "many", "(I)I"⟩
abbrev cX10_rawAt : ByteArray := prog_12_method_57_code
def yX10_rawAt : MethodName := ⟨RX10, "rawAt", "(I)I"⟩
abbrev cX10_raw : ByteArray := prog_12_method_58_code
def yX10_raw : MethodName := ⟨RX10, "raw", "(II)I"⟩
abbrev cX10_again : ByteArray := prog_12_method_59_code
def yX10_again : MethodName := ⟨RX10, "again", "(I)I"⟩
abbrev cX10_anew : ByteArray := prog_12_method_60_code
def yX10_anew : MethodName := ⟨RX10, "anew", "()I"⟩
def RJx145de : String := "java/io/Serializable"
def TJx145de : u_T := fun k => match k with
  | _ => ("", "", "", false)
def tyJx145de : Nat → FieldType := fun k => match k with
  | _ => .int
abbrev wsJx145de0 : List Cond := u_ws RJx145de TJx145de 0
theorem nmJx145de : ∀ a, a < 0 → ∀ b, b < 0 → a ≠ b → (TJx145de a).2.1 ≠ (TJx145de b).2.1 := by decide +kernel
theorem tyJx145de_ok : ∀ k, k < 0 → parseFieldDescriptor (TJx145de k).2.2.1 = some (tyJx145de k) := by decide +kernel
def RJx8e188 : String := "java/lang/Cloneable"
def TJx8e188 : u_T := fun k => match k with
  | _ => ("", "", "", false)
def tyJx8e188 : Nat → FieldType := fun k => match k with
  | _ => .int
abbrev wsJx8e1880 : List Cond := u_ws RJx8e188 TJx8e188 0
theorem nmJx8e188 : ∀ a, a < 0 → ∀ b, b < 0 → a ≠ b → (TJx8e188 a).2.1 ≠ (TJx8e188 b).2.1 := by decide +kernel
theorem tyJx8e188_ok : ∀ k, k < 0 → parseFieldDescriptor (TJx8e188 k).2.2.1 = some (tyJx8e188 k) := by decide +kernel
def RJ6 : String := "java/lang/Integer"
def TJ6 : u_T := fun k => match k with
  | _ => ("", "", "", false)
def tyJ6 : Nat → FieldType := fun k => match k with
  | _ => .int
abbrev wsJ60 : List Cond := u_ws RJ6 TJ6 0
theorem nmJ6 : ∀ a, a < 0 → ∀ b, b < 0 → a ≠ b → (TJ6 a).2.1 ≠ (TJ6 b).2.1 := by decide +kernel
theorem tyJ6_ok : ∀ k, k < 0 → parseFieldDescriptor (TJ6 k).2.2.1 = some (tyJ6 k) := by decide +kernel
abbrev cJ6_numberOfTrailingZeros_0f7a4 : ByteArray := prog_15_method_48_code
def yJ6_numberOfTrailingZeros_0f7a4 : MethodName := ⟨RJ6, "numberOfTrailingZeros", "(I)I"⟩
abbrev cJ6_bitCount_0f7a4 : ByteArray := prog_15_method_49_code
def yJ6_bitCount_0f7a4 : MethodName := ⟨RJ6, "bitCount", "(I)I"⟩
def RJxab1ab : String := "java/lang/Iterable"
def TJxab1ab : u_T := fun k => match k with
  | _ => ("", "", "", false)
def tyJxab1ab : Nat → FieldType := fun k => match k with
  | _ => .int
abbrev wsJxab1ab0 : List Cond := u_ws RJxab1ab TJxab1ab 0
theorem nmJxab1ab : ∀ a, a < 0 → ∀ b, b < 0 → a ≠ b → (TJxab1ab a).2.1 ≠ (TJxab1ab b).2.1 := by decide +kernel
theorem tyJxab1ab_ok : ∀ k, k < 0 → parseFieldDescriptor (TJxab1ab k).2.2.1 = some (tyJxab1ab k) := by decide +kernel
def RJ9 : String := "java/lang/Math"
def TJ9 : u_T := fun k => match k with
  | _ => ("", "", "", false)
def tyJ9 : Nat → FieldType := fun k => match k with
  | _ => .int
abbrev wsJ90 : List Cond := u_ws RJ9 TJ9 0
theorem nmJ9 : ∀ a, a < 0 → ∀ b, b < 0 → a ≠ b → (TJ9 a).2.1 ≠ (TJ9 b).2.1 := by decide +kernel
theorem tyJ9_ok : ∀ k, k < 0 → parseFieldDescriptor (TJ9 k).2.2.1 = some (tyJ9 k) := by decide +kernel
abbrev cJ9_floorMod_7cf53 : ByteArray := prog_17_method_50_code
def yJ9_floorMod_7cf53 : MethodName := ⟨RJ9, "floorMod", "(II)I"⟩
abbrev cJ9_max_7cf53 : ByteArray := prog_17_method_65_code
def yJ9_max_7cf53 : MethodName := ⟨RJ9, "max", "(II)I"⟩
abbrev cJ9_min_7cf53 : ByteArray := prog_17_method_69_code
def yJ9_min_7cf53 : MethodName := ⟨RJ9, "min", "(II)I"⟩
def RJ10 : String := "java/lang/System"
def TJ10 : u_T := fun k => match k with
  | _ => ("", "", "", false)
def tyJ10 : Nat → FieldType := fun k => match k with
  | _ => .int
abbrev wsJ100 : List Cond := u_ws RJ10 TJ10 0
theorem nmJ10 : ∀ a, a < 0 → ∀ b, b < 0 → a ≠ b → (TJ10 a).2.1 ≠ (TJ10 b).2.1 := by decide +kernel
theorem tyJ10_ok : ∀ k, k < 0 → parseFieldDescriptor (TJ10 k).2.2.1 = some (tyJ10 k) := by decide +kernel
def RJxa1e45 : String := "java/util/AbstractCollection"
def TJxa1e45 : u_T := fun k => match k with
  | _ => ("", "", "", false)
def tyJxa1e45 : Nat → FieldType := fun k => match k with
  | _ => .int
abbrev wsJxa1e450 : List Cond := u_ws RJxa1e45 TJxa1e45 0
theorem nmJxa1e45 : ∀ a, a < 0 → ∀ b, b < 0 → a ≠ b → (TJxa1e45 a).2.1 ≠ (TJxa1e45 b).2.1 := by decide +kernel
theorem tyJxa1e45_ok : ∀ k, k < 0 → parseFieldDescriptor (TJxa1e45 k).2.2.1 = some (tyJxa1e45 k) := by decide +kernel
abbrev cJxa1e45_init_da8c8 : ByteArray := prog_19_method_1_code
def yJxa1e45_init_da8c8 : MethodName := ⟨RJxa1e45, "<init>", "()V"⟩
def RJxc12de : String := "java/util/AbstractList"
def TJxc12de : u_T := fun k => match k with
  | _ => ("", "", "", false)
def tyJxc12de : Nat → FieldType := fun k => match k with
  | _ => .int
abbrev wsJxc12de0 : List Cond := u_ws RJxc12de TJxc12de 0
theorem nmJxc12de : ∀ a, a < 0 → ∀ b, b < 0 → a ≠ b → (TJxc12de a).2.1 ≠ (TJxc12de b).2.1 := by decide +kernel
theorem tyJxc12de_ok : ∀ k, k < 0 → parseFieldDescriptor (TJxc12de k).2.2.1 = some (tyJxc12de k) := by decide +kernel
abbrev cJxc12de_init_da8c8 : ByteArray := prog_20_method_1_code
def yJxc12de_init_da8c8 : MethodName := ⟨RJxc12de, "<init>", "()V"⟩
def RJx4a65c : String := "java/util/ArrayList"
def TJx4a65c : u_T := fun k => match k with
  | 0 => ("java/util/AbstractList", "modCount", "I", false)
  | 1 => ("java/util/ArrayList", "elementData", "[Ljava/lang/Object;", false)
  | _ => ("java/util/ArrayList", "size", "I", false)
def tyJx4a65c : Nat → FieldType := fun k => match k with
  | 0 => .int
  | 1 => .array (.object "java/lang/Object")
  | _ => .int
abbrev wsJx4a65c0 : List Cond := u_ws RJx4a65c TJx4a65c 3
theorem nmJx4a65c : ∀ a, a < 3 → ∀ b, b < 3 → a ≠ b → (TJx4a65c a).2.1 ≠ (TJx4a65c b).2.1 := by decide +kernel
theorem tyJx4a65c_ok : ∀ k, k < 3 → parseFieldDescriptor (TJx4a65c k).2.2.1 = some (tyJx4a65c k) := by decide +kernel
abbrev cJx4a65c_init_da8c8 : ByteArray := prog_21_method_2_code
def yJx4a65c_init_da8c8 : MethodName := ⟨RJx4a65c, "<init>", "()V"⟩
abbrev cJx4a65c_grow_92f84 : ByteArray := prog_21_method_6_code
def yJx4a65c_grow_92f84 : MethodName := ⟨RJx4a65c, "grow", "(I)[Ljava/lang/Object;"⟩
abbrev cJx4a65c_grow_d5877 : ByteArray := prog_21_method_7_code
def yJx4a65c_grow_d5877 : MethodName := ⟨RJx4a65c, "grow", "()[Ljava/lang/Object;"⟩
abbrev cJx4a65c_size_8abf5 : ByteArray := prog_21_method_8_code
def yJx4a65c_size_8abf5 : MethodName := ⟨RJx4a65c, "size", "()I"⟩
abbrev cJx4a65c_elementData_915e3 : ByteArray := prog_21_method_18_code
def yJx4a65c_elementData_915e3 : MethodName := ⟨RJx4a65c, "elementData", "(I)Ljava/lang/Object;"⟩
abbrev cJx4a65c_get_915e3 : ByteArray := prog_21_method_20_code
def yJx4a65c_get_915e3 : MethodName := ⟨RJx4a65c, "get", "(I)Ljava/lang/Object;"⟩
abbrev cJx4a65c_add_72be8 : ByteArray := prog_21_method_24_code
def yJx4a65c_add_72be8 : MethodName := ⟨RJx4a65c, "add", "(Ljava/lang/Object;[Ljava/lang/Object;I)V"⟩
abbrev cJx4a65c_add_9ea2d : ByteArray := prog_21_method_25_code
def yJx4a65c_add_9ea2d : MethodName := ⟨RJx4a65c, "add", "(Ljava/lang/Object;)Z"⟩
def RJ7 : String := "java/util/Arrays"
def TJ7 : u_T := fun k => match k with
  | _ => ("", "", "", false)
def tyJ7 : Nat → FieldType := fun k => match k with
  | _ => .int
abbrev wsJ70 : List Cond := u_ws RJ7 TJ7 0
theorem nmJ7 : ∀ a, a < 0 → ∀ b, b < 0 → a ≠ b → (TJ7 a).2.1 ≠ (TJ7 b).2.1 := by decide +kernel
theorem tyJ7_ok : ∀ k, k < 0 → parseFieldDescriptor (TJ7 k).2.2.1 = some (tyJ7 k) := by decide +kernel
abbrev cJ7_copyOf_1904c : ByteArray := prog_22_method_119_code
def yJ7_copyOf_1904c : MethodName := ⟨RJ7, "copyOf", "([Ljava/lang/Object;I)[Ljava/lang/Object;"⟩
abbrev cJ7_copyOf_6403c : ByteArray := prog_22_method_120_code
def yJ7_copyOf_6403c : MethodName := ⟨RJ7, "copyOf", "([Ljava/lang/Object;ILjava/lang/Class;)[Ljava/lang/Object;"⟩
def RJx5ef63 : String := "java/util/Collection"
def TJx5ef63 : u_T := fun k => match k with
  | _ => ("", "", "", false)
def tyJx5ef63 : Nat → FieldType := fun k => match k with
  | _ => .int
abbrev wsJx5ef630 : List Cond := u_ws RJx5ef63 TJx5ef63 0
theorem nmJx5ef63 : ∀ a, a < 0 → ∀ b, b < 0 → a ≠ b → (TJx5ef63 a).2.1 ≠ (TJx5ef63 b).2.1 := by decide +kernel
theorem tyJx5ef63_ok : ∀ k, k < 0 → parseFieldDescriptor (TJx5ef63 k).2.2.1 = some (tyJx5ef63 k) := by decide +kernel
def RJxbd725 : String := "java/util/List"
def TJxbd725 : u_T := fun k => match k with
  | _ => ("", "", "", false)
def tyJxbd725 : Nat → FieldType := fun k => match k with
  | _ => .int
abbrev wsJxbd7250 : List Cond := u_ws RJxbd725 TJxbd725 0
theorem nmJxbd725 : ∀ a, a < 0 → ∀ b, b < 0 → a ≠ b → (TJxbd725 a).2.1 ≠ (TJxbd725 b).2.1 := by decide +kernel
theorem tyJxbd725_ok : ∀ k, k < 0 → parseFieldDescriptor (TJxbd725 k).2.2.1 = some (tyJxbd725 k) := by decide +kernel
def RJ15 : String := "java/util/Objects"
def TJ15 : u_T := fun k => match k with
  | _ => ("", "", "", false)
def tyJ15 : Nat → FieldType := fun k => match k with
  | _ => .int
abbrev wsJ150 : List Cond := u_ws RJ15 TJ15 0
theorem nmJ15 : ∀ a, a < 0 → ∀ b, b < 0 → a ≠ b → (TJ15 a).2.1 ≠ (TJ15 b).2.1 := by decide +kernel
theorem tyJ15_ok : ∀ k, k < 0 → parseFieldDescriptor (TJ15 k).2.2.1 = some (tyJ15 k) := by decide +kernel
abbrev cJ15_checkIndex_7cf53 : ByteArray := prog_25_method_17_code
def yJ15_checkIndex_7cf53 : MethodName := ⟨RJ15, "checkIndex", "(II)I"⟩
def RJxf0a74 : String := "java/util/RandomAccess"
def TJxf0a74 : u_T := fun k => match k with
  | _ => ("", "", "", false)
def tyJxf0a74 : Nat → FieldType := fun k => match k with
  | _ => .int
abbrev wsJxf0a740 : List Cond := u_ws RJxf0a74 TJxf0a74 0
theorem nmJxf0a74 : ∀ a, a < 0 → ∀ b, b < 0 → a ≠ b → (TJxf0a74 a).2.1 ≠ (TJxf0a74 b).2.1 := by decide +kernel
theorem tyJxf0a74_ok : ∀ k, k < 0 → parseFieldDescriptor (TJxf0a74 k).2.2.1 = some (tyJxf0a74 k) := by decide +kernel
def RJxa66e6 : String := "java/util/SequencedCollection"
def TJxa66e6 : u_T := fun k => match k with
  | _ => ("", "", "", false)
def tyJxa66e6 : Nat → FieldType := fun k => match k with
  | _ => .int
abbrev wsJxa66e60 : List Cond := u_ws RJxa66e6 TJxa66e6 0
theorem nmJxa66e6 : ∀ a, a < 0 → ∀ b, b < 0 → a ≠ b → (TJxa66e6 a).2.1 ≠ (TJxa66e6 b).2.1 := by decide +kernel
theorem tyJxa66e6_ok : ∀ k, k < 0 → parseFieldDescriptor (TJxa66e6 k).2.2.1 = some (tyJxa66e6 k) := by decide +kernel
def RJ8 : String := "jdk/internal/util/ArraysSupport"
def TJ8 : u_T := fun k => match k with
  | _ => ("", "", "", false)
def tyJ8 : Nat → FieldType := fun k => match k with
  | _ => .int
abbrev wsJ80 : List Cond := u_ws RJ8 TJ8 0
theorem nmJ8 : ∀ a, a < 0 → ∀ b, b < 0 → a ≠ b → (TJ8 a).2.1 ≠ (TJ8 b).2.1 := by decide +kernel
theorem tyJ8_ok : ∀ k, k < 0 → parseFieldDescriptor (TJ8 k).2.2.1 = some (tyJ8 k) := by decide +kernel
abbrev cJ8_newLength_cabcc : ByteArray := prog_28_method_27_code
def yJ8_newLength_cabcc : MethodName := ⟨RJ8, "newLength", "(III)I"⟩
abbrev cJ8_hugeLength_7cf53 : ByteArray := prog_28_method_28_code
def yJ8_hugeLength_7cf53 : MethodName := ⟨RJ8, "hugeLength", "(II)I"⟩
def RJ3 : String := "jdk/internal/util/Preconditions"
def TJ3 : u_T := fun k => match k with
  | _ => ("", "", "", false)
def tyJ3 : Nat → FieldType := fun k => match k with
  | _ => .int
abbrev wsJ30 : List Cond := u_ws RJ3 TJ3 0
theorem nmJ3 : ∀ a, a < 0 → ∀ b, b < 0 → a ≠ b → (TJ3 a).2.1 ≠ (TJ3 b).2.1 := by decide +kernel
theorem tyJ3_ok : ∀ k, k < 0 → parseFieldDescriptor (TJ3 k).2.2.1 = some (tyJ3 k) := by decide +kernel
abbrev cJ3_checkIndex_8e157 : ByteArray := prog_29_method_11_code
def yJ3_checkIndex_8e157 : MethodName := ⟨RJ3, "checkIndex", "(IILjava/util/function/BiFunction;)I"⟩
def RL : String := "TriggerHallLaw"
abbrev cL_law : ByteArray := code
def yL_law : MethodName := ⟨RL, "law", "([I)Z"⟩
end
section
/-! ===== the layer: a method's states by names (addresses, shapes, numbers), each row out of a row of the kit ===== -/
/-- a cell's shape: an array (kind, length, references) or an object (class, references) -/
abbrev th_K0 : Type := (Nat × Nat × (Nat → Option Nat)) ⊕ (Nat × (Nat → Option Nat))
/-- the heap by names: the next address, the shapes, the numbers -/
abbrev th_S : Type := Nat × (Nat → Option th_K0) × (Nat → Nat → Int32)
/-- what is fixed: the first new cell's place, the old objects' places, the classes, the array classes, the script -/
abbrev th_G : Type := Nat × (Nat → Nat) × va_G × (Nat → ClassId) × Nat × (Nat → Int32)
def th_ad (G : th_G) (a : Nat) : Nat := if a < 4 then G.2.1 a else G.1 + (a - 4)
def th_v (G : th_G) : Value → Value
  | .ref a => .ref (th_ad G a)
  | v => v
def th_A (G : th_G) : Nat → Prop := fun q => G.1 ≤ q
abbrev th_cl : List vw_C := [(RX0, TX0, 7), (RX1, TX1, 7), (RX2, TX2, 7), (RX3, TX3, 4), (RX4, TX4, 4), (RX5, TX5, 4), (RX6, TX6, 3), (RX7, TX7, 4), (RX8, TX8, 2), (RX9, TX9, 16), (RX10, TX10, 41), (RJx4a65c, TJx4a65c, 3)]
def th_ft (ci : Nat) : Nat → FieldType := match ci with
  | 0 => tyX0 | 1 => tyX1 | 2 => tyX2 | 3 => tyX3 | 4 => tyX4 | 5 => tyX5 | 6 => tyX6 | 7 => tyX7 | 8 => tyX8 | 9 => tyX9 | 10 => tyX10 | _ => tyJx4a65c
def th_nf (ci : Nat) : Nat := match ci with
  | 0 => 7 | 1 => 7 | 2 => 7 | 3 => 4 | 4 => 4 | 5 => 4 | 6 => 3 | 7 => 4 | 8 => 2 | 9 => 16 | 10 => 41 | _ => 3
/-- is a field one of references -/
def th_ir (ci k : Nat) : Bool := match th_ft ci k with
  | .object _ => true
  | .array _ => true
  | _ => false
def th_ty (t : Nat) : FieldType := match t with
  | 0 => .int | 1 => .byte | 2 => .char | 3 => .boolean | 4 => .object "TriggerHall$Sheet" | _ => .object "java/lang/Object"
abbrev th_tys (G : th_G) : List (ClassId × FieldType) := [(G.2.2.2.1 0, th_ty 0), (G.2.2.2.1 1, th_ty 1), (G.2.2.2.1 2, th_ty 2), (G.2.2.2.1 3, th_ty 3), (G.2.2.2.1 4, th_ty 4), (G.2.2.2.1 5, th_ty 5)]
def th_fv (G : th_G) (ci : Nat) (f : Nat → Option Nat) (v : Nat → Int32) (k : Nat) : Value := cond (th_ir ci k) (va_rf ((f k).map (th_ad G))) (.int (v k))
def th_e (G : th_G) (c : th_K0) (v : Nat → Int32) : va_E := match c with
  | .inl (t, n, f) => cond (Nat.blt t 4) (.inl (G.2.2.2.1 t, n, .inl v)) (.inl (G.2.2.2.1 t, n, .inr (.inr (.inr (.inr (fun j => (f j).map (th_ad G)))))))
  | .inr (ci, f) => .inr (ci, (List.range (th_nf ci)).map (th_fv G ci f v))
def th_R (G : th_G) (S : th_S) (H : Heap) : Prop := 4 ≤ S.1 ∧ H.size + 4 = G.1 + S.1 ∧ ∀ (a : Nat) (c : th_K0), S.2.1 a = some c → (4 ≤ a ∧ a < S.1) ∧ va_at G.2.2.1 th_cl (th_ad G a, th_e G c (S.2.2 a)) H
def th_u {α : Type} (f : Nat → Option α) (a : Nat) (c : α) : Nat → Option α := fun b => cond (Nat.beq b a) (some c) (f b)
def th_w (V : Nat → Nat → Int32) (a k : Nat) (x : Int32) : Nat → Nat → Int32 := fun b j => cond (Nat.beq b a) (cond (Nat.beq j k) x (V b j)) (V b j)
def th_z (V : Nat → Nat → Int32) (a : Nat) : Nat → Nat → Int32 := fun b => cond (Nat.beq b a) (fun _ => 0) (V b)
def th_pI (S : th_S) (a k : Nat) (x : Int32) : th_S := (S.1, S.2.1, th_w S.2.2 a k x)
def th_pC (S : th_S) (a : Nat) (c : th_K0) : th_S := (S.1, th_u S.2.1 a c, S.2.2)
def th_nw (S : th_S) (c : th_K0) : th_S := (S.1 + 1, th_u S.2.1 S.1 c, th_z S.2.2 S.1)
theorem th_w_ne {V : Nat → Nat → Int32} {a k b : Nat} {x : Int32} (h : b ≠ a) : th_w V a k x b = V b := by
  funext j
  have : Nat.beq b a = false := Bool.eq_false_iff.mpr (fun e => h (Nat.eq_of_beq_eq_true e))
  simp [th_w, this]
theorem th_w_eq {V : Nat → Nat → Int32} {a k j : Nat} {x : Int32} : th_w V a k x a j = cond (Nat.beq j k) x (V a j) := by
  simp [th_w]
theorem th_u_ne {α : Type} {f : Nat → Option α} {a b : Nat} {c : α} (h : b ≠ a) : th_u f a c b = f b := by
  have : Nat.beq b a = false := Bool.eq_false_iff.mpr (fun e => h (Nat.eq_of_beq_eq_true e))
  simp [th_u, this]
theorem th_u_eq {α : Type} {f : Nat → Option α} {a : Nat} {c : α} : th_u f a c a = some c := by simp [th_u]
theorem th_z_ne {V : Nat → Nat → Int32} {a b : Nat} (h : b ≠ a) : th_z V a b = V b := by
  have : Nat.beq b a = false := Bool.eq_false_iff.mpr (fun e => h (Nat.eq_of_beq_eq_true e))
  simp [th_z, this]
theorem th_z_eq {V : Nat → Nat → Int32} {a : Nat} : th_z V a a = fun _ => 0 := by simp [th_z]
theorem th_ad_in {G : th_G} {a : Nat} (h : 4 ≤ a) : th_ad G a = G.1 + (a - 4) := by simp [th_ad, Nat.not_lt.mpr h]
theorem th_ad_inj {G : th_G} {a b : Nat} (ha : 4 ≤ a) (hb : 4 ≤ b) (h : th_ad G a = th_ad G b) : a = b := by
  rw [th_ad_in ha, th_ad_in hb] at h
  omega
theorem th_R.get {G : th_G} {S : th_S} {H : Heap} {a : Nat} {c : th_K0} (h : th_R G S H) (ha : S.2.1 a = some c) : va_at G.2.2.1 th_cl (th_ad G a, th_e G c (S.2.2 a)) H := (h.2.2 a c ha).2
theorem th_R.inA {G : th_G} {S : th_S} {H : Heap} {a : Nat} {c : th_K0} (h : th_R G S H) (ha : S.2.1 a = some c) : th_A G (th_ad G a) := by
  have := (h.2.2 a c ha).1
  rw [th_ad_in this.1]
  exact Nat.le_add_right _ _
/-- a cell is written -/
theorem th_R.set {G : th_G} {S S' : th_S} {H H1 : Heap} {a : Nat} {c c' : th_K0} (h : th_R G S H) (ha : S.2.1 a = some c) (z : H1.size = H.size) (oq : ∀ q : Nat, q ≠ th_ad G a → H1[q]? = H[q]?) (hn : S'.1 = S.1) (hs : ∀ b, b ≠ a → S'.2.1 b = S.2.1 b) (hv : ∀ b, b ≠ a → S'.2.2 b = S.2.2 b) (hc : S'.2.1 a = some c') (he : va_at G.2.2.1 th_cl (th_ad G a, th_e G c' (S'.2.2 a)) H1) : th_R G S' H1 := by
  refine ⟨by rw [hn]; exact h.1, by rw [z, hn]; exact h.2.1, fun b d hb => ?_⟩
  have hra := (h.2.2 a c ha).1
  by_cases hba : b = a
  · subst hba
    cases hc.symm.trans hb
    exact ⟨by rw [hn]; exact hra, he⟩
  · rw [hs b hba] at hb
    obtain ⟨h1, h2⟩ := h.2.2 b d hb
    refine ⟨by rw [hn]; exact h1, ?_⟩
    rw [hv b hba]
    exact h2.kept (oq _ (fun e => hba (th_ad_inj h1.1 hra.1 e)))
/-- a cell is made -/
theorem th_R.push {G : th_G} {S : th_S} {H H1 : Heap} {c : th_K0} (h : th_R G S H) (z : H1.size = H.size + 1) (oq : ∀ q : Nat, q < H.size → H1[q]? = H[q]?) (he : va_at G.2.2.1 th_cl (H.size, th_e G c (fun _ => 0)) H1) : th_R G (th_nw S c) H1 ∧ th_ad G S.1 = H.size := by
  have hz : th_ad G S.1 = H.size := by rw [th_ad_in h.1]; have := h.2.1; have := h.1; omega
  refine ⟨⟨Nat.le_succ_of_le h.1, ?_, fun b d hb => ?_⟩, hz⟩
  · show H1.size + 4 = G.1 + (S.1 + 1)
    have := h.2.1
    omega
  · show (4 ≤ b ∧ b < S.1 + 1) ∧ va_at G.2.2.1 th_cl (th_ad G b, th_e G d (th_z S.2.2 S.1 b)) H1
    have hb : th_u S.2.1 S.1 c b = some d := hb
    by_cases hba : b = S.1
    · subst hba
      rw [th_u_eq] at hb
      cases hb
      rw [th_z_eq, hz]
      exact ⟨⟨h.1, Nat.lt_succ_self _⟩, he⟩
    · rw [th_u_ne hba] at hb
      obtain ⟨h1, h2⟩ := h.2.2 b d hb
      refine ⟨⟨h1.1, Nat.lt_succ_of_lt h1.2⟩, ?_⟩
      rw [th_z_ne hba]
      refine h2.kept (oq _ ?_)
      show th_ad G b < H.size
      exact h2.lt
theorem th_S_push {G : th_G} {H0 H H1 : Heap} {locs : List Loc} (h : va_S (th_A G) H0 H locs) (z : H1.size = H.size + 1) (oq : ∀ q : Nat, q < H.size → H1[q]? = H[q]?) : va_S (th_A G) H0 H1 locs :=
  ⟨Nat.le_trans h.1 (by omega), fun x h1 h2 => (oq x (Nat.lt_of_lt_of_le h1 h.1)).trans (h.2.1 x h1 h2), h.2.2⟩
/-! locals -/
def th_l (G : th_G) : Nat → List (Option Value) → List (Nat × Value)
  | _, [] => []
  | i, none :: r => th_l G (i + 1) r
  | i, some v :: r => (i, th_v G v) :: th_l G (i + 1) r
theorem th_l_mem {G : th_G} : ∀ (ls : List (Option Value)) (i k : Nat) (w : Value), (k, w) ∈ th_l G i ls ↔ ∃ (j : Nat) (v : Value), ls[j]? = some (some v) ∧ k = i + j ∧ w = th_v G v
  | [], i, k, w => by simp [th_l]
  | none :: r, i, k, w => by
    rw [th_l, th_l_mem r (i + 1) k w]
    constructor
    · rintro ⟨j, v, h1, h2, h3⟩
      exact ⟨j + 1, v, by simpa using h1, by omega, h3⟩
    · rintro ⟨j, v, h1, h2, h3⟩
      cases j with
      | zero => simp at h1
      | succ j => exact ⟨j, v, by simpa using h1, by omega, h3⟩
  | some x :: r, i, k, w => by
    rw [th_l, List.mem_cons, th_l_mem r (i + 1) k w]
    constructor
    · rintro (h | ⟨j, v, h1, h2, h3⟩)
      · cases h
        exact ⟨0, x, by simp, rfl, rfl⟩
      · exact ⟨j + 1, v, by simpa using h1, by omega, h3⟩
    · rintro ⟨j, v, h1, h2, h3⟩
      cases j with
      | zero =>
        simp at h1
        subst h1
        exact Or.inl (by rw [h2, h3]; rfl)
      | succ j => exact Or.inr ⟨j, v, by simpa using h1, by omega, h3⟩
def th_L (G : th_G) (LS : Array Slot) (nL : Nat) (ls : List (Option Value)) : Prop := lv_has LS nL (th_l G 0 ls)
theorem th_L.at {G : th_G} {LS : Array Slot} {nL i : Nat} {ls : List (Option Value)} {v : Value} (h : th_L G LS nL ls) (hi : ls[i]? = some (some v)) : LS[i]? = some (.val (th_v G v)) :=
  h.2.2 (i, th_v G v) ((th_l_mem ls 0 i _).mpr ⟨i, v, hi, by omega, rfl⟩)
def th_c1 (ls : List (Option Value)) : Bool := ls.all (fun o => match o with | some v => v.category == 1 | none => true)
theorem th_v_cat (G : th_G) (v : Value) : (th_v G v).category = v.category := by cases v <;> rfl
theorem th_L.set {G : th_G} {LS' : Array Slot} {nL i : Nat} {ls : List (Option Value)} {v : Value} (hc : th_c1 ls = true) (h' : lv_has LS' nL ((i, th_v G v) :: (th_l G 0 ls).filter (fun q => !(q.1 == i) && !(q.1 + 1 == i && q.2.category == 2)))) : th_L G LS' nL (ls.set i (some v)) := by
  refine ⟨h'.1, h'.2.1, fun q hq => ?_⟩
  obtain ⟨k, w⟩ := q
  obtain ⟨j, x, h1, h2, h3⟩ := (th_l_mem _ 0 k w).mp hq
  have hk : k = j := by omega
  subst hk
  subst h3
  refine h'.2.2 (k, th_v G x) ?_
  by_cases hki : k = i
  · subst hki
    have hl : k < ls.length := by
      have := (List.getElem?_eq_some_iff.mp h1).1
      simpa using this
    rw [List.getElem?_set_self hl] at h1
    cases h1
    exact List.mem_cons_self
  · rw [List.getElem?_set_ne (Ne.symm hki)] at h1
    refine List.mem_cons_of_mem _ (List.mem_filter.mpr ⟨(th_l_mem _ 0 k _).mpr ⟨k, x, h1, by omega, rfl⟩, ?_⟩)
    have hx : x.category = 1 := by
      have := List.all_eq_true.mp hc _ (List.mem_of_getElem? h1)
      simpa using this
    simp [hki, th_v_cat, hx]
def th_en : List Value → List (Option Value)
  | [] => []
  | v :: r => if v.category = 2 then some v :: none :: th_en r else some v :: th_en r
theorem th_en_mem {G : th_G} : ∀ (vs : List Value) (i n : Nat) (q : Nat × Value), q ∈ th_l G i (th_en vs ++ List.replicate n none) → q ∈ lv_args i (vs.map (th_v G))
  | [], i, n, q, h => by
    obtain ⟨k, w⟩ := q
    obtain ⟨j, v, h1, -⟩ := (th_l_mem _ i k w).mp h
    simp [th_en, List.getElem?_replicate] at h1
  | v :: r, i, n, q, h => by
    by_cases hv : v.category = 2
    · rw [th_en, if_pos hv] at h
      rw [List.map_cons, lv_args, th_v_cat, if_pos hv]
      rcases List.mem_cons.mp h with h | h
      · exact List.mem_cons.mpr (Or.inl h)
      · exact List.mem_cons_of_mem _ (th_en_mem r (i + 2) n q h)
    · rw [th_en, if_neg hv] at h
      rw [List.map_cons, lv_args, th_v_cat, if_neg hv]
      rcases List.mem_cons.mp h with h | h
      · exact List.mem_cons.mpr (Or.inl h)
      · exact List.mem_cons_of_mem _ (th_en_mem r (i + 1) n q h)
end
section
/-! what holds at every method's start -/
def th_W : List Cond := lw_tbl.filter goodWord
def th_isN : Cond → Bool
  | .fieldLinkNest .. => true
  | .methodLinkNest .. => true
  | .castable .. => true
  | _ => false
def th_N : List Cond := tables_1.filter th_isN
abbrev th_AL : String := "java/util/ArrayList"
def yLi_size : MethodName := ⟨"java/util/List", "size", "()I"⟩
def yLi_get : MethodName := ⟨"java/util/List", "get", "(I)Ljava/lang/Object;"⟩
def yLi_add : MethodName := ⟨"java/util/List", "add", "(Ljava/lang/Object;)Z"⟩
def th_Amb (G : th_G) (U : State) : Prop :=
  va_K G.2.2.1 th_cl (th_tys G) U ∧ (∀ w ∈ th_N, va_Nw w U) ∧
  (va_Fw th_AL yLi_size yJx4a65c_size_8abf5 U ∧ va_Fw th_AL yLi_get yJx4a65c_get_915e3 U ∧ va_Fw th_AL yLi_add yJx4a65c_add_9ea2d U) ∧
  (va_AO "java/lang/Object" U ∧ va_AO "TriggerHall$Sheet" U) ∧
  (va_T .int (G.2.1 0) G.2.2.2.2.1 (fun j => .int (G.2.2.2.2.2 j)) (th_A G) U U.heap ∧
   va_T .int (G.2.1 1) 5 (fun _ => .int 0) (th_A G) U U.heap ∧
   va_T (.object "java/lang/Object") (G.2.1 2) 0 (fun _ => .null) (th_A G) U U.heap) ∧
  (va_Z "TriggerHall" "NO_CELLS" "[I" (.ref (G.2.1 1)) (th_A G) U U.heap ∧
   va_Z th_AL "DEFAULTCAPACITY_EMPTY_ELEMENTDATA" "[Ljava/lang/Object;" (.ref (G.2.1 2)) (th_A G) U U.heap) ∧
  (va_Mi "[Ljava/lang/Object;" (G.2.1 3) U ∧ va_Dc U) ∧ G.1 ≤ U.heap.size
theorem th_Nw_moved {w : Cond} (hw : th_isN w = true) {s U : State} (hW : s.WarmedH U.vm) (h : va_Nw w s) : va_Nw w U := by
  cases w <;> simp [th_isN] at hw
  case fieldLinkNest => exact va_Nw.warmF hW h
  case methodLinkNest => exact va_Nw.warmM hW h
  case castable => exact va_Nw.warmC hW h
theorem th_Amb.moved {G : th_G} {s U : State} (h : th_Amb G s) (hW : s.WarmedH U.vm) (hq : ∀ q, q < s.heap.size → ¬ th_A G q → U.heap[q]? = s.heap[q]?) (hz : G.1 ≤ U.heap.size) : th_Amb G U := by
  obtain ⟨h1, h2, ⟨h3, h4, h5⟩, ⟨h6, h7⟩, ⟨h8, h9, h10⟩, ⟨h11, h12⟩, ⟨h13, h14⟩, -⟩ := h
  have al := hW.alike
  have hnm : ∀ y : MethodName, y = yLi_size ∨ y = yLi_get ∨ y = yLi_add → y.cls ≠ "java/lang/invoke/MethodHandle" ∧ y.cls ≠ "java/lang/invoke/VarHandle" := by
    rintro y (rfl | rfl | rfl) <;> decide
  exact ⟨va_K.moved al h1, fun w hw => th_Nw_moved (List.mem_filter.mp hw).2 hW (h2 w hw),
    ⟨va_Fw.moved (hnm _ (by simp)) al h3, va_Fw.moved (hnm _ (by simp)) al h4, va_Fw.moved (hnm _ (by simp)) al h5⟩, ⟨va_AO.moved al h6, va_AO.moved al h7⟩,
    ⟨va_T.moved al (h8.kept hq), va_T.moved al (h9.kept hq), va_T.moved al (h10.kept hq)⟩, ⟨va_Z.moved al (h11.kept hq), va_Z.moved al (h12.kept hq)⟩, ⟨va_Mi.moved al h13, va_Dc.moved al h14⟩, hz⟩
/-! the judgement -/
/-- a method: its bytes, its class, its locals, its type, its name -/
abbrev th_M : Type := ByteArray × String × Nat × Option FieldType × String
def th_end (K : th_M) (pc : Nat) (r : Option Value) : Prop :=
  (r = none ∧ K.2.2.2.1 = none ∧ decode K.1 pc = .ok (.return_, 1)) ∨
  (∃ (v : Int32) (ty : FieldType), r = some (.int v) ∧ K.2.2.2.1 = some ty ∧ narrow ty (.int v) = .int v ∧ decode K.1 pc = .ok (.ireturn, 1)) ∨
  (∃ rt : FieldType, K.2.2.2.1 = some rt ∧ ((∃ n, rt = .object n) ∨ ∃ t, rt = .array t) ∧ (r = some .null ∨ ∃ a, r = some (.ref a)) ∧ decode K.1 pc = .ok (.areturn, 1))
def th_Fix (G : th_G) (K : th_M) (p : Program) (s : State) (m : MethodId) (args : Array Value) (meth : Method) (c : Code) : Prop :=
  p.tables.exec = Jvm.exec ∧ c.code = K.1 ∧ c.maxLocals = K.2.2.1 ∧ s.vm.findClass K.2.1 = some m.cls ∧ meth.name = K.2.2.2.2 ∧ (∀ w ∈ th_W, w.before args s = true) ∧ th_Amb G s
def th_Rt (G : th_G) (K : th_M) (p : Program) (l : Launch) (e : Env) (R : Room) (s : State) (m : MethodId) (args : Array Value) (below : List Frame) (meth : Method) (c : Code) (Q : State → Prop) (post : Option Value → th_S → Prop) : Prop :=
  ∀ (r : Option Value) (S : th_S) (H : Heap) (locs : List Loc) (cells slots pc : Nat) (LS : Array Slot), post r S → th_R G S H → va_S (th_A G) s.heap H locs → cells ≤ R.cells → slots ≤ R.slots → th_end K pc r →
    W p l e R s m args below meth c H locs cells slots Q (F0 m pc LS (r.toList.map (th_v G)))
/-- from pc, with locals ls and stack st, in the heap S, within the room: the method ends as post says -/
def EV (G : th_G) (l : Launch) (K : th_M) (d bc bs pc : Nat) (ls : List (Option Value)) (st : List Value) (S : th_S) (post : Option Value → th_S → Prop) : Prop :=
  ∀ (p : Program) (e : Env) (R : Room) (s : State) (m : MethodId) (args : Array Value) (below : List Frame) (meth : Method) (c : Code) (Q : State → Prop),
    th_Fix G K p s m args meth c → th_Rt G K p l e R s m args below meth c Q post → d ≤ R.frames → 40 * d ≤ R.locals →
    ∀ (H : Heap) (locs : List Loc) (cells slots : Nat) (LS : Array Slot), cells + bc ≤ R.cells → slots + bs ≤ R.slots → th_R G S H → va_S (th_A G) s.heap H locs → th_L G LS K.2.2.1 ls →
      W p l e R s m args below meth c H locs cells slots Q (F0 m pc LS (st.map (th_v G)))
/-- a method's contract -/
def MT (G : th_G) (l : Launch) (y : MethodName) (K : th_M) (d bc bs : Nat) (As : List Value) (S : th_S) (post : Option Value → th_S → Prop) : Prop :=
  Met l y (Cond.code y K.1 K.2.2.1 K.2.2.2.1 :: th_W) { frames := d, cells := bc, slots := bs, locals := 40 * d }
    (va_Pc (As.map (th_v G)) (fun U => th_R G S U.heap ∧ th_Amb G U))
    (fun _ st oc t => (∃ (r : Option Value) (S' : th_S), oc = .returned (r.map (th_v G)) ∧ post r S' ∧ th_R G S' t.heap) ∧ va_F (th_A G) st t) bc bs (th_A G)
theorem th_bytes {G : th_G} {K : th_M} {p : Program} {s : State} {m : MethodId} {args : Array Value} {meth : Method} {c : Code} (F : th_Fix G K p s m args meth c) : c.code = K.1 := F.2.1
theorem EV.post {G : th_G} {l : Launch} {K : th_M} {d bc bs pc : Nat} {ls : List (Option Value)} {st : List Value} {S : th_S} {P P' : Option Value → th_S → Prop} (h : EV G l K d bc bs pc ls st S P) (hp : ∀ r S', P r S' → P' r S') : EV G l K d bc bs pc ls st S P' :=
  fun p e R s m args below meth c Q F Rt => h p e R s m args below meth c Q F (fun r S1 H locs cells slots pc LS h1 => Rt r S1 H locs cells slots pc LS (hp r S1 h1))
theorem EV.deep {G : th_G} {l : Launch} {K : th_M} {d d' bc bs pc : Nat} {ls : List (Option Value)} {st : List Value} {S : th_S} {P : Option Value → th_S → Prop} (h : EV G l K d bc bs pc ls st S P) (hd : d ≤ d') : EV G l K d' bc bs pc ls st S P :=
  fun p e R s m args below meth c Q F Rt h1 h2 => h p e R s m args below meth c Q F Rt (Nat.le_trans hd h1) (Nat.le_trans (Nat.mul_le_mul_left 40 hd) h2)
theorem EV.room {G : th_G} {l : Launch} {K : th_M} {d bc bs bc' bs' pc : Nat} {ls : List (Option Value)} {st : List Value} {S : th_S} {P : Option Value → th_S → Prop} (h : EV G l K d bc bs pc ls st S P) (h1 : bc ≤ bc') (h2 : bs ≤ bs') : EV G l K d bc' bs' pc ls st S P :=
  fun p e R s m args below meth c Q F Rt a1 a2 H locs cells slots LS b1 b2 => h p e R s m args below meth c Q F Rt a1 a2 H locs cells slots LS (by omega) (by omega)
/-- a contract out of a walk -/
theorem MT.of {G : th_G} {l : Launch} {y : MethodName} {K : th_M} {d bc bs : Nat} {As : List Value} {S : th_S} {post : Option Value → th_S → Prop} (hy : plainName y.cls = true) (hyc : y.cls = K.2.1) (hyn : y.name = K.2.2.2.2) {n : Nat} (hn : (th_en As).length + n = K.2.2.1) {ls : List (Option Value)} (hls : th_en As ++ List.replicate n none = ls) (h : EV G l K d bc bs 0 ls [] S post) : MT G l y K d bc bs As S post := by
  refine Met.ofW (cc := K.1) (maxL := K.2.2.1) (ret := K.2.2.2.1) hy rfl ?_
  intro p e s m args below meth c s₁ B hml hv
  obtain ⟨rfl, hR, hAmb⟩ := hv
  have hts := atoms_spec (ws := Cond.code y K.1 K.2.2.1 K.2.2.2.1 :: th_W) B.pre
  have hown : s.vm.findClass K.2.1 = some m.cls := by rw [← hyc]; exact findClass_of_methodNamed B.named
  have hlocks := B.notSynchronized
  have hnm : meth.name = K.2.2.2.2 := by rw [← hyn]; exact (name_of_methodNamed B.named B.method).1
  have hx := B.exec
  have hb := B.bytes
  have hr := B.returns
  have hlen : (lg_sl (As.map (th_v G))).length = (th_en As).length := by
    clear h hls hn hR B hts
    induction As with
    | nil => rfl
    | cons v r ih =>
      by_cases hv : v.category = 2
      · simp [lg_sl, th_en, th_v_cat, hv] at ih ⊢
        omega
      · simp [lg_sl, th_en, th_v_cat, hv] at ih ⊢
        omega
  have hl := lv_entry (As.map (th_v G)) (n := K.2.2.1) (by rw [hlen]; omega)
  rw [lg_entry_eq]
  generalize (lg_sl (As.map (th_v G)) ++ List.replicate (K.2.2.1 - (lg_sl (As.map (th_v G))).length) Slot.unset).toArray = LS at hl ⊢
  have hL : th_L G LS K.2.2.1 ls := ⟨hl.1, hl.2.1, fun q hq => hl.2.2 q (by rw [← hls] at hq; exact th_en_mem As 0 n q hq)⟩
  refine h p e _ s m _ below meth c _ ⟨hx, hb, hml, hown, hnm, fun w hw => hts w (List.mem_cons_of_mem _ hw), hAmb⟩ ?_ (Nat.le_refl _) (Nat.le_refl _) s.heap [] 0 0 LS (by show 0 + bc ≤ bc; omega) (by show 0 + bs ≤ bs; omega) hR va_S.rf hL
  intro r S1 H locs cells slots pc LS1 hp hR1 hS1 hc hs hend
  have fin : ∀ t : State, t.heap = H → s.WarmedH t.vm → (∃ (r' : Option Value) (S' : th_S), Outcome.returned (r.map (th_v G)) = .returned (r'.map (th_v G)) ∧ post r' S' ∧ th_R G S' t.heap) ∧ va_F (th_A G) s t :=
    fun t ht _ => ⟨⟨r, S1, rfl, hp, by rw [ht]; exact hR1⟩, hS1.F ht⟩
  refine W.widen (k := bc) (n := bs) hc hs ?_
  rcases hend with ⟨rfl, h2, h3⟩ | ⟨v, ty, rfl, h2, h3, h4⟩ | ⟨rt, h2, h3, h4, h5⟩
  · exact W.vret hx hb (by rw [hr]; exact h2) fin hS1.2.2 h3
  · exact W.zret hx hb (by rw [hr]; exact h2) h3 fin hS1.2.2 h4
  · rcases h4 with rfl | ⟨a, rfl⟩
    · exact W.aret hx hb (by rw [hr]; exact h2) h3 (Or.inl rfl) fin hS1.2.2 h5
    · exact W.aret hx hb (by rw [hr]; exact h2) h3 (Or.inr ⟨_, rfl⟩) fin hS1.2.2 h5
end
section
section EVR
variable {G : th_G} {l : Launch} {K : th_M} {d bc bs pc q : Nat} {ls : List (Option Value)} {st : List Value} {S : th_S} {post : Option Value → th_S → Prop}
theorem ev_pc (h : pc = q) (k : EV G l K d bc bs q ls st S post) : EV G l K d bc bs pc ls st S post := h ▸ k
theorem ev_iconst {n : Int} {v : Int32} (hd : decode K.1 pc = .ok (.iconst n, 1)) (hv : Int32.ofInt n = v) (hq : pc + 1 = q) (k : EV G l K d bc bs q ls (.int v :: st) S post) : EV G l K d bc bs pc ls st S post := by
  subst hq
  intro p e R s m args below meth c Q F Rt hf hlc H locs cells slots LS hc hs hR hS hL
  exact lv_iconst F.1 F.2.1 hd hv (k p e R s m args below meth c Q F Rt hf hlc H locs cells slots LS hc hs hR hS hL)
theorem ev_bipush {n : Int} {v : Int32} (hd : decode K.1 pc = .ok (.bipush n, 2)) (hv : (Int8.ofInt n).toInt32 = v) (hq : pc + 2 = q) (k : EV G l K d bc bs q ls (.int v :: st) S post) : EV G l K d bc bs pc ls st S post := by
  subst hq
  intro p e R s m args below meth c Q F Rt hf hlc H locs cells slots LS hc hs hR hS hL
  exact lv_bipush F.1 F.2.1 hd hv (k p e R s m args below meth c Q F Rt hf hlc H locs cells slots LS hc hs hR hS hL)
theorem ev_sipush {n : Int} {v : Int32} (hd : decode K.1 pc = .ok (.sipush n, 3)) (hv : (Int16.ofInt n).toInt32 = v) (hq : pc + 3 = q) (k : EV G l K d bc bs q ls (.int v :: st) S post) : EV G l K d bc bs pc ls st S post := by
  subst hq
  intro p e R s m args below meth c Q F Rt hf hlc H locs cells slots LS hc hs hR hS hL
  exact lv_sipush F.1 F.2.1 hd hv (k p e R s m args below meth c Q F Rt hf hlc H locs cells slots LS hc hs hR hS hL)
theorem ev_lconst {n : Fin 2} {v : Int64} (hd : decode K.1 pc = .ok (.lconst n, 1)) (hv : Int64.ofNat (n : Nat) = v) (hq : pc + 1 = q) (k : EV G l K d bc bs q ls (.long v :: st) S post) : EV G l K d bc bs pc ls st S post := by
  subst hq
  intro p e R s m args below meth c Q F Rt hf hlc H locs cells slots LS hc hs hR hS hL
  exact lv_lconst F.1 F.2.1 hd hv (k p e R s m args below meth c Q F Rt hf hlc H locs cells slots LS hc hs hR hS hL)
theorem ev_null (hd : decode K.1 pc = .ok (.aconst_null, 1)) (hq : pc + 1 = q) (k : EV G l K d bc bs q ls (.null :: st) S post) : EV G l K d bc bs pc ls st S post := by
  subst hq
  intro p e R s m args below meth c Q F Rt hf hlc H locs cells slots LS hc hs hR hS hL
  exact lv_null F.1 F.2.1 hd (k p e R s m args below meth c Q F Rt hf hlc H locs cells slots LS hc hs hR hS hL)
theorem ev_ldc {i : Nat} {v : Int32} (hd : decode K.1 pc = .ok (.ldc i, 2)) (hw : Cond.constant K.2.1 i v ∈ th_W) (hq : pc + 2 = q) (k : EV G l K d bc bs q ls (.int v :: st) S post) : EV G l K d bc bs pc ls st S post := by
  subst hq
  intro p e R s m args below meth c Q F Rt hf hlc H locs cells slots LS hc hs hR hS hL
  exact lv_ldc F.1 F.2.1 F.2.2.2.1 (F.2.2.2.2.2.1 _ hw) hd (k p e R s m args below meth c Q F Rt hf hlc H locs cells slots LS hc hs hR hS hL)
theorem ev_ldcw {i : Nat} {v : Int32} (hd : decode K.1 pc = .ok (.ldc_w i, 3)) (hw : Cond.constant K.2.1 i v ∈ th_W) (hq : pc + 3 = q) (k : EV G l K d bc bs q ls (.int v :: st) S post) : EV G l K d bc bs pc ls st S post := by
  subst hq
  intro p e R s m args below meth c Q F Rt hf hlc H locs cells slots LS hc hs hR hS hL
  exact lv_ldcw F.1 F.2.1 F.2.2.2.1 (F.2.2.2.2.2.1 _ hw) hd (k p e R s m args below meth c Q F Rt hf hlc H locs cells slots LS hc hs hR hS hL)
theorem ev_ldc2 {i : Nat} {v : Int64} (hd : decode K.1 pc = .ok (.ldc2_w i, 3)) (hw : Cond.constantLong K.2.1 i v ∈ th_W) (hq : pc + 3 = q) (k : EV G l K d bc bs q ls (.long v :: st) S post) : EV G l K d bc bs pc ls st S post := by
  subst hq
  intro p e R s m args below meth c Q F Rt hf hlc H locs cells slots LS hc hs hR hS hL
  exact lv_ldc2 F.1 F.2.1 F.2.2.2.1 (F.2.2.2.2.2.1 _ hw) hd (k p e R s m args below meth c Q F Rt hf hlc H locs cells slots LS hc hs hR hS hL)
theorem ev_iadd {x y : Int32} (hd : decode K.1 pc = .ok (.iadd, 1)) (hq : pc + 1 = q) (k : EV G l K d bc bs q ls (.int (x + y) :: st) S post) : EV G l K d bc bs pc ls (.int y :: .int x :: st) S post := by
  subst hq
  intro p e R s m args below meth c Q F Rt hf hlc H locs cells slots LS hc hs hR hS hL
  exact lv_iadd F.1 F.2.1 hd (k p e R s m args below meth c Q F Rt hf hlc H locs cells slots LS hc hs hR hS hL)
theorem ev_isub {x y : Int32} (hd : decode K.1 pc = .ok (.isub, 1)) (hq : pc + 1 = q) (k : EV G l K d bc bs q ls (.int (x - y) :: st) S post) : EV G l K d bc bs pc ls (.int y :: .int x :: st) S post := by
  subst hq
  intro p e R s m args below meth c Q F Rt hf hlc H locs cells slots LS hc hs hR hS hL
  exact lv_isub F.1 F.2.1 hd (k p e R s m args below meth c Q F Rt hf hlc H locs cells slots LS hc hs hR hS hL)
theorem ev_imul {x y : Int32} (hd : decode K.1 pc = .ok (.imul, 1)) (hq : pc + 1 = q) (k : EV G l K d bc bs q ls (.int (x * y) :: st) S post) : EV G l K d bc bs pc ls (.int y :: .int x :: st) S post := by
  subst hq
  intro p e R s m args below meth c Q F Rt hf hlc H locs cells slots LS hc hs hR hS hL
  exact lv_imul F.1 F.2.1 hd (k p e R s m args below meth c Q F Rt hf hlc H locs cells slots LS hc hs hR hS hL)
theorem ev_iand {x y : Int32} (hd : decode K.1 pc = .ok (.iand, 1)) (hq : pc + 1 = q) (k : EV G l K d bc bs q ls (.int (x &&& y) :: st) S post) : EV G l K d bc bs pc ls (.int y :: .int x :: st) S post := by
  subst hq
  intro p e R s m args below meth c Q F Rt hf hlc H locs cells slots LS hc hs hR hS hL
  exact lv_iand F.1 F.2.1 hd (k p e R s m args below meth c Q F Rt hf hlc H locs cells slots LS hc hs hR hS hL)
theorem ev_ior {x y : Int32} (hd : decode K.1 pc = .ok (.ior, 1)) (hq : pc + 1 = q) (k : EV G l K d bc bs q ls (.int (x ||| y) :: st) S post) : EV G l K d bc bs pc ls (.int y :: .int x :: st) S post := by
  subst hq
  intro p e R s m args below meth c Q F Rt hf hlc H locs cells slots LS hc hs hR hS hL
  exact lv_ior F.1 F.2.1 hd (k p e R s m args below meth c Q F Rt hf hlc H locs cells slots LS hc hs hR hS hL)
theorem ev_ixor {x y : Int32} (hd : decode K.1 pc = .ok (.ixor, 1)) (hq : pc + 1 = q) (k : EV G l K d bc bs q ls (.int (x ^^^ y) :: st) S post) : EV G l K d bc bs pc ls (.int y :: .int x :: st) S post := by
  subst hq
  intro p e R s m args below meth c Q F Rt hf hlc H locs cells slots LS hc hs hR hS hL
  exact lv_ixor F.1 F.2.1 hd (k p e R s m args below meth c Q F Rt hf hlc H locs cells slots LS hc hs hR hS hL)
theorem ev_ishl {x y : Int32} (hd : decode K.1 pc = .ok (.ishl, 1)) (hq : pc + 1 = q) (k : EV G l K d bc bs q ls (.int (x <<< (y &&& 31)) :: st) S post) : EV G l K d bc bs pc ls (.int y :: .int x :: st) S post := by
  subst hq
  intro p e R s m args below meth c Q F Rt hf hlc H locs cells slots LS hc hs hR hS hL
  exact lv_ishl F.1 F.2.1 hd (k p e R s m args below meth c Q F Rt hf hlc H locs cells slots LS hc hs hR hS hL)
theorem ev_ishr {x y : Int32} (hd : decode K.1 pc = .ok (.ishr, 1)) (hq : pc + 1 = q) (k : EV G l K d bc bs q ls (.int (x >>> (y &&& 31)) :: st) S post) : EV G l K d bc bs pc ls (.int y :: .int x :: st) S post := by
  subst hq
  intro p e R s m args below meth c Q F Rt hf hlc H locs cells slots LS hc hs hR hS hL
  exact lv_ishr F.1 F.2.1 hd (k p e R s m args below meth c Q F Rt hf hlc H locs cells slots LS hc hs hR hS hL)
theorem ev_idiv {x y : Int32} (hd : decode K.1 pc = .ok (.idiv, 1)) (hne : ¬ y = 0) (hq : pc + 1 = q) (k : EV G l K d bc bs q ls (.int (x / y) :: st) S post) : EV G l K d bc bs pc ls (.int y :: .int x :: st) S post := by
  subst hq
  intro p e R s m args below meth c Q F Rt hf hlc H locs cells slots LS hc hs hR hS hL
  exact lv_idiv F.1 F.2.1 hd hne (k p e R s m args below meth c Q F Rt hf hlc H locs cells slots LS hc hs hR hS hL)
theorem ev_irem {x y : Int32} (hd : decode K.1 pc = .ok (.irem, 1)) (hne : ¬ y = 0) (hq : pc + 1 = q) (k : EV G l K d bc bs q ls (.int (x - x / y * y) :: st) S post) : EV G l K d bc bs pc ls (.int y :: .int x :: st) S post := by
  subst hq
  intro p e R s m args below meth c Q F Rt hf hlc H locs cells slots LS hc hs hR hS hL
  exact lv_irem F.1 F.2.1 hd hne (k p e R s m args below meth c Q F Rt hf hlc H locs cells slots LS hc hs hR hS hL)
theorem ev_iushr {x y : Int32} (hd : decode K.1 pc = .ok (.iushr, 1)) (hq : pc + 1 = q) (k : EV G l K d bc bs q ls (.int ((x.toUInt32 >>> (y.toUInt32 &&& Int32.toUInt32 31)).toInt32) :: st) S post) : EV G l K d bc bs pc ls (.int y :: .int x :: st) S post := by
  subst hq
  intro p e R s m args below meth c Q F Rt hf hlc H locs cells slots LS hc hs hR hS hL
  exact lv_iushr F.1 F.2.1 hd rfl (k p e R s m args below meth c Q F Rt hf hlc H locs cells slots LS hc hs hR hS hL)
theorem ev_i2l {x : Int32} (hd : decode K.1 pc = .ok (.i2l, 1)) (hq : pc + 1 = q) (k : EV G l K d bc bs q ls (.long x.toInt64 :: st) S post) : EV G l K d bc bs pc ls (.int x :: st) S post := by
  subst hq
  intro p e R s m args below meth c Q F Rt hf hlc H locs cells slots LS hc hs hR hS hL
  exact lv_i2l F.1 F.2.1 hd rfl (k p e R s m args below meth c Q F Rt hf hlc H locs cells slots LS hc hs hR hS hL)
theorem ev_i2b {x : Int32} (hd : decode K.1 pc = .ok (.i2b, 1)) (hq : pc + 1 = q) (k : EV G l K d bc bs q ls (.int x.toInt8.toInt32 :: st) S post) : EV G l K d bc bs pc ls (.int x :: st) S post := by
  subst hq
  intro p e R s m args below meth c Q F Rt hf hlc H locs cells slots LS hc hs hR hS hL
  exact lv_i2b F.1 F.2.1 hd rfl (k p e R s m args below meth c Q F Rt hf hlc H locs cells slots LS hc hs hR hS hL)
theorem ev_i2s {x : Int32} (hd : decode K.1 pc = .ok (.i2s, 1)) (hq : pc + 1 = q) (k : EV G l K d bc bs q ls (.int x.toInt16.toInt32 :: st) S post) : EV G l K d bc bs pc ls (.int x :: st) S post := by
  subst hq
  intro p e R s m args below meth c Q F Rt hf hlc H locs cells slots LS hc hs hR hS hL
  exact lv_i2s F.1 F.2.1 hd rfl (k p e R s m args below meth c Q F Rt hf hlc H locs cells slots LS hc hs hR hS hL)
theorem ev_i2c {x : Int32} (hd : decode K.1 pc = .ok (.i2c, 1)) (hq : pc + 1 = q) (k : EV G l K d bc bs q ls (.int (x.toUInt32 % 65536).toInt32 :: st) S post) : EV G l K d bc bs pc ls (.int x :: st) S post := by
  subst hq
  intro p e R s m args below meth c Q F Rt hf hlc H locs cells slots LS hc hs hR hS hL
  exact lv_i2c F.1 F.2.1 hd rfl (k p e R s m args below meth c Q F Rt hf hlc H locs cells slots LS hc hs hR hS hL)
theorem ev_ladd {x y : Int64} (hd : decode K.1 pc = .ok (.ladd, 1)) (hq : pc + 1 = q) (k : EV G l K d bc bs q ls (.long (x + y) :: st) S post) : EV G l K d bc bs pc ls (.long y :: .long x :: st) S post := by
  subst hq
  intro p e R s m args below meth c Q F Rt hf hlc H locs cells slots LS hc hs hR hS hL
  exact lv_ladd F.1 F.2.1 hd (k p e R s m args below meth c Q F Rt hf hlc H locs cells slots LS hc hs hR hS hL)
theorem ev_lcmp {x y : Int64} (hd : decode K.1 pc = .ok (.lcmp, 1)) (hq : pc + 1 = q) (k : EV G l K d bc bs q ls (.int (lg_cmp x y) :: st) S post) : EV G l K d bc bs pc ls (.long y :: .long x :: st) S post := by
  subst hq
  intro p e R s m args below meth c Q F Rt hf hlc H locs cells slots LS hc hs hR hS hL
  exact W.lcmp F.1 F.2.1 hd (k p e R s m args below meth c Q F Rt hf hlc H locs cells slots LS hc hs hR hS hL)
theorem ev_dup {v : Value} (hd : decode K.1 pc = .ok (.dup, 1)) (hv : v.category = 1) (hq : pc + 1 = q) (k : EV G l K d bc bs q ls (v :: v :: st) S post) : EV G l K d bc bs pc ls (v :: st) S post := by
  subst hq
  intro p e R s m args below meth c Q F Rt hf hlc H locs cells slots LS hc hs hR hS hL
  exact lv_dup F.1 F.2.1 hd (by rw [th_v_cat]; exact hv) (k p e R s m args below meth c Q F Rt hf hlc H locs cells slots LS hc hs hR hS hL)
theorem ev_pop {v : Value} (hd : decode K.1 pc = .ok (.pop, 1)) (hv : v.category = 1) (hq : pc + 1 = q) (k : EV G l K d bc bs q ls st S post) : EV G l K d bc bs pc ls (v :: st) S post := by
  subst hq
  intro p e R s m args below meth c Q F Rt hf hlc H locs cells slots LS hc hs hR hS hL
  exact lv_pop F.1 F.2.1 hd (by rw [th_v_cat]; exact hv) (k p e R s m args below meth c Q F Rt hf hlc H locs cells slots LS hc hs hR hS hL)
theorem ev_dup_x1 {v w : Value} (hd : decode K.1 pc = .ok (.dup_x1, 1)) (hv : v.category = 1) (hw : w.category = 1) (hq : pc + 1 = q) (k : EV G l K d bc bs q ls (v :: w :: v :: st) S post) : EV G l K d bc bs pc ls (v :: w :: st) S post := by
  subst hq
  intro p e R s m args below meth c Q F Rt hf hlc H locs cells slots LS hc hs hR hS hL
  exact lv_dup_x1 F.1 F.2.1 hd (by rw [th_v_cat]; exact hv) (by rw [th_v_cat]; exact hw) (k p e R s m args below meth c Q F Rt hf hlc H locs cells slots LS hc hs hR hS hL)
theorem ev_dup2 {v w : Value} (hd : decode K.1 pc = .ok (.dup2, 1)) (hv : v.category = 1) (hw : w.category = 1) (hq : pc + 1 = q) (k : EV G l K d bc bs q ls (v :: w :: v :: w :: st) S post) : EV G l K d bc bs pc ls (v :: w :: st) S post := by
  subst hq
  intro p e R s m args below meth c Q F Rt hf hlc H locs cells slots LS hc hs hR hS hL
  exact lv_dup2_11 F.1 F.2.1 hd (by rw [th_v_cat]; exact hv) (by rw [th_v_cat]; exact hw) (k p e R s m args below meth c Q F Rt hf hlc H locs cells slots LS hc hs hR hS hL)
theorem ev_iload0 {x : Int32} {r : List (Option Value)} (hd : decode K.1 pc = .ok (.iload_n 0, 1)) (hq : pc + 1 = q) (k : EV G l K d bc bs q (some (.int x) :: r) (.int x :: st) S post) : EV G l K d bc bs pc (some (.int x) :: r) st S post := by
  subst hq
  intro p e R s m args below meth c Q F Rt hf hlc H locs cells slots LS hc hs hR hS hL
  exact lv_iload_n F.1 F.2.1 hd rfl (hL.at (i := 0) rfl) (k p e R s m args below meth c Q F Rt hf hlc H locs cells slots LS hc hs hR hS hL)
theorem ev_lload0 {x : Int64} {r : List (Option Value)} (hd : decode K.1 pc = .ok (.lload_n 0, 1)) (hq : pc + 1 = q) (k : EV G l K d bc bs q (some (.long x) :: r) (.long x :: st) S post) : EV G l K d bc bs pc (some (.long x) :: r) st S post := by
  subst hq
  intro p e R s m args below meth c Q F Rt hf hlc H locs cells slots LS hc hs hR hS hL
  exact lv_lload_n F.1 F.2.1 hd rfl (hL.at (i := 0) rfl) (k p e R s m args below meth c Q F Rt hf hlc H locs cells slots LS hc hs hR hS hL)
theorem ev_aload0 {x : Nat} {r : List (Option Value)} (hd : decode K.1 pc = .ok (.aload_n 0, 1)) (hq : pc + 1 = q) (k : EV G l K d bc bs q (some (.ref x) :: r) (.ref x :: st) S post) : EV G l K d bc bs pc (some (.ref x) :: r) st S post := by
  subst hq
  intro p e R s m args below meth c Q F Rt hf hlc H locs cells slots LS hc hs hR hS hL
  exact lv_aload_n F.1 F.2.1 hd rfl (hL.at (i := 0) rfl) (k p e R s m args below meth c Q F Rt hf hlc H locs cells slots LS hc hs hR hS hL)
theorem ev_aloadN0 {r : List (Option Value)} (hd : decode K.1 pc = .ok (.aload_n 0, 1)) (hq : pc + 1 = q) (k : EV G l K d bc bs q (some (.null) :: r) (.null :: st) S post) : EV G l K d bc bs pc (some (.null) :: r) st S post := by
  subst hq
  intro p e R s m args below meth c Q F Rt hf hlc H locs cells slots LS hc hs hR hS hL
  exact lv_aload_nN F.1 F.2.1 hd rfl (hL.at (i := 0) rfl) (k p e R s m args below meth c Q F Rt hf hlc H locs cells slots LS hc hs hR hS hL)
theorem ev_istore0 {o0 : Option Value} {x : Int32} {r : List (Option Value)} (hd : decode K.1 pc = .ok (.istore_n 0, 1)) (hq : pc + 1 = q) (hn : 0 < K.2.2.1) (h1 : th_c1 (o0 :: r) = true) (k : EV G l K d bc bs q (some (.int x) :: r) st S post) : EV G l K d bc bs pc (o0 :: r) (.int x :: st) S post := by
  subst hq
  intro p e R s m args below meth c Q F Rt hf hlc H locs cells slots LS hc hs hR hS hL
  exact lv_istore_n F.1 F.2.1 hd rfl hL hn rfl (fun LS1 h => k p e R s m args below meth c Q F Rt hf hlc H locs cells slots LS1 hc hs hR hS (th_L.set (i := 0) (v := .int x) h1 h))
theorem ev_astore0 {o0 : Option Value} {x : Nat} {r : List (Option Value)} (hd : decode K.1 pc = .ok (.astore_n 0, 1)) (hq : pc + 1 = q) (hn : 0 < K.2.2.1) (h1 : th_c1 (o0 :: r) = true) (k : EV G l K d bc bs q (some (.ref x) :: r) st S post) : EV G l K d bc bs pc (o0 :: r) (.ref x :: st) S post := by
  subst hq
  intro p e R s m args below meth c Q F Rt hf hlc H locs cells slots LS hc hs hR hS hL
  exact lv_astore_n F.1 F.2.1 hd rfl hL hn rfl (fun LS1 h => k p e R s m args below meth c Q F Rt hf hlc H locs cells slots LS1 hc hs hR hS (th_L.set (i := 0) (v := .ref x) h1 h))
theorem ev_astoreN0 {o0 : Option Value} {r : List (Option Value)} (hd : decode K.1 pc = .ok (.astore_n 0, 1)) (hq : pc + 1 = q) (hn : 0 < K.2.2.1) (h1 : th_c1 (o0 :: r) = true) (k : EV G l K d bc bs q (some (.null) :: r) st S post) : EV G l K d bc bs pc (o0 :: r) (.null :: st) S post := by
  subst hq
  intro p e R s m args below meth c Q F Rt hf hlc H locs cells slots LS hc hs hR hS hL
  exact lv_astore_nN F.1 F.2.1 hd rfl hL hn rfl (fun LS1 h => k p e R s m args below meth c Q F Rt hf hlc H locs cells slots LS1 hc hs hR hS (th_L.set (i := 0) (v := .null) h1 h))
theorem ev_iinc0 {x v : Int32} {n : Int} {r : List (Option Value)} (hd : decode K.1 pc = .ok (.iinc 0 n, 3)) (hq : pc + 3 = q) (hn : 0 < K.2.2.1) (h1 : th_c1 (some (.int x) :: r) = true) (hv : x + Int32.ofInt n = v) (k : EV G l K d bc bs q (some (.int v) :: r) st S post) : EV G l K d bc bs pc (some (.int x) :: r) st S post := by
  subst hq
  intro p e R s m args below meth c Q F Rt hf hlc H locs cells slots LS hc hs hR hS hL
  obtain ⟨kk, hkk⟩ := List.getElem?_of_mem ((th_l_mem (G := G) (some (.int x) :: r) 0 0 (.int x)).mpr ⟨0, .int x, rfl, by omega, rfl⟩)
  exact lv_iinc F.1 F.2.1 hd hL hkk hv hn rfl (fun LS1 h => k p e R s m args below meth c Q F Rt hf hlc H locs cells slots LS1 hc hs hR hS (th_L.set (i := 0) (v := .int v) h1 h))
theorem ev_iload1 {o0 : Option Value} {x : Int32} {r : List (Option Value)} (hd : decode K.1 pc = .ok (.iload_n 1, 1)) (hq : pc + 1 = q) (k : EV G l K d bc bs q (o0 :: some (.int x) :: r) (.int x :: st) S post) : EV G l K d bc bs pc (o0 :: some (.int x) :: r) st S post := by
  subst hq
  intro p e R s m args below meth c Q F Rt hf hlc H locs cells slots LS hc hs hR hS hL
  exact lv_iload_n F.1 F.2.1 hd rfl (hL.at (i := 1) rfl) (k p e R s m args below meth c Q F Rt hf hlc H locs cells slots LS hc hs hR hS hL)
theorem ev_lload1 {o0 : Option Value} {x : Int64} {r : List (Option Value)} (hd : decode K.1 pc = .ok (.lload_n 1, 1)) (hq : pc + 1 = q) (k : EV G l K d bc bs q (o0 :: some (.long x) :: r) (.long x :: st) S post) : EV G l K d bc bs pc (o0 :: some (.long x) :: r) st S post := by
  subst hq
  intro p e R s m args below meth c Q F Rt hf hlc H locs cells slots LS hc hs hR hS hL
  exact lv_lload_n F.1 F.2.1 hd rfl (hL.at (i := 1) rfl) (k p e R s m args below meth c Q F Rt hf hlc H locs cells slots LS hc hs hR hS hL)
theorem ev_aload1 {o0 : Option Value} {x : Nat} {r : List (Option Value)} (hd : decode K.1 pc = .ok (.aload_n 1, 1)) (hq : pc + 1 = q) (k : EV G l K d bc bs q (o0 :: some (.ref x) :: r) (.ref x :: st) S post) : EV G l K d bc bs pc (o0 :: some (.ref x) :: r) st S post := by
  subst hq
  intro p e R s m args below meth c Q F Rt hf hlc H locs cells slots LS hc hs hR hS hL
  exact lv_aload_n F.1 F.2.1 hd rfl (hL.at (i := 1) rfl) (k p e R s m args below meth c Q F Rt hf hlc H locs cells slots LS hc hs hR hS hL)
theorem ev_aloadN1 {o0 : Option Value} {r : List (Option Value)} (hd : decode K.1 pc = .ok (.aload_n 1, 1)) (hq : pc + 1 = q) (k : EV G l K d bc bs q (o0 :: some (.null) :: r) (.null :: st) S post) : EV G l K d bc bs pc (o0 :: some (.null) :: r) st S post := by
  subst hq
  intro p e R s m args below meth c Q F Rt hf hlc H locs cells slots LS hc hs hR hS hL
  exact lv_aload_nN F.1 F.2.1 hd rfl (hL.at (i := 1) rfl) (k p e R s m args below meth c Q F Rt hf hlc H locs cells slots LS hc hs hR hS hL)
theorem ev_istore1 {o0 : Option Value} {o1 : Option Value} {x : Int32} {r : List (Option Value)} (hd : decode K.1 pc = .ok (.istore_n 1, 1)) (hq : pc + 1 = q) (hn : 1 < K.2.2.1) (h1 : th_c1 (o0 :: o1 :: r) = true) (k : EV G l K d bc bs q (o0 :: some (.int x) :: r) st S post) : EV G l K d bc bs pc (o0 :: o1 :: r) (.int x :: st) S post := by
  subst hq
  intro p e R s m args below meth c Q F Rt hf hlc H locs cells slots LS hc hs hR hS hL
  exact lv_istore_n F.1 F.2.1 hd rfl hL hn rfl (fun LS1 h => k p e R s m args below meth c Q F Rt hf hlc H locs cells slots LS1 hc hs hR hS (th_L.set (i := 1) (v := .int x) h1 h))
theorem ev_astore1 {o0 : Option Value} {o1 : Option Value} {x : Nat} {r : List (Option Value)} (hd : decode K.1 pc = .ok (.astore_n 1, 1)) (hq : pc + 1 = q) (hn : 1 < K.2.2.1) (h1 : th_c1 (o0 :: o1 :: r) = true) (k : EV G l K d bc bs q (o0 :: some (.ref x) :: r) st S post) : EV G l K d bc bs pc (o0 :: o1 :: r) (.ref x :: st) S post := by
  subst hq
  intro p e R s m args below meth c Q F Rt hf hlc H locs cells slots LS hc hs hR hS hL
  exact lv_astore_n F.1 F.2.1 hd rfl hL hn rfl (fun LS1 h => k p e R s m args below meth c Q F Rt hf hlc H locs cells slots LS1 hc hs hR hS (th_L.set (i := 1) (v := .ref x) h1 h))
theorem ev_astoreN1 {o0 : Option Value} {o1 : Option Value} {r : List (Option Value)} (hd : decode K.1 pc = .ok (.astore_n 1, 1)) (hq : pc + 1 = q) (hn : 1 < K.2.2.1) (h1 : th_c1 (o0 :: o1 :: r) = true) (k : EV G l K d bc bs q (o0 :: some (.null) :: r) st S post) : EV G l K d bc bs pc (o0 :: o1 :: r) (.null :: st) S post := by
  subst hq
  intro p e R s m args below meth c Q F Rt hf hlc H locs cells slots LS hc hs hR hS hL
  exact lv_astore_nN F.1 F.2.1 hd rfl hL hn rfl (fun LS1 h => k p e R s m args below meth c Q F Rt hf hlc H locs cells slots LS1 hc hs hR hS (th_L.set (i := 1) (v := .null) h1 h))
theorem ev_iinc1 {o0 : Option Value} {x v : Int32} {n : Int} {r : List (Option Value)} (hd : decode K.1 pc = .ok (.iinc 1 n, 3)) (hq : pc + 3 = q) (hn : 1 < K.2.2.1) (h1 : th_c1 (o0 :: some (.int x) :: r) = true) (hv : x + Int32.ofInt n = v) (k : EV G l K d bc bs q (o0 :: some (.int v) :: r) st S post) : EV G l K d bc bs pc (o0 :: some (.int x) :: r) st S post := by
  subst hq
  intro p e R s m args below meth c Q F Rt hf hlc H locs cells slots LS hc hs hR hS hL
  obtain ⟨kk, hkk⟩ := List.getElem?_of_mem ((th_l_mem (G := G) (o0 :: some (.int x) :: r) 0 1 (.int x)).mpr ⟨1, .int x, rfl, by omega, rfl⟩)
  exact lv_iinc F.1 F.2.1 hd hL hkk hv hn rfl (fun LS1 h => k p e R s m args below meth c Q F Rt hf hlc H locs cells slots LS1 hc hs hR hS (th_L.set (i := 1) (v := .int v) h1 h))
theorem ev_iload2 {o0 o1 : Option Value} {x : Int32} {r : List (Option Value)} (hd : decode K.1 pc = .ok (.iload_n 2, 1)) (hq : pc + 1 = q) (k : EV G l K d bc bs q (o0 :: o1 :: some (.int x) :: r) (.int x :: st) S post) : EV G l K d bc bs pc (o0 :: o1 :: some (.int x) :: r) st S post := by
  subst hq
  intro p e R s m args below meth c Q F Rt hf hlc H locs cells slots LS hc hs hR hS hL
  exact lv_iload_n F.1 F.2.1 hd rfl (hL.at (i := 2) rfl) (k p e R s m args below meth c Q F Rt hf hlc H locs cells slots LS hc hs hR hS hL)
theorem ev_lload2 {o0 o1 : Option Value} {x : Int64} {r : List (Option Value)} (hd : decode K.1 pc = .ok (.lload_n 2, 1)) (hq : pc + 1 = q) (k : EV G l K d bc bs q (o0 :: o1 :: some (.long x) :: r) (.long x :: st) S post) : EV G l K d bc bs pc (o0 :: o1 :: some (.long x) :: r) st S post := by
  subst hq
  intro p e R s m args below meth c Q F Rt hf hlc H locs cells slots LS hc hs hR hS hL
  exact lv_lload_n F.1 F.2.1 hd rfl (hL.at (i := 2) rfl) (k p e R s m args below meth c Q F Rt hf hlc H locs cells slots LS hc hs hR hS hL)
theorem ev_aload2 {o0 o1 : Option Value} {x : Nat} {r : List (Option Value)} (hd : decode K.1 pc = .ok (.aload_n 2, 1)) (hq : pc + 1 = q) (k : EV G l K d bc bs q (o0 :: o1 :: some (.ref x) :: r) (.ref x :: st) S post) : EV G l K d bc bs pc (o0 :: o1 :: some (.ref x) :: r) st S post := by
  subst hq
  intro p e R s m args below meth c Q F Rt hf hlc H locs cells slots LS hc hs hR hS hL
  exact lv_aload_n F.1 F.2.1 hd rfl (hL.at (i := 2) rfl) (k p e R s m args below meth c Q F Rt hf hlc H locs cells slots LS hc hs hR hS hL)
theorem ev_aloadN2 {o0 o1 : Option Value} {r : List (Option Value)} (hd : decode K.1 pc = .ok (.aload_n 2, 1)) (hq : pc + 1 = q) (k : EV G l K d bc bs q (o0 :: o1 :: some (.null) :: r) (.null :: st) S post) : EV G l K d bc bs pc (o0 :: o1 :: some (.null) :: r) st S post := by
  subst hq
  intro p e R s m args below meth c Q F Rt hf hlc H locs cells slots LS hc hs hR hS hL
  exact lv_aload_nN F.1 F.2.1 hd rfl (hL.at (i := 2) rfl) (k p e R s m args below meth c Q F Rt hf hlc H locs cells slots LS hc hs hR hS hL)
theorem ev_istore2 {o0 o1 : Option Value} {o2 : Option Value} {x : Int32} {r : List (Option Value)} (hd : decode K.1 pc = .ok (.istore_n 2, 1)) (hq : pc + 1 = q) (hn : 2 < K.2.2.1) (h1 : th_c1 (o0 :: o1 :: o2 :: r) = true) (k : EV G l K d bc bs q (o0 :: o1 :: some (.int x) :: r) st S post) : EV G l K d bc bs pc (o0 :: o1 :: o2 :: r) (.int x :: st) S post := by
  subst hq
  intro p e R s m args below meth c Q F Rt hf hlc H locs cells slots LS hc hs hR hS hL
  exact lv_istore_n F.1 F.2.1 hd rfl hL hn rfl (fun LS1 h => k p e R s m args below meth c Q F Rt hf hlc H locs cells slots LS1 hc hs hR hS (th_L.set (i := 2) (v := .int x) h1 h))
theorem ev_astore2 {o0 o1 : Option Value} {o2 : Option Value} {x : Nat} {r : List (Option Value)} (hd : decode K.1 pc = .ok (.astore_n 2, 1)) (hq : pc + 1 = q) (hn : 2 < K.2.2.1) (h1 : th_c1 (o0 :: o1 :: o2 :: r) = true) (k : EV G l K d bc bs q (o0 :: o1 :: some (.ref x) :: r) st S post) : EV G l K d bc bs pc (o0 :: o1 :: o2 :: r) (.ref x :: st) S post := by
  subst hq
  intro p e R s m args below meth c Q F Rt hf hlc H locs cells slots LS hc hs hR hS hL
  exact lv_astore_n F.1 F.2.1 hd rfl hL hn rfl (fun LS1 h => k p e R s m args below meth c Q F Rt hf hlc H locs cells slots LS1 hc hs hR hS (th_L.set (i := 2) (v := .ref x) h1 h))
theorem ev_astoreN2 {o0 o1 : Option Value} {o2 : Option Value} {r : List (Option Value)} (hd : decode K.1 pc = .ok (.astore_n 2, 1)) (hq : pc + 1 = q) (hn : 2 < K.2.2.1) (h1 : th_c1 (o0 :: o1 :: o2 :: r) = true) (k : EV G l K d bc bs q (o0 :: o1 :: some (.null) :: r) st S post) : EV G l K d bc bs pc (o0 :: o1 :: o2 :: r) (.null :: st) S post := by
  subst hq
  intro p e R s m args below meth c Q F Rt hf hlc H locs cells slots LS hc hs hR hS hL
  exact lv_astore_nN F.1 F.2.1 hd rfl hL hn rfl (fun LS1 h => k p e R s m args below meth c Q F Rt hf hlc H locs cells slots LS1 hc hs hR hS (th_L.set (i := 2) (v := .null) h1 h))
theorem ev_iinc2 {o0 o1 : Option Value} {x v : Int32} {n : Int} {r : List (Option Value)} (hd : decode K.1 pc = .ok (.iinc 2 n, 3)) (hq : pc + 3 = q) (hn : 2 < K.2.2.1) (h1 : th_c1 (o0 :: o1 :: some (.int x) :: r) = true) (hv : x + Int32.ofInt n = v) (k : EV G l K d bc bs q (o0 :: o1 :: some (.int v) :: r) st S post) : EV G l K d bc bs pc (o0 :: o1 :: some (.int x) :: r) st S post := by
  subst hq
  intro p e R s m args below meth c Q F Rt hf hlc H locs cells slots LS hc hs hR hS hL
  obtain ⟨kk, hkk⟩ := List.getElem?_of_mem ((th_l_mem (G := G) (o0 :: o1 :: some (.int x) :: r) 0 2 (.int x)).mpr ⟨2, .int x, rfl, by omega, rfl⟩)
  exact lv_iinc F.1 F.2.1 hd hL hkk hv hn rfl (fun LS1 h => k p e R s m args below meth c Q F Rt hf hlc H locs cells slots LS1 hc hs hR hS (th_L.set (i := 2) (v := .int v) h1 h))
theorem ev_iload3 {o0 o1 o2 : Option Value} {x : Int32} {r : List (Option Value)} (hd : decode K.1 pc = .ok (.iload_n 3, 1)) (hq : pc + 1 = q) (k : EV G l K d bc bs q (o0 :: o1 :: o2 :: some (.int x) :: r) (.int x :: st) S post) : EV G l K d bc bs pc (o0 :: o1 :: o2 :: some (.int x) :: r) st S post := by
  subst hq
  intro p e R s m args below meth c Q F Rt hf hlc H locs cells slots LS hc hs hR hS hL
  exact lv_iload_n F.1 F.2.1 hd rfl (hL.at (i := 3) rfl) (k p e R s m args below meth c Q F Rt hf hlc H locs cells slots LS hc hs hR hS hL)
theorem ev_lload3 {o0 o1 o2 : Option Value} {x : Int64} {r : List (Option Value)} (hd : decode K.1 pc = .ok (.lload_n 3, 1)) (hq : pc + 1 = q) (k : EV G l K d bc bs q (o0 :: o1 :: o2 :: some (.long x) :: r) (.long x :: st) S post) : EV G l K d bc bs pc (o0 :: o1 :: o2 :: some (.long x) :: r) st S post := by
  subst hq
  intro p e R s m args below meth c Q F Rt hf hlc H locs cells slots LS hc hs hR hS hL
  exact lv_lload_n F.1 F.2.1 hd rfl (hL.at (i := 3) rfl) (k p e R s m args below meth c Q F Rt hf hlc H locs cells slots LS hc hs hR hS hL)
theorem ev_aload3 {o0 o1 o2 : Option Value} {x : Nat} {r : List (Option Value)} (hd : decode K.1 pc = .ok (.aload_n 3, 1)) (hq : pc + 1 = q) (k : EV G l K d bc bs q (o0 :: o1 :: o2 :: some (.ref x) :: r) (.ref x :: st) S post) : EV G l K d bc bs pc (o0 :: o1 :: o2 :: some (.ref x) :: r) st S post := by
  subst hq
  intro p e R s m args below meth c Q F Rt hf hlc H locs cells slots LS hc hs hR hS hL
  exact lv_aload_n F.1 F.2.1 hd rfl (hL.at (i := 3) rfl) (k p e R s m args below meth c Q F Rt hf hlc H locs cells slots LS hc hs hR hS hL)
theorem ev_aloadN3 {o0 o1 o2 : Option Value} {r : List (Option Value)} (hd : decode K.1 pc = .ok (.aload_n 3, 1)) (hq : pc + 1 = q) (k : EV G l K d bc bs q (o0 :: o1 :: o2 :: some (.null) :: r) (.null :: st) S post) : EV G l K d bc bs pc (o0 :: o1 :: o2 :: some (.null) :: r) st S post := by
  subst hq
  intro p e R s m args below meth c Q F Rt hf hlc H locs cells slots LS hc hs hR hS hL
  exact lv_aload_nN F.1 F.2.1 hd rfl (hL.at (i := 3) rfl) (k p e R s m args below meth c Q F Rt hf hlc H locs cells slots LS hc hs hR hS hL)
theorem ev_istore3 {o0 o1 o2 : Option Value} {o3 : Option Value} {x : Int32} {r : List (Option Value)} (hd : decode K.1 pc = .ok (.istore_n 3, 1)) (hq : pc + 1 = q) (hn : 3 < K.2.2.1) (h1 : th_c1 (o0 :: o1 :: o2 :: o3 :: r) = true) (k : EV G l K d bc bs q (o0 :: o1 :: o2 :: some (.int x) :: r) st S post) : EV G l K d bc bs pc (o0 :: o1 :: o2 :: o3 :: r) (.int x :: st) S post := by
  subst hq
  intro p e R s m args below meth c Q F Rt hf hlc H locs cells slots LS hc hs hR hS hL
  exact lv_istore_n F.1 F.2.1 hd rfl hL hn rfl (fun LS1 h => k p e R s m args below meth c Q F Rt hf hlc H locs cells slots LS1 hc hs hR hS (th_L.set (i := 3) (v := .int x) h1 h))
theorem ev_astore3 {o0 o1 o2 : Option Value} {o3 : Option Value} {x : Nat} {r : List (Option Value)} (hd : decode K.1 pc = .ok (.astore_n 3, 1)) (hq : pc + 1 = q) (hn : 3 < K.2.2.1) (h1 : th_c1 (o0 :: o1 :: o2 :: o3 :: r) = true) (k : EV G l K d bc bs q (o0 :: o1 :: o2 :: some (.ref x) :: r) st S post) : EV G l K d bc bs pc (o0 :: o1 :: o2 :: o3 :: r) (.ref x :: st) S post := by
  subst hq
  intro p e R s m args below meth c Q F Rt hf hlc H locs cells slots LS hc hs hR hS hL
  exact lv_astore_n F.1 F.2.1 hd rfl hL hn rfl (fun LS1 h => k p e R s m args below meth c Q F Rt hf hlc H locs cells slots LS1 hc hs hR hS (th_L.set (i := 3) (v := .ref x) h1 h))
theorem ev_astoreN3 {o0 o1 o2 : Option Value} {o3 : Option Value} {r : List (Option Value)} (hd : decode K.1 pc = .ok (.astore_n 3, 1)) (hq : pc + 1 = q) (hn : 3 < K.2.2.1) (h1 : th_c1 (o0 :: o1 :: o2 :: o3 :: r) = true) (k : EV G l K d bc bs q (o0 :: o1 :: o2 :: some (.null) :: r) st S post) : EV G l K d bc bs pc (o0 :: o1 :: o2 :: o3 :: r) (.null :: st) S post := by
  subst hq
  intro p e R s m args below meth c Q F Rt hf hlc H locs cells slots LS hc hs hR hS hL
  exact lv_astore_nN F.1 F.2.1 hd rfl hL hn rfl (fun LS1 h => k p e R s m args below meth c Q F Rt hf hlc H locs cells slots LS1 hc hs hR hS (th_L.set (i := 3) (v := .null) h1 h))
theorem ev_iinc3 {o0 o1 o2 : Option Value} {x v : Int32} {n : Int} {r : List (Option Value)} (hd : decode K.1 pc = .ok (.iinc 3 n, 3)) (hq : pc + 3 = q) (hn : 3 < K.2.2.1) (h1 : th_c1 (o0 :: o1 :: o2 :: some (.int x) :: r) = true) (hv : x + Int32.ofInt n = v) (k : EV G l K d bc bs q (o0 :: o1 :: o2 :: some (.int v) :: r) st S post) : EV G l K d bc bs pc (o0 :: o1 :: o2 :: some (.int x) :: r) st S post := by
  subst hq
  intro p e R s m args below meth c Q F Rt hf hlc H locs cells slots LS hc hs hR hS hL
  obtain ⟨kk, hkk⟩ := List.getElem?_of_mem ((th_l_mem (G := G) (o0 :: o1 :: o2 :: some (.int x) :: r) 0 3 (.int x)).mpr ⟨3, .int x, rfl, by omega, rfl⟩)
  exact lv_iinc F.1 F.2.1 hd hL hkk hv hn rfl (fun LS1 h => k p e R s m args below meth c Q F Rt hf hlc H locs cells slots LS1 hc hs hR hS (th_L.set (i := 3) (v := .int v) h1 h))
theorem ev_iload4 {o0 o1 o2 o3 : Option Value} {x : Int32} {r : List (Option Value)} (hd : decode K.1 pc = .ok (.iload 4, 2)) (hq : pc + 2 = q) (k : EV G l K d bc bs q (o0 :: o1 :: o2 :: o3 :: some (.int x) :: r) (.int x :: st) S post) : EV G l K d bc bs pc (o0 :: o1 :: o2 :: o3 :: some (.int x) :: r) st S post := by
  subst hq
  intro p e R s m args below meth c Q F Rt hf hlc H locs cells slots LS hc hs hR hS hL
  exact lv_iload F.1 F.2.1 hd (hL.at (i := 4) rfl) (k p e R s m args below meth c Q F Rt hf hlc H locs cells slots LS hc hs hR hS hL)
theorem ev_lload4 {o0 o1 o2 o3 : Option Value} {x : Int64} {r : List (Option Value)} (hd : decode K.1 pc = .ok (.lload 4, 2)) (hq : pc + 2 = q) (k : EV G l K d bc bs q (o0 :: o1 :: o2 :: o3 :: some (.long x) :: r) (.long x :: st) S post) : EV G l K d bc bs pc (o0 :: o1 :: o2 :: o3 :: some (.long x) :: r) st S post := by
  subst hq
  intro p e R s m args below meth c Q F Rt hf hlc H locs cells slots LS hc hs hR hS hL
  exact lv_lload F.1 F.2.1 hd (hL.at (i := 4) rfl) (k p e R s m args below meth c Q F Rt hf hlc H locs cells slots LS hc hs hR hS hL)
theorem ev_aload4 {o0 o1 o2 o3 : Option Value} {x : Nat} {r : List (Option Value)} (hd : decode K.1 pc = .ok (.aload 4, 2)) (hq : pc + 2 = q) (k : EV G l K d bc bs q (o0 :: o1 :: o2 :: o3 :: some (.ref x) :: r) (.ref x :: st) S post) : EV G l K d bc bs pc (o0 :: o1 :: o2 :: o3 :: some (.ref x) :: r) st S post := by
  subst hq
  intro p e R s m args below meth c Q F Rt hf hlc H locs cells slots LS hc hs hR hS hL
  exact lv_aload F.1 F.2.1 hd (hL.at (i := 4) rfl) (k p e R s m args below meth c Q F Rt hf hlc H locs cells slots LS hc hs hR hS hL)
theorem ev_aloadN4 {o0 o1 o2 o3 : Option Value} {r : List (Option Value)} (hd : decode K.1 pc = .ok (.aload 4, 2)) (hq : pc + 2 = q) (k : EV G l K d bc bs q (o0 :: o1 :: o2 :: o3 :: some (.null) :: r) (.null :: st) S post) : EV G l K d bc bs pc (o0 :: o1 :: o2 :: o3 :: some (.null) :: r) st S post := by
  subst hq
  intro p e R s m args below meth c Q F Rt hf hlc H locs cells slots LS hc hs hR hS hL
  exact lv_aloadN F.1 F.2.1 hd (hL.at (i := 4) rfl) (k p e R s m args below meth c Q F Rt hf hlc H locs cells slots LS hc hs hR hS hL)
theorem ev_istore4 {o0 o1 o2 o3 : Option Value} {o4 : Option Value} {x : Int32} {r : List (Option Value)} (hd : decode K.1 pc = .ok (.istore 4, 2)) (hq : pc + 2 = q) (hn : 4 < K.2.2.1) (h1 : th_c1 (o0 :: o1 :: o2 :: o3 :: o4 :: r) = true) (k : EV G l K d bc bs q (o0 :: o1 :: o2 :: o3 :: some (.int x) :: r) st S post) : EV G l K d bc bs pc (o0 :: o1 :: o2 :: o3 :: o4 :: r) (.int x :: st) S post := by
  subst hq
  intro p e R s m args below meth c Q F Rt hf hlc H locs cells slots LS hc hs hR hS hL
  exact lv_istore F.1 F.2.1 hd hL hn rfl (fun LS1 h => k p e R s m args below meth c Q F Rt hf hlc H locs cells slots LS1 hc hs hR hS (th_L.set (i := 4) (v := .int x) h1 h))
theorem ev_astore4 {o0 o1 o2 o3 : Option Value} {o4 : Option Value} {x : Nat} {r : List (Option Value)} (hd : decode K.1 pc = .ok (.astore 4, 2)) (hq : pc + 2 = q) (hn : 4 < K.2.2.1) (h1 : th_c1 (o0 :: o1 :: o2 :: o3 :: o4 :: r) = true) (k : EV G l K d bc bs q (o0 :: o1 :: o2 :: o3 :: some (.ref x) :: r) st S post) : EV G l K d bc bs pc (o0 :: o1 :: o2 :: o3 :: o4 :: r) (.ref x :: st) S post := by
  subst hq
  intro p e R s m args below meth c Q F Rt hf hlc H locs cells slots LS hc hs hR hS hL
  exact lv_astore F.1 F.2.1 hd hL hn rfl (fun LS1 h => k p e R s m args below meth c Q F Rt hf hlc H locs cells slots LS1 hc hs hR hS (th_L.set (i := 4) (v := .ref x) h1 h))
theorem ev_astoreN4 {o0 o1 o2 o3 : Option Value} {o4 : Option Value} {r : List (Option Value)} (hd : decode K.1 pc = .ok (.astore 4, 2)) (hq : pc + 2 = q) (hn : 4 < K.2.2.1) (h1 : th_c1 (o0 :: o1 :: o2 :: o3 :: o4 :: r) = true) (k : EV G l K d bc bs q (o0 :: o1 :: o2 :: o3 :: some (.null) :: r) st S post) : EV G l K d bc bs pc (o0 :: o1 :: o2 :: o3 :: o4 :: r) (.null :: st) S post := by
  subst hq
  intro p e R s m args below meth c Q F Rt hf hlc H locs cells slots LS hc hs hR hS hL
  exact lv_astoreN F.1 F.2.1 hd hL hn rfl (fun LS1 h => k p e R s m args below meth c Q F Rt hf hlc H locs cells slots LS1 hc hs hR hS (th_L.set (i := 4) (v := .null) h1 h))
theorem ev_iinc4 {o0 o1 o2 o3 : Option Value} {x v : Int32} {n : Int} {r : List (Option Value)} (hd : decode K.1 pc = .ok (.iinc 4 n, 3)) (hq : pc + 3 = q) (hn : 4 < K.2.2.1) (h1 : th_c1 (o0 :: o1 :: o2 :: o3 :: some (.int x) :: r) = true) (hv : x + Int32.ofInt n = v) (k : EV G l K d bc bs q (o0 :: o1 :: o2 :: o3 :: some (.int v) :: r) st S post) : EV G l K d bc bs pc (o0 :: o1 :: o2 :: o3 :: some (.int x) :: r) st S post := by
  subst hq
  intro p e R s m args below meth c Q F Rt hf hlc H locs cells slots LS hc hs hR hS hL
  obtain ⟨kk, hkk⟩ := List.getElem?_of_mem ((th_l_mem (G := G) (o0 :: o1 :: o2 :: o3 :: some (.int x) :: r) 0 4 (.int x)).mpr ⟨4, .int x, rfl, by omega, rfl⟩)
  exact lv_iinc F.1 F.2.1 hd hL hkk hv hn rfl (fun LS1 h => k p e R s m args below meth c Q F Rt hf hlc H locs cells slots LS1 hc hs hR hS (th_L.set (i := 4) (v := .int v) h1 h))
theorem ev_iload5 {o0 o1 o2 o3 o4 : Option Value} {x : Int32} {r : List (Option Value)} (hd : decode K.1 pc = .ok (.iload 5, 2)) (hq : pc + 2 = q) (k : EV G l K d bc bs q (o0 :: o1 :: o2 :: o3 :: o4 :: some (.int x) :: r) (.int x :: st) S post) : EV G l K d bc bs pc (o0 :: o1 :: o2 :: o3 :: o4 :: some (.int x) :: r) st S post := by
  subst hq
  intro p e R s m args below meth c Q F Rt hf hlc H locs cells slots LS hc hs hR hS hL
  exact lv_iload F.1 F.2.1 hd (hL.at (i := 5) rfl) (k p e R s m args below meth c Q F Rt hf hlc H locs cells slots LS hc hs hR hS hL)
theorem ev_lload5 {o0 o1 o2 o3 o4 : Option Value} {x : Int64} {r : List (Option Value)} (hd : decode K.1 pc = .ok (.lload 5, 2)) (hq : pc + 2 = q) (k : EV G l K d bc bs q (o0 :: o1 :: o2 :: o3 :: o4 :: some (.long x) :: r) (.long x :: st) S post) : EV G l K d bc bs pc (o0 :: o1 :: o2 :: o3 :: o4 :: some (.long x) :: r) st S post := by
  subst hq
  intro p e R s m args below meth c Q F Rt hf hlc H locs cells slots LS hc hs hR hS hL
  exact lv_lload F.1 F.2.1 hd (hL.at (i := 5) rfl) (k p e R s m args below meth c Q F Rt hf hlc H locs cells slots LS hc hs hR hS hL)
theorem ev_aload5 {o0 o1 o2 o3 o4 : Option Value} {x : Nat} {r : List (Option Value)} (hd : decode K.1 pc = .ok (.aload 5, 2)) (hq : pc + 2 = q) (k : EV G l K d bc bs q (o0 :: o1 :: o2 :: o3 :: o4 :: some (.ref x) :: r) (.ref x :: st) S post) : EV G l K d bc bs pc (o0 :: o1 :: o2 :: o3 :: o4 :: some (.ref x) :: r) st S post := by
  subst hq
  intro p e R s m args below meth c Q F Rt hf hlc H locs cells slots LS hc hs hR hS hL
  exact lv_aload F.1 F.2.1 hd (hL.at (i := 5) rfl) (k p e R s m args below meth c Q F Rt hf hlc H locs cells slots LS hc hs hR hS hL)
theorem ev_aloadN5 {o0 o1 o2 o3 o4 : Option Value} {r : List (Option Value)} (hd : decode K.1 pc = .ok (.aload 5, 2)) (hq : pc + 2 = q) (k : EV G l K d bc bs q (o0 :: o1 :: o2 :: o3 :: o4 :: some (.null) :: r) (.null :: st) S post) : EV G l K d bc bs pc (o0 :: o1 :: o2 :: o3 :: o4 :: some (.null) :: r) st S post := by
  subst hq
  intro p e R s m args below meth c Q F Rt hf hlc H locs cells slots LS hc hs hR hS hL
  exact lv_aloadN F.1 F.2.1 hd (hL.at (i := 5) rfl) (k p e R s m args below meth c Q F Rt hf hlc H locs cells slots LS hc hs hR hS hL)
theorem ev_istore5 {o0 o1 o2 o3 o4 : Option Value} {o5 : Option Value} {x : Int32} {r : List (Option Value)} (hd : decode K.1 pc = .ok (.istore 5, 2)) (hq : pc + 2 = q) (hn : 5 < K.2.2.1) (h1 : th_c1 (o0 :: o1 :: o2 :: o3 :: o4 :: o5 :: r) = true) (k : EV G l K d bc bs q (o0 :: o1 :: o2 :: o3 :: o4 :: some (.int x) :: r) st S post) : EV G l K d bc bs pc (o0 :: o1 :: o2 :: o3 :: o4 :: o5 :: r) (.int x :: st) S post := by
  subst hq
  intro p e R s m args below meth c Q F Rt hf hlc H locs cells slots LS hc hs hR hS hL
  exact lv_istore F.1 F.2.1 hd hL hn rfl (fun LS1 h => k p e R s m args below meth c Q F Rt hf hlc H locs cells slots LS1 hc hs hR hS (th_L.set (i := 5) (v := .int x) h1 h))
theorem ev_astore5 {o0 o1 o2 o3 o4 : Option Value} {o5 : Option Value} {x : Nat} {r : List (Option Value)} (hd : decode K.1 pc = .ok (.astore 5, 2)) (hq : pc + 2 = q) (hn : 5 < K.2.2.1) (h1 : th_c1 (o0 :: o1 :: o2 :: o3 :: o4 :: o5 :: r) = true) (k : EV G l K d bc bs q (o0 :: o1 :: o2 :: o3 :: o4 :: some (.ref x) :: r) st S post) : EV G l K d bc bs pc (o0 :: o1 :: o2 :: o3 :: o4 :: o5 :: r) (.ref x :: st) S post := by
  subst hq
  intro p e R s m args below meth c Q F Rt hf hlc H locs cells slots LS hc hs hR hS hL
  exact lv_astore F.1 F.2.1 hd hL hn rfl (fun LS1 h => k p e R s m args below meth c Q F Rt hf hlc H locs cells slots LS1 hc hs hR hS (th_L.set (i := 5) (v := .ref x) h1 h))
theorem ev_astoreN5 {o0 o1 o2 o3 o4 : Option Value} {o5 : Option Value} {r : List (Option Value)} (hd : decode K.1 pc = .ok (.astore 5, 2)) (hq : pc + 2 = q) (hn : 5 < K.2.2.1) (h1 : th_c1 (o0 :: o1 :: o2 :: o3 :: o4 :: o5 :: r) = true) (k : EV G l K d bc bs q (o0 :: o1 :: o2 :: o3 :: o4 :: some (.null) :: r) st S post) : EV G l K d bc bs pc (o0 :: o1 :: o2 :: o3 :: o4 :: o5 :: r) (.null :: st) S post := by
  subst hq
  intro p e R s m args below meth c Q F Rt hf hlc H locs cells slots LS hc hs hR hS hL
  exact lv_astoreN F.1 F.2.1 hd hL hn rfl (fun LS1 h => k p e R s m args below meth c Q F Rt hf hlc H locs cells slots LS1 hc hs hR hS (th_L.set (i := 5) (v := .null) h1 h))
theorem ev_iinc5 {o0 o1 o2 o3 o4 : Option Value} {x v : Int32} {n : Int} {r : List (Option Value)} (hd : decode K.1 pc = .ok (.iinc 5 n, 3)) (hq : pc + 3 = q) (hn : 5 < K.2.2.1) (h1 : th_c1 (o0 :: o1 :: o2 :: o3 :: o4 :: some (.int x) :: r) = true) (hv : x + Int32.ofInt n = v) (k : EV G l K d bc bs q (o0 :: o1 :: o2 :: o3 :: o4 :: some (.int v) :: r) st S post) : EV G l K d bc bs pc (o0 :: o1 :: o2 :: o3 :: o4 :: some (.int x) :: r) st S post := by
  subst hq
  intro p e R s m args below meth c Q F Rt hf hlc H locs cells slots LS hc hs hR hS hL
  obtain ⟨kk, hkk⟩ := List.getElem?_of_mem ((th_l_mem (G := G) (o0 :: o1 :: o2 :: o3 :: o4 :: some (.int x) :: r) 0 5 (.int x)).mpr ⟨5, .int x, rfl, by omega, rfl⟩)
  exact lv_iinc F.1 F.2.1 hd hL hkk hv hn rfl (fun LS1 h => k p e R s m args below meth c Q F Rt hf hlc H locs cells slots LS1 hc hs hR hS (th_L.set (i := 5) (v := .int v) h1 h))
theorem ev_iload6 {o0 o1 o2 o3 o4 o5 : Option Value} {x : Int32} {r : List (Option Value)} (hd : decode K.1 pc = .ok (.iload 6, 2)) (hq : pc + 2 = q) (k : EV G l K d bc bs q (o0 :: o1 :: o2 :: o3 :: o4 :: o5 :: some (.int x) :: r) (.int x :: st) S post) : EV G l K d bc bs pc (o0 :: o1 :: o2 :: o3 :: o4 :: o5 :: some (.int x) :: r) st S post := by
  subst hq
  intro p e R s m args below meth c Q F Rt hf hlc H locs cells slots LS hc hs hR hS hL
  exact lv_iload F.1 F.2.1 hd (hL.at (i := 6) rfl) (k p e R s m args below meth c Q F Rt hf hlc H locs cells slots LS hc hs hR hS hL)
theorem ev_lload6 {o0 o1 o2 o3 o4 o5 : Option Value} {x : Int64} {r : List (Option Value)} (hd : decode K.1 pc = .ok (.lload 6, 2)) (hq : pc + 2 = q) (k : EV G l K d bc bs q (o0 :: o1 :: o2 :: o3 :: o4 :: o5 :: some (.long x) :: r) (.long x :: st) S post) : EV G l K d bc bs pc (o0 :: o1 :: o2 :: o3 :: o4 :: o5 :: some (.long x) :: r) st S post := by
  subst hq
  intro p e R s m args below meth c Q F Rt hf hlc H locs cells slots LS hc hs hR hS hL
  exact lv_lload F.1 F.2.1 hd (hL.at (i := 6) rfl) (k p e R s m args below meth c Q F Rt hf hlc H locs cells slots LS hc hs hR hS hL)
theorem ev_aload6 {o0 o1 o2 o3 o4 o5 : Option Value} {x : Nat} {r : List (Option Value)} (hd : decode K.1 pc = .ok (.aload 6, 2)) (hq : pc + 2 = q) (k : EV G l K d bc bs q (o0 :: o1 :: o2 :: o3 :: o4 :: o5 :: some (.ref x) :: r) (.ref x :: st) S post) : EV G l K d bc bs pc (o0 :: o1 :: o2 :: o3 :: o4 :: o5 :: some (.ref x) :: r) st S post := by
  subst hq
  intro p e R s m args below meth c Q F Rt hf hlc H locs cells slots LS hc hs hR hS hL
  exact lv_aload F.1 F.2.1 hd (hL.at (i := 6) rfl) (k p e R s m args below meth c Q F Rt hf hlc H locs cells slots LS hc hs hR hS hL)
theorem ev_aloadN6 {o0 o1 o2 o3 o4 o5 : Option Value} {r : List (Option Value)} (hd : decode K.1 pc = .ok (.aload 6, 2)) (hq : pc + 2 = q) (k : EV G l K d bc bs q (o0 :: o1 :: o2 :: o3 :: o4 :: o5 :: some (.null) :: r) (.null :: st) S post) : EV G l K d bc bs pc (o0 :: o1 :: o2 :: o3 :: o4 :: o5 :: some (.null) :: r) st S post := by
  subst hq
  intro p e R s m args below meth c Q F Rt hf hlc H locs cells slots LS hc hs hR hS hL
  exact lv_aloadN F.1 F.2.1 hd (hL.at (i := 6) rfl) (k p e R s m args below meth c Q F Rt hf hlc H locs cells slots LS hc hs hR hS hL)
theorem ev_istore6 {o0 o1 o2 o3 o4 o5 : Option Value} {o6 : Option Value} {x : Int32} {r : List (Option Value)} (hd : decode K.1 pc = .ok (.istore 6, 2)) (hq : pc + 2 = q) (hn : 6 < K.2.2.1) (h1 : th_c1 (o0 :: o1 :: o2 :: o3 :: o4 :: o5 :: o6 :: r) = true) (k : EV G l K d bc bs q (o0 :: o1 :: o2 :: o3 :: o4 :: o5 :: some (.int x) :: r) st S post) : EV G l K d bc bs pc (o0 :: o1 :: o2 :: o3 :: o4 :: o5 :: o6 :: r) (.int x :: st) S post := by
  subst hq
  intro p e R s m args below meth c Q F Rt hf hlc H locs cells slots LS hc hs hR hS hL
  exact lv_istore F.1 F.2.1 hd hL hn rfl (fun LS1 h => k p e R s m args below meth c Q F Rt hf hlc H locs cells slots LS1 hc hs hR hS (th_L.set (i := 6) (v := .int x) h1 h))
theorem ev_astore6 {o0 o1 o2 o3 o4 o5 : Option Value} {o6 : Option Value} {x : Nat} {r : List (Option Value)} (hd : decode K.1 pc = .ok (.astore 6, 2)) (hq : pc + 2 = q) (hn : 6 < K.2.2.1) (h1 : th_c1 (o0 :: o1 :: o2 :: o3 :: o4 :: o5 :: o6 :: r) = true) (k : EV G l K d bc bs q (o0 :: o1 :: o2 :: o3 :: o4 :: o5 :: some (.ref x) :: r) st S post) : EV G l K d bc bs pc (o0 :: o1 :: o2 :: o3 :: o4 :: o5 :: o6 :: r) (.ref x :: st) S post := by
  subst hq
  intro p e R s m args below meth c Q F Rt hf hlc H locs cells slots LS hc hs hR hS hL
  exact lv_astore F.1 F.2.1 hd hL hn rfl (fun LS1 h => k p e R s m args below meth c Q F Rt hf hlc H locs cells slots LS1 hc hs hR hS (th_L.set (i := 6) (v := .ref x) h1 h))
theorem ev_astoreN6 {o0 o1 o2 o3 o4 o5 : Option Value} {o6 : Option Value} {r : List (Option Value)} (hd : decode K.1 pc = .ok (.astore 6, 2)) (hq : pc + 2 = q) (hn : 6 < K.2.2.1) (h1 : th_c1 (o0 :: o1 :: o2 :: o3 :: o4 :: o5 :: o6 :: r) = true) (k : EV G l K d bc bs q (o0 :: o1 :: o2 :: o3 :: o4 :: o5 :: some (.null) :: r) st S post) : EV G l K d bc bs pc (o0 :: o1 :: o2 :: o3 :: o4 :: o5 :: o6 :: r) (.null :: st) S post := by
  subst hq
  intro p e R s m args below meth c Q F Rt hf hlc H locs cells slots LS hc hs hR hS hL
  exact lv_astoreN F.1 F.2.1 hd hL hn rfl (fun LS1 h => k p e R s m args below meth c Q F Rt hf hlc H locs cells slots LS1 hc hs hR hS (th_L.set (i := 6) (v := .null) h1 h))
theorem ev_iinc6 {o0 o1 o2 o3 o4 o5 : Option Value} {x v : Int32} {n : Int} {r : List (Option Value)} (hd : decode K.1 pc = .ok (.iinc 6 n, 3)) (hq : pc + 3 = q) (hn : 6 < K.2.2.1) (h1 : th_c1 (o0 :: o1 :: o2 :: o3 :: o4 :: o5 :: some (.int x) :: r) = true) (hv : x + Int32.ofInt n = v) (k : EV G l K d bc bs q (o0 :: o1 :: o2 :: o3 :: o4 :: o5 :: some (.int v) :: r) st S post) : EV G l K d bc bs pc (o0 :: o1 :: o2 :: o3 :: o4 :: o5 :: some (.int x) :: r) st S post := by
  subst hq
  intro p e R s m args below meth c Q F Rt hf hlc H locs cells slots LS hc hs hR hS hL
  obtain ⟨kk, hkk⟩ := List.getElem?_of_mem ((th_l_mem (G := G) (o0 :: o1 :: o2 :: o3 :: o4 :: o5 :: some (.int x) :: r) 0 6 (.int x)).mpr ⟨6, .int x, rfl, by omega, rfl⟩)
  exact lv_iinc F.1 F.2.1 hd hL hkk hv hn rfl (fun LS1 h => k p e R s m args below meth c Q F Rt hf hlc H locs cells slots LS1 hc hs hR hS (th_L.set (i := 6) (v := .int v) h1 h))
theorem ev_iload7 {o0 o1 o2 o3 o4 o5 o6 : Option Value} {x : Int32} {r : List (Option Value)} (hd : decode K.1 pc = .ok (.iload 7, 2)) (hq : pc + 2 = q) (k : EV G l K d bc bs q (o0 :: o1 :: o2 :: o3 :: o4 :: o5 :: o6 :: some (.int x) :: r) (.int x :: st) S post) : EV G l K d bc bs pc (o0 :: o1 :: o2 :: o3 :: o4 :: o5 :: o6 :: some (.int x) :: r) st S post := by
  subst hq
  intro p e R s m args below meth c Q F Rt hf hlc H locs cells slots LS hc hs hR hS hL
  exact lv_iload F.1 F.2.1 hd (hL.at (i := 7) rfl) (k p e R s m args below meth c Q F Rt hf hlc H locs cells slots LS hc hs hR hS hL)
theorem ev_lload7 {o0 o1 o2 o3 o4 o5 o6 : Option Value} {x : Int64} {r : List (Option Value)} (hd : decode K.1 pc = .ok (.lload 7, 2)) (hq : pc + 2 = q) (k : EV G l K d bc bs q (o0 :: o1 :: o2 :: o3 :: o4 :: o5 :: o6 :: some (.long x) :: r) (.long x :: st) S post) : EV G l K d bc bs pc (o0 :: o1 :: o2 :: o3 :: o4 :: o5 :: o6 :: some (.long x) :: r) st S post := by
  subst hq
  intro p e R s m args below meth c Q F Rt hf hlc H locs cells slots LS hc hs hR hS hL
  exact lv_lload F.1 F.2.1 hd (hL.at (i := 7) rfl) (k p e R s m args below meth c Q F Rt hf hlc H locs cells slots LS hc hs hR hS hL)
theorem ev_aload7 {o0 o1 o2 o3 o4 o5 o6 : Option Value} {x : Nat} {r : List (Option Value)} (hd : decode K.1 pc = .ok (.aload 7, 2)) (hq : pc + 2 = q) (k : EV G l K d bc bs q (o0 :: o1 :: o2 :: o3 :: o4 :: o5 :: o6 :: some (.ref x) :: r) (.ref x :: st) S post) : EV G l K d bc bs pc (o0 :: o1 :: o2 :: o3 :: o4 :: o5 :: o6 :: some (.ref x) :: r) st S post := by
  subst hq
  intro p e R s m args below meth c Q F Rt hf hlc H locs cells slots LS hc hs hR hS hL
  exact lv_aload F.1 F.2.1 hd (hL.at (i := 7) rfl) (k p e R s m args below meth c Q F Rt hf hlc H locs cells slots LS hc hs hR hS hL)
theorem ev_aloadN7 {o0 o1 o2 o3 o4 o5 o6 : Option Value} {r : List (Option Value)} (hd : decode K.1 pc = .ok (.aload 7, 2)) (hq : pc + 2 = q) (k : EV G l K d bc bs q (o0 :: o1 :: o2 :: o3 :: o4 :: o5 :: o6 :: some (.null) :: r) (.null :: st) S post) : EV G l K d bc bs pc (o0 :: o1 :: o2 :: o3 :: o4 :: o5 :: o6 :: some (.null) :: r) st S post := by
  subst hq
  intro p e R s m args below meth c Q F Rt hf hlc H locs cells slots LS hc hs hR hS hL
  exact lv_aloadN F.1 F.2.1 hd (hL.at (i := 7) rfl) (k p e R s m args below meth c Q F Rt hf hlc H locs cells slots LS hc hs hR hS hL)
theorem ev_istore7 {o0 o1 o2 o3 o4 o5 o6 : Option Value} {o7 : Option Value} {x : Int32} {r : List (Option Value)} (hd : decode K.1 pc = .ok (.istore 7, 2)) (hq : pc + 2 = q) (hn : 7 < K.2.2.1) (h1 : th_c1 (o0 :: o1 :: o2 :: o3 :: o4 :: o5 :: o6 :: o7 :: r) = true) (k : EV G l K d bc bs q (o0 :: o1 :: o2 :: o3 :: o4 :: o5 :: o6 :: some (.int x) :: r) st S post) : EV G l K d bc bs pc (o0 :: o1 :: o2 :: o3 :: o4 :: o5 :: o6 :: o7 :: r) (.int x :: st) S post := by
  subst hq
  intro p e R s m args below meth c Q F Rt hf hlc H locs cells slots LS hc hs hR hS hL
  exact lv_istore F.1 F.2.1 hd hL hn rfl (fun LS1 h => k p e R s m args below meth c Q F Rt hf hlc H locs cells slots LS1 hc hs hR hS (th_L.set (i := 7) (v := .int x) h1 h))
theorem ev_astore7 {o0 o1 o2 o3 o4 o5 o6 : Option Value} {o7 : Option Value} {x : Nat} {r : List (Option Value)} (hd : decode K.1 pc = .ok (.astore 7, 2)) (hq : pc + 2 = q) (hn : 7 < K.2.2.1) (h1 : th_c1 (o0 :: o1 :: o2 :: o3 :: o4 :: o5 :: o6 :: o7 :: r) = true) (k : EV G l K d bc bs q (o0 :: o1 :: o2 :: o3 :: o4 :: o5 :: o6 :: some (.ref x) :: r) st S post) : EV G l K d bc bs pc (o0 :: o1 :: o2 :: o3 :: o4 :: o5 :: o6 :: o7 :: r) (.ref x :: st) S post := by
  subst hq
  intro p e R s m args below meth c Q F Rt hf hlc H locs cells slots LS hc hs hR hS hL
  exact lv_astore F.1 F.2.1 hd hL hn rfl (fun LS1 h => k p e R s m args below meth c Q F Rt hf hlc H locs cells slots LS1 hc hs hR hS (th_L.set (i := 7) (v := .ref x) h1 h))
theorem ev_astoreN7 {o0 o1 o2 o3 o4 o5 o6 : Option Value} {o7 : Option Value} {r : List (Option Value)} (hd : decode K.1 pc = .ok (.astore 7, 2)) (hq : pc + 2 = q) (hn : 7 < K.2.2.1) (h1 : th_c1 (o0 :: o1 :: o2 :: o3 :: o4 :: o5 :: o6 :: o7 :: r) = true) (k : EV G l K d bc bs q (o0 :: o1 :: o2 :: o3 :: o4 :: o5 :: o6 :: some (.null) :: r) st S post) : EV G l K d bc bs pc (o0 :: o1 :: o2 :: o3 :: o4 :: o5 :: o6 :: o7 :: r) (.null :: st) S post := by
  subst hq
  intro p e R s m args below meth c Q F Rt hf hlc H locs cells slots LS hc hs hR hS hL
  exact lv_astoreN F.1 F.2.1 hd hL hn rfl (fun LS1 h => k p e R s m args below meth c Q F Rt hf hlc H locs cells slots LS1 hc hs hR hS (th_L.set (i := 7) (v := .null) h1 h))
theorem ev_iinc7 {o0 o1 o2 o3 o4 o5 o6 : Option Value} {x v : Int32} {n : Int} {r : List (Option Value)} (hd : decode K.1 pc = .ok (.iinc 7 n, 3)) (hq : pc + 3 = q) (hn : 7 < K.2.2.1) (h1 : th_c1 (o0 :: o1 :: o2 :: o3 :: o4 :: o5 :: o6 :: some (.int x) :: r) = true) (hv : x + Int32.ofInt n = v) (k : EV G l K d bc bs q (o0 :: o1 :: o2 :: o3 :: o4 :: o5 :: o6 :: some (.int v) :: r) st S post) : EV G l K d bc bs pc (o0 :: o1 :: o2 :: o3 :: o4 :: o5 :: o6 :: some (.int x) :: r) st S post := by
  subst hq
  intro p e R s m args below meth c Q F Rt hf hlc H locs cells slots LS hc hs hR hS hL
  obtain ⟨kk, hkk⟩ := List.getElem?_of_mem ((th_l_mem (G := G) (o0 :: o1 :: o2 :: o3 :: o4 :: o5 :: o6 :: some (.int x) :: r) 0 7 (.int x)).mpr ⟨7, .int x, rfl, by omega, rfl⟩)
  exact lv_iinc F.1 F.2.1 hd hL hkk hv hn rfl (fun LS1 h => k p e R s m args below meth c Q F Rt hf hlc H locs cells slots LS1 hc hs hR hS (th_L.set (i := 7) (v := .int v) h1 h))
theorem ev_iload8 {o0 o1 o2 o3 o4 o5 o6 o7 : Option Value} {x : Int32} {r : List (Option Value)} (hd : decode K.1 pc = .ok (.iload 8, 2)) (hq : pc + 2 = q) (k : EV G l K d bc bs q (o0 :: o1 :: o2 :: o3 :: o4 :: o5 :: o6 :: o7 :: some (.int x) :: r) (.int x :: st) S post) : EV G l K d bc bs pc (o0 :: o1 :: o2 :: o3 :: o4 :: o5 :: o6 :: o7 :: some (.int x) :: r) st S post := by
  subst hq
  intro p e R s m args below meth c Q F Rt hf hlc H locs cells slots LS hc hs hR hS hL
  exact lv_iload F.1 F.2.1 hd (hL.at (i := 8) rfl) (k p e R s m args below meth c Q F Rt hf hlc H locs cells slots LS hc hs hR hS hL)
theorem ev_lload8 {o0 o1 o2 o3 o4 o5 o6 o7 : Option Value} {x : Int64} {r : List (Option Value)} (hd : decode K.1 pc = .ok (.lload 8, 2)) (hq : pc + 2 = q) (k : EV G l K d bc bs q (o0 :: o1 :: o2 :: o3 :: o4 :: o5 :: o6 :: o7 :: some (.long x) :: r) (.long x :: st) S post) : EV G l K d bc bs pc (o0 :: o1 :: o2 :: o3 :: o4 :: o5 :: o6 :: o7 :: some (.long x) :: r) st S post := by
  subst hq
  intro p e R s m args below meth c Q F Rt hf hlc H locs cells slots LS hc hs hR hS hL
  exact lv_lload F.1 F.2.1 hd (hL.at (i := 8) rfl) (k p e R s m args below meth c Q F Rt hf hlc H locs cells slots LS hc hs hR hS hL)
theorem ev_aload8 {o0 o1 o2 o3 o4 o5 o6 o7 : Option Value} {x : Nat} {r : List (Option Value)} (hd : decode K.1 pc = .ok (.aload 8, 2)) (hq : pc + 2 = q) (k : EV G l K d bc bs q (o0 :: o1 :: o2 :: o3 :: o4 :: o5 :: o6 :: o7 :: some (.ref x) :: r) (.ref x :: st) S post) : EV G l K d bc bs pc (o0 :: o1 :: o2 :: o3 :: o4 :: o5 :: o6 :: o7 :: some (.ref x) :: r) st S post := by
  subst hq
  intro p e R s m args below meth c Q F Rt hf hlc H locs cells slots LS hc hs hR hS hL
  exact lv_aload F.1 F.2.1 hd (hL.at (i := 8) rfl) (k p e R s m args below meth c Q F Rt hf hlc H locs cells slots LS hc hs hR hS hL)
theorem ev_aloadN8 {o0 o1 o2 o3 o4 o5 o6 o7 : Option Value} {r : List (Option Value)} (hd : decode K.1 pc = .ok (.aload 8, 2)) (hq : pc + 2 = q) (k : EV G l K d bc bs q (o0 :: o1 :: o2 :: o3 :: o4 :: o5 :: o6 :: o7 :: some (.null) :: r) (.null :: st) S post) : EV G l K d bc bs pc (o0 :: o1 :: o2 :: o3 :: o4 :: o5 :: o6 :: o7 :: some (.null) :: r) st S post := by
  subst hq
  intro p e R s m args below meth c Q F Rt hf hlc H locs cells slots LS hc hs hR hS hL
  exact lv_aloadN F.1 F.2.1 hd (hL.at (i := 8) rfl) (k p e R s m args below meth c Q F Rt hf hlc H locs cells slots LS hc hs hR hS hL)
theorem ev_istore8 {o0 o1 o2 o3 o4 o5 o6 o7 : Option Value} {o8 : Option Value} {x : Int32} {r : List (Option Value)} (hd : decode K.1 pc = .ok (.istore 8, 2)) (hq : pc + 2 = q) (hn : 8 < K.2.2.1) (h1 : th_c1 (o0 :: o1 :: o2 :: o3 :: o4 :: o5 :: o6 :: o7 :: o8 :: r) = true) (k : EV G l K d bc bs q (o0 :: o1 :: o2 :: o3 :: o4 :: o5 :: o6 :: o7 :: some (.int x) :: r) st S post) : EV G l K d bc bs pc (o0 :: o1 :: o2 :: o3 :: o4 :: o5 :: o6 :: o7 :: o8 :: r) (.int x :: st) S post := by
  subst hq
  intro p e R s m args below meth c Q F Rt hf hlc H locs cells slots LS hc hs hR hS hL
  exact lv_istore F.1 F.2.1 hd hL hn rfl (fun LS1 h => k p e R s m args below meth c Q F Rt hf hlc H locs cells slots LS1 hc hs hR hS (th_L.set (i := 8) (v := .int x) h1 h))
theorem ev_astore8 {o0 o1 o2 o3 o4 o5 o6 o7 : Option Value} {o8 : Option Value} {x : Nat} {r : List (Option Value)} (hd : decode K.1 pc = .ok (.astore 8, 2)) (hq : pc + 2 = q) (hn : 8 < K.2.2.1) (h1 : th_c1 (o0 :: o1 :: o2 :: o3 :: o4 :: o5 :: o6 :: o7 :: o8 :: r) = true) (k : EV G l K d bc bs q (o0 :: o1 :: o2 :: o3 :: o4 :: o5 :: o6 :: o7 :: some (.ref x) :: r) st S post) : EV G l K d bc bs pc (o0 :: o1 :: o2 :: o3 :: o4 :: o5 :: o6 :: o7 :: o8 :: r) (.ref x :: st) S post := by
  subst hq
  intro p e R s m args below meth c Q F Rt hf hlc H locs cells slots LS hc hs hR hS hL
  exact lv_astore F.1 F.2.1 hd hL hn rfl (fun LS1 h => k p e R s m args below meth c Q F Rt hf hlc H locs cells slots LS1 hc hs hR hS (th_L.set (i := 8) (v := .ref x) h1 h))
theorem ev_astoreN8 {o0 o1 o2 o3 o4 o5 o6 o7 : Option Value} {o8 : Option Value} {r : List (Option Value)} (hd : decode K.1 pc = .ok (.astore 8, 2)) (hq : pc + 2 = q) (hn : 8 < K.2.2.1) (h1 : th_c1 (o0 :: o1 :: o2 :: o3 :: o4 :: o5 :: o6 :: o7 :: o8 :: r) = true) (k : EV G l K d bc bs q (o0 :: o1 :: o2 :: o3 :: o4 :: o5 :: o6 :: o7 :: some (.null) :: r) st S post) : EV G l K d bc bs pc (o0 :: o1 :: o2 :: o3 :: o4 :: o5 :: o6 :: o7 :: o8 :: r) (.null :: st) S post := by
  subst hq
  intro p e R s m args below meth c Q F Rt hf hlc H locs cells slots LS hc hs hR hS hL
  exact lv_astoreN F.1 F.2.1 hd hL hn rfl (fun LS1 h => k p e R s m args below meth c Q F Rt hf hlc H locs cells slots LS1 hc hs hR hS (th_L.set (i := 8) (v := .null) h1 h))
theorem ev_iinc8 {o0 o1 o2 o3 o4 o5 o6 o7 : Option Value} {x v : Int32} {n : Int} {r : List (Option Value)} (hd : decode K.1 pc = .ok (.iinc 8 n, 3)) (hq : pc + 3 = q) (hn : 8 < K.2.2.1) (h1 : th_c1 (o0 :: o1 :: o2 :: o3 :: o4 :: o5 :: o6 :: o7 :: some (.int x) :: r) = true) (hv : x + Int32.ofInt n = v) (k : EV G l K d bc bs q (o0 :: o1 :: o2 :: o3 :: o4 :: o5 :: o6 :: o7 :: some (.int v) :: r) st S post) : EV G l K d bc bs pc (o0 :: o1 :: o2 :: o3 :: o4 :: o5 :: o6 :: o7 :: some (.int x) :: r) st S post := by
  subst hq
  intro p e R s m args below meth c Q F Rt hf hlc H locs cells slots LS hc hs hR hS hL
  obtain ⟨kk, hkk⟩ := List.getElem?_of_mem ((th_l_mem (G := G) (o0 :: o1 :: o2 :: o3 :: o4 :: o5 :: o6 :: o7 :: some (.int x) :: r) 0 8 (.int x)).mpr ⟨8, .int x, rfl, by omega, rfl⟩)
  exact lv_iinc F.1 F.2.1 hd hL hkk hv hn rfl (fun LS1 h => k p e R s m args below meth c Q F Rt hf hlc H locs cells slots LS1 hc hs hR hS (th_L.set (i := 8) (v := .int v) h1 h))
theorem ev_iload9 {o0 o1 o2 o3 o4 o5 o6 o7 o8 : Option Value} {x : Int32} {r : List (Option Value)} (hd : decode K.1 pc = .ok (.iload 9, 2)) (hq : pc + 2 = q) (k : EV G l K d bc bs q (o0 :: o1 :: o2 :: o3 :: o4 :: o5 :: o6 :: o7 :: o8 :: some (.int x) :: r) (.int x :: st) S post) : EV G l K d bc bs pc (o0 :: o1 :: o2 :: o3 :: o4 :: o5 :: o6 :: o7 :: o8 :: some (.int x) :: r) st S post := by
  subst hq
  intro p e R s m args below meth c Q F Rt hf hlc H locs cells slots LS hc hs hR hS hL
  exact lv_iload F.1 F.2.1 hd (hL.at (i := 9) rfl) (k p e R s m args below meth c Q F Rt hf hlc H locs cells slots LS hc hs hR hS hL)
theorem ev_lload9 {o0 o1 o2 o3 o4 o5 o6 o7 o8 : Option Value} {x : Int64} {r : List (Option Value)} (hd : decode K.1 pc = .ok (.lload 9, 2)) (hq : pc + 2 = q) (k : EV G l K d bc bs q (o0 :: o1 :: o2 :: o3 :: o4 :: o5 :: o6 :: o7 :: o8 :: some (.long x) :: r) (.long x :: st) S post) : EV G l K d bc bs pc (o0 :: o1 :: o2 :: o3 :: o4 :: o5 :: o6 :: o7 :: o8 :: some (.long x) :: r) st S post := by
  subst hq
  intro p e R s m args below meth c Q F Rt hf hlc H locs cells slots LS hc hs hR hS hL
  exact lv_lload F.1 F.2.1 hd (hL.at (i := 9) rfl) (k p e R s m args below meth c Q F Rt hf hlc H locs cells slots LS hc hs hR hS hL)
theorem ev_aload9 {o0 o1 o2 o3 o4 o5 o6 o7 o8 : Option Value} {x : Nat} {r : List (Option Value)} (hd : decode K.1 pc = .ok (.aload 9, 2)) (hq : pc + 2 = q) (k : EV G l K d bc bs q (o0 :: o1 :: o2 :: o3 :: o4 :: o5 :: o6 :: o7 :: o8 :: some (.ref x) :: r) (.ref x :: st) S post) : EV G l K d bc bs pc (o0 :: o1 :: o2 :: o3 :: o4 :: o5 :: o6 :: o7 :: o8 :: some (.ref x) :: r) st S post := by
  subst hq
  intro p e R s m args below meth c Q F Rt hf hlc H locs cells slots LS hc hs hR hS hL
  exact lv_aload F.1 F.2.1 hd (hL.at (i := 9) rfl) (k p e R s m args below meth c Q F Rt hf hlc H locs cells slots LS hc hs hR hS hL)
theorem ev_aloadN9 {o0 o1 o2 o3 o4 o5 o6 o7 o8 : Option Value} {r : List (Option Value)} (hd : decode K.1 pc = .ok (.aload 9, 2)) (hq : pc + 2 = q) (k : EV G l K d bc bs q (o0 :: o1 :: o2 :: o3 :: o4 :: o5 :: o6 :: o7 :: o8 :: some (.null) :: r) (.null :: st) S post) : EV G l K d bc bs pc (o0 :: o1 :: o2 :: o3 :: o4 :: o5 :: o6 :: o7 :: o8 :: some (.null) :: r) st S post := by
  subst hq
  intro p e R s m args below meth c Q F Rt hf hlc H locs cells slots LS hc hs hR hS hL
  exact lv_aloadN F.1 F.2.1 hd (hL.at (i := 9) rfl) (k p e R s m args below meth c Q F Rt hf hlc H locs cells slots LS hc hs hR hS hL)
theorem ev_istore9 {o0 o1 o2 o3 o4 o5 o6 o7 o8 : Option Value} {o9 : Option Value} {x : Int32} {r : List (Option Value)} (hd : decode K.1 pc = .ok (.istore 9, 2)) (hq : pc + 2 = q) (hn : 9 < K.2.2.1) (h1 : th_c1 (o0 :: o1 :: o2 :: o3 :: o4 :: o5 :: o6 :: o7 :: o8 :: o9 :: r) = true) (k : EV G l K d bc bs q (o0 :: o1 :: o2 :: o3 :: o4 :: o5 :: o6 :: o7 :: o8 :: some (.int x) :: r) st S post) : EV G l K d bc bs pc (o0 :: o1 :: o2 :: o3 :: o4 :: o5 :: o6 :: o7 :: o8 :: o9 :: r) (.int x :: st) S post := by
  subst hq
  intro p e R s m args below meth c Q F Rt hf hlc H locs cells slots LS hc hs hR hS hL
  exact lv_istore F.1 F.2.1 hd hL hn rfl (fun LS1 h => k p e R s m args below meth c Q F Rt hf hlc H locs cells slots LS1 hc hs hR hS (th_L.set (i := 9) (v := .int x) h1 h))
theorem ev_astore9 {o0 o1 o2 o3 o4 o5 o6 o7 o8 : Option Value} {o9 : Option Value} {x : Nat} {r : List (Option Value)} (hd : decode K.1 pc = .ok (.astore 9, 2)) (hq : pc + 2 = q) (hn : 9 < K.2.2.1) (h1 : th_c1 (o0 :: o1 :: o2 :: o3 :: o4 :: o5 :: o6 :: o7 :: o8 :: o9 :: r) = true) (k : EV G l K d bc bs q (o0 :: o1 :: o2 :: o3 :: o4 :: o5 :: o6 :: o7 :: o8 :: some (.ref x) :: r) st S post) : EV G l K d bc bs pc (o0 :: o1 :: o2 :: o3 :: o4 :: o5 :: o6 :: o7 :: o8 :: o9 :: r) (.ref x :: st) S post := by
  subst hq
  intro p e R s m args below meth c Q F Rt hf hlc H locs cells slots LS hc hs hR hS hL
  exact lv_astore F.1 F.2.1 hd hL hn rfl (fun LS1 h => k p e R s m args below meth c Q F Rt hf hlc H locs cells slots LS1 hc hs hR hS (th_L.set (i := 9) (v := .ref x) h1 h))
theorem ev_astoreN9 {o0 o1 o2 o3 o4 o5 o6 o7 o8 : Option Value} {o9 : Option Value} {r : List (Option Value)} (hd : decode K.1 pc = .ok (.astore 9, 2)) (hq : pc + 2 = q) (hn : 9 < K.2.2.1) (h1 : th_c1 (o0 :: o1 :: o2 :: o3 :: o4 :: o5 :: o6 :: o7 :: o8 :: o9 :: r) = true) (k : EV G l K d bc bs q (o0 :: o1 :: o2 :: o3 :: o4 :: o5 :: o6 :: o7 :: o8 :: some (.null) :: r) st S post) : EV G l K d bc bs pc (o0 :: o1 :: o2 :: o3 :: o4 :: o5 :: o6 :: o7 :: o8 :: o9 :: r) (.null :: st) S post := by
  subst hq
  intro p e R s m args below meth c Q F Rt hf hlc H locs cells slots LS hc hs hR hS hL
  exact lv_astoreN F.1 F.2.1 hd hL hn rfl (fun LS1 h => k p e R s m args below meth c Q F Rt hf hlc H locs cells slots LS1 hc hs hR hS (th_L.set (i := 9) (v := .null) h1 h))
theorem ev_iinc9 {o0 o1 o2 o3 o4 o5 o6 o7 o8 : Option Value} {x v : Int32} {n : Int} {r : List (Option Value)} (hd : decode K.1 pc = .ok (.iinc 9 n, 3)) (hq : pc + 3 = q) (hn : 9 < K.2.2.1) (h1 : th_c1 (o0 :: o1 :: o2 :: o3 :: o4 :: o5 :: o6 :: o7 :: o8 :: some (.int x) :: r) = true) (hv : x + Int32.ofInt n = v) (k : EV G l K d bc bs q (o0 :: o1 :: o2 :: o3 :: o4 :: o5 :: o6 :: o7 :: o8 :: some (.int v) :: r) st S post) : EV G l K d bc bs pc (o0 :: o1 :: o2 :: o3 :: o4 :: o5 :: o6 :: o7 :: o8 :: some (.int x) :: r) st S post := by
  subst hq
  intro p e R s m args below meth c Q F Rt hf hlc H locs cells slots LS hc hs hR hS hL
  obtain ⟨kk, hkk⟩ := List.getElem?_of_mem ((th_l_mem (G := G) (o0 :: o1 :: o2 :: o3 :: o4 :: o5 :: o6 :: o7 :: o8 :: some (.int x) :: r) 0 9 (.int x)).mpr ⟨9, .int x, rfl, by omega, rfl⟩)
  exact lv_iinc F.1 F.2.1 hd hL hkk hv hn rfl (fun LS1 h => k p e R s m args below meth c Q F Rt hf hlc H locs cells slots LS1 hc hs hR hS (th_L.set (i := 9) (v := .int v) h1 h))
theorem ev_iload10 {o0 o1 o2 o3 o4 o5 o6 o7 o8 o9 : Option Value} {x : Int32} {r : List (Option Value)} (hd : decode K.1 pc = .ok (.iload 10, 2)) (hq : pc + 2 = q) (k : EV G l K d bc bs q (o0 :: o1 :: o2 :: o3 :: o4 :: o5 :: o6 :: o7 :: o8 :: o9 :: some (.int x) :: r) (.int x :: st) S post) : EV G l K d bc bs pc (o0 :: o1 :: o2 :: o3 :: o4 :: o5 :: o6 :: o7 :: o8 :: o9 :: some (.int x) :: r) st S post := by
  subst hq
  intro p e R s m args below meth c Q F Rt hf hlc H locs cells slots LS hc hs hR hS hL
  exact lv_iload F.1 F.2.1 hd (hL.at (i := 10) rfl) (k p e R s m args below meth c Q F Rt hf hlc H locs cells slots LS hc hs hR hS hL)
theorem ev_lload10 {o0 o1 o2 o3 o4 o5 o6 o7 o8 o9 : Option Value} {x : Int64} {r : List (Option Value)} (hd : decode K.1 pc = .ok (.lload 10, 2)) (hq : pc + 2 = q) (k : EV G l K d bc bs q (o0 :: o1 :: o2 :: o3 :: o4 :: o5 :: o6 :: o7 :: o8 :: o9 :: some (.long x) :: r) (.long x :: st) S post) : EV G l K d bc bs pc (o0 :: o1 :: o2 :: o3 :: o4 :: o5 :: o6 :: o7 :: o8 :: o9 :: some (.long x) :: r) st S post := by
  subst hq
  intro p e R s m args below meth c Q F Rt hf hlc H locs cells slots LS hc hs hR hS hL
  exact lv_lload F.1 F.2.1 hd (hL.at (i := 10) rfl) (k p e R s m args below meth c Q F Rt hf hlc H locs cells slots LS hc hs hR hS hL)
theorem ev_aload10 {o0 o1 o2 o3 o4 o5 o6 o7 o8 o9 : Option Value} {x : Nat} {r : List (Option Value)} (hd : decode K.1 pc = .ok (.aload 10, 2)) (hq : pc + 2 = q) (k : EV G l K d bc bs q (o0 :: o1 :: o2 :: o3 :: o4 :: o5 :: o6 :: o7 :: o8 :: o9 :: some (.ref x) :: r) (.ref x :: st) S post) : EV G l K d bc bs pc (o0 :: o1 :: o2 :: o3 :: o4 :: o5 :: o6 :: o7 :: o8 :: o9 :: some (.ref x) :: r) st S post := by
  subst hq
  intro p e R s m args below meth c Q F Rt hf hlc H locs cells slots LS hc hs hR hS hL
  exact lv_aload F.1 F.2.1 hd (hL.at (i := 10) rfl) (k p e R s m args below meth c Q F Rt hf hlc H locs cells slots LS hc hs hR hS hL)
theorem ev_aloadN10 {o0 o1 o2 o3 o4 o5 o6 o7 o8 o9 : Option Value} {r : List (Option Value)} (hd : decode K.1 pc = .ok (.aload 10, 2)) (hq : pc + 2 = q) (k : EV G l K d bc bs q (o0 :: o1 :: o2 :: o3 :: o4 :: o5 :: o6 :: o7 :: o8 :: o9 :: some (.null) :: r) (.null :: st) S post) : EV G l K d bc bs pc (o0 :: o1 :: o2 :: o3 :: o4 :: o5 :: o6 :: o7 :: o8 :: o9 :: some (.null) :: r) st S post := by
  subst hq
  intro p e R s m args below meth c Q F Rt hf hlc H locs cells slots LS hc hs hR hS hL
  exact lv_aloadN F.1 F.2.1 hd (hL.at (i := 10) rfl) (k p e R s m args below meth c Q F Rt hf hlc H locs cells slots LS hc hs hR hS hL)
theorem ev_istore10 {o0 o1 o2 o3 o4 o5 o6 o7 o8 o9 : Option Value} {o10 : Option Value} {x : Int32} {r : List (Option Value)} (hd : decode K.1 pc = .ok (.istore 10, 2)) (hq : pc + 2 = q) (hn : 10 < K.2.2.1) (h1 : th_c1 (o0 :: o1 :: o2 :: o3 :: o4 :: o5 :: o6 :: o7 :: o8 :: o9 :: o10 :: r) = true) (k : EV G l K d bc bs q (o0 :: o1 :: o2 :: o3 :: o4 :: o5 :: o6 :: o7 :: o8 :: o9 :: some (.int x) :: r) st S post) : EV G l K d bc bs pc (o0 :: o1 :: o2 :: o3 :: o4 :: o5 :: o6 :: o7 :: o8 :: o9 :: o10 :: r) (.int x :: st) S post := by
  subst hq
  intro p e R s m args below meth c Q F Rt hf hlc H locs cells slots LS hc hs hR hS hL
  exact lv_istore F.1 F.2.1 hd hL hn rfl (fun LS1 h => k p e R s m args below meth c Q F Rt hf hlc H locs cells slots LS1 hc hs hR hS (th_L.set (i := 10) (v := .int x) h1 h))
theorem ev_astore10 {o0 o1 o2 o3 o4 o5 o6 o7 o8 o9 : Option Value} {o10 : Option Value} {x : Nat} {r : List (Option Value)} (hd : decode K.1 pc = .ok (.astore 10, 2)) (hq : pc + 2 = q) (hn : 10 < K.2.2.1) (h1 : th_c1 (o0 :: o1 :: o2 :: o3 :: o4 :: o5 :: o6 :: o7 :: o8 :: o9 :: o10 :: r) = true) (k : EV G l K d bc bs q (o0 :: o1 :: o2 :: o3 :: o4 :: o5 :: o6 :: o7 :: o8 :: o9 :: some (.ref x) :: r) st S post) : EV G l K d bc bs pc (o0 :: o1 :: o2 :: o3 :: o4 :: o5 :: o6 :: o7 :: o8 :: o9 :: o10 :: r) (.ref x :: st) S post := by
  subst hq
  intro p e R s m args below meth c Q F Rt hf hlc H locs cells slots LS hc hs hR hS hL
  exact lv_astore F.1 F.2.1 hd hL hn rfl (fun LS1 h => k p e R s m args below meth c Q F Rt hf hlc H locs cells slots LS1 hc hs hR hS (th_L.set (i := 10) (v := .ref x) h1 h))
theorem ev_astoreN10 {o0 o1 o2 o3 o4 o5 o6 o7 o8 o9 : Option Value} {o10 : Option Value} {r : List (Option Value)} (hd : decode K.1 pc = .ok (.astore 10, 2)) (hq : pc + 2 = q) (hn : 10 < K.2.2.1) (h1 : th_c1 (o0 :: o1 :: o2 :: o3 :: o4 :: o5 :: o6 :: o7 :: o8 :: o9 :: o10 :: r) = true) (k : EV G l K d bc bs q (o0 :: o1 :: o2 :: o3 :: o4 :: o5 :: o6 :: o7 :: o8 :: o9 :: some (.null) :: r) st S post) : EV G l K d bc bs pc (o0 :: o1 :: o2 :: o3 :: o4 :: o5 :: o6 :: o7 :: o8 :: o9 :: o10 :: r) (.null :: st) S post := by
  subst hq
  intro p e R s m args below meth c Q F Rt hf hlc H locs cells slots LS hc hs hR hS hL
  exact lv_astoreN F.1 F.2.1 hd hL hn rfl (fun LS1 h => k p e R s m args below meth c Q F Rt hf hlc H locs cells slots LS1 hc hs hR hS (th_L.set (i := 10) (v := .null) h1 h))
theorem ev_iinc10 {o0 o1 o2 o3 o4 o5 o6 o7 o8 o9 : Option Value} {x v : Int32} {n : Int} {r : List (Option Value)} (hd : decode K.1 pc = .ok (.iinc 10 n, 3)) (hq : pc + 3 = q) (hn : 10 < K.2.2.1) (h1 : th_c1 (o0 :: o1 :: o2 :: o3 :: o4 :: o5 :: o6 :: o7 :: o8 :: o9 :: some (.int x) :: r) = true) (hv : x + Int32.ofInt n = v) (k : EV G l K d bc bs q (o0 :: o1 :: o2 :: o3 :: o4 :: o5 :: o6 :: o7 :: o8 :: o9 :: some (.int v) :: r) st S post) : EV G l K d bc bs pc (o0 :: o1 :: o2 :: o3 :: o4 :: o5 :: o6 :: o7 :: o8 :: o9 :: some (.int x) :: r) st S post := by
  subst hq
  intro p e R s m args below meth c Q F Rt hf hlc H locs cells slots LS hc hs hR hS hL
  obtain ⟨kk, hkk⟩ := List.getElem?_of_mem ((th_l_mem (G := G) (o0 :: o1 :: o2 :: o3 :: o4 :: o5 :: o6 :: o7 :: o8 :: o9 :: some (.int x) :: r) 0 10 (.int x)).mpr ⟨10, .int x, rfl, by omega, rfl⟩)
  exact lv_iinc F.1 F.2.1 hd hL hkk hv hn rfl (fun LS1 h => k p e R s m args below meth c Q F Rt hf hlc H locs cells slots LS1 hc hs hR hS (th_L.set (i := 10) (v := .int v) h1 h))
theorem ev_if_eq {x : Int32} {off : Int} {t : Nat} (hd : decode K.1 pc = .ok (.ifCond .eq off, 3)) (hq : pc + 3 = q) (ht : (pc : Int) + off = (t : Int)) (kt : x = 0 → EV G l K d bc bs t ls st S post) (kf : ¬ x = 0 → EV G l K d bc bs q ls st S post) : EV G l K d bc bs pc ls (.int x :: st) S post := by
  subst hq
  intro p e R s m args below meth c Q F Rt hf hlc H locs cells slots LS hc hs hR hS hL
  exact lv_if_eq F.1 F.2.1 hd ht (fun h => kt h p e R s m args below meth c Q F Rt hf hlc H locs cells slots LS hc hs hR hS hL) (fun h => kf h p e R s m args below meth c Q F Rt hf hlc H locs cells slots LS hc hs hR hS hL)
theorem ev_if_ne {x : Int32} {off : Int} {t : Nat} (hd : decode K.1 pc = .ok (.ifCond .ne off, 3)) (hq : pc + 3 = q) (ht : (pc : Int) + off = (t : Int)) (kt : x ≠ 0 → EV G l K d bc bs t ls st S post) (kf : x = 0 → EV G l K d bc bs q ls st S post) : EV G l K d bc bs pc ls (.int x :: st) S post := by
  subst hq
  intro p e R s m args below meth c Q F Rt hf hlc H locs cells slots LS hc hs hR hS hL
  exact lv_if_ne F.1 F.2.1 hd ht (fun h => kt h p e R s m args below meth c Q F Rt hf hlc H locs cells slots LS hc hs hR hS hL) (fun h => kf h p e R s m args below meth c Q F Rt hf hlc H locs cells slots LS hc hs hR hS hL)
theorem ev_if_lt {x : Int32} {off : Int} {t : Nat} (hd : decode K.1 pc = .ok (.ifCond .lt off, 3)) (hq : pc + 3 = q) (ht : (pc : Int) + off = (t : Int)) (kt : x < 0 → EV G l K d bc bs t ls st S post) (kf : ¬ x < 0 → EV G l K d bc bs q ls st S post) : EV G l K d bc bs pc ls (.int x :: st) S post := by
  subst hq
  intro p e R s m args below meth c Q F Rt hf hlc H locs cells slots LS hc hs hR hS hL
  exact lv_if_lt F.1 F.2.1 hd ht (fun h => kt h p e R s m args below meth c Q F Rt hf hlc H locs cells slots LS hc hs hR hS hL) (fun h => kf h p e R s m args below meth c Q F Rt hf hlc H locs cells slots LS hc hs hR hS hL)
theorem ev_if_ge {x : Int32} {off : Int} {t : Nat} (hd : decode K.1 pc = .ok (.ifCond .ge off, 3)) (hq : pc + 3 = q) (ht : (pc : Int) + off = (t : Int)) (kt : 0 ≤ x → EV G l K d bc bs t ls st S post) (kf : ¬ 0 ≤ x → EV G l K d bc bs q ls st S post) : EV G l K d bc bs pc ls (.int x :: st) S post := by
  subst hq
  intro p e R s m args below meth c Q F Rt hf hlc H locs cells slots LS hc hs hR hS hL
  exact lv_if_ge F.1 F.2.1 hd ht (fun h => kt h p e R s m args below meth c Q F Rt hf hlc H locs cells slots LS hc hs hR hS hL) (fun h => kf h p e R s m args below meth c Q F Rt hf hlc H locs cells slots LS hc hs hR hS hL)
theorem ev_if_gt {x : Int32} {off : Int} {t : Nat} (hd : decode K.1 pc = .ok (.ifCond .gt off, 3)) (hq : pc + 3 = q) (ht : (pc : Int) + off = (t : Int)) (kt : 0 < x → EV G l K d bc bs t ls st S post) (kf : ¬ 0 < x → EV G l K d bc bs q ls st S post) : EV G l K d bc bs pc ls (.int x :: st) S post := by
  subst hq
  intro p e R s m args below meth c Q F Rt hf hlc H locs cells slots LS hc hs hR hS hL
  exact lv_if_gt F.1 F.2.1 hd ht (fun h => kt h p e R s m args below meth c Q F Rt hf hlc H locs cells slots LS hc hs hR hS hL) (fun h => kf h p e R s m args below meth c Q F Rt hf hlc H locs cells slots LS hc hs hR hS hL)
theorem ev_if_le {x : Int32} {off : Int} {t : Nat} (hd : decode K.1 pc = .ok (.ifCond .le off, 3)) (hq : pc + 3 = q) (ht : (pc : Int) + off = (t : Int)) (kt : x ≤ 0 → EV G l K d bc bs t ls st S post) (kf : ¬ x ≤ 0 → EV G l K d bc bs q ls st S post) : EV G l K d bc bs pc ls (.int x :: st) S post := by
  subst hq
  intro p e R s m args below meth c Q F Rt hf hlc H locs cells slots LS hc hs hR hS hL
  exact lv_if_le F.1 F.2.1 hd ht (fun h => kt h p e R s m args below meth c Q F Rt hf hlc H locs cells slots LS hc hs hR hS hL) (fun h => kf h p e R s m args below meth c Q F Rt hf hlc H locs cells slots LS hc hs hR hS hL)
theorem ev_icmp_eq {x y : Int32} {off : Int} {t : Nat} (hd : decode K.1 pc = .ok (.if_icmp .eq off, 3)) (hq : pc + 3 = q) (ht : (pc : Int) + off = (t : Int)) (kt : x = y → EV G l K d bc bs t ls st S post) (kf : ¬ x = y → EV G l K d bc bs q ls st S post) : EV G l K d bc bs pc ls (.int y :: .int x :: st) S post := by
  subst hq
  intro p e R s m args below meth c Q F Rt hf hlc H locs cells slots LS hc hs hR hS hL
  exact lv_icmp_eq F.1 F.2.1 hd ht (fun h => kt h p e R s m args below meth c Q F Rt hf hlc H locs cells slots LS hc hs hR hS hL) (fun h => kf h p e R s m args below meth c Q F Rt hf hlc H locs cells slots LS hc hs hR hS hL)
theorem ev_icmp_ne {x y : Int32} {off : Int} {t : Nat} (hd : decode K.1 pc = .ok (.if_icmp .ne off, 3)) (hq : pc + 3 = q) (ht : (pc : Int) + off = (t : Int)) (kt : x ≠ y → EV G l K d bc bs t ls st S post) (kf : x = y → EV G l K d bc bs q ls st S post) : EV G l K d bc bs pc ls (.int y :: .int x :: st) S post := by
  subst hq
  intro p e R s m args below meth c Q F Rt hf hlc H locs cells slots LS hc hs hR hS hL
  exact lv_icmp_ne F.1 F.2.1 hd ht (fun h => kt h p e R s m args below meth c Q F Rt hf hlc H locs cells slots LS hc hs hR hS hL) (fun h => kf h p e R s m args below meth c Q F Rt hf hlc H locs cells slots LS hc hs hR hS hL)
theorem ev_icmp_lt {x y : Int32} {off : Int} {t : Nat} (hd : decode K.1 pc = .ok (.if_icmp .lt off, 3)) (hq : pc + 3 = q) (ht : (pc : Int) + off = (t : Int)) (kt : x < y → EV G l K d bc bs t ls st S post) (kf : ¬ x < y → EV G l K d bc bs q ls st S post) : EV G l K d bc bs pc ls (.int y :: .int x :: st) S post := by
  subst hq
  intro p e R s m args below meth c Q F Rt hf hlc H locs cells slots LS hc hs hR hS hL
  exact lv_icmp_lt F.1 F.2.1 hd ht (fun h => kt h p e R s m args below meth c Q F Rt hf hlc H locs cells slots LS hc hs hR hS hL) (fun h => kf h p e R s m args below meth c Q F Rt hf hlc H locs cells slots LS hc hs hR hS hL)
theorem ev_icmp_ge {x y : Int32} {off : Int} {t : Nat} (hd : decode K.1 pc = .ok (.if_icmp .ge off, 3)) (hq : pc + 3 = q) (ht : (pc : Int) + off = (t : Int)) (kt : y ≤ x → EV G l K d bc bs t ls st S post) (kf : ¬ y ≤ x → EV G l K d bc bs q ls st S post) : EV G l K d bc bs pc ls (.int y :: .int x :: st) S post := by
  subst hq
  intro p e R s m args below meth c Q F Rt hf hlc H locs cells slots LS hc hs hR hS hL
  exact lv_icmp_ge F.1 F.2.1 hd ht (fun h => kt h p e R s m args below meth c Q F Rt hf hlc H locs cells slots LS hc hs hR hS hL) (fun h => kf h p e R s m args below meth c Q F Rt hf hlc H locs cells slots LS hc hs hR hS hL)
theorem ev_icmp_gt {x y : Int32} {off : Int} {t : Nat} (hd : decode K.1 pc = .ok (.if_icmp .gt off, 3)) (hq : pc + 3 = q) (ht : (pc : Int) + off = (t : Int)) (kt : y < x → EV G l K d bc bs t ls st S post) (kf : ¬ y < x → EV G l K d bc bs q ls st S post) : EV G l K d bc bs pc ls (.int y :: .int x :: st) S post := by
  subst hq
  intro p e R s m args below meth c Q F Rt hf hlc H locs cells slots LS hc hs hR hS hL
  exact lv_icmp_gt F.1 F.2.1 hd ht (fun h => kt h p e R s m args below meth c Q F Rt hf hlc H locs cells slots LS hc hs hR hS hL) (fun h => kf h p e R s m args below meth c Q F Rt hf hlc H locs cells slots LS hc hs hR hS hL)
theorem ev_icmp_le {x y : Int32} {off : Int} {t : Nat} (hd : decode K.1 pc = .ok (.if_icmp .le off, 3)) (hq : pc + 3 = q) (ht : (pc : Int) + off = (t : Int)) (kt : x ≤ y → EV G l K d bc bs t ls st S post) (kf : ¬ x ≤ y → EV G l K d bc bs q ls st S post) : EV G l K d bc bs pc ls (.int y :: .int x :: st) S post := by
  subst hq
  intro p e R s m args below meth c Q F Rt hf hlc H locs cells slots LS hc hs hR hS hL
  exact lv_icmp_le F.1 F.2.1 hd ht (fun h => kt h p e R s m args below meth c Q F Rt hf hlc H locs cells slots LS hc hs hR hS hL) (fun h => kf h p e R s m args below meth c Q F Rt hf hlc H locs cells slots LS hc hs hR hS hL)
theorem ev_goto {off : Int} (hd : decode K.1 pc = .ok (.goto off, 3)) (ht : (pc : Int) + off = (q : Int)) (k : EV G l K d bc bs q ls st S post) : EV G l K d bc bs pc ls st S post := by
  intro p e R s m args below meth c Q F Rt hf hlc H locs cells slots LS hc hs hR hS hL
  exact lv_goto F.1 F.2.1 hd ht (k p e R s m args below meth c Q F Rt hf hlc H locs cells slots LS hc hs hR hS hL)
theorem ev_ifnonnull {a : Nat} {off : Int} (hd : decode K.1 pc = .ok (.ifnonnull off, 3)) (ht : (pc : Int) + off = (q : Int)) (k : EV G l K d bc bs q ls st S post) : EV G l K d bc bs pc ls (.ref a :: st) S post := by
  intro p e R s m args below meth c Q F Rt hf hlc H locs cells slots LS hc hs hR hS hL
  exact lv_ifnonnull F.1 F.2.1 hd ht (k p e R s m args below meth c Q F Rt hf hlc H locs cells slots LS hc hs hR hS hL)
theorem ev_ifnonnullN {off : Int} (hd : decode K.1 pc = .ok (.ifnonnull off, 3)) (hq : pc + 3 = q) (k : EV G l K d bc bs q ls st S post) : EV G l K d bc bs pc ls (.null :: st) S post := by
  subst hq
  intro p e R s m args below meth c Q F Rt hf hlc H locs cells slots LS hc hs hR hS hL
  exact lv_ifnonnullN F.1 F.2.1 hd (k p e R s m args below meth c Q F Rt hf hlc H locs cells slots LS hc hs hR hS hL)
theorem ev_ifnull {a : Nat} {off : Int} (hd : decode K.1 pc = .ok (.ifnull off, 3)) (hq : pc + 3 = q) (k : EV G l K d bc bs q ls st S post) : EV G l K d bc bs pc ls (.ref a :: st) S post := by
  subst hq
  intro p e R s m args below meth c Q F Rt hf hlc H locs cells slots LS hc hs hR hS hL
  exact lv_ifnull F.1 F.2.1 hd (k p e R s m args below meth c Q F Rt hf hlc H locs cells slots LS hc hs hR hS hL)
theorem ev_ifnullN {off : Int} (hd : decode K.1 pc = .ok (.ifnull off, 3)) (ht : (pc : Int) + off = (q : Int)) (k : EV G l K d bc bs q ls st S post) : EV G l K d bc bs pc ls (.null :: st) S post := by
  intro p e R s m args below meth c Q F Rt hf hlc H locs cells slots LS hc hs hR hS hL
  exact lv_ifnullN F.1 F.2.1 hd ht (k p e R s m args below meth c Q F Rt hf hlc H locs cells slots LS hc hs hR hS hL)
theorem ev_lookup {dflt : Int} {ps : Array (Int × Int)} {len : Nat} {x : Int32} {off : Int} (hd : decode K.1 pc = .ok (.lookupswitch dflt ps, len)) (hp : (ps.toList.zip (ps.toList.drop 1)).all (fun (a, next) => a.1 < next.1) = true) (ho : Op.lookupswitch.offset ps.toList dflt x.toInt = off) (ht : (pc : Int) + off = (q : Int)) (k : EV G l K d bc bs q ls st S post) : EV G l K d bc bs pc ls (.int x :: st) S post := by
  intro p e R s m args below meth c Q F Rt hf hlc H locs cells slots LS hc hs hR hS hL
  exact lv_lookup F.1 F.2.1 hd hp ho ht (k p e R s m args below meth c Q F Rt hf hlc H locs cells slots LS hc hs hR hS hL)
theorem ev_tableOut {dflt lo hi : Int} {offs : Array Int} {len : Nat} {x : Int32} (hd : decode K.1 pc = .ok (.tableswitch dflt lo hi offs, len)) (h : x.toInt < lo ∨ hi < x.toInt) (ht : (pc : Int) + dflt = (q : Int)) (k : EV G l K d bc bs q ls st S post) : EV G l K d bc bs pc ls (.int x :: st) S post := by
  intro p e R s m args below meth c Q F Rt hf hlc H locs cells slots LS hc hs hR hS hL
  exact lv_tableOut F.1 F.2.1 hd h ht (k p e R s m args below meth c Q F Rt hf hlc H locs cells slots LS hc hs hR hS hL)
theorem ev_tableIn {dflt lo hi : Int} {offs : Array Int} {len : Nat} {x : Int32} {off : Int} (hd : decode K.1 pc = .ok (.tableswitch dflt lo hi offs, len)) (h1 : ¬ x.toInt < lo) (h2 : ¬ hi < x.toInt) (ho : offs[(x.toInt - lo).toNat]? = some off) (ht : (pc : Int) + off = (q : Int)) (k : EV G l K d bc bs q ls st S post) : EV G l K d bc bs pc ls (.int x :: st) S post := by
  intro p e R s m args below meth c Q F Rt hf hlc H locs cells slots LS hc hs hR hS hL
  exact lv_tableIn F.1 F.2.1 hd h1 h2 ho ht (k p e R s m args below meth c Q F Rt hf hlc H locs cells slots LS hc hs hR hS hL)
theorem ev_return (hd : decode K.1 pc = .ok (.return_, 1)) (hr : K.2.2.2.1 = none) (hp : post none S) : EV G l K d bc bs pc ls [] S post := by
  intro p e R s m args below meth c Q F Rt hf hlc H locs cells slots LS hc hs hR hS hL
  exact Rt none S H locs cells slots pc LS hp hR hS (by omega) (by omega) (Or.inl ⟨rfl, hr, hd⟩)
theorem ev_ireturn {v : Int32} {ty : FieldType} (hd : decode K.1 pc = .ok (.ireturn, 1)) (hr : K.2.2.2.1 = some ty) (hn : narrow ty (.int v) = .int v) (hp : post (some (.int v)) S) : EV G l K d bc bs pc ls [.int v] S post := by
  intro p e R s m args below meth c Q F Rt hf hlc H locs cells slots LS hc hs hR hS hL
  exact Rt (some (.int v)) S H locs cells slots pc LS hp hR hS (by omega) (by omega) (Or.inr (Or.inl ⟨v, ty, rfl, hr, hn, hd⟩))
theorem ev_areturn {a : Nat} {rt : FieldType} (hd : decode K.1 pc = .ok (.areturn, 1)) (hr : K.2.2.2.1 = some rt) (hrt : (∃ n, rt = .object n) ∨ ∃ t, rt = .array t) (hp : post (some (.ref a)) S) : EV G l K d bc bs pc ls [.ref a] S post := by
  intro p e R s m args below meth c Q F Rt hf hlc H locs cells slots LS hc hs hR hS hL
  exact Rt (some (.ref a)) S H locs cells slots pc LS hp hR hS (by omega) (by omega) (Or.inr (Or.inr ⟨rt, hr, hrt, Or.inr ⟨a, rfl⟩, hd⟩))
theorem ev_areturnN {rt : FieldType} (hd : decode K.1 pc = .ok (.areturn, 1)) (hr : K.2.2.2.1 = some rt) (hrt : (∃ n, rt = .object n) ∨ ∃ t, rt = .array t) (hp : post (some .null) S) : EV G l K d bc bs pc ls [.null] S post := by
  intro p e R s m args below meth c Q F Rt hf hlc H locs cells slots LS hc hs hR hS hL
  exact Rt (some .null) S H locs cells slots pc LS hp hR hS (by omega) (by omega) (Or.inr (Or.inr ⟨rt, hr, hrt, Or.inl rfl, hd⟩))
end EVR
end
section
/-! words of the tables by their places -/
theorem th_mW {w : Cond} (i : Nat) (h : tables_1[i]? = some w) (hg : goodWord w = true) : w ∈ th_W := List.mem_filter.mpr ⟨List.mem_append_right _ (List.mem_of_getElem? h), hg⟩
theorem th_mN {w : Cond} (i : Nat) (h : tables_1[i]? = some w) (hg : th_isN w = true) : w ∈ th_N := List.mem_filter.mpr ⟨List.mem_of_getElem? h, hg⟩
theorem th_mS {w : Cond} (i : Nat) (h : (k2_sels lw_privs)[i]? = some w) (hg : goodWord w = true) : w ∈ th_W := List.mem_filter.mpr ⟨List.mem_append_left _ (List.mem_of_getElem? h), hg⟩
theorem th_inW {ws : List Cond} (ps : List Nat) (hp : ws = ps.filterMap (fun i => tables_1[i]?)) (hg : ws.all goodWord = true) : ∀ w ∈ ws, w ∈ th_W := by
  intro w hw
  have hg := List.all_eq_true.mp hg w hw
  rw [hp] at hw
  obtain ⟨i, -, hi⟩ := List.mem_filterMap.mp hw
  exact th_mW i hi hg
theorem inW0 : ∀ w ∈ u_ws RX0 TX0 7, w ∈ th_W := th_inW [99, 101, 103, 105, 107, 109, 111] (by decide +kernel) (by decide +kernel)
theorem inW1 : ∀ w ∈ u_ws RX1 TX1 7, w ∈ th_W := th_inW [131, 133, 135, 137, 139, 141, 143] (by decide +kernel) (by decide +kernel)
theorem inW2 : ∀ w ∈ u_ws RX2 TX2 7, w ∈ th_W := th_inW [706, 708, 710, 712, 714, 716, 718] (by decide +kernel) (by decide +kernel)
theorem inW3 : ∀ w ∈ u_ws RX3 TX3 4, w ∈ th_W := th_inW [154, 156, 158, 160] (by decide +kernel) (by decide +kernel)
theorem inW4 : ∀ w ∈ u_ws RX4 TX4 4, w ∈ th_W := th_inW [210, 212, 214, 216] (by decide +kernel) (by decide +kernel)
theorem inW5 : ∀ w ∈ u_ws RX5 TX5 4, w ∈ th_W := th_inW [190, 192, 194, 196] (by decide +kernel) (by decide +kernel)
theorem inW6 : ∀ w ∈ u_ws RX6 TX6 3, w ∈ th_W := th_inW [359, 361, 363] (by decide +kernel) (by decide +kernel)
theorem inW7 : ∀ w ∈ u_ws RX7 TX7 4, w ∈ th_W := th_inW [42, 44, 46, 48] (by decide +kernel) (by decide +kernel)
theorem inW8 : ∀ w ∈ u_ws RX8 TX8 2, w ∈ th_W := th_inW [173, 175] (by decide +kernel) (by decide +kernel)
theorem inW9 : ∀ w ∈ u_ws RX9 TX9 16, w ∈ th_W := th_inW [235, 237, 239, 241, 243, 245, 247, 249, 251, 253, 255, 257, 259, 261, 263, 265] (by decide +kernel) (by decide +kernel)
theorem inW10 : ∀ w ∈ u_ws RX10 TX10 41, w ∈ th_W := th_inW [877, 879, 881, 883, 885, 887, 889, 891, 893, 895, 897, 899, 901, 903, 905, 907, 909, 911, 913, 915, 917, 919, 921, 923, 925, 927, 929, 931, 933, 935, 937, 939, 941, 943, 945, 947, 949, 951, 953, 955, 957] (by decide +kernel) (by decide +kernel)
theorem inW11 : ∀ w ∈ u_ws RJx4a65c TJx4a65c 3, w ∈ th_W := th_inW [75, 71, 73] (by decide +kernel) (by decide +kernel)
theorem th_cls {ci : Nat} {C : String} {T : u_T} {N : Nat} (h : th_cl[ci]? = some (C, T, N)) : (∀ w ∈ u_ws C T N, w ∈ th_W) ∧ (∀ k, k < N → parseFieldDescriptor (T k).2.2.1 = some (th_ft ci k)) ∧ (∀ a, a < N → ∀ b, b < N → a ≠ b → (T a).2.1 ≠ (T b).2.1) ∧ N = th_nf ci := by
  match ci, h with
  | 0, h => cases h; exact ⟨inW0, tyX0_ok, nmX0, rfl⟩
  | 1, h => cases h; exact ⟨inW1, tyX1_ok, nmX1, rfl⟩
  | 2, h => cases h; exact ⟨inW2, tyX2_ok, nmX2, rfl⟩
  | 3, h => cases h; exact ⟨inW3, tyX3_ok, nmX3, rfl⟩
  | 4, h => cases h; exact ⟨inW4, tyX4_ok, nmX4, rfl⟩
  | 5, h => cases h; exact ⟨inW5, tyX5_ok, nmX5, rfl⟩
  | 6, h => cases h; exact ⟨inW6, tyX6_ok, nmX6, rfl⟩
  | 7, h => cases h; exact ⟨inW7, tyX7_ok, nmX7, rfl⟩
  | 8, h => cases h; exact ⟨inW8, tyX8_ok, nmX8, rfl⟩
  | 9, h => cases h; exact ⟨inW9, tyX9_ok, nmX9, rfl⟩
  | 10, h => cases h; exact ⟨inW10, tyX10_ok, nmX10, rfl⟩
  | 11, h => cases h; exact ⟨inW11, tyJx4a65c_ok, nmJx4a65c, rfl⟩
  | n + 12, h => simp [th_cl] at h
/-! fields -/
def th_gl (own : String) (i : Nat) (o n d : String) : Prop := (Cond.fieldLink own i o n d ∈ th_W) ∨ (∃ ref, Cond.fieldLink own i ref n d ∈ th_W ∧ Cond.sameField ref o n d ∈ th_W) ∨ ∃ host, Cond.fieldLinkNest own i o n d host ∈ th_N
def th_gf (own : String) (i ci k : Nat) : Prop := ∃ (C : String) (T : u_T) (N : Nat), th_cl[ci]? = some (C, T, N) ∧ k < N ∧ th_gl own i (T k).1 (T k).2.1 (T k).2.2.1
def th_pf (own nm : String) (i ci k : Nat) : Prop := ∃ (C : String) (T : u_T) (N : Nat), th_cl[ci]? = some (C, T, N) ∧ k < N ∧ (((T k).2.2.2 = false ∧ th_gl own i (T k).1 (T k).2.1 (T k).2.2.1) ∨ ((T k).2.2.2 = true ∧ nm = "<init>" ∧ (T k).1 = own ∧ Cond.fieldLink own i (T k).1 (T k).2.1 (T k).2.2.1 ∈ th_W))
theorem th_w_j {V : Nat → Nat → Int32} {a k j : Nat} {x : Int32} (h : j ≠ k) : th_w V a k x a j = V a j := by
  have : Nat.beq j k = false := Bool.eq_false_iff.mpr (fun e => h (Nat.eq_of_beq_eq_true e))
  simp [th_w, this]
theorem th_fs_get {G : th_G} {ci k : Nat} {f : Nat → Option Nat} {v : Nat → Int32} (hk : k < th_nf ci) : ((List.range (th_nf ci)).map (th_fv G ci f v))[k]? = some (th_fv G ci f v k) := by
  rw [List.getElem?_map, List.getElem?_range hk]
  rfl
theorem th_P1 {G : th_G} {q : Nat × va_E} {H : Heap} (h : va_at G.2.2.1 th_cl q H) : va_P G.2.2.1 th_cl [q] H := by
  intro j x hj
  cases j with
  | zero => cases hj; exact h
  | succ j => simp at hj
section EVH
variable {G : th_G} {l : Launch} {K : th_M} {d bc bs pc q : Nat} {ls : List (Option Value)} {st : List Value} {S : th_S} {post : Option Value → th_S → Prop}
theorem ev_getF {a ci k i : Nat} {f : Nat → Option Nat} {v : Value} (hd : decode K.1 pc = .ok (.getfield i, 3)) (hg : th_gf K.2.1 i ci k) (ha : S.2.1 a = some (.inr (ci, f))) (hv : th_fv G ci f (S.2.2 a) k = th_v G v) (hq : pc + 3 = q) (kk : EV G l K d bc bs q ls (v :: st) S post) : EV G l K d bc bs pc ls (.ref a :: st) S post := by
  subst hq
  intro p e R s m args below meth c Q F Rt hf hlc H locs cells slots LS hc hs hR hS hL
  obtain ⟨C, T, N, hcl, hkN, hw⟩ := hg
  obtain ⟨h1, h2, h3, h4⟩ := th_cls hcl
  have hts := F.2.2.2.2.2.1
  have hP := th_P1 (hR.get ha)
  have hv1 : ((List.range (th_nf ci)).map (th_fv G ci f (S.2.2 a)))[k]? = some (th_v G v) := by
    rw [th_fs_get (by rw [← h4]; exact hkN), hv]
  have hK := F.2.2.2.2.2.2.1
  have kk := kk p e R s m args below meth c Q F Rt hf hlc H locs cells slots LS hc hs hR hS hL
  rcases hw with hw | ⟨ref, hw, hw2⟩ | ⟨host, hw⟩
  · exact va_get F.1 F.2.1 hts h1 F.2.2.2.1 hK hP 0 rfl hcl k hkN (hts _ hw) (fun _ h => h) hv1 hd kk
  · exact va_get F.1 F.2.1 hts h1 F.2.2.2.1 hK hP 0 rfl hcl k hkN (hts _ hw) (u_same (hts _ hw2)) hv1 hd kk
  · exact va_getN F.1 F.2.1 hts h1 F.2.2.2.1 hK hP 0 rfl hcl k hkN (va_Nw.use rfl (F.2.2.2.2.2.2.2.1 _ hw)) (fun _ h => h) hv1 hd kk
theorem ev_getI {a ci k i : Nat} {f : Nat → Option Nat} (hd : decode K.1 pc = .ok (.getfield i, 3)) (hg : th_gf K.2.1 i ci k) (ha : S.2.1 a = some (.inr (ci, f))) (hk : th_ir ci k = false) (hq : pc + 3 = q) (kk : EV G l K d bc bs q ls (.int (S.2.2 a k) :: st) S post) : EV G l K d bc bs pc ls (.ref a :: st) S post :=
  ev_getF hd hg ha (v := .int (S.2.2 a k)) (by simp [th_fv, hk, th_v]) hq kk
theorem ev_getR {a ci k i b : Nat} {f : Nat → Option Nat} (hd : decode K.1 pc = .ok (.getfield i, 3)) (hg : th_gf K.2.1 i ci k) (ha : S.2.1 a = some (.inr (ci, f))) (hk : th_ir ci k = true) (hb : f k = some b) (hq : pc + 3 = q) (kk : EV G l K d bc bs q ls (.ref b :: st) S post) : EV G l K d bc bs pc ls (.ref a :: st) S post :=
  ev_getF hd hg ha (v := .ref b) (by simp [th_fv, hk, hb, th_v, va_rf]) hq kk
/-- a field is written: what the machine does -/
theorem th_put {p : Program} {e : Env} {R : Room} {s : State} {m : MethodId} {args : Array Value} {below : List Frame} {meth : Method} {c : Code} {Q : State → Prop} {H : Heap} {locs : List Loc} {cells slots : Nat} {LS : Array Slot} {rest : List Value} (F : th_Fix G K p s m args meth c) {a ci k i : Nat} {fs : List Value} {v : Value} (hg : th_pf K.2.1 K.2.2.2.2 i ci k) (hat : va_at G.2.2.1 th_cl (a, .inr (ci, fs)) H) (haA : th_A G a) (hS : va_S (th_A G) s.heap H locs) (hn : narrow (th_ft ci k) v = v) (hfit : fits (th_ft ci k) v = true) (hl : k < fs.length) (hd : decode K.1 pc = .ok (.putfield i, 3))
    (kk : ∀ (H1 : Heap) (locs1 : List Loc), H1.size = H.size → (∀ q : Nat, q ≠ a → H1[q]? = H[q]?) → va_at G.2.2.1 th_cl (a, .inr (ci, fs.set k v)) H1 → va_S (th_A G) s.heap H1 locs1 → W p l e R s m args below meth c H1 locs1 cells slots Q (F0 m (pc + 3) LS rest)) : W p l e R s m args below meth c H locs cells slots Q (F0 m pc LS (v :: .ref a :: rest)) := by
  obtain ⟨C, T, N, hcl, hkN, hw⟩ := hg
  obtain ⟨hin, hty, hnm, h4⟩ := th_cls hcl
  have hts := F.2.2.2.2.2.1
  have hK := F.2.2.2.2.2.2.1
  have hown := F.2.2.2.1
  have hap := va_apart (own := K.2.1) hts hin (th_ft ci) hty hnm hK hcl
  obtain ⟨r, h1, cell, q1, q2, q3, q4⟩ := hat
  have hr : r = (C, T, N) := Option.some.inj (h1.symm.trans hcl)
  subst hr
  obtain ⟨hSl, hfc, kC, hkC, hkind⟩ := hK.1 ci _ hcl
  obtain ⟨cf, kf, fi, f, hi, hsl⟩ := hSl k hkN
  have hlay := hts _ (hin _ (u_in_lay hkN))
  unfold u_lay at hlay
  have hst := (u_facts hfc hkC (u_lays hts hin hkN) hi).1
  have fin : ∀ (H' : Heap) (locs' : List Loc), H'[a]? = some (cell.setSlot f.slot v) → H'.size = H.size → (∀ q : Nat, q ≠ a → H'[q]? = H[q]?) → va_S (th_A G) s.heap H' locs' → W p l e R s m args below meth c H' locs' cells slots Q (F0 m (pc + 3) LS rest) := by
    intro H' locs' e1 e2 e3 hS1
    rw [hsl] at e1
    exact kk H' locs' e2 e3 ⟨_, hcl, t_OB.to (V := updV (vp_V fs) k v) ⟨_, e1, q2, q3, t_set q4 hap hkN v⟩ (fun j _ => vp_updV_set hl v j)⟩ hS1
  rcases hw with ⟨hfin, hw⟩ | ⟨hfin, hnme, hdecl, hw⟩
  · rw [if_neg (by rw [hfin]; decide)] at hlay
    have h6 := u_store hfc hkC hkind hlay hi (hty k hkN) hn hfit
    rcases hw with hw | ⟨ref, hw, hw2⟩ | ⟨host, hw⟩
    · exact W.putK F.1 F.2.1 (f := f) ⟨hown, hts _ hw, ⟨_, _, _, hi⟩, hst⟩ (by rw [q2]; exact h6) q1 q3 (by rw [hsl]; exact k2_hasslot (q4 k hkN)) rfl rfl hd fun H' e1 e2 e3 => fin H' _ e1 e2 e3 (hS.put e2 e3 haA)
    · exact W.putK F.1 F.2.1 (f := f) ⟨hown, hts _ hw, ⟨_, _, _, u_same (hts _ hw2) _ hi⟩, hst⟩ (by rw [q2]; exact h6) q1 q3 (by rw [hsl]; exact k2_hasslot (q4 k hkN)) rfl rfl hd fun H' e1 e2 e3 => fin H' _ e1 e2 e3 (hS.put e2 e3 haA)
    · exact va_WputK F.1 F.2.1 (f := f) hown (va_Nw.use rfl (F.2.2.2.2.2.2.2.1 _ hw)) hi hst (by rw [q2]; exact h6) q1 q3 (by rw [hsl]; exact k2_hasslot (q4 k hkN)) rfl rfl hd fun H' e1 e2 e3 => fin H' _ e1 e2 e3 (hS.put e2 e3 haA)
  · rw [if_pos hfin] at hlay
    have hcf : m.cls = cf := by
      obtain ⟨_, _, c', _, _, _, -, -, hf', -, -, -, hown2, -⟩ := Cond.laysFinal_spec hlay
      have e1 : c' = cf := by have := hi.symm.trans hf'; simp at this; exact this.1.symm
      rw [hdecl] at hown2
      rw [← e1]; exact Option.some.inj (hown.symm.trans hown2)
    have h6 := u_fits hfc hkC hkind (Or.inr hlay) hi (hty k hkN) hn hfit
    exact W.putFinK F.1 F.2.1 hown (hts _ hw) hi hst hcf (by rw [F.2.2.2.2.1]; exact hnme) (by rw [q2]; exact h6) q1 q3 (by rw [hsl]; exact k2_hasslot (q4 k hkN)) rfl rfl hd fun H' e1 e2 e3 => fin H' _ e1 e2 e3 (hS.put e2 e3 haA)
theorem th_pf_lt {own nm : String} {i ci k : Nat} (h : th_pf own nm i ci k) : k < th_nf ci := by
  obtain ⟨C, T, N, hcl, hkN, -⟩ := h
  rw [← (th_cls hcl).2.2.2]
  exact hkN
theorem th_fs_set {G : th_G} {ci k : Nat} {f f' : Nat → Option Nat} {v v' : Nat → Int32} {w : Value} (hk : k < th_nf ci) (hw : th_fv G ci f' v' k = w) (hj : ∀ j, j ≠ k → th_fv G ci f' v' j = th_fv G ci f v j) : ((List.range (th_nf ci)).map (th_fv G ci f v)).set k w = (List.range (th_nf ci)).map (th_fv G ci f' v') := by
  apply List.ext_getElem?
  intro j
  by_cases hjk : j = k
  · subst hjk
    rw [List.getElem?_set_self (by simpa using hk), th_fs_get hk, hw]
  · rw [List.getElem?_set_ne (Ne.symm hjk)]
    by_cases hl : j < th_nf ci
    · rw [th_fs_get hl, th_fs_get hl, hj j hjk]
    · rw [List.getElem?_eq_none (by simpa using Nat.le_of_not_lt hl), List.getElem?_eq_none (by simpa using Nat.le_of_not_lt hl)]
theorem ev_putI {a ci k i : Nat} {f : Nat → Option Nat} {x : Int32} (hd : decode K.1 pc = .ok (.putfield i, 3)) (hg : th_pf K.2.1 K.2.2.2.2 i ci k) (ha : S.2.1 a = some (.inr (ci, f))) (hk : th_ir ci k = false) (hn : narrow (th_ft ci k) (.int x) = .int x) (hfit : fits (th_ft ci k) (.int x) = true) (hq : pc + 3 = q) (kk : EV G l K d bc bs q ls st (th_pI S a k x) post) : EV G l K d bc bs pc ls (.int x :: .ref a :: st) S post := by
  subst hq
  intro p e R s m args below meth c Q F Rt hf hlc H locs cells slots LS hc hs hR hS hL
  refine th_put F hg (hR.get ha) (hR.inA ha) hS hn hfit (by simpa using th_pf_lt hg) hd (fun H1 locs1 e1 e2 e3 hS1 => ?_)
  refine kk p e R s m args below meth c Q F Rt hf hlc H1 locs1 cells slots LS hc hs ?_ hS1 hL
  refine hR.set (S' := th_pI S a k x) ha e1 e2 rfl (fun _ _ => rfl) (fun b hb => th_w_ne hb) ha ?_
  have hw : th_e G (.inr (ci, f)) (th_w S.2.2 a k x a) = .inr (ci, ((List.range (th_nf ci)).map (th_fv G ci f (S.2.2 a))).set k (.int x)) := by
    show (Sum.inr (ci, (List.range (th_nf ci)).map (th_fv G ci f (th_w S.2.2 a k x a))) : va_E) = _
    rw [th_fs_set (th_pf_lt hg) (f' := f) (v' := th_w S.2.2 a k x a) (by simp [th_fv, hk, th_w_eq]) (fun j hj => by simp [th_fv, th_w_j hj])]
  show va_at G.2.2.1 th_cl (th_ad G a, th_e G (.inr (ci, f)) (th_w S.2.2 a k x a)) H1
  rw [hw]
  exact e3
theorem ev_putR {a ci k i b : Nat} {f : Nat → Option Nat} (hd : decode K.1 pc = .ok (.putfield i, 3)) (hg : th_pf K.2.1 K.2.2.2.2 i ci k) (ha : S.2.1 a = some (.inr (ci, f))) (hk : th_ir ci k = true) (hq : pc + 3 = q) (kk : EV G l K d bc bs q ls st (th_pC S a (.inr (ci, th_u f k b))) post) : EV G l K d bc bs pc ls (.ref b :: .ref a :: st) S post := by
  subst hq
  intro p e R s m args below meth c Q F Rt hf hlc H locs cells slots LS hc hs hR hS hL
  have hn : narrow (th_ft ci k) (.ref (th_ad G b)) = .ref (th_ad G b) := by
    unfold th_ir at hk
    cases h : th_ft ci k <;> simp [h] at hk <;> rfl
  have hfit : fits (th_ft ci k) (.ref (th_ad G b)) = true := by
    unfold th_ir at hk
    cases h : th_ft ci k <;> simp [h] at hk <;> rfl
  refine th_put F hg (hR.get ha) (hR.inA ha) hS hn hfit (by simpa using th_pf_lt hg) hd (fun H1 locs1 e1 e2 e3 hS1 => ?_)
  refine kk p e R s m args below meth c Q F Rt hf hlc H1 locs1 cells slots LS hc hs ?_ hS1 hL
  refine hR.set (S' := th_pC S a (.inr (ci, th_u f k b))) ha e1 e2 rfl (fun b hb => th_u_ne hb) (fun _ _ => rfl) th_u_eq ?_
  have hw : th_e G (.inr (ci, th_u f k b)) (S.2.2 a) = .inr (ci, ((List.range (th_nf ci)).map (th_fv G ci f (S.2.2 a))).set k (.ref (th_ad G b))) := by
    show (Sum.inr (ci, (List.range (th_nf ci)).map (th_fv G ci (th_u f k b) (S.2.2 a))) : va_E) = _
    rw [th_fs_set (th_pf_lt hg) (f' := th_u f k b) (v' := S.2.2 a) (by simp [th_fv, hk, th_u_eq, va_rf]) (fun j hj => by simp [th_fv, th_u_ne hj])]
  show va_at G.2.2.1 th_cl (th_ad G a, th_e G (.inr (ci, th_u f k b)) (S.2.2 a)) H1
  rw [hw]
  exact e3
end EVH
end
section
/-! arrays -/
theorem th_nI_in {i : Int32} {j n : Nat} (hi : i = nI j) (hj : j < n) (hn : n < 2 ^ 31) : ¬ (i < 0 ∨ n ≤ i.toNatClampNeg) := by rw [hi]; exact nI_in hj hn
theorem th_nI_cl {i : Int32} {j n : Nat} (hi : i = nI j) (hj : j < n) (hn : n < 2 ^ 31) : i.toNatClampNeg = j := by rw [hi]; exact nI_clamp (Nat.lt_trans hj hn)
theorem th_R.arr {G : th_G} {S : th_S} {H : Heap} {a t n : Nat} {f : Nat → Option Nat} (h : th_R G S H) (ha : S.2.1 a = some (.inl (t, n, f))) (ht : t < 4) : H[th_ad G a]? = some (arrV (G.2.2.2.1 t) n (fun j => .int (S.2.2 a j))) := by
  have h1 := h.get ha
  have : Nat.blt t 4 = true := Nat.ble_eq_true_of_le ht
  simp only [th_e, this, cond_true] at h1
  exact h1
theorem th_R.arq {G : th_G} {S : th_S} {H : Heap} {a t n : Nat} {f : Nat → Option Nat} (h : th_R G S H) (ha : S.2.1 a = some (.inl (t, n, f))) (ht : 4 ≤ t) : H[th_ad G a]? = some (arrV (G.2.2.2.1 t) n (fun j => va_rf ((f j).map (th_ad G)))) := by
  have h1 := h.get ha
  have : Nat.blt t 4 = false := by simp only [Nat.blt]; exact Bool.eq_false_iff.mpr (fun e => absurd (Nat.le_of_ble_eq_true e) (by omega))
  simp only [th_e, this, cond_false] at h1
  exact h1
theorem th_R.stI {G : th_G} {S : th_S} {H H1 : Heap} {a t n j : Nat} {f : Nat → Option Nat} {x : Int32} (h : th_R G S H) (ha : S.2.1 a = some (.inl (t, n, f))) (ht : t < 4) (z : H1.size = H.size) (oq : ∀ q : Nat, q ≠ th_ad G a → H1[q]? = H[q]?) (he : H1[th_ad G a]? = some ((arrV (G.2.2.2.1 t) n (fun j => .int (S.2.2 a j))).setSlot j (.int x))) : th_R G (th_pI S a j x) H1 := by
  refine h.set (S' := th_pI S a j x) ha z oq rfl (fun _ _ => rfl) (fun b hb => th_w_ne hb) ha ?_
  have hb : Nat.blt t 4 = true := Nat.ble_eq_true_of_le ht
  show va_at G.2.2.1 th_cl (th_ad G a, th_e G (.inl (t, n, f)) (th_w S.2.2 a j x a)) H1
  simp only [th_e, hb, cond_true]
  show H1[th_ad G a]? = some (vp_cell _ _)
  rw [he, vp_cell_i, arrV_store]
  congr 2
  funext q
  by_cases hq : q = j
  · subst hq
    simp [updV, th_w]
  · simp [updV, hq, th_w_j hq]
theorem th_R.stQ {G : th_G} {S : th_S} {H H1 : Heap} {a t n j b : Nat} {f : Nat → Option Nat} (h : th_R G S H) (ha : S.2.1 a = some (.inl (t, n, f))) (ht : 4 ≤ t) (z : H1.size = H.size) (oq : ∀ q : Nat, q ≠ th_ad G a → H1[q]? = H[q]?) (he : H1[th_ad G a]? = some ((arrV (G.2.2.2.1 t) n (fun j => va_rf ((f j).map (th_ad G)))).setSlot j (.ref (th_ad G b)))) : th_R G (th_pC S a (.inl (t, n, th_u f j b))) H1 := by
  refine h.set (S' := th_pC S a (.inl (t, n, th_u f j b))) ha z oq rfl (fun b hb => th_u_ne hb) (fun _ _ => rfl) th_u_eq ?_
  have hb : Nat.blt t 4 = false := by simp only [Nat.blt]; exact Bool.eq_false_iff.mpr (fun e => absurd (Nat.le_of_ble_eq_true e) (by omega))
  show va_at G.2.2.1 th_cl (th_ad G a, th_e G (.inl (t, n, th_u f j b)) (S.2.2 a)) H1
  simp only [th_e, hb, cond_false]
  show H1[th_ad G a]? = some (vp_cell _ _)
  rw [he, vp_cell_q, arrV_store]
  congr 2
  funext q
  by_cases hq : q = j
  · subst hq
    simp [updV, th_u, va_rf]
  · simp [updV, hq, th_u_ne hq]
theorem th_tyK {G : th_G} {s : State} (h : th_Amb G s) {t : Nat} (ht : t < 6) : ArrOfT s (G.2.2.2.1 t) (th_ty t) ∧ va_RA s (G.2.2.2.1 t) (th_ty t) := by
  match t, ht with
  | 0, _ => exact h.1.2 0 _ rfl
  | 1, _ => exact h.1.2 1 _ rfl
  | 2, _ => exact h.1.2 2 _ rfl
  | 3, _ => exact h.1.2 3 _ rfl
  | 4, _ => exact h.1.2 4 _ rfl
  | 5, _ => exact h.1.2 5 _ rfl
section EVA
variable {G : th_G} {l : Launch} {K : th_M} {d bc bs pc q : Nat} {ls : List (Option Value)} {st : List Value} {S : th_S} {post : Option Value → th_S → Prop}
theorem ev_iald {a n j : Nat} {f : Nat → Option Nat} {i : Int32} (hd : decode K.1 pc = .ok (.iaload, 1)) (ha : S.2.1 a = some (.inl (0, n, f))) (hi : i = nI j) (hj : j < n) (hn : n < 2 ^ 31) (hq : pc + 1 = q) (kk : EV G l K d bc bs q ls (.int (S.2.2 a j) :: st) S post) : EV G l K d bc bs pc ls (.int i :: .ref a :: st) S post := by
  subst hq
  intro p e R s m args below meth c Q F Rt hf hlc H locs cells slots LS hc hs hR hS hL
  exact W.iald (v := .int (S.2.2 a j)) F.1 F.2.1 (hR.arr ha (by decide)) ((th_tyK F.2.2.2.2.2.2 (t := 0) (by decide)).1 n (fun j => .int (S.2.2 a j))) (fun q => by cases q) (by rw [arrV_size]; exact th_nI_in hi hj hn) (by rw [th_nI_cl hi hj hn, arrV_read _ _ hj]) rfl rfl hd (kk p e R s m args below meth c Q F Rt hf hlc H locs cells slots LS hc hs hR hS hL)
theorem ev_bald {a n j : Nat} {f : Nat → Option Nat} {i : Int32} (hd : decode K.1 pc = .ok (.baload, 1)) (ha : S.2.1 a = some (.inl (1, n, f))) (hi : i = nI j) (hj : j < n) (hn : n < 2 ^ 31) (hq : pc + 1 = q) (kk : EV G l K d bc bs q ls (.int (S.2.2 a j) :: st) S post) : EV G l K d bc bs pc ls (.int i :: .ref a :: st) S post := by
  subst hq
  intro p e R s m args below meth c Q F Rt hf hlc H locs cells slots LS hc hs hR hS hL
  exact W.bald (v := .int (S.2.2 a j)) F.1 F.2.1 (hR.arr ha (by decide)) ((th_tyK F.2.2.2.2.2.2 (t := 1) (by decide)).1 n (fun j => .int (S.2.2 a j))) (fun q => by cases q) (by rw [arrV_size]; exact th_nI_in hi hj hn) (by rw [th_nI_cl hi hj hn, arrV_read _ _ hj]) rfl rfl hd (kk p e R s m args below meth c Q F Rt hf hlc H locs cells slots LS hc hs hR hS hL)
theorem ev_cald {a n j : Nat} {f : Nat → Option Nat} {i : Int32} (hd : decode K.1 pc = .ok (.caload, 1)) (ha : S.2.1 a = some (.inl (2, n, f))) (hi : i = nI j) (hj : j < n) (hn : n < 2 ^ 31) (hq : pc + 1 = q) (kk : EV G l K d bc bs q ls (.int (S.2.2 a j) :: st) S post) : EV G l K d bc bs pc ls (.int i :: .ref a :: st) S post := by
  subst hq
  intro p e R s m args below meth c Q F Rt hf hlc H locs cells slots LS hc hs hR hS hL
  exact W.cald (v := .int (S.2.2 a j)) F.1 F.2.1 (hR.arr ha (by decide)) ((th_tyK F.2.2.2.2.2.2 (t := 2) (by decide)).1 n (fun j => .int (S.2.2 a j))) (fun q => by cases q) (by rw [arrV_size]; exact th_nI_in hi hj hn) (by rw [th_nI_cl hi hj hn, arrV_read _ _ hj]) rfl rfl hd (kk p e R s m args below meth c Q F Rt hf hlc H locs cells slots LS hc hs hR hS hL)
theorem ev_zald {a n j : Nat} {f : Nat → Option Nat} {i : Int32} (hd : decode K.1 pc = .ok (.baload, 1)) (ha : S.2.1 a = some (.inl (3, n, f))) (hi : i = nI j) (hj : j < n) (hn : n < 2 ^ 31) (hq : pc + 1 = q) (kk : EV G l K d bc bs q ls (.int (S.2.2 a j) :: st) S post) : EV G l K d bc bs pc ls (.int i :: .ref a :: st) S post := by
  subst hq
  intro p e R s m args below meth c Q F Rt hf hlc H locs cells slots LS hc hs hR hS hL
  exact W.zald (v := .int (S.2.2 a j)) F.1 F.2.1 (hR.arr ha (by decide)) ((th_tyK F.2.2.2.2.2.2 (t := 3) (by decide)).1 n (fun j => .int (S.2.2 a j))) (fun q => by cases q) (by rw [arrV_size]; exact th_nI_in hi hj hn) (by rw [th_nI_cl hi hj hn, arrV_read _ _ hj]) rfl rfl hd (kk p e R s m args below meth c Q F Rt hf hlc H locs cells slots LS hc hs hR hS hL)
theorem ev_iast {a n j : Nat} {f : Nat → Option Nat} {i x : Int32} (hd : decode K.1 pc = .ok (.iastore, 1)) (ha : S.2.1 a = some (.inl (0, n, f))) (hi : i = nI j) (hj : j < n) (hn : n < 2 ^ 31) (hq : pc + 1 = q) (kk : EV G l K d bc bs q ls st (th_pI S a j x) post) : EV G l K d bc bs pc ls (.int x :: .int i :: .ref a :: st) S post := by
  subst hq
  intro p e R s m args below meth c Q F Rt hf hlc H locs cells slots LS hc hs hR hS hL
  refine W.iast F.1 F.2.1 (hR.arr ha (by decide)) ((th_tyK F.2.2.2.2.2.2 (t := 0) (by decide)).1 n (fun j => .int (S.2.2 a j))) (fun q => by cases q) (by rw [arrV_size]; exact th_nI_in hi hj hn) rfl rfl hd (fun H1 e1 e2 e3 => ?_)
  rw [th_nI_cl hi hj hn] at e1
  exact kk p e R s m args below meth c Q F Rt hf hlc H1 _ cells slots LS hc hs (hR.stI ha (by decide) e2 e3 e1) (hS.put e2 e3 (hR.inA ha)) hL
theorem ev_bast {a n j : Nat} {f : Nat → Option Nat} {i x : Int32} (hd : decode K.1 pc = .ok (.bastore, 1)) (ha : S.2.1 a = some (.inl (1, n, f))) (hi : i = nI j) (hj : j < n) (hn : n < 2 ^ 31) (hq : pc + 1 = q) (kk : EV G l K d bc bs q ls st (th_pI S a j (vp_nar .byte x)) post) : EV G l K d bc bs pc ls (.int x :: .int i :: .ref a :: st) S post := by
  subst hq
  intro p e R s m args below meth c Q F Rt hf hlc H locs cells slots LS hc hs hR hS hL
  refine W.bast F.1 F.2.1 (hR.arr ha (by decide)) ((th_tyK F.2.2.2.2.2.2 (t := 1) (by decide)).1 n (fun j => .int (S.2.2 a j))) (fun q => by cases q) (by rw [arrV_size]; exact th_nI_in hi hj hn) rfl rfl hd (fun H1 e1 e2 e3 => ?_)
  rw [th_nI_cl hi hj hn] at e1
  exact kk p e R s m args below meth c Q F Rt hf hlc H1 _ cells slots LS hc hs (hR.stI ha (by decide) e2 e3 e1) (hS.put e2 e3 (hR.inA ha)) hL
theorem ev_cast {a n j : Nat} {f : Nat → Option Nat} {i x : Int32} (hd : decode K.1 pc = .ok (.castore, 1)) (ha : S.2.1 a = some (.inl (2, n, f))) (hi : i = nI j) (hj : j < n) (hn : n < 2 ^ 31) (hq : pc + 1 = q) (kk : EV G l K d bc bs q ls st (th_pI S a j (vp_nar .char x)) post) : EV G l K d bc bs pc ls (.int x :: .int i :: .ref a :: st) S post := by
  subst hq
  intro p e R s m args below meth c Q F Rt hf hlc H locs cells slots LS hc hs hR hS hL
  refine W.cast F.1 F.2.1 (hR.arr ha (by decide)) ((th_tyK F.2.2.2.2.2.2 (t := 2) (by decide)).1 n (fun j => .int (S.2.2 a j))) (fun q => by cases q) (by rw [arrV_size]; exact th_nI_in hi hj hn) rfl rfl hd (fun H1 e1 e2 e3 => ?_)
  rw [th_nI_cl hi hj hn] at e1
  exact kk p e R s m args below meth c Q F Rt hf hlc H1 _ cells slots LS hc hs (hR.stI ha (by decide) e2 e3 e1) (hS.put e2 e3 (hR.inA ha)) hL
theorem ev_zast {a n j : Nat} {f : Nat → Option Nat} {i x : Int32} (hd : decode K.1 pc = .ok (.bastore, 1)) (ha : S.2.1 a = some (.inl (3, n, f))) (hi : i = nI j) (hj : j < n) (hn : n < 2 ^ 31) (hq : pc + 1 = q) (kk : EV G l K d bc bs q ls st (th_pI S a j (vp_nar .boolean x)) post) : EV G l K d bc bs pc ls (.int x :: .int i :: .ref a :: st) S post := by
  subst hq
  intro p e R s m args below meth c Q F Rt hf hlc H locs cells slots LS hc hs hR hS hL
  refine W.zast F.1 F.2.1 (hR.arr ha (by decide)) ((th_tyK F.2.2.2.2.2.2 (t := 3) (by decide)).1 n (fun j => .int (S.2.2 a j))) (fun q => by cases q) (by rw [arrV_size]; exact th_nI_in hi hj hn) rfl rfl hd (fun H1 e1 e2 e3 => ?_)
  rw [th_nI_cl hi hj hn] at e1
  exact kk p e R s m args below meth c Q F Rt hf hlc H1 _ cells slots LS hc hs (hR.stI ha (by decide) e2 e3 e1) (hS.put e2 e3 (hR.inA ha)) hL
theorem ev_aald {a n j b t : Nat} {f : Nat → Option Nat} {i : Int32} (hd : decode K.1 pc = .ok (.aaload, 1)) (ha : S.2.1 a = some (.inl (t, n, f))) (h4 : 4 ≤ t) (h6 : t < 6) (hi : i = nI j) (hj : j < n) (hn : n < 2 ^ 31) (hb : f j = some b) (hq : pc + 1 = q) (kk : EV G l K d bc bs q ls (.ref b :: st) S post) : EV G l K d bc bs pc ls (.int i :: .ref a :: st) S post := by
  subst hq
  intro p e R s m args below meth c Q F Rt hf hlc H locs cells slots LS hc hs hR hS hL
  have hty : (th_ty t).isReference = true := by
    rcases (show t = 4 ∨ t = 5 by omega) with rfl | rfl <;> rfl
  exact W.aald (v := .ref (th_ad G b)) (ty := th_ty t) F.1 F.2.1 (hR.arq ha h4) ((th_tyK F.2.2.2.2.2.2 h6).1 n (fun j => va_rf ((f j).map (th_ad G)))) hty (fun q => by cases q) (by rw [arrV_size]; exact th_nI_in hi hj hn) (by rw [th_nI_cl hi hj hn, arrV_read _ _ hj, hb]; rfl) rfl rfl hd (kk p e R s m args below meth c Q F Rt hf hlc H locs cells slots LS hc hs hR hS hL)
/-- a reference is stored: the object's class goes into the array's -/
def th_as (ci t : Nat) : Prop := (ci = 7 ∧ t = 4) ∨ (t = 5 ∧ ∃ (C : String) (T : u_T) (N : Nat), th_cl[ci]? = some (C, T, N) ∧ Cond.castable C "java/lang/Object" ∈ th_N)
theorem ev_aast {a n j b t ci : Nat} {f g : Nat → Option Nat} {i : Int32} (hd : decode K.1 pc = .ok (.aastore, 1)) (ha : S.2.1 a = some (.inl (t, n, f))) (hb : S.2.1 b = some (.inr (ci, g))) (has : th_as ci t) (hi : i = nI j) (hj : j < n) (hn : n < 2 ^ 31) (hq : pc + 1 = q) (kk : EV G l K d bc bs q ls st (th_pC S a (.inl (t, n, th_u f j b))) post) : EV G l K d bc bs pc ls (.ref b :: .int i :: .ref a :: st) S post := by
  subst hq
  intro p e R s m args below meth c Q F Rt hf hlc H locs cells slots LS hc hs hR hS hL
  have h4 : 4 ≤ t := by
    rcases has with ⟨-, rfl⟩ | ⟨rfl, -⟩ <;> decide
  have h6 : t < 6 := by
    rcases has with ⟨-, rfl⟩ | ⟨rfl, -⟩ <;> decide
  have hK := F.2.2.2.2.2.2.1
  have hob := hR.get hb
  obtain ⟨r, hr, cellV, g1, g2, g3, -⟩ := hob
  have hcls := (hK.1 ci r hr).2
  obtain ⟨C, hC, kA, comp, k1, k2, k3, hasg⟩ : ∃ (C : String), th_ty t = .object C ∧ ∃ (kA : Class) (comp : ClassId), s.vm.classes[G.2.2.2.1 t]? = some kA ∧ kA.kind = .array comp (.object C) ∧ s.vm.findClass C = some comp ∧ s.vm.assignable (G.2.2.1.1 ci) comp = true := by
    rcases has with ⟨rfl, rfl⟩ | ⟨rfl, C1, T1, N1, hcl1, hca⟩
    · obtain ⟨kA, comp, k1, k2, k3, -⟩ := (th_tyK F.2.2.2.2.2.2 h6).2
      have hr7 : r = (RX7, TX7, 4) := Option.some.inj (hr.symm.trans rfl)
      subst hr7
      have hcomp : comp = G.2.2.1.1 7 := Option.some.inj (k3.symm.trans hcls.1)
      subst hcomp
      exact ⟨_, rfl, kA, _, k1, k2, k3, va_assign hcls⟩
    · obtain ⟨kA, comp, k1, k2, k3, -⟩ := (th_tyK F.2.2.2.2.2.2 h6).2
      have hr1 : r = (C1, T1, N1) := Option.some.inj (hr.symm.trans hcl1)
      subst hr1
      obtain ⟨c0, t1, f1, f2, f3⟩ := Cond.castable_spec (va_Nw.use (A := args) rfl (F.2.2.2.2.2.2.2.1 _ hca))
      cases hcls.1.symm.trans f1
      cases k3.symm.trans f2
      exact ⟨_, rfl, kA, comp, k1, k2, k3, f3⟩
  obtain ⟨kE, hkE, -⟩ := Vm.findClass_spec k3
  obtain ⟨kC, hkC, -⟩ := hcls.2
  refine W.aast F.1 F.2.1 (hR.arq ha h4) (fun q h => by cases h) (fun h => by cases h) k1 k2 rfl hkE ⟨by rw [hi]; exact nI_pos (Nat.lt_trans hj hn), by rw [th_nI_cl hi hj hn, arrV_size]; exact hj⟩ g1 (fun q h => by rw [g3] at h; cases h) (by rw [g2]; exact hkC) (by rw [g2]; exact hasg) rfl rfl hd (fun H1 e1 e2 e3 => ?_)
  rw [th_nI_cl hi hj hn] at e1
  exact kk p e R s m args below meth c Q F Rt hf hlc H1 _ cells slots LS hc hs (hR.stQ ha h4 e2 e3 e1) (hS.put e2 e3 (hR.inA ha)) hL
theorem ev_alen {a n t : Nat} {f : Nat → Option Nat} (hd : decode K.1 pc = .ok (.arraylength, 1)) (ha : S.2.1 a = some (.inl (t, n, f))) (h6 : t < 6) (hq : pc + 1 = q) (kk : EV G l K d bc bs q ls (.int (nI n) :: st) S post) : EV G l K d bc bs pc ls (.ref a :: st) S post := by
  subst hq
  intro p e R s m args below meth c Q F Rt hf hlc H locs cells slots LS hc hs hR hS hL
  by_cases h4 : t < 4
  · exact W.alen (n := nI n) F.1 F.2.1 (hR.arr ha h4) ((th_tyK F.2.2.2.2.2.2 h6).1 n (fun j => .int (S.2.2 a j))) (by rw [arrV_size]; rfl) rfl rfl hd (kk p e R s m args below meth c Q F Rt hf hlc H locs cells slots LS hc hs hR hS hL)
  · exact W.alen (n := nI n) F.1 F.2.1 (hR.arq ha (Nat.le_of_not_lt h4)) ((th_tyK F.2.2.2.2.2.2 h6).1 n (fun j => va_rf ((f j).map (th_ad G)))) (by rw [arrV_size]; rfl) rfl rfl hd (kk p e R s m args below meth c Q F Rt hf hlc H locs cells slots LS hc hs hR hS hL)
/-! the old arrays: the script (0), NO_CELLS (1), the lists' empty array (2) -/
theorem ev_xalen {a n : Nat} (hd : decode K.1 pc = .ok (.arraylength, 1)) (ha : (a = 0 ∧ n = G.2.2.2.2.1) ∨ (a = 2 ∧ n = 0)) (hq : pc + 1 = q) (kk : EV G l K d bc bs q ls (.int (nI n) :: st) S post) : EV G l K d bc bs pc ls (.ref a :: st) S post := by
  subst hq
  intro p e R s m args below meth c Q F Rt hf hlc H locs cells slots LS hc hs hR hS hL
  obtain ⟨-, -, -, -, ⟨t0, t1, t2⟩, -⟩ := F.2.2.2.2.2.2
  have kept : ∀ (ty : FieldType) (t N : Nat) (f : Nat → Value), va_T ty t N f (th_A G) s s.heap → va_T ty t N f (th_A G) s H := fun ty t N f h => h.kept hS.2.1
  rcases ha with ⟨rfl, rfl⟩ | ⟨rfl, rfl⟩
  · obtain ⟨cell, h1, h2, h3, h4, h5, -⟩ := kept _ _ _ _ t0
    exact W.alen F.1 F.2.1 h1 h2 h5 rfl rfl hd (kk p e R s m args below meth c Q F Rt hf hlc H locs cells slots LS hc hs hR hS hL)
  · obtain ⟨cell, h1, h2, h3, h4, h5, -⟩ := kept _ _ _ _ t2
    exact W.alen F.1 F.2.1 h1 h2 h5 rfl rfl hd (kk p e R s m args below meth c Q F Rt hf hlc H locs cells slots LS hc hs hR hS hL)
theorem ev_xald {a n j : Nat} {g : Nat → Int32} {i : Int32} (hd : decode K.1 pc = .ok (.iaload, 1)) (ha : (a = 0 ∧ n = G.2.2.2.2.1 ∧ g = G.2.2.2.2.2) ∨ (a = 1 ∧ n = 5 ∧ g = fun _ => 0)) (hi : i = nI j) (hj : j < n) (hn : n < 2 ^ 31) (hq : pc + 1 = q) (kk : EV G l K d bc bs q ls (.int (g j) :: st) S post) : EV G l K d bc bs pc ls (.int i :: .ref a :: st) S post := by
  subst hq
  intro p e R s m args below meth c Q F Rt hf hlc H locs cells slots LS hc hs hR hS hL
  obtain ⟨-, -, -, -, ⟨t0, t1, t2⟩, -⟩ := F.2.2.2.2.2.2
  have kept : ∀ (ty : FieldType) (t N : Nat) (f : Nat → Value), va_T ty t N f (th_A G) s s.heap → va_T ty t N f (th_A G) s H := fun ty t N f h => h.kept hS.2.1
  rcases ha with ⟨rfl, rfl, rfl⟩ | ⟨rfl, rfl, rfl⟩
  · obtain ⟨cell, h1, h2, h3, h4, h5, h6, -⟩ := kept _ _ _ _ t0
    exact W.iald F.1 F.2.1 h1 h2 h3 (by rw [hi]; exact fun z => z.elim (nI_pos (Nat.lt_trans hj hn)) (fun y => by rw [nI_clamp (Nat.lt_trans hj hn)] at y; omega)) (by rw [th_nI_cl hi hj hn]; exact h6 j hj) rfl rfl hd (kk p e R s m args below meth c Q F Rt hf hlc H locs cells slots LS hc hs hR hS hL)
  · obtain ⟨cell, h1, h2, h3, h4, h5, h6, -⟩ := kept _ _ _ _ t1
    exact W.iald F.1 F.2.1 h1 h2 h3 (by rw [hi]; exact fun z => z.elim (nI_pos (Nat.lt_trans hj hn)) (fun y => by rw [nI_clamp (Nat.lt_trans hj hn)] at y; omega)) (by rw [th_nI_cl hi hj hn]; exact h6 j hj) rfl rfl hd (kk p e R s m args below meth c Q F Rt hf hlc H locs cells slots LS hc hs hR hS hL)
theorem ev_getNC {i : Nat} (hd : decode K.1 pc = .ok (.getstatic i, 3)) (hw : Cond.fieldLink K.2.1 i "TriggerHall" "NO_CELLS" "[I" ∈ th_W) (hq : pc + 3 = q) (kk : EV G l K d bc bs q ls (.ref 1 :: st) S post) : EV G l K d bc bs pc ls st S post := by
  subst hq
  intro p e R s m args below meth c Q F Rt hf hlc H locs cells slots LS hc hs hR hS hL
  obtain ⟨-, -, -, -, -, ⟨z1, z2⟩, -⟩ := F.2.2.2.2.2.2
  exact va_gets F.1 F.2.1 z1 hS F.2.2.2.1 (F.2.2.2.2.2.1 _ hw) (fun _ h => h) hd (kk p e R s m args below meth c Q F Rt hf hlc H locs cells slots LS hc hs hR hS hL)
theorem ev_getDC {i : Nat} (hd : decode K.1 pc = .ok (.getstatic i, 3)) (hw : Cond.fieldLink K.2.1 i th_AL "DEFAULTCAPACITY_EMPTY_ELEMENTDATA" "[Ljava/lang/Object;" ∈ th_W) (hq : pc + 3 = q) (kk : EV G l K d bc bs q ls (.ref 2 :: st) S post) : EV G l K d bc bs pc ls st S post := by
  subst hq
  intro p e R s m args below meth c Q F Rt hf hlc H locs cells slots LS hc hs hR hS hL
  obtain ⟨-, -, -, -, -, ⟨z1, z2⟩, -⟩ := F.2.2.2.2.2.2
  exact va_gets F.1 F.2.1 z2 hS F.2.2.2.1 (F.2.2.2.2.2.1 _ hw) (fun _ h => h) hd (kk p e R s m args below meth c Q F Rt hf hlc H locs cells slots LS hc hs hR hS hL)
/-! cells that are made -/
theorem ev_newa {t n : Nat} {i : Int32} {at0 : ArrayType} (hd : decode K.1 pc = .ok (.newarray at0, 2)) (hty : newarray.typeOf at0 = th_ty t) (ht : t < 4) (hw : Cond.arrayClass (th_ty t) ∈ th_W) (hi : i = nI n) (hn : n ≤ 1000) (hq : pc + 2 = q) (kk : EV G l K d bc bs q ls (.ref S.1 :: st) (th_nw S (.inl (t, n, fun _ => none))) post) : EV G l K d (bc + 1) (bs + n) pc ls (.int i :: st) S post := by
  subst hq
  intro p e R s m args below meth c Q F Rt hf hlc H locs cells slots LS hc hs hR hS hL
  have hnc : i.toNatClampNeg = n := by rw [hi]; exact nI_clamp (by omega)
  have hbig : n * componentBytes (newarray.typeOf at0) ≤ 536870912 := by
    have : componentBytes (newarray.typeOf at0) ≤ 8 := by
      rw [hty]
      rcases (show t = 0 ∨ t = 1 ∨ t = 2 ∨ t = 3 by omega) with rfl | rfl | rfl | rfl <;> decide
    exact Nat.le_trans (Nat.mul_le_mul hn this) (by decide)
  refine va_newaK F.1 F.2.1 (by rw [hty]; exact F.2.2.2.2.2.1 _ hw) rfl hd rfl (by rw [hi]; exact nI_pos (by omega)) hnc hbig (by omega) (by omega) rfl (fun H1 cA e1 z1 o1 hAr hNm => ?_)
  have hcA : cA = G.2.2.2.1 t := by
    have h2 := (th_tyK F.2.2.2.2.2.2 (t := t) (by omega)).2
    rw [hty] at hNm
    rcases (show t = 0 ∨ t = 1 ∨ t = 2 ∨ t = 3 by omega) with rfl | rfl | rfl | rfl <;> exact Option.some.inj (hNm.symm.trans h2)
  subst hcA
  obtain ⟨hR1, had⟩ := hR.push (c := .inl (t, n, fun _ => none)) z1 o1 (by
    have hb : Nat.blt t 4 = true := Nat.ble_eq_true_of_le ht
    simp only [th_e, hb, cond_true]
    show H1[H.size]? = some (vp_cell _ _)
    rw [e1, vp_cell_i, hty]
    rcases (show t = 0 ∨ t = 1 ∨ t = 2 ∨ t = 3 by omega) with rfl | rfl | rfl | rfl <;> rfl)
  have k1 := kk p e R s m args below meth c Q F Rt hf hlc H1 locs (cells + 1) (slots + n) LS (by omega) (by omega) hR1 (th_S_push hS z1 o1) hL
  simp only [List.map_cons, th_v, had] at k1
  exact k1
theorem ev_newq {t n i0 : Nat} {i : Int32} {C : String} (hd : decode K.1 pc = .ok (.anewarray i0, 3)) (ht : (t = 4 ∧ C = "TriggerHall$Sheet") ∨ (t = 5 ∧ C = "java/lang/Object")) (hw : Cond.classLink K.2.1 i0 C ∈ th_W) (hi : i = nI n) (hn : n ≤ 1000) (hq : pc + 3 = q) (kk : EV G l K d bc bs q ls (.ref S.1 :: st) (th_nw S (.inl (t, n, fun _ => none))) post) : EV G l K d (bc + 1) (bs + n) pc ls (.int i :: st) S post := by
  subst hq
  intro p e R s m args below meth c Q F Rt hf hlc H locs cells slots LS hc hs hR hS hL
  have hnc : i.toNatClampNeg = n := by rw [hi]; exact nI_clamp (by omega)
  have hAO : va_AO C s := by
    rcases ht with ⟨-, rfl⟩ | ⟨-, rfl⟩
    · exact F.2.2.2.2.2.2.2.2.2.1.2
    · exact F.2.2.2.2.2.2.2.2.2.1.1
  have htC : th_ty t = .object C := by rcases ht with ⟨rfl, rfl⟩ | ⟨rfl, rfl⟩ <;> rfl
  have h6 : t < 6 := by rcases ht with ⟨rfl, -⟩ | ⟨rfl, -⟩ <;> decide
  have h4 : 4 ≤ t := by rcases ht with ⟨rfl, -⟩ | ⟨rfl, -⟩ <;> decide
  refine W.anew F.1 F.2.1 F.2.2.2.1 (F.2.2.2.2.2.1 _ hw) (va_AO.use hAO) rfl hd rfl (by rw [hi]; exact nI_pos (by omega)) (by rw [hnc]; omega) (by omega) (by rw [hnc]; omega) (fun cA kA comp f1 f2 f3 f4 => ?_)
  have hcA : cA = G.2.2.2.1 t := by
    have h2 := (th_tyK F.2.2.2.2.2.2 (t := t) h6).2
    rw [htC] at h2
    obtain ⟨-, -, -, -, -, h3⟩ := h2
    exact Option.some.inj (f1.symm.trans h3)
  subst hcA
  rw [hnc]
  generalize hH1 : H.push ({ cls := G.2.2.2.1 t, slots := Array.replicate n .null, vm := .none } : Cell) = H1
  have z1 : H1.size = H.size + 1 := by rw [← hH1, Array.size_push]
  have e1 : H1[H.size]? = some (arrV (G.2.2.2.1 t) n (fun _ => .null)) := by rw [← hH1, Array.getElem?_push_size, ← arrV_new]
  have o1 : ∀ q : Nat, q < H.size → H1[q]? = H[q]? := fun q hq => by rw [← hH1, Array.getElem?_push, if_neg (Nat.ne_of_lt hq)]
  obtain ⟨hR1, had⟩ := hR.push (c := .inl (t, n, fun _ => none)) z1 o1 (by
    have hb : Nat.blt t 4 = false := by simp only [Nat.blt]; exact Bool.eq_false_iff.mpr (fun e => absurd (Nat.le_of_ble_eq_true e) (by omega))
    simp only [th_e, hb, cond_false]
    show H1[H.size]? = some (vp_cell _ _)
    rw [e1, vp_cell_q]
    rfl)
  have k1 := kk p e R s m args below meth c Q F Rt hf hlc H1 locs (cells + 1) (slots + n) LS (by omega) (by omega) hR1 (th_S_push hS z1 o1) hL
  simp only [List.map_cons, th_v, had] at k1
  exact k1
theorem th_dv : ∀ ci, ci < 12 → ∀ j, j < th_nf ci → defaultValue (th_ft ci j) = cond (th_ir ci j) .null (.int 0) := by decide
theorem ev_new {ci i N : Nat} {C : String} {T : u_T} (hd : decode K.1 pc = .ok (.new i, 3)) (hcl : th_cl[ci]? = some (C, T, N)) (w1 : Cond.classLink K.2.1 i C ∈ th_W) (w2 : Cond.instantiable C N ∈ th_W) (w3 : Cond.initialized C ∈ th_W) (hq : pc + 3 = q) (kk : EV G l K d bc bs q ls (.ref S.1 :: st) (th_nw S (.inr (ci, fun _ => none))) post) : EV G l K d (bc + 1) (bs + N) pc ls st S post := by
  subst hq
  intro p e R s m args below meth c Q F Rt hf hlc H locs cells slots LS hc hs hR hS hL
  have hts := F.2.2.2.2.2.1
  have hK := F.2.2.2.2.2.2.1
  obtain ⟨hin, hty, hnm, h4⟩ := th_cls hcl
  have hKn := hK.1 ci _ hcl
  refine W.newcK F.1 F.2.1 F.2.2.2.1 (hts _ w1) (hts _ w2) (hts _ w3) rfl hd (by omega) (by omega) hKn.2.1 rfl (fun H1 kC hkC e1 z1 o1 => ?_)
  have hci : ci < 12 := (List.getElem?_eq_some_iff.mp hcl).1
  obtain ⟨hR1, had⟩ := hR.push (c := .inr (ci, fun _ => none)) z1 o1 ⟨_, hcl, (u_born (th_ft ci) hts hin hKn hkC e1 hty).to (fun j hj => by
    have hj : j < N := hj
    show defaultValue (th_ft ci j) = ((List.range (th_nf ci)).map (th_fv G ci (fun _ => none) (fun _ => 0))).getD j .null
    rw [List.getD_eq_getElem?_getD, th_fs_get (by rw [← h4]; exact hj), th_dv ci hci j (by rw [← h4]; exact hj)]
    rfl)⟩
  have k1 := kk p e R s m args below meth c Q F Rt hf hlc H1 locs (cells + 1) (slots + N) LS (by omega) (by omega) hR1 (th_S_push hS z1 o1) hL
  simp only [List.map_cons, th_v, had] at k1
  exact k1
theorem ev_acmp_eq {a b : Nat} {off : Int} {t : Nat} (hd : decode K.1 pc = .ok (.if_acmp .eq off, 3)) (hq : pc + 3 = q) (ht : (pc : Int) + off = (t : Int)) (kt : th_ad G a = th_ad G b → EV G l K d bc bs t ls st S post) (kf : ¬ th_ad G a = th_ad G b → EV G l K d bc bs q ls st S post) : EV G l K d bc bs pc ls (.ref b :: .ref a :: st) S post := by
  subst hq
  intro p e R s m args below meth c Q F Rt hf hlc H locs cells slots LS hc hs hR hS hL
  exact lv_acmp_eq (rx := some (th_ad G a)) (ry := some (th_ad G b)) F.1 F.2.1 hd ht (fun h => kt (Option.some.inj h) p e R s m args below meth c Q F Rt hf hlc H locs cells slots LS hc hs hR hS hL) (fun h => kf (fun z => h (congrArg some z)) p e R s m args below meth c Q F Rt hf hlc H locs cells slots LS hc hs hR hS hL)
theorem ev_acmp_ne {a b : Nat} {off : Int} {t : Nat} (hd : decode K.1 pc = .ok (.if_acmp .ne off, 3)) (hq : pc + 3 = q) (ht : (pc : Int) + off = (t : Int)) (kt : ¬ th_ad G a = th_ad G b → EV G l K d bc bs t ls st S post) (kf : th_ad G a = th_ad G b → EV G l K d bc bs q ls st S post) : EV G l K d bc bs pc ls (.ref b :: .ref a :: st) S post := by
  subst hq
  intro p e R s m args below meth c Q F Rt hf hlc H locs cells slots LS hc hs hR hS hL
  exact lv_acmp_ne (rx := some (th_ad G a)) (ry := some (th_ad G b)) F.1 F.2.1 hd ht (fun h => kt (fun z => h (congrArg some z)) p e R s m args below meth c Q F Rt hf hlc H locs cells slots LS hc hs hR hS hL) (fun h => kf (Option.some.inj h) p e R s m args below meth c Q F Rt hf hlc H locs cells slots LS hc hs hR hS hL)
theorem ev_chk {a ci i : Nat} {f : Nat → Option Nat} {C : String} {T : u_T} {N : Nat} (hd : decode K.1 pc = .ok (.checkcast i, 3)) (ha : S.2.1 a = some (.inr (ci, f))) (hcl : th_cl[ci]? = some (C, T, N)) (hw : Cond.classLink K.2.1 i C ∈ th_W) (hq : pc + 3 = q) (kk : EV G l K d bc bs q ls (.ref a :: st) S post) : EV G l K d bc bs pc ls (.ref a :: st) S post := by
  subst hq
  intro p e R s m args below meth c Q F Rt hf hlc H locs cells slots LS hc hs hR hS hL
  have hK := F.2.2.2.2.2.2.1
  exact va_castS F.1 F.2.1 F.2.2.2.1 (F.2.2.2.2.2.1 _ hw) (hK.1 ci _ hcl).2 (va_recv hK (th_P1 (hR.get ha)) (q0 := 0) hcl rfl) hd (kk p e R s m args below meth c Q F Rt hf hlc H locs cells slots LS hc hs hR hS hL)
end EVA
end
section
/-! calls -/
def th_post (G : th_G) (P : Option Value → th_S → Prop) : State → Outcome → State → Prop := fun st oc t => (∃ (r : Option Value) (S' : th_S), oc = .returned (r.map (th_v G)) ∧ P r S' ∧ th_R G S' t.heap) ∧ va_F (th_A G) st t
theorem th_blind {G : th_G} {S : th_S} {As : List Value} : FrameBlind (va_Pc (As.map (th_v G)) (fun U => th_R G S U.heap ∧ th_Amb G U)) := by
  intro a U g mk h
  obtain ⟨h1, h2, h3⟩ := h
  exact ⟨h1, h2, h3.moved (U := U.calling g mk a) (State.WarmedH.refl U) (fun _ _ _ => rfl) h3.2.2.2.2.2.2.2⟩
theorem th_good {y : MethodName} {Ky : th_M} (h : Cond.code y Ky.1 Ky.2.2.1 Ky.2.2.2.1 ∈ th_W) : GoodIn th_W (Cond.code y Ky.1 Ky.2.2.1 Ky.2.2.2.1 :: th_W) := by
  intro w hw
  rcases List.mem_cons.mp hw with rfl | hw
  · exact ⟨h, good_of_word (List.mem_filter.mp h).2⟩
  · exact ⟨hw, good_of_word (List.mem_filter.mp hw).2⟩
/-- what a call needs of its callee: its code, its class, how many parameters -/
def th_cB (y : MethodName) (Ky : th_M) (n : Nat) : Prop := Cond.code y Ky.1 Ky.2.2.1 Ky.2.2.2.1 ∈ th_W ∧ Cond.initialized y.cls ∈ th_W ∧ (y.cls ≠ "java/lang/invoke/MethodHandle" ∧ y.cls ≠ "java/lang/invoke/VarHandle" ∧ (parseMethodDescriptor y.desc).map (fun d => d.parameters.length) = some n) ∧ Ky.2.2.1 ≤ 21
def th_lk (own : String) (i : Nat) (y : MethodName) : Prop := Cond.methodLink own i y ∈ th_W ∨ ∃ host, Cond.methodLinkNest own i y host ∈ th_N
def th_cV (own : String) (i : Nat) (y : MethodName) (Ky : th_M) (n : Nat) : Prop := th_cB y Ky n ∧ th_lk own i y ∧ Cond.instanceMethod y ∈ th_W ∧ Cond.selects y.cls y y ∈ th_W
def th_cS (own : String) (i : Nat) (y : MethodName) (Ky : th_M) (n : Nat) : Prop := th_cB y Ky n ∧ th_lk own i y ∧ Cond.static y ∈ th_W
def th_cI (own : String) (i : Nat) (y : MethodName) (Ky : th_M) (n : Nat) : Prop := th_cB y Ky n ∧ th_lk own i y ∧ Cond.instanceMethod y ∈ th_W ∧ y.name = "<init>" ∧ Ky.2.2.2.1 = none
theorem th_mapS {G : th_G} (r : Option Value) (st : List Value) : (r.toList ++ st).map (th_v G) = (r.map (th_v G)).toList ++ st.map (th_v G) := by cases r <;> simp
theorem th_catS {G : th_G} {st : List Value} (h : (st.map fun v => v.category).sum ≤ 8) : ((st.map (th_v G)).map fun v => v.category).sum ≤ 8 := by
  rw [List.map_map]
  have : ((fun v : Value => v.category) ∘ th_v G) = fun v => v.category := by funext v; exact th_v_cat G v
  rw [this]
  exact h
section EVC
variable {G : th_G} {l : Launch} {K : th_M} {d bc bs pc q : Nat} {ls : List (Option Value)} {st : List Value} {S : th_S} {post : Option Value → th_S → Prop}
theorem th_pre {p : Program} {s : State} {m : MethodId} {args : Array Value} {meth : Method} {c : Code} {H : Heap} {locs : List Loc} (F : th_Fix G K p s m args meth c) (hR : th_R G S H) (hS : va_S (th_A G) s.heap H locs) (As : List Value) : ∀ U : State, U.heap = H → s.WarmedH U.vm → va_Pc (As.map (th_v G)) (fun U => th_R G S U.heap ∧ th_Amb G U) (As.map (th_v G)).toArray U := by
  intro U hU hW
  have hAmb := F.2.2.2.2.2.2
  exact ⟨rfl, by rw [hU]; exact hR, hAmb.moved hW (by rw [hU]; exact hS.2.1) (by rw [hU]; exact Nat.le_trans hAmb.2.2.2.2.2.2.2 hS.1)⟩
theorem th_goes {p : Program} {e : Env} {R : Room} {s : State} {m : MethodId} {args : Array Value} {below : List Frame} {meth : Method} {c : Code} {Q : State → Prop} {H : Heap} {locs : List Loc} {cells slots mc ms : Nat} {LS : Array Slot} {rest st0 : List Value} {P : Option Value → th_S → Prop} (hr : va_Run p l e R s m args below meth c H locs cells slots mc ms (F0 m pc LS st0) rest (th_post G P) (th_A G)) (hS : va_S (th_A G) s.heap H locs)
    (kk : ∀ (r : Option Value) (S' : th_S) (H1 : Heap) (locs1 : List Loc), P r S' → th_R G S' H1 → va_S (th_A G) s.heap H1 locs1 → W p l e R s m args below meth c H1 locs1 (cells + mc) (slots + ms) Q (F0 m (pc + 3) LS ((r.map (th_v G)).toList ++ rest))) : W p l e R s m args below meth c H locs cells slots Q (F0 m pc LS st0) := by
  intro T hT X
  obtain ⟨v, st₀, t, T', L, h0, X', hL, e1, e2, ⟨⟨r, S', hv, hp, hR1⟩, hz, hk⟩, st⟩ := hr T hT X
  cases hv
  rw [h0] at hz hk
  obtain ⟨t2, a1, b1⟩ := kk r S' T'.heap (locs ++ L) hp (by rw [e1]; exact hR1)
    ⟨Nat.le_trans hS.1 (by rw [e1]; exact hz), fun q h1 h2 => by rw [e1, hk q (Nat.lt_of_lt_of_le h1 hS.1) h2]; exact hS.2.1 q h1 h2, fun q hq => by
      rcases List.mem_append.mp hq with h | h
      · exact hS.2.2 q h
      · exact hL q h⟩ T' rfl X'
  exact ⟨t2, st t2 a1, b1⟩
theorem th_goes5 {p : Program} {e : Env} {R : Room} {s : State} {m : MethodId} {args : Array Value} {below : List Frame} {meth : Method} {c : Code} {Q : State → Prop} {H : Heap} {locs : List Loc} {cells slots mc ms : Nat} {LS : Array Slot} {rest st0 : List Value} {P : Option Value → th_S → Prop} (hr : va_Run5 p l e R s m args below meth c H locs cells slots mc ms (F0 m pc LS st0) rest (th_post G P) (th_A G)) (hS : va_S (th_A G) s.heap H locs)
    (kk : ∀ (r : Option Value) (S' : th_S) (H1 : Heap) (locs1 : List Loc), P r S' → th_R G S' H1 → va_S (th_A G) s.heap H1 locs1 → W p l e R s m args below meth c H1 locs1 (cells + mc) (slots + ms) Q (F0 m (pc + 5) LS ((r.map (th_v G)).toList ++ rest))) : W p l e R s m args below meth c H locs cells slots Q (F0 m pc LS st0) := by
  intro T hT X
  obtain ⟨v, st₀, t, T', L, h0, X', hL, e1, e2, ⟨⟨r, S', hv, hp, hR1⟩, hz, hk⟩, st⟩ := hr T hT X
  cases hv
  rw [h0] at hz hk
  obtain ⟨t2, a1, b1⟩ := kk r S' T'.heap (locs ++ L) hp (by rw [e1]; exact hR1)
    ⟨Nat.le_trans hS.1 (by rw [e1]; exact hz), fun q h1 h2 => by rw [e1, hk q (Nat.lt_of_lt_of_le h1 hS.1) h2]; exact hS.2.1 q h1 h2, fun q hq => by
      rcases List.mem_append.mp hq with h | h
      · exact hS.2.2 q h
      · exact hL q h⟩ T' rfl X'
  exact ⟨t2, st t2 a1, b1⟩
theorem ev_cV {a i n ci d1 c1 s1 : Nat} {y : MethodName} {Ky : th_M} {As : List Value} {f : Nat → Option Nat} {T : u_T} {N : Nat} {P : Option Value → th_S → Prop} (hM : MT G l y Ky d1 c1 s1 (.ref a :: As) S P) (hd : decode K.1 pc = .ok (.invokevirtual i, 3)) (hw : th_cV K.2.1 i y Ky n) (ha : S.2.1 a = some (.inr (ci, f))) (hcl : th_cl[ci]? = some (y.cls, T, N)) (hn : As.length = n) (hst : (st.map fun v => v.category).sum ≤ 8) (hd1 : d1 + 1 ≤ d) (hq : pc + 3 = q) {st0 : List Value} (hst0 : As.reverse ++ .ref a :: st = st0) (kk : ∀ (r : Option Value) (S1 : th_S), P r S1 → EV G l K d bc bs q ls (r.toList ++ st) S1 post) : EV G l K d (bc + c1) (bs + s1) pc ls st0 S post := by
  subst hq
  intro p e R s m args below meth c Q F Rt hf hlc H locs cells slots LS hc hs hR hS hL
  have hts := F.2.2.2.2.2.1
  obtain ⟨⟨w1, w2, w3, w4⟩, hw⟩ := hw
  have hroom : d1 + 1 ≤ R.frames ∧ 8 + (Ky.2.2.1 + 11) + 40 * d1 ≤ R.locals := ⟨by omega, by omega⟩
  have hG := th_good (Ky := Ky) w1
  subst hst0
  obtain ⟨hl, hin, hse⟩ := hw
  have hK := F.2.2.2.2.2.2.1
  have hrecv := va_recv hK (th_P1 (hR.get ha)) (q0 := 0) hcl rfl
  have hstk : (As.reverse ++ .ref a :: st).map (th_v G) = (As.map (th_v G)).reverse ++ .ref (th_ad G a) :: st.map (th_v G) := by simp [th_v]
  rw [hstk]
  refine th_goes (P := P) (rest := st.map (th_v G)) (mc := c1) (ms := s1) ?_ hS (fun r S1 H1 locs1 hp hR1 hS1 => ?_)
  · rcases hl with hl | ⟨host, hl⟩
    · exact va_runV (As := As.map (th_v G)) (rest := st.map (th_v G)) (n := n) ⟨F.1, F.2.1, F.2.2.1, F.2.2.2.1, hts⟩ hM ⟨callB_of n hts hG rfl rfl rfl (hts _ w2) (hts _ hl) w3 hroom, hts _ hin, hts _ hse⟩ ⟨th_blind, hrecv, th_pre F hR hS (.ref a :: As)⟩ rfl (by simpa using hn) hL.1 rfl (lv_room (th_catS hst)) hd ⟨by omega, by omega⟩
    · exact va_runVN (As := As.map (th_v G)) (rest := st.map (th_v G)) (n := n) ⟨F.1, F.2.1, F.2.2.1, F.2.2.2.1, hts⟩ hM ⟨va_cnB n hts hG rfl rfl rfl (F.2.2.2.2.2.2.2.1 _ hl) (hts _ w2) w3 hroom, hts _ hin, hts _ hse⟩ ⟨th_blind, hrecv, th_pre F hR hS (.ref a :: As)⟩ rfl (by simpa using hn) hL.1 rfl (lv_room (th_catS hst)) hd ⟨by omega, by omega⟩
  · rw [← th_mapS]
    exact kk r S1 hp p e R s m args below meth c Q F Rt hf hlc H1 locs1 (cells + c1) (slots + s1) LS (by omega) (by omega) hR1 hS1 hL
theorem ev_cS {i n d1 c1 s1 : Nat} {y : MethodName} {Ky : th_M} {As : List Value} {P : Option Value → th_S → Prop} (hM : MT G l y Ky d1 c1 s1 As S P) (hd : decode K.1 pc = .ok (.invokestatic i, 3)) (hw : th_cS K.2.1 i y Ky n) (hn : As.length = n) (hst : (st.map fun v => v.category).sum ≤ 8) (hd1 : d1 + 1 ≤ d) (hq : pc + 3 = q) {st0 : List Value} (hst0 : As.reverse ++ st = st0) (kk : ∀ (r : Option Value) (S1 : th_S), P r S1 → EV G l K d bc bs q ls (r.toList ++ st) S1 post) : EV G l K d (bc + c1) (bs + s1) pc ls st0 S post := by
  subst hq
  intro p e R s m args below meth c Q F Rt hf hlc H locs cells slots LS hc hs hR hS hL
  have hts := F.2.2.2.2.2.1
  obtain ⟨⟨w1, w2, w3, w4⟩, hw⟩ := hw
  have hroom : d1 + 1 ≤ R.frames ∧ 8 + (Ky.2.2.1 + 11) + 40 * d1 ≤ R.locals := ⟨by omega, by omega⟩
  have hG := th_good (Ky := Ky) w1
  subst hst0
  obtain ⟨hl, hse⟩ := hw
  have hstk : (As.reverse ++ st).map (th_v G) = (As.map (th_v G)).reverse ++ st.map (th_v G) := by simp
  rw [hstk]
  refine th_goes (P := P) (rest := st.map (th_v G)) (mc := c1) (ms := s1) ?_ hS (fun r S1 H1 locs1 hp hR1 hS1 => ?_)
  · rcases hl with hl | ⟨host, hl⟩
    · exact va_runS (As := As.map (th_v G)) (rest := st.map (th_v G)) (n := n) ⟨F.1, F.2.1, F.2.2.1, F.2.2.2.1, hts⟩ hM ⟨callB_of n hts hG rfl rfl rfl (hts _ w2) (hts _ hl) w3 hroom, hts _ hse⟩ ⟨th_blind, th_pre F hR hS As⟩ rfl (by simpa using hn) hL.1 rfl (lv_room (th_catS hst)) hd ⟨by omega, by omega⟩
    · exact va_runSN (As := As.map (th_v G)) (rest := st.map (th_v G)) (n := n) ⟨F.1, F.2.1, F.2.2.1, F.2.2.2.1, hts⟩ hM ⟨va_cnB n hts hG rfl rfl rfl (F.2.2.2.2.2.2.2.1 _ hl) (hts _ w2) w3 hroom, hts _ hse, trivial⟩ ⟨th_blind, th_pre F hR hS As⟩ rfl (by simpa using hn) hL.1 rfl (lv_room (th_catS hst)) hd ⟨by omega, by omega⟩
  · rw [← th_mapS]
    exact kk r S1 hp p e R s m args below meth c Q F Rt hf hlc H1 locs1 (cells + c1) (slots + s1) LS (by omega) (by omega) hR1 hS1 hL
theorem ev_cI {a i n d1 c1 s1 : Nat} {y : MethodName} {Ky : th_M} {As : List Value} {P : Option Value → th_S → Prop} (hM : MT G l y Ky d1 c1 s1 (.ref a :: As) S P) (hd : decode K.1 pc = .ok (.invokespecial i, 3)) (hw : th_cI K.2.1 i y Ky n) (hn : As.length = n) (hst : (st.map fun v => v.category).sum ≤ 8) (hd1 : d1 + 1 ≤ d) (hq : pc + 3 = q) {st0 : List Value} (hst0 : As.reverse ++ .ref a :: st = st0) (kk : ∀ (r : Option Value) (S1 : th_S), P r S1 → EV G l K d bc bs q ls (r.toList ++ st) S1 post) : EV G l K d (bc + c1) (bs + s1) pc ls st0 S post := by
  subst hq
  intro p e R s m args below meth c Q F Rt hf hlc H locs cells slots LS hc hs hR hS hL
  have hts := F.2.2.2.2.2.1
  obtain ⟨⟨w1, w2, w3, w4⟩, hw⟩ := hw
  have hroom : d1 + 1 ≤ R.frames ∧ 8 + (Ky.2.2.1 + 11) + 40 * d1 ≤ R.locals := ⟨by omega, by omega⟩
  have hG := th_good (Ky := Ky) w1
  subst hst0
  obtain ⟨hl, hin, hnm, hret⟩ := hw
  obtain ⟨Kb, Ko, Kn, Kr, Km⟩ := Ky
  dsimp only at hret hroom w1 w4 hM hG
  subst hret
  have hstk : (As.reverse ++ .ref a :: st).map (th_v G) = (As.map (th_v G)).reverse ++ .ref (th_ad G a) :: st.map (th_v G) := by simp [th_v]
  rw [hstk]
  refine th_goes (P := P) (rest := st.map (th_v G)) (mc := c1) (ms := s1) ?_ hS (fun r S1 H1 locs1 hp hR1 hS1 => ?_)
  · rcases hl with hl | ⟨host, hl⟩
    · exact va_runI (As := As.map (th_v G)) (rest := st.map (th_v G)) (n := n) ⟨F.1, F.2.1, F.2.2.1, F.2.2.2.1, hts⟩ hM ⟨callB_of n hts hG rfl rfl rfl (hts _ w2) (hts _ hl) w3 hroom, hnm, hts _ hin⟩ ⟨th_blind, th_pre F hR hS (.ref a :: As)⟩ rfl (by simpa using hn) hL.1 rfl (lv_room (th_catS hst)) hd ⟨by omega, by omega⟩
    · exact va_runIN (As := As.map (th_v G)) (rest := st.map (th_v G)) (n := n) ⟨F.1, F.2.1, F.2.2.1, F.2.2.2.1, hts⟩ hM ⟨va_cnB n hts hG rfl rfl rfl (F.2.2.2.2.2.2.2.1 _ hl) (hts _ w2) w3 hroom, hnm, hts _ hin⟩ ⟨th_blind, th_pre F hR hS (.ref a :: As)⟩ rfl (by simpa using hn) hL.1 rfl (lv_room (th_catS hst)) hd ⟨by omega, by omega⟩
  · rw [← th_mapS]
    exact kk r S1 hp p e R s m args below meth c Q F Rt hf hlc H1 locs1 (cells + c1) (slots + s1) LS (by omega) (by omega) hR1 hS1 hL
def th_cF (own : String) (i : Nat) (x y : MethodName) (Ky : th_M) (n : Nat) : Prop := th_cB y Ky n ∧ Cond.methodLink own i x ∈ th_W ∧ Cond.selects th_AL x y ∈ th_W ∧ Cond.instanceMethod y ∈ th_W ∧ ((x = yLi_size ∧ y = yJx4a65c_size_8abf5) ∨ (x = yLi_get ∧ y = yJx4a65c_get_915e3) ∨ (x = yLi_add ∧ y = yJx4a65c_add_9ea2d))
theorem ev_cF {a i n cnt d1 c1 s1 : Nat} {x y : MethodName} {Ky : th_M} {As : List Value} {f : Nat → Option Nat} {P : Option Value → th_S → Prop} (hM : MT G l y Ky d1 c1 s1 (.ref a :: As) S P) (hd : decode K.1 pc = .ok (.invokeinterface i cnt, 5)) (hw : th_cF K.2.1 i x y Ky n) (ha : S.2.1 a = some (.inr (11, f))) (hn : As.length = n) (hst : (st.map fun v => v.category).sum ≤ 8) (hd1 : d1 + 1 ≤ d) (hq : pc + 5 = q) {st0 : List Value} (hst0 : As.reverse ++ .ref a :: st = st0) (kk : ∀ (r : Option Value) (S1 : th_S), P r S1 → EV G l K d bc bs q ls (r.toList ++ st) S1 post) : EV G l K d (bc + c1) (bs + s1) pc ls st0 S post := by
  subst hq
  intro p e R s m args below meth c Q F Rt hf hlc H locs cells slots LS hc hs hR hS hL
  have hts := F.2.2.2.2.2.1
  obtain ⟨⟨w1, w2, w3, w4⟩, hw⟩ := hw
  have hroom : d1 + 1 ≤ R.frames ∧ 8 + (Ky.2.2.1 + 11) + 40 * d1 ≤ R.locals := ⟨by omega, by omega⟩
  have hG := th_good (Ky := Ky) w1
  subst hst0
  obtain ⟨hl, hse, hin, hxy⟩ := hw
  have hAmb := F.2.2.2.2.2.2
  have hK := hAmb.1
  have hrecv := va_recv hK (th_P1 (hR.get ha)) (q0 := 0) (ci := 11) (q := (RJx4a65c, TJx4a65c, 3)) rfl rfl
  have hF : va_Fw th_AL x y s := by
    rcases hxy with ⟨rfl, rfl⟩ | ⟨rfl, rfl⟩ | ⟨rfl, rfl⟩
    · exact hAmb.2.2.1.1
    · exact hAmb.2.2.1.2.1
    · exact hAmb.2.2.1.2.2
  have hx3 : x.cls ≠ "java/lang/invoke/MethodHandle" ∧ x.cls ≠ "java/lang/invoke/VarHandle" ∧ (parseMethodDescriptor x.desc).map (fun d => d.parameters.length) = some n := by
    have hd2 := w3.2.2
    rcases hxy with ⟨rfl, rfl⟩ | ⟨rfl, rfl⟩ | ⟨rfl, rfl⟩
    · exact ⟨by decide, by decide, hd2⟩
    · exact ⟨by decide, by decide, hd2⟩
    · exact ⟨by decide, by decide, hd2⟩
  have hT : GoodIn th_W (va_wsF K.2.1 i th_AL x y (Cond.code y Ky.1 Ky.2.2.1 Ky.2.2.2.1 :: th_W)) := by
    intro w hw
    unfold va_wsF at hw
    rcases List.mem_append.mp hw with hw | hw
    · have hm : w ∈ th_W := by
        simp only [List.mem_cons, List.not_mem_nil, or_false] at hw
        rcases hw with rfl | rfl | rfl | rfl
        · exact hl
        · exact hse
        · exact hin
        · exact w2
      exact ⟨hm, good_of_word (List.mem_filter.mp hm).2⟩
    · exact hG w hw
  have hstk : (As.reverse ++ .ref a :: st).map (th_v G) = (As.map (th_v G)).reverse ++ .ref (th_ad G a) :: st.map (th_v G) := by simp [th_v]
  rw [hstk]
  refine th_goes5 (P := P) (rest := st.map (th_v G)) (mc := c1) (ms := s1) ?_ hS (fun r S1 H1 locs1 hp hR1 hS1 => ?_)
  · exact va_runF (As := As.map (th_v G)) (rest := st.map (th_v G)) (n := n) (hK.1 11 _ rfl).2 ⟨F.1, F.2.1, F.2.2.1, F.2.2.2.1, hts⟩ hM (va_cwF n hts hT rfl rfl rfl hF hx3 hroom) ⟨th_blind, hrecv, th_pre F hR hS (.ref a :: As)⟩ rfl (by simpa using hn) hL.1 rfl (lv_room (th_catS hst)) hd ⟨by omega, by omega⟩
  · rw [← th_mapS]
    exact kk r S1 hp p e R s m args below meth c Q F Rt hf hlc H1 locs1 (cells + c1) (slots + s1) LS (by omega) (by omega) hR1 hS1 hL
theorem ev_oI {a i : Nat} (hd : decode K.1 pc = .ok (.invokespecial i, 3)) (h1 : Cond.methodLink K.2.1 i objectInit ∈ th_W) (h2 : Cond.instanceMethod objectInit ∈ th_W) (h3 : Cond.code objectInit ⟨#[0xb1]⟩ 1 none ∈ th_W) (hst : (st.map fun v => v.category).sum ≤ 8) (hd1 : 1 ≤ d) (hq : pc + 3 = q) (kk : EV G l K d bc bs q ls st S post) : EV G l K d bc bs pc ls (.ref a :: st) S post := by
  subst hq
  intro p e R s m args below meth c Q F Rt hf hlc H locs cells slots LS hc hs hR hS hL
  have hts := F.2.2.2.2.2.1
  have h8 := lv_room (m := m) (pc := pc) (ls := LS) (rest := []) (th_catS (G := G) hst)
  exact W.objInit F.1 F.2.1 F.2.2.2.1 (hts _ h1) (hts _ h2) (hts _ h3) rfl (by rw [F.2.2.1]; exact hL.1) rfl hd (by omega) (by
    have : 2 * (F0 m pc LS (List.map (th_v G) (Value.ref a :: st))).monitorRoom + ((st.map (th_v G)).map fun v => v.category).sum ≤ 8 := lv_room (th_catS hst)
    omega) (kk p e R s m args below meth c Q F Rt hf hlc H locs cells slots LS hc hs hR hS hL)
end EVC
end
section
/-! the methods, and what their instructions link: printed by program -/
abbrev kX0_init : th_M := (cX0_init, RX0, 1, none, "<init>")
set_option maxRecDepth 20000 in
theorem bX0_init : th_cB yX0_init kX0_init 0 := ⟨(th_mW 88 rfl rfl), (th_mW 7 (by decide +kernel) rfl), ⟨by decide, by decide, (by decide +kernel)⟩, by decide⟩
abbrev kX0_along : th_M := (cX0_along, RX0, 5, none, "along")
set_option maxRecDepth 20000 in
theorem bX0_along : th_cB yX0_along kX0_along 2 := ⟨(th_mW 517 rfl rfl), (th_mW 7 (by decide +kernel) rfl), ⟨by decide, by decide, (by decide +kernel)⟩, by decide⟩
abbrev kX0_tryCells : th_M := (cX0_tryCells, RX0, 7, none, "tryCells")
set_option maxRecDepth 20000 in
theorem bX0_tryCells : th_cB yX0_tryCells kX0_tryCells 4 := ⟨(th_mW 523 rfl rfl), (th_mW 7 (by decide +kernel) rfl), ⟨by decide, by decide, (by decide +kernel)⟩, by decide⟩
abbrev kX0_isPerfect : th_M := (cX0_isPerfect, RX0, 1, (some .boolean), "isPerfect")
set_option maxRecDepth 20000 in
theorem bX0_isPerfect : th_cB yX0_isPerfect kX0_isPerfect 0 := ⟨(th_mW 535 rfl rfl), (th_mW 7 (by decide +kernel) rfl), ⟨by decide, by decide, (by decide +kernel)⟩, by decide⟩
abbrev kX0_takeTrial : th_M := (cX0_takeTrial, RX0, 7, none, "takeTrial")
set_option maxRecDepth 20000 in
theorem bX0_takeTrial : th_cB yX0_takeTrial kX0_takeTrial 3 := ⟨(th_mW 527 rfl rfl), (th_mW 7 (by decide +kernel) rfl), ⟨by decide, by decide, (by decide +kernel)⟩, by decide⟩
abbrev kX0_above : th_M := (cX0_above, RX0, 1, (some .int), "above")
set_option maxRecDepth 20000 in
theorem bX0_above : th_cB yX0_above kX0_above 0 := ⟨(th_mW 543 rfl rfl), (th_mW 7 (by decide +kernel) rfl), ⟨by decide, by decide, (by decide +kernel)⟩, by decide⟩
abbrev kX0_below : th_M := (cX0_below, RX0, 1, (some .int), "below")
set_option maxRecDepth 20000 in
theorem bX0_below : th_cB yX0_below kX0_below 0 := ⟨(th_mW 547 rfl rfl), (th_mW 7 (by decide +kernel) rfl), ⟨by decide, by decide, (by decide +kernel)⟩, by decide⟩
abbrev kX0_worth : th_M := (cX0_worth, RX0, 1, (some .int), "worth")
set_option maxRecDepth 20000 in
theorem bX0_worth : th_cB yX0_worth kX0_worth 0 := ⟨(th_mW 560 rfl rfl), (th_mW 7 (by decide +kernel) rfl), ⟨by decide, by decide, (by decide +kernel)⟩, by decide⟩
abbrev kX1_init : th_M := (cX1_init, RX1, 1, none, "<init>")
set_option maxRecDepth 20000 in
theorem bX1_init : th_cB yX1_init kX1_init 0 := ⟨(th_mW 118 rfl rfl), (th_mW 8 (by decide +kernel) rfl), ⟨by decide, by decide, (by decide +kernel)⟩, by decide⟩
abbrev kX1_empty : th_M := (cX1_empty, RX1, 1, none, "empty")
set_option maxRecDepth 20000 in
theorem bX1_empty : th_cB yX1_empty kX1_empty 0 := ⟨(th_mW 577 rfl rfl), (th_mW 8 (by decide +kernel) rfl), ⟨by decide, by decide, (by decide +kernel)⟩, by decide⟩
abbrev kX1_put : th_M := (cX1_put, RX1, 4, none, "put")
set_option maxRecDepth 20000 in
theorem bX1_put : th_cB yX1_put kX1_put 2 := ⟨(th_mW 583 rfl rfl), (th_mW 8 (by decide +kernel) rfl), ⟨by decide, by decide, (by decide +kernel)⟩, by decide⟩
abbrev kX1_clash : th_M := (cX1_clash, RX1, 5, (some .boolean), "clash")
set_option maxRecDepth 20000 in
theorem bX1_clash : th_cB yX1_clash kX1_clash 2 := ⟨(th_mW 587 rfl rfl), (th_mW 8 (by decide +kernel) rfl), ⟨by decide, by decide, (by decide +kernel)⟩, by decide⟩
abbrev kX1_choose : th_M := (cX1_choose, RX1, 1, none, "choose")
set_option maxRecDepth 20000 in
theorem bX1_choose : th_cB yX1_choose kX1_choose 0 := ⟨(th_mW 591 rfl rfl), (th_mW 8 (by decide +kernel) rfl), ⟨by decide, by decide, (by decide +kernel)⟩, by decide⟩
abbrev kX1_chooseFrom : th_M := (cX1_chooseFrom, RX1, 4, none, "chooseFrom")
set_option maxRecDepth 20000 in
theorem bX1_chooseFrom : th_cB yX1_chooseFrom kX1_chooseFrom 3 := ⟨(th_mW 595 rfl rfl), (th_mW 8 (by decide +kernel) rfl), ⟨by decide, by decide, (by decide +kernel)⟩, by decide⟩
abbrev kX2_init : th_M := (cX2_init, RX2, 4, none, "<init>")
set_option maxRecDepth 20000 in
theorem bX2_init : th_cB yX2_init kX2_init 3 := ⟨(th_mW 683 rfl rfl), (th_mW 21 (by decide +kernel) rfl), ⟨by decide, by decide, (by decide +kernel)⟩, by decide⟩
abbrev kX2_countPasses : th_M := (cX2_countPasses, RX2, 1, (some .boolean), "countPasses")
set_option maxRecDepth 20000 in
theorem bX2_countPasses : th_cB yX2_countPasses kX2_countPasses 0 := ⟨(th_mW 760 rfl rfl), (th_mW 21 (by decide +kernel) rfl), ⟨by decide, by decide, (by decide +kernel)⟩, by decide⟩
abbrev kX2_credit : th_M := (cX2_credit, RX2, 2, none, "credit")
set_option maxRecDepth 20000 in
theorem bX2_credit : th_cB yX2_credit kX2_credit 1 := ⟨(th_mW 772 rfl rfl), (th_mW 21 (by decide +kernel) rfl), ⟨by decide, by decide, (by decide +kernel)⟩, by decide⟩
abbrev kX2_forget : th_M := (cX2_forget, RX2, 1, none, "forget")
set_option maxRecDepth 20000 in
theorem bX2_forget : th_cB yX2_forget kX2_forget 0 := ⟨(th_mW 829 rfl rfl), (th_mW 21 (by decide +kernel) rfl), ⟨by decide, by decide, (by decide +kernel)⟩, by decide⟩
abbrev kX3_init : th_M := (cX3_init, RX3, 1, none, "<init>")
set_option maxRecDepth 20000 in
theorem bX3_init : th_cB yX3_init kX3_init 0 := ⟨(th_mW 82 rfl rfl), (th_mW 6 (by decide +kernel) rfl), ⟨by decide, by decide, (by decide +kernel)⟩, by decide⟩
abbrev kX3_see : th_M := (cX3_see, RX3, 5, none, "see")
set_option maxRecDepth 20000 in
theorem bX3_see : th_cB yX3_see kX3_see 3 := ⟨(th_mW 474 rfl rfl), (th_mW 6 (by decide +kernel) rfl), ⟨by decide, by decide, (by decide +kernel)⟩, by decide⟩
abbrev kX3_light : th_M := (cX3_light, RX3, 3, none, "light")
set_option maxRecDepth 20000 in
theorem bX3_light : th_cB yX3_light kX3_light 1 := ⟨(th_mW 478 rfl rfl), (th_mW 6 (by decide +kernel) rfl), ⟨by decide, by decide, (by decide +kernel)⟩, by decide⟩
abbrev kX3_fitAlong : th_M := (cX3_fitAlong, RX3, 2, (some .boolean), "fitAlong")
set_option maxRecDepth 20000 in
theorem bX3_fitAlong : th_cB yX3_fitAlong kX3_fitAlong 1 := ⟨(th_mW 513 rfl rfl), (th_mW 6 (by decide +kernel) rfl), ⟨by decide, by decide, (by decide +kernel)⟩, by decide⟩
abbrev kX3_pile : th_M := (cX3_pile, RX3, 4, none, "pile")
set_option maxRecDepth 20000 in
theorem bX3_pile : th_cB yX3_pile kX3_pile 1 := ⟨(th_mW 573 rfl rfl), (th_mW 6 (by decide +kernel) rfl), ⟨by decide, by decide, (by decide +kernel)⟩, by decide⟩
abbrev kX3_layersSeen : th_M := (cX3_layersSeen, RX3, 6, (some .int), "layersSeen")
set_option maxRecDepth 20000 in
theorem bX3_layersSeen : th_cB yX3_layersSeen kX3_layersSeen 0 := ⟨(th_mW 674 rfl rfl), (th_mW 6 (by decide +kernel) rfl), ⟨by decide, by decide, (by decide +kernel)⟩, by decide⟩
abbrev kX3_answers : th_M := (cX3_answers, RX3, 3, (some .boolean), "answers")
set_option maxRecDepth 20000 in
theorem bX3_answers : th_cB yX3_answers kX3_answers 2 := ⟨(th_mW 668 rfl rfl), (th_mW 6 (by decide +kernel) rfl), ⟨by decide, by decide, (by decide +kernel)⟩, by decide⟩
abbrev kX4_init : th_M := (cX4_init, RX4, 1, none, "<init>")
set_option maxRecDepth 20000 in
theorem bX4_init : th_cB yX4_init kX4_init 0 := ⟨(th_mW 203 rfl rfl), (th_mW 11 (by decide +kernel) rfl), ⟨by decide, by decide, (by decide +kernel)⟩, by decide⟩
abbrev kX4_size : th_M := (cX4_size, RX4, 1, (some .int), "size")
set_option maxRecDepth 20000 in
theorem bX4_size : th_cB yX4_size kX4_size 0 := ⟨(th_mW 795 rfl rfl), (th_mW 11 (by decide +kernel) rfl), ⟨by decide, by decide, (by decide +kernel)⟩, by decide⟩
abbrev kX4_has : th_M := (cX4_has, RX4, 2, (some .boolean), "has")
set_option maxRecDepth 20000 in
theorem bX4_has : th_cB yX4_has kX4_has 1 := ⟨(th_mW 804 rfl rfl), (th_mW 11 (by decide +kernel) rfl), ⟨by decide, by decide, (by decide +kernel)⟩, by decide⟩
abbrev kX4_slotOf : th_M := (cX4_slotOf, RX4, 2, (some .int), "slotOf")
set_option maxRecDepth 20000 in
theorem bX4_slotOf : th_cB yX4_slotOf kX4_slotOf 1 := ⟨(th_mW 780 rfl rfl), (th_mW 11 (by decide +kernel) rfl), ⟨by decide, by decide, (by decide +kernel)⟩, by decide⟩
abbrev kX4_keep : th_M := (cX4_keep, RX4, 6, none, "keep")
set_option maxRecDepth 20000 in
theorem bX4_keep : th_cB yX4_keep kX4_keep 3 := ⟨(th_mW 776 rfl rfl), (th_mW 11 (by decide +kernel) rfl), ⟨by decide, by decide, (by decide +kernel)⟩, by decide⟩
abbrev kX4_numberOf : th_M := (cX4_numberOf, RX4, 2, (some .int), "numberOf")
set_option maxRecDepth 20000 in
theorem bX4_numberOf : th_cB yX4_numberOf kX4_numberOf 1 := ⟨(th_mW 809 rfl rfl), (th_mW 11 (by decide +kernel) rfl), ⟨by decide, by decide, (by decide +kernel)⟩, by decide⟩
abbrev kX4_passedAt : th_M := (cX4_passedAt, RX4, 2, (some .int), "passedAt")
set_option maxRecDepth 20000 in
theorem bX4_passedAt : th_cB yX4_passedAt kX4_passedAt 1 := ⟨(th_mW 813 rfl rfl), (th_mW 11 (by decide +kernel) rfl), ⟨by decide, by decide, (by decide +kernel)⟩, by decide⟩
abbrev kX4_copyHits : th_M := (cX4_copyHits, RX4, 5, none, "copyHits")
set_option maxRecDepth 20000 in
theorem bX4_copyHits : th_cB yX4_copyHits kX4_copyHits 2 := ⟨(th_mW 817 rfl rfl), (th_mW 11 (by decide +kernel) rfl), ⟨by decide, by decide, (by decide +kernel)⟩, by decide⟩
abbrev kX5_init : th_M := (cX5_init, RX5, 1, none, "<init>")
set_option maxRecDepth 20000 in
theorem bX5_init : th_cB yX5_init kX5_init 0 := ⟨(th_mW 183 rfl rfl), (th_mW 10 (by decide +kernel) rfl), ⟨by decide, by decide, (by decide +kernel)⟩, by decide⟩
abbrev kX5_read : th_M := (cX5_read, RX5, 4, (some .boolean), "read")
set_option maxRecDepth 20000 in
theorem bX5_read : th_cB yX5_read kX5_read 2 := ⟨(th_mW 630 rfl rfl), (th_mW 10 (by decide +kernel) rfl), ⟨by decide, by decide, (by decide +kernel)⟩, by decide⟩
abbrev kX5_readAny : th_M := (cX5_readAny, RX5, 5, (some .boolean), "readAny")
set_option maxRecDepth 20000 in
theorem bX5_readAny : th_cB yX5_readAny kX5_readAny 1 := ⟨(th_mW 634 rfl rfl), (th_mW 10 (by decide +kernel) rfl), ⟨by decide, by decide, (by decide +kernel)⟩, by decide⟩
abbrev kX5_readBoth : th_M := (cX5_readBoth, RX5, 5, (some .boolean), "readBoth")
set_option maxRecDepth 20000 in
theorem bX5_readBoth : th_cB yX5_readBoth kX5_readBoth 1 := ⟨(th_mW 638 rfl rfl), (th_mW 10 (by decide +kernel) rfl), ⟨by decide, by decide, (by decide +kernel)⟩, by decide⟩
abbrev kX5_readOne : th_M := (cX5_readOne, RX5, 4, (some .boolean), "readOne")
set_option maxRecDepth 20000 in
theorem bX5_readOne : th_cB yX5_readOne kX5_readOne 1 := ⟨(th_mW 642 rfl rfl), (th_mW 10 (by decide +kernel) rfl), ⟨by decide, by decide, (by decide +kernel)⟩, by decide⟩
abbrev kX5_readAsked : th_M := (cX5_readAsked, RX5, 3, (some .boolean), "readAsked")
set_option maxRecDepth 20000 in
theorem bX5_readAsked : th_cB yX5_readAsked kX5_readAsked 0 := ⟨(th_mW 650 rfl rfl), (th_mW 10 (by decide +kernel) rfl), ⟨by decide, by decide, (by decide +kernel)⟩, by decide⟩
abbrev kX5_canAsk : th_M := (cX5_canAsk, RX5, 1, (some .boolean), "canAsk")
set_option maxRecDepth 20000 in
theorem bX5_canAsk : th_cB yX5_canAsk kX5_canAsk 1 := ⟨(th_mW 653 rfl rfl), (th_mW 10 (by decide +kernel) rfl), ⟨by decide, by decide, (by decide +kernel)⟩, by decide⟩
abbrev kX5_readNumber : th_M := (cX5_readNumber, RX5, 3, (some .int), "readNumber")
set_option maxRecDepth 20000 in
theorem bX5_readNumber : th_cB yX5_readNumber kX5_readNumber 0 := ⟨(th_mW 661 rfl rfl), (th_mW 10 (by decide +kernel) rfl), ⟨by decide, by decide, (by decide +kernel)⟩, by decide⟩
abbrev kX5_isFigure : th_M := (cX5_isFigure, RX5, 1, (some .boolean), "isFigure")
set_option maxRecDepth 20000 in
theorem bX5_isFigure : th_cB yX5_isFigure kX5_isFigure 1 := ⟨(th_mW 664 rfl rfl), (th_mW 10 (by decide +kernel) rfl), ⟨by decide, by decide, (by decide +kernel)⟩, by decide⟩
abbrev kX5_passOver : th_M := (cX5_passOver, RX5, 2, (some .boolean), "passOver")
set_option maxRecDepth 20000 in
theorem bX5_passOver : th_cB yX5_passOver kX5_passOver 1 := ⟨(th_mW 678 rfl rfl), (th_mW 10 (by decide +kernel) rfl), ⟨by decide, by decide, (by decide +kernel)⟩, by decide⟩
abbrev kX5_fail : th_M := (cX5_fail, RX5, 1, (some .boolean), "fail")
set_option maxRecDepth 20000 in
theorem bX5_fail : th_cB yX5_fail kX5_fail 0 := ⟨(th_mW 657 rfl rfl), (th_mW 10 (by decide +kernel) rfl), ⟨by decide, by decide, (by decide +kernel)⟩, by decide⟩
abbrev kX6_init : th_M := (cX6_init, RX6, 2, none, "<init>")
set_option maxRecDepth 20000 in
theorem bX6_init : th_cB yX6_init kX6_init 1 := ⟨(th_mW 354 rfl rfl), (th_mW 14 (by decide +kernel) rfl), ⟨by decide, by decide, (by decide +kernel)⟩, by decide⟩
abbrev kX6_setSpan : th_M := (cX6_setSpan, RX6, 3, none, "setSpan")
set_option maxRecDepth 20000 in
theorem bX6_setSpan : th_cB yX6_setSpan kX6_setSpan 2 := ⟨(th_mW 369 rfl rfl), (th_mW 14 (by decide +kernel) rfl), ⟨by decide, by decide, (by decide +kernel)⟩, by decide⟩
abbrev kX6_spanTold : th_M := (cX6_spanTold, RX6, 2, (some .int), "spanTold")
set_option maxRecDepth 20000 in
theorem bX6_spanTold : th_cB yX6_spanTold kX6_spanTold 1 := ⟨(th_mW 466 rfl rfl), (th_mW 14 (by decide +kernel) rfl), ⟨by decide, by decide, (by decide +kernel)⟩, by decide⟩
abbrev kX6_seenIn : th_M := (cX6_seenIn, RX6, 5, (some .int), "seenIn")
set_option maxRecDepth 20000 in
theorem bX6_seenIn : th_cB yX6_seenIn kX6_seenIn 2 := ⟨(th_mW 495 rfl rfl), (th_mW 14 (by decide +kernel) rfl), ⟨by decide, by decide, (by decide +kernel)⟩, by decide⟩
abbrev kX6_layersHeld : th_M := (cX6_layersHeld, RX6, 4, (some .int), "layersHeld")
set_option maxRecDepth 20000 in
theorem bX6_layersHeld : th_cB yX6_layersHeld kX6_layersHeld 1 := ⟨(th_mW 491 rfl rfl), (th_mW 14 (by decide +kernel) rfl), ⟨by decide, by decide, (by decide +kernel)⟩, by decide⟩
abbrev kX6_isLit : th_M := (cX6_isLit, RX6, 2, (some .boolean), "isLit")
set_option maxRecDepth 20000 in
theorem bX6_isLit : th_cB yX6_isLit kX6_isLit 1 := ⟨(th_mW 487 rfl rfl), (th_mW 14 (by decide +kernel) rfl), ⟨by decide, by decide, (by decide +kernel)⟩, by decide⟩
abbrev kX7_init : th_M := (cX7_init, RX7, 1, none, "<init>")
set_option maxRecDepth 20000 in
theorem bX7_init : th_cB yX7_init kX7_init 0 := ⟨(th_mW 35 rfl rfl), (th_mW 2 (by decide +kernel) rfl), ⟨by decide, by decide, (by decide +kernel)⟩, by decide⟩
abbrev kX7_lay : th_M := (cX7_lay, RX7, 4, none, "lay")
set_option maxRecDepth 20000 in
theorem bX7_lay : th_cB yX7_lay kX7_lay 2 := ⟨(th_mW 279 rfl rfl), (th_mW 2 (by decide +kernel) rfl), ⟨by decide, by decide, (by decide +kernel)⟩, by decide⟩
abbrev kX7_has : th_M := (cX7_has, RX7, 2, (some .boolean), "has")
set_option maxRecDepth 20000 in
theorem bX7_has : th_cB yX7_has kX7_has 1 := ⟨(th_mW 287 rfl rfl), (th_mW 2 (by decide +kernel) rfl), ⟨by decide, by decide, (by decide +kernel)⟩, by decide⟩
abbrev kX7_numberAt : th_M := (cX7_numberAt, RX7, 2, (some .int), "numberAt")
set_option maxRecDepth 20000 in
theorem bX7_numberAt : th_cB yX7_numberAt kX7_numberAt 1 := ⟨(th_mW 321 rfl rfl), (th_mW 2 (by decide +kernel) rfl), ⟨by decide, by decide, (by decide +kernel)⟩, by decide⟩
abbrev kX7_put : th_M := (cX7_put, RX7, 3, none, "put")
set_option maxRecDepth 20000 in
theorem bX7_put : th_cB yX7_put kX7_put 2 := ⟨(th_mW 291 rfl rfl), (th_mW 2 (by decide +kernel) rfl), ⟨by decide, by decide, (by decide +kernel)⟩, by decide⟩
abbrev kX8_init : th_M := (cX8_init, RX8, 1, none, "<init>")
set_option maxRecDepth 20000 in
theorem bX8_init : th_cB yX8_init kX8_init 0 := ⟨(th_mW 167 rfl rfl), (th_mW 9 (by decide +kernel) rfl), ⟨by decide, by decide, (by decide +kernel)⟩, by decide⟩
abbrev kX8_put : th_M := (cX8_put, RX8, 2, none, "put")
set_option maxRecDepth 20000 in
theorem bX8_put : th_cB yX8_put kX8_put 1 := ⟨(th_mW 615 rfl rfl), (th_mW 9 (by decide +kernel) rfl), ⟨by decide, by decide, (by decide +kernel)⟩, by decide⟩
abbrev kX8_copy : th_M := (cX8_copy, RX8, 3, none, "copy")
set_option maxRecDepth 20000 in
theorem bX8_copy : th_cB yX8_copy kX8_copy 1 := ⟨(th_mW 690 rfl rfl), (th_mW 9 (by decide +kernel) rfl), ⟨by decide, by decide, (by decide +kernel)⟩, by decide⟩
abbrev kX8_letterAt : th_M := (cX8_letterAt, RX8, 2, (some .int), "letterAt")
set_option maxRecDepth 20000 in
theorem bX8_letterAt : th_cB yX8_letterAt kX8_letterAt 1 := ⟨(th_mW 646 rfl rfl), (th_mW 9 (by decide +kernel) rfl), ⟨by decide, by decide, (by decide +kernel)⟩, by decide⟩
abbrev kX9_init : th_M := (cX9_init, RX9, 1, none, "<init>")
set_option maxRecDepth 20000 in
theorem bX9_init : th_cB yX9_init kX9_init 0 := ⟨(th_mW 26 rfl rfl), (th_mW 1 (by decide +kernel) rfl), ⟨by decide, by decide, (by decide +kernel)⟩, by decide⟩
abbrev kX9_sheet : th_M := (cX9_sheet, RX9, 5, (some .int), "sheet")
set_option maxRecDepth 20000 in
theorem bX9_sheet : th_cB yX9_sheet kX9_sheet 3 := ⟨(th_mW 271 rfl rfl), (th_mW 1 (by decide +kernel) rfl), ⟨by decide, by decide, (by decide +kernel)⟩, by decide⟩
abbrev kX9_cell : th_M := (cX9_cell, RX9, 5, (some .int), "cell")
set_option maxRecDepth 20000 in
theorem bX9_cell : th_cB yX9_cell kX9_cell 3 := ⟨(th_mW 283 rfl rfl), (th_mW 1 (by decide +kernel) rfl), ⟨by decide, by decide, (by decide +kernel)⟩, by decide⟩
abbrev kX9_lose : th_M := (cX9_lose, RX9, 3, (some .int), "lose")
set_option maxRecDepth 20000 in
theorem bX9_lose : th_cB yX9_lose kX9_lose 1 := ⟨(th_mW 296 rfl rfl), (th_mW 1 (by decide +kernel) rfl), ⟨by decide, by decide, (by decide +kernel)⟩, by decide⟩
abbrev kX9_hits : th_M := (cX9_hits, RX9, 3, (some .int), "hits")
set_option maxRecDepth 20000 in
theorem bX9_hits : th_cB yX9_hits kX9_hits 2 := ⟨(th_mW 300 rfl rfl), (th_mW 1 (by decide +kernel) rfl), ⟨by decide, by decide, (by decide +kernel)⟩, by decide⟩
abbrev kX9_load : th_M := (cX9_load, RX9, 5, (some .int), "load")
set_option maxRecDepth 20000 in
theorem bX9_load : th_cB yX9_load kX9_load 2 := ⟨(th_mW 317 rfl rfl), (th_mW 1 (by decide +kernel) rfl), ⟨by decide, by decide, (by decide +kernel)⟩, by decide⟩
abbrev kX9_mask : th_M := (cX9_mask, RX9, 6, (some .int), "mask")
set_option maxRecDepth 20000 in
theorem bX9_mask : th_cB yX9_mask kX9_mask 3 := ⟨(th_mW 328 rfl rfl), (th_mW 1 (by decide +kernel) rfl), ⟨by decide, by decide, (by decide +kernel)⟩, by decide⟩
abbrev kX9_layer : th_M := (cX9_layer, RX9, 3, (some .int), "layer")
set_option maxRecDepth 20000 in
theorem bX9_layer : th_cB yX9_layer kX9_layer 2 := ⟨(th_mW 332 rfl rfl), (th_mW 1 (by decide +kernel) rfl), ⟨by decide, by decide, (by decide +kernel)⟩, by decide⟩
abbrev kX9_road : th_M := (cX9_road, RX9, 9, (some .int), "road")
set_option maxRecDepth 20000 in
theorem bX9_road : th_cB yX9_road kX9_road 6 := ⟨(th_mW 336 rfl rfl), (th_mW 1 (by decide +kernel) rfl), ⟨by decide, by decide, (by decide +kernel)⟩, by decide⟩
abbrev kX9_span : th_M := (cX9_span, RX9, 6, (some .int), "span")
set_option maxRecDepth 20000 in
theorem bX9_span : th_cB yX9_span kX9_span 3 := ⟨(th_mW 439 rfl rfl), (th_mW 1 (by decide +kernel) rfl), ⟨by decide, by decide, (by decide +kernel)⟩, by decide⟩
abbrev kX9_lit : th_M := (cX9_lit, RX9, 1, (some .int), "lit")
set_option maxRecDepth 20000 in
theorem bX9_lit : th_cB yX9_lit kX9_lit 0 := ⟨(th_mW 470 rfl rfl), (th_mW 1 (by decide +kernel) rfl), ⟨by decide, by decide, (by decide +kernel)⟩, by decide⟩
abbrev kX9_held : th_M := (cX9_held, RX9, 3, (some .int), "held")
set_option maxRecDepth 20000 in
theorem bX9_held : th_cB yX9_held kX9_held 1 := ⟨(th_mW 500 rfl rfl), (th_mW 1 (by decide +kernel) rfl), ⟨by decide, by decide, (by decide +kernel)⟩, by decide⟩
abbrev kX9_track : th_M := (cX9_track, RX9, 5, (some .int), "track")
set_option maxRecDepth 20000 in
theorem bX9_track : th_cB yX9_track kX9_track 2 := ⟨(th_mW 505 rfl rfl), (th_mW 1 (by decide +kernel) rfl), ⟨by decide, by decide, (by decide +kernel)⟩, by decide⟩
abbrev kX9_miss : th_M := (cX9_miss, RX9, 7, (some .int), "miss")
set_option maxRecDepth 20000 in
theorem bX9_miss : th_cB yX9_miss kX9_miss 2 := ⟨(th_mW 539 rfl rfl), (th_mW 1 (by decide +kernel) rfl), ⟨by decide, by decide, (by decide +kernel)⟩, by decide⟩
abbrev kX9_weight : th_M := (cX9_weight, RX9, 3, (some .int), "weight")
set_option maxRecDepth 20000 in
theorem bX9_weight : th_cB yX9_weight kX9_weight 1 := ⟨(th_mW 556 rfl rfl), (th_mW 1 (by decide +kernel) rfl), ⟨by decide, by decide, (by decide +kernel)⟩, by decide⟩
abbrev kX9_heap : th_M := (cX9_heap, RX9, 2, (some .int), "heap")
set_option maxRecDepth 20000 in
theorem bX9_heap : th_cB yX9_heap kX9_heap 1 := ⟨(th_mW 565 rfl rfl), (th_mW 1 (by decide +kernel) rfl), ⟨by decide, by decide, (by decide +kernel)⟩, by decide⟩
abbrev kX9_blind : th_M := (cX9_blind, RX9, 2, (some .int), "blind")
set_option maxRecDepth 20000 in
theorem bX9_blind : th_cB yX9_blind kX9_blind 0 := ⟨(th_mW 599 rfl rfl), (th_mW 1 (by decide +kernel) rfl), ⟨by decide, by decide, (by decide +kernel)⟩, by decide⟩
abbrev kX9_feed : th_M := (cX9_feed, RX9, 4, (some .int), "feed")
set_option maxRecDepth 20000 in
theorem bX9_feed : th_cB yX9_feed kX9_feed 1 := ⟨(th_mW 605 rfl rfl), (th_mW 1 (by decide +kernel) rfl), ⟨by decide, by decide, (by decide +kernel)⟩, by decide⟩
abbrev kX9_clear : th_M := (cX9_clear, RX9, 2, (some .int), "clear")
set_option maxRecDepth 20000 in
theorem bX9_clear : th_cB yX9_clear kX9_clear 0 := ⟨(th_mW 619 rfl rfl), (th_mW 1 (by decide +kernel) rfl), ⟨by decide, by decide, (by decide +kernel)⟩, by decide⟩
abbrev kX9_line : th_M := (cX9_line, RX9, 3, (some .int), "line")
set_option maxRecDepth 20000 in
theorem bX9_line : th_cB yX9_line kX9_line 2 := ⟨(th_mW 623 rfl rfl), (th_mW 1 (by decide +kernel) rfl), ⟨by decide, by decide, (by decide +kernel)⟩, by decide⟩
abbrev kX9_thin : th_M := (cX9_thin, RX9, 5, (some .int), "thin")
set_option maxRecDepth 20000 in
theorem bX9_thin : th_cB yX9_thin kX9_thin 2 := ⟨(th_mW 724 rfl rfl), (th_mW 1 (by decide +kernel) rfl), ⟨by decide, by decide, (by decide +kernel)⟩, by decide⟩
abbrev kX9_holds : th_M := (cX9_holds, RX9, 3, (some .int), "holds")
set_option maxRecDepth 20000 in
theorem bX9_holds : th_cB yX9_holds kX9_holds 1 := ⟨(th_mW 732 rfl rfl), (th_mW 1 (by decide +kernel) rfl), ⟨by decide, by decide, (by decide +kernel)⟩, by decide⟩
abbrev kX9_of : th_M := (cX9_of, RX9, 4, (some .int), "of")
set_option maxRecDepth 20000 in
theorem bX9_of : th_cB yX9_of kX9_of 2 := ⟨(th_mW 736 rfl rfl), (th_mW 1 (by decide +kernel) rfl), ⟨by decide, by decide, (by decide +kernel)⟩, by decide⟩
abbrev kX9_fire : th_M := (cX9_fire, RX9, 4, (some .int), "fire")
set_option maxRecDepth 20000 in
theorem bX9_fire : th_cB yX9_fire kX9_fire 0 := ⟨(th_mW 740 rfl rfl), (th_mW 1 (by decide +kernel) rfl), ⟨by decide, by decide, (by decide +kernel)⟩, by decide⟩
abbrev kX9_rest : th_M := (cX9_rest, RX9, 3, (some .int), "rest")
set_option maxRecDepth 20000 in
theorem bX9_rest : th_cB yX9_rest kX9_rest 1 := ⟨(th_mW 787 rfl rfl), (th_mW 1 (by decide +kernel) rfl), ⟨by decide, by decide, (by decide +kernel)⟩, by decide⟩
abbrev kX9_many : th_M := (cX9_many, RX9, 2, (some .int), "many")
set_option maxRecDepth 20000 in
theorem bX9_many : th_cB yX9_many kX9_many 1 := ⟨(th_mW 791 rfl rfl), (th_mW 1 (by decide +kernel) rfl), ⟨by decide, by decide, (by decide +kernel)⟩, by decide⟩
abbrev kX9_raw : th_M := (cX9_raw, RX9, 3, (some .int), "raw")
set_option maxRecDepth 20000 in
theorem bX9_raw : th_cB yX9_raw kX9_raw 2 := ⟨(th_mW 800 rfl rfl), (th_mW 1 (by decide +kernel) rfl), ⟨by decide, by decide, (by decide +kernel)⟩, by decide⟩
abbrev kX9_again : th_M := (cX9_again, RX9, 2, (some .int), "again")
set_option maxRecDepth 20000 in
theorem bX9_again : th_cB yX9_again kX9_again 1 := ⟨(th_mW 821 rfl rfl), (th_mW 1 (by decide +kernel) rfl), ⟨by decide, by decide, (by decide +kernel)⟩, by decide⟩
abbrev kX9_anew : th_M := (cX9_anew, RX9, 3, (some .int), "anew")
set_option maxRecDepth 20000 in
theorem bX9_anew : th_cB yX9_anew kX9_anew 0 := ⟨(th_mW 825 rfl rfl), (th_mW 1 (by decide +kernel) rfl), ⟨by decide, by decide, (by decide +kernel)⟩, by decide⟩
abbrev kX9_isLayer : th_M := (cX9_isLayer, RX9, 1, (some .boolean), "isLayer")
set_option maxRecDepth 20000 in
theorem bX9_isLayer : th_cB yX9_isLayer kX9_isLayer 1 := ⟨(th_mW 303 rfl rfl), (th_mW 1 (by decide +kernel) rfl), ⟨by decide, by decide, (by decide +kernel)⟩, by decide⟩
abbrev kX9_areCells : th_M := (cX9_areCells, RX9, 1, (some .boolean), "areCells")
set_option maxRecDepth 20000 in
theorem bX9_areCells : th_cB yX9_areCells kX9_areCells 1 := ⟨(th_mW 306 rfl rfl), (th_mW 1 (by decide +kernel) rfl), ⟨by decide, by decide, (by decide +kernel)⟩, by decide⟩
abbrev kX9_isShare : th_M := (cX9_isShare, RX9, 1, (some .boolean), "isShare")
set_option maxRecDepth 20000 in
theorem bX9_isShare : th_cB yX9_isShare kX9_isShare 1 := ⟨(th_mW 626 rfl rfl), (th_mW 1 (by decide +kernel) rfl), ⟨by decide, by decide, (by decide +kernel)⟩, by decide⟩
abbrev kX9_isSpan : th_M := (cX9_isSpan, RX9, 3, (some .boolean), "isSpan")
set_option maxRecDepth 20000 in
theorem bX9_isSpan : th_cB yX9_isSpan kX9_isSpan 1 := ⟨(th_mW 339 rfl rfl), (th_mW 1 (by decide +kernel) rfl), ⟨by decide, by decide, (by decide +kernel)⟩, by decide⟩
abbrev kX9_cellsIn : th_M := (cX9_cellsIn, RX9, 6, (some .int), "cellsIn")
set_option maxRecDepth 20000 in
theorem bX9_cellsIn : th_cB yX9_cellsIn kX9_cellsIn 1 := ⟨(th_mW 324 rfl rfl), (th_mW 1 (by decide +kernel) rfl), ⟨by decide, by decide, (by decide +kernel)⟩, by decide⟩
abbrev kX9_letterIn : th_M := (cX9_letterIn, RX9, 2, (some .char), "letterIn")
set_option maxRecDepth 20000 in
theorem bX9_letterIn : th_cB yX9_letterIn kX9_letterIn 2 := ⟨(th_mW 611 rfl rfl), (th_mW 1 (by decide +kernel) rfl), ⟨by decide, by decide, (by decide +kernel)⟩, by decide⟩
abbrev kX9_lettersIn : th_M := (cX9_lettersIn, RX9, 2, (some .int), "lettersIn")
set_option maxRecDepth 20000 in
theorem bX9_lettersIn : th_cB yX9_lettersIn kX9_lettersIn 1 := ⟨(th_mW 608 rfl rfl), (th_mW 1 (by decide +kernel) rfl), ⟨by decide, by decide, (by decide +kernel)⟩, by decide⟩
abbrev kX9_greatestDivisor : th_M := (cX9_greatestDivisor, RX9, 6, (some .int), "greatestDivisor")
set_option maxRecDepth 20000 in
theorem bX9_greatestDivisor : th_cB yX9_greatestDivisor kX9_greatestDivisor 2 := ⟨(th_mW 551 rfl rfl), (th_mW 1 (by decide +kernel) rfl), ⟨by decide, by decide, (by decide +kernel)⟩, by decide⟩
abbrev kX9_sheetAt : th_M := (cX9_sheetAt, RX9, 2, (some (.object "TriggerHall$Sheet")), "sheetAt")
set_option maxRecDepth 20000 in
theorem bX9_sheetAt : th_cB yX9_sheetAt kX9_sheetAt 1 := ⟨(th_mW 275 rfl rfl), (th_mW 1 (by decide +kernel) rfl), ⟨by decide, by decide, (by decide +kernel)⟩, by decide⟩
abbrev kX9_roadAt : th_M := (cX9_roadAt, RX9, 2, (some (.object "TriggerHall$Road")), "roadAt")
set_option maxRecDepth 20000 in
theorem bX9_roadAt : th_cB yX9_roadAt kX9_roadAt 1 := ⟨(th_mW 443 rfl rfl), (th_mW 1 (by decide +kernel) rfl), ⟨by decide, by decide, (by decide +kernel)⟩, by decide⟩
abbrev kX9_lineAt : th_M := (cX9_lineAt, RX9, 2, (some (.object "TriggerHall$Line")), "lineAt")
set_option maxRecDepth 20000 in
theorem bX9_lineAt : th_cB yX9_lineAt kX9_lineAt 1 := ⟨(th_mW 728 rfl rfl), (th_mW 1 (by decide +kernel) rfl), ⟨by decide, by decide, (by decide +kernel)⟩, by decide⟩
abbrev kX9_fitInHand : th_M := (cX9_fitInHand, RX9, 2, (some .boolean), "fitInHand")
set_option maxRecDepth 20000 in
theorem bX9_fitInHand : th_cB yX9_fitInHand kX9_fitInHand 1 := ⟨(th_mW 509 rfl rfl), (th_mW 1 (by decide +kernel) rfl), ⟨by decide, by decide, (by decide +kernel)⟩, by decide⟩
abbrev kX9_lookAt : th_M := (cX9_lookAt, RX9, 2, none, "lookAt")
set_option maxRecDepth 20000 in
theorem bX9_lookAt : th_cB yX9_lookAt kX9_lookAt 1 := ⟨(th_mW 569 rfl rfl), (th_mW 1 (by decide +kernel) rfl), ⟨by decide, by decide, (by decide +kernel)⟩, by decide⟩
abbrev kX9_holdingLines : th_M := (cX9_holdingLines, RX9, 3, (some .int), "holdingLines")
set_option maxRecDepth 20000 in
theorem bX9_holdingLines : th_cB yX9_holdingLines kX9_holdingLines 0 := ⟨(th_mW 752 rfl rfl), (th_mW 1 (by decide +kernel) rfl), ⟨by decide, by decide, (by decide +kernel)⟩, by decide⟩
abbrev kX9_loseCrossing : th_M := (cX9_loseCrossing, RX9, 1, (some .int), "loseCrossing")
set_option maxRecDepth 20000 in
theorem bX9_loseCrossing : th_cB yX9_loseCrossing kX9_loseCrossing 0 := ⟨(th_mW 744 rfl rfl), (th_mW 1 (by decide +kernel) rfl), ⟨by decide, by decide, (by decide +kernel)⟩, by decide⟩
abbrev kX9_judgeCrossing : th_M := (cX9_judgeCrossing, RX9, 5, (some .int), "judgeCrossing")
set_option maxRecDepth 20000 in
theorem bX9_judgeCrossing : th_cB yX9_judgeCrossing kX9_judgeCrossing 1 := ⟨(th_mW 748 rfl rfl), (th_mW 1 (by decide +kernel) rfl), ⟨by decide, by decide, (by decide +kernel)⟩, by decide⟩
abbrev kX9_passLines : th_M := (cX9_passLines, RX9, 4, (some .int), "passLines")
set_option maxRecDepth 20000 in
theorem bX9_passLines : th_cB yX9_passLines kX9_passLines 1 := ⟨(th_mW 756 rfl rfl), (th_mW 1 (by decide +kernel) rfl), ⟨by decide, by decide, (by decide +kernel)⟩, by decide⟩
abbrev kX9_barLines : th_M := (cX9_barLines, RX9, 3, (some .int), "barLines")
set_option maxRecDepth 20000 in
theorem bX9_barLines : th_cB yX9_barLines kX9_barLines 0 := ⟨(th_mW 764 rfl rfl), (th_mW 1 (by decide +kernel) rfl), ⟨by decide, by decide, (by decide +kernel)⟩, by decide⟩
abbrev kX9_creditLines : th_M := (cX9_creditLines, RX9, 4, none, "creditLines")
set_option maxRecDepth 20000 in
theorem bX9_creditLines : th_cB yX9_creditLines kX9_creditLines 1 := ⟨(th_mW 768 rfl rfl), (th_mW 1 (by decide +kernel) rfl), ⟨by decide, by decide, (by decide +kernel)⟩, by decide⟩
abbrev kX10_init : th_M := (cX10_init, RX10, 2, none, "<init>")
set_option maxRecDepth 20000 in
theorem bX10_init : th_cB yX10_init kX10_init 0 := ⟨(th_mW 834 rfl rfl), (th_mW 12 (by decide +kernel) rfl), ⟨by decide, by decide, (by decide +kernel)⟩, by decide⟩
abbrev kX10_in : th_M := (cX10_in, RX10, 6, (some .boolean), "in")
set_option maxRecDepth 20000 in
theorem bX10_in : th_cB yX10_in kX10_in 3 := ⟨(th_mW 969 rfl rfl), (th_mW 12 (by decide +kernel) rfl), ⟨by decide, by decide, (by decide +kernel)⟩, by decide⟩
abbrev kX10_bitsOf : th_M := (cX10_bitsOf, RX10, 3, (some .int), "bitsOf")
set_option maxRecDepth 20000 in
theorem bX10_bitsOf : th_cB yX10_bitsOf kX10_bitsOf 1 := ⟨(th_mW 989 rfl rfl), (th_mW 12 (by decide +kernel) rfl), ⟨by decide, by decide, (by decide +kernel)⟩, by decide⟩
abbrev kX10_isLayer : th_M := (cX10_isLayer, RX10, 1, (some .boolean), "isLayer")
set_option maxRecDepth 20000 in
theorem bX10_isLayer : th_cB yX10_isLayer kX10_isLayer 1 := ⟨(th_mW 984 rfl rfl), (th_mW 12 (by decide +kernel) rfl), ⟨by decide, by decide, (by decide +kernel)⟩, by decide⟩
abbrev kX10_sheet : th_M := (cX10_sheet, RX10, 5, (some .int), "sheet")
set_option maxRecDepth 20000 in
theorem bX10_sheet : th_cB yX10_sheet kX10_sheet 3 := ⟨(th_mW 965 rfl rfl), (th_mW 12 (by decide +kernel) rfl), ⟨by decide, by decide, (by decide +kernel)⟩, by decide⟩
abbrev kX10_cell : th_M := (cX10_cell, RX10, 4, (some .int), "cell")
set_option maxRecDepth 20000 in
theorem bX10_cell : th_cB yX10_cell kX10_cell 3 := ⟨(th_mW 973 rfl rfl), (th_mW 12 (by decide +kernel) rfl), ⟨by decide, by decide, (by decide +kernel)⟩, by decide⟩
abbrev kX10_lose : th_M := (cX10_lose, RX10, 2, (some .int), "lose")
set_option maxRecDepth 20000 in
theorem bX10_lose : th_cB yX10_lose kX10_lose 1 := ⟨(th_mW 977 rfl rfl), (th_mW 12 (by decide +kernel) rfl), ⟨by decide, by decide, (by decide +kernel)⟩, by decide⟩
abbrev kX10_allHits : th_M := (cX10_allHits, RX10, 3, (some .int), "allHits")
set_option maxRecDepth 20000 in
theorem bX10_allHits : th_cB yX10_allHits kX10_allHits 0 := ⟨(th_mW 998 rfl rfl), (th_mW 12 (by decide +kernel) rfl), ⟨by decide, by decide, (by decide +kernel)⟩, by decide⟩
abbrev kX10_hits : th_M := (cX10_hits, RX10, 3, (some .int), "hits")
set_option maxRecDepth 20000 in
theorem bX10_hits : th_cB yX10_hits kX10_hits 2 := ⟨(th_mW 981 rfl rfl), (th_mW 12 (by decide +kernel) rfl), ⟨by decide, by decide, (by decide +kernel)⟩, by decide⟩
abbrev kX10_load : th_M := (cX10_load, RX10, 4, (some .int), "load")
set_option maxRecDepth 20000 in
theorem bX10_load : th_cB yX10_load kX10_load 2 := ⟨(th_mW 993 rfl rfl), (th_mW 12 (by decide +kernel) rfl), ⟨by decide, by decide, (by decide +kernel)⟩, by decide⟩
abbrev kX10_mask : th_M := (cX10_mask, RX10, 5, (some .int), "mask")
set_option maxRecDepth 20000 in
theorem bX10_mask : th_cB yX10_mask kX10_mask 3 := ⟨(th_mW 1002 rfl rfl), (th_mW 12 (by decide +kernel) rfl), ⟨by decide, by decide, (by decide +kernel)⟩, by decide⟩
abbrev kX10_seen : th_M := (cX10_seen, RX10, 2, (some .int), "seen")
set_option maxRecDepth 20000 in
theorem bX10_seen : th_cB yX10_seen kX10_seen 1 := ⟨(th_mW 1010 rfl rfl), (th_mW 12 (by decide +kernel) rfl), ⟨by decide, by decide, (by decide +kernel)⟩, by decide⟩
abbrev kX10_layer : th_M := (cX10_layer, RX10, 3, (some .int), "layer")
set_option maxRecDepth 20000 in
theorem bX10_layer : th_cB yX10_layer kX10_layer 2 := ⟨(th_mW 1006 rfl rfl), (th_mW 12 (by decide +kernel) rfl), ⟨by decide, by decide, (by decide +kernel)⟩, by decide⟩
abbrev kX10_isSpan : th_M := (cX10_isSpan, RX10, 1, (some .boolean), "isSpan")
set_option maxRecDepth 20000 in
theorem bX10_isSpan : th_cB yX10_isSpan kX10_isSpan 1 := ⟨(th_mW 1017 rfl rfl), (th_mW 12 (by decide +kernel) rfl), ⟨by decide, by decide, (by decide +kernel)⟩, by decide⟩
abbrev kX10_road : th_M := (cX10_road, RX10, 8, (some .int), "road")
set_option maxRecDepth 20000 in
theorem bX10_road : th_cB yX10_road kX10_road 6 := ⟨(th_mW 1014 rfl rfl), (th_mW 12 (by decide +kernel) rfl), ⟨by decide, by decide, (by decide +kernel)⟩, by decide⟩
abbrev kX10_isRoad : th_M := (cX10_isRoad, RX10, 2, (some .boolean), "isRoad")
set_option maxRecDepth 20000 in
theorem bX10_isRoad : th_cB yX10_isRoad kX10_isRoad 1 := ⟨(th_mW 1026 rfl rfl), (th_mW 12 (by decide +kernel) rfl), ⟨by decide, by decide, (by decide +kernel)⟩, by decide⟩
abbrev kX10_span : th_M := (cX10_span, RX10, 5, (some .int), "span")
set_option maxRecDepth 20000 in
theorem bX10_span : th_cB yX10_span kX10_span 3 := ⟨(th_mW 1022 rfl rfl), (th_mW 12 (by decide +kernel) rfl), ⟨by decide, by decide, (by decide +kernel)⟩, by decide⟩
abbrev kX10_isIn : th_M := (cX10_isIn, RX10, 5, (some .boolean), "isIn")
set_option maxRecDepth 20000 in
theorem bX10_isIn : th_cB yX10_isIn kX10_isIn 3 := ⟨(th_mW 1042 rfl rfl), (th_mW 12 (by decide +kernel) rfl), ⟨by decide, by decide, (by decide +kernel)⟩, by decide⟩
abbrev kX10_heldBy : th_M := (cX10_heldBy, RX10, 7, (some .int), "heldBy")
set_option maxRecDepth 20000 in
theorem bX10_heldBy : th_cB yX10_heldBy kX10_heldBy 2 := ⟨(th_mW 1038 rfl rfl), (th_mW 12 (by decide +kernel) rfl), ⟨by decide, by decide, (by decide +kernel)⟩, by decide⟩
abbrev kX10_isLit : th_M := (cX10_isLit, RX10, 2, (some .boolean), "isLit")
set_option maxRecDepth 20000 in
theorem bX10_isLit : th_cB yX10_isLit kX10_isLit 1 := ⟨(th_mW 1034 rfl rfl), (th_mW 12 (by decide +kernel) rfl), ⟨by decide, by decide, (by decide +kernel)⟩, by decide⟩
abbrev kX10_lit : th_M := (cX10_lit, RX10, 3, (some .int), "lit")
set_option maxRecDepth 20000 in
theorem bX10_lit : th_cB yX10_lit kX10_lit 0 := ⟨(th_mW 1030 rfl rfl), (th_mW 12 (by decide +kernel) rfl), ⟨by decide, by decide, (by decide +kernel)⟩, by decide⟩
abbrev kX10_held : th_M := (cX10_held, RX10, 2, (some .int), "held")
set_option maxRecDepth 20000 in
theorem bX10_held : th_cB yX10_held kX10_held 1 := ⟨(th_mW 1046 rfl rfl), (th_mW 12 (by decide +kernel) rfl), ⟨by decide, by decide, (by decide +kernel)⟩, by decide⟩
abbrev kX10_miss : th_M := (cX10_miss, RX10, 11, (some .int), "miss")
set_option maxRecDepth 20000 in
theorem bX10_miss : th_cB yX10_miss kX10_miss 1 := ⟨(th_mW 1062 rfl rfl), (th_mW 12 (by decide +kernel) rfl), ⟨by decide, by decide, (by decide +kernel)⟩, by decide⟩
abbrev kX10_findFrom : th_M := (cX10_findFrom, RX10, 6, none, "findFrom")
set_option maxRecDepth 20000 in
theorem bX10_findFrom : th_cB yX10_findFrom kX10_findFrom 3 := ⟨(th_mW 1058 rfl rfl), (th_mW 12 (by decide +kernel) rfl), ⟨by decide, by decide, (by decide +kernel)⟩, by decide⟩
abbrev kX10_findTrack : th_M := (cX10_findTrack, RX10, 2, (some .boolean), "findTrack")
set_option maxRecDepth 20000 in
theorem bX10_findTrack : th_cB yX10_findTrack kX10_findTrack 1 := ⟨(th_mW 1054 rfl rfl), (th_mW 12 (by decide +kernel) rfl), ⟨by decide, by decide, (by decide +kernel)⟩, by decide⟩
abbrev kX10_track : th_M := (cX10_track, RX10, 3, (some .int), "track")
set_option maxRecDepth 20000 in
theorem bX10_track : th_cB yX10_track kX10_track 2 := ⟨(th_mW 1050 rfl rfl), (th_mW 12 (by decide +kernel) rfl), ⟨by decide, by decide, (by decide +kernel)⟩, by decide⟩
abbrev kX10_common : th_M := (cX10_common, RX10, 5, (some .int), "common")
set_option maxRecDepth 20000 in
theorem bX10_common : th_cB yX10_common kX10_common 2 := ⟨(th_mW 1069 rfl rfl), (th_mW 12 (by decide +kernel) rfl), ⟨by decide, by decide, (by decide +kernel)⟩, by decide⟩
abbrev kX10_miss_ : th_M := (cX10_miss_, RX10, 4, (some .int), "miss")
set_option maxRecDepth 20000 in
theorem bX10_miss_ : th_cB yX10_miss_ kX10_miss_ 2 := ⟨(th_mW 1066 rfl rfl), (th_mW 12 (by decide +kernel) rfl), ⟨by decide, by decide, (by decide +kernel)⟩, by decide⟩
abbrev kX10_weightOf : th_M := (cX10_weightOf, RX10, 3, (some .int), "weightOf")
set_option maxRecDepth 20000 in
theorem bX10_weightOf : th_cB yX10_weightOf kX10_weightOf 1 := ⟨(th_mW 1077 rfl rfl), (th_mW 12 (by decide +kernel) rfl), ⟨by decide, by decide, (by decide +kernel)⟩, by decide⟩
abbrev kX10_weight : th_M := (cX10_weight, RX10, 2, (some .int), "weight")
set_option maxRecDepth 20000 in
theorem bX10_weight : th_cB yX10_weight kX10_weight 1 := ⟨(th_mW 1073 rfl rfl), (th_mW 12 (by decide +kernel) rfl), ⟨by decide, by decide, (by decide +kernel)⟩, by decide⟩
abbrev kX10_areApart : th_M := (cX10_areApart, RX10, 5, (some .boolean), "areApart")
set_option maxRecDepth 20000 in
theorem bX10_areApart : th_cB yX10_areApart kX10_areApart 2 := ⟨(th_mW 1089 rfl rfl), (th_mW 12 (by decide +kernel) rfl), ⟨by decide, by decide, (by decide +kernel)⟩, by decide⟩
abbrev kX10_findHeap : th_M := (cX10_findHeap, RX10, 7, none, "findHeap")
set_option maxRecDepth 20000 in
theorem bX10_findHeap : th_cB yX10_findHeap kX10_findHeap 0 := ⟨(th_mW 1085 rfl rfl), (th_mW 12 (by decide +kernel) rfl), ⟨by decide, by decide, (by decide +kernel)⟩, by decide⟩
abbrev kX10_heap : th_M := (cX10_heap, RX10, 2, (some .int), "heap")
set_option maxRecDepth 20000 in
theorem bX10_heap : th_cB yX10_heap kX10_heap 1 := ⟨(th_mW 1081 rfl rfl), (th_mW 12 (by decide +kernel) rfl), ⟨by decide, by decide, (by decide +kernel)⟩, by decide⟩
abbrev kX10_blind : th_M := (cX10_blind, RX10, 3, (some .int), "blind")
set_option maxRecDepth 20000 in
theorem bX10_blind : th_cB yX10_blind kX10_blind 0 := ⟨(th_mW 1093 rfl rfl), (th_mW 12 (by decide +kernel) rfl), ⟨by decide, by decide, (by decide +kernel)⟩, by decide⟩
abbrev kX10_feed : th_M := (cX10_feed, RX10, 4, (some .int), "feed")
set_option maxRecDepth 20000 in
theorem bX10_feed : th_cB yX10_feed kX10_feed 1 := ⟨(th_mW 1097 rfl rfl), (th_mW 12 (by decide +kernel) rfl), ⟨by decide, by decide, (by decide +kernel)⟩, by decide⟩
abbrev kX10_clear : th_M := (cX10_clear, RX10, 2, (some .int), "clear")
set_option maxRecDepth 20000 in
theorem bX10_clear : th_cB yX10_clear kX10_clear 0 := ⟨(th_mW 1101 rfl rfl), (th_mW 12 (by decide +kernel) rfl), ⟨by decide, by decide, (by decide +kernel)⟩, by decide⟩
abbrev kX10_isFigure : th_M := (cX10_isFigure, RX10, 1, (some .boolean), "isFigure")
set_option maxRecDepth 20000 in
theorem bX10_isFigure : th_cB yX10_isFigure kX10_isFigure 1 := ⟨(th_mW 1116 rfl rfl), (th_mW 12 (by decide +kernel) rfl), ⟨by decide, by decide, (by decide +kernel)⟩, by decide⟩
abbrev kX10_isName : th_M := (cX10_isName, RX10, 1, (some .boolean), "isName")
set_option maxRecDepth 20000 in
theorem bX10_isName : th_cB yX10_isName kX10_isName 1 := ⟨(th_mW 1113 rfl rfl), (th_mW 12 (by decide +kernel) rfl), ⟨by decide, by decide, (by decide +kernel)⟩, by decide⟩
abbrev kX10_faultOf : th_M := (cX10_faultOf, RX10, 6, (some .int), "faultOf")
set_option maxRecDepth 20000 in
theorem bX10_faultOf : th_cB yX10_faultOf kX10_faultOf 0 := ⟨(th_mW 1110 rfl rfl), (th_mW 12 (by decide +kernel) rfl), ⟨by decide, by decide, (by decide +kernel)⟩, by decide⟩
abbrev kX10_line : th_M := (cX10_line, RX10, 5, (some .int), "line")
set_option maxRecDepth 20000 in
theorem bX10_line : th_cB yX10_line kX10_line 2 := ⟨(th_mW 1105 rfl rfl), (th_mW 12 (by decide +kernel) rfl), ⟨by decide, by decide, (by decide +kernel)⟩, by decide⟩
abbrev kX10_isLine : th_M := (cX10_isLine, RX10, 2, (some .boolean), "isLine")
set_option maxRecDepth 20000 in
theorem bX10_isLine : th_cB yX10_isLine kX10_isLine 1 := ⟨(th_mW 1124 rfl rfl), (th_mW 12 (by decide +kernel) rfl), ⟨by decide, by decide, (by decide +kernel)⟩, by decide⟩
abbrev kX10_thin : th_M := (cX10_thin, RX10, 4, (some .int), "thin")
set_option maxRecDepth 20000 in
theorem bX10_thin : th_cB yX10_thin kX10_thin 2 := ⟨(th_mW 1120 rfl rfl), (th_mW 12 (by decide +kernel) rfl), ⟨by decide, by decide, (by decide +kernel)⟩, by decide⟩
abbrev kX10_letter : th_M := (cX10_letter, RX10, 1, (some .int), "letter")
set_option maxRecDepth 20000 in
theorem bX10_letter : th_cB yX10_letter kX10_letter 0 := ⟨(th_mW 1148 rfl rfl), (th_mW 12 (by decide +kernel) rfl), ⟨by decide, by decide, (by decide +kernel)⟩, by decide⟩
abbrev kX10_any : th_M := (cX10_any, RX10, 3, (some .boolean), "any")
set_option maxRecDepth 20000 in
theorem bX10_any : th_cB yX10_any kX10_any 0 := ⟨(th_mW 1136 rfl rfl), (th_mW 12 (by decide +kernel) rfl), ⟨by decide, by decide, (by decide +kernel)⟩, by decide⟩
abbrev kX10_both : th_M := (cX10_both, RX10, 3, (some .boolean), "both")
set_option maxRecDepth 20000 in
theorem bX10_both : th_cB yX10_both kX10_both 0 := ⟨(th_mW 1140 rfl rfl), (th_mW 12 (by decide +kernel) rfl), ⟨by decide, by decide, (by decide +kernel)⟩, by decide⟩
abbrev kX10_one : th_M := (cX10_one, RX10, 3, (some .boolean), "one")
set_option maxRecDepth 20000 in
theorem bX10_one : th_cB yX10_one kX10_one 0 := ⟨(th_mW 1144 rfl rfl), (th_mW 12 (by decide +kernel) rfl), ⟨by decide, by decide, (by decide +kernel)⟩, by decide⟩
abbrev kX10_is : th_M := (cX10_is, RX10, 5, (some .boolean), "is")
set_option maxRecDepth 20000 in
theorem bX10_is : th_cB yX10_is kX10_is 2 := ⟨(th_mW 1152 rfl rfl), (th_mW 12 (by decide +kernel) rfl), ⟨by decide, by decide, (by decide +kernel)⟩, by decide⟩
abbrev kX10_holding : th_M := (cX10_holding, RX10, 2, (some .int), "holding")
set_option maxRecDepth 20000 in
theorem bX10_holding : th_cB yX10_holding kX10_holding 0 := ⟨(th_mW 1132 rfl rfl), (th_mW 12 (by decide +kernel) rfl), ⟨by decide, by decide, (by decide +kernel)⟩, by decide⟩
abbrev kX10_holds : th_M := (cX10_holds, RX10, 2, (some .int), "holds")
set_option maxRecDepth 20000 in
theorem bX10_holds : th_cB yX10_holds kX10_holds 1 := ⟨(th_mW 1128 rfl rfl), (th_mW 12 (by decide +kernel) rfl), ⟨by decide, by decide, (by decide +kernel)⟩, by decide⟩
abbrev kX10_of : th_M := (cX10_of, RX10, 3, (some .int), "of")
set_option maxRecDepth 20000 in
theorem bX10_of : th_cB yX10_of kX10_of 2 := ⟨(th_mW 1156 rfl rfl), (th_mW 12 (by decide +kernel) rfl), ⟨by decide, by decide, (by decide +kernel)⟩, by decide⟩
abbrev kX10_noHits : th_M := (cX10_noHits, RX10, 2, none, "noHits")
set_option maxRecDepth 20000 in
theorem bX10_noHits : th_cB yX10_noHits kX10_noHits 0 := ⟨(th_mW 1168 rfl rfl), (th_mW 12 (by decide +kernel) rfl), ⟨by decide, by decide, (by decide +kernel)⟩, by decide⟩
abbrev kX10_look : th_M := (cX10_look, RX10, 7, (some .int), "look")
set_option maxRecDepth 20000 in
theorem bX10_look : th_cB yX10_look kX10_look 0 := ⟨(th_mW 1164 rfl rfl), (th_mW 12 (by decide +kernel) rfl), ⟨by decide, by decide, (by decide +kernel)⟩, by decide⟩
abbrev kX10_fire : th_M := (cX10_fire, RX10, 2, (some .int), "fire")
set_option maxRecDepth 20000 in
theorem bX10_fire : th_cB yX10_fire kX10_fire 0 := ⟨(th_mW 1160 rfl rfl), (th_mW 12 (by decide +kernel) rfl), ⟨by decide, by decide, (by decide +kernel)⟩, by decide⟩
abbrev kX10_rest : th_M := (cX10_rest, RX10, 3, (some .int), "rest")
set_option maxRecDepth 20000 in
theorem bX10_rest : th_cB yX10_rest kX10_rest 1 := ⟨(th_mW 1172 rfl rfl), (th_mW 12 (by decide +kernel) rfl), ⟨by decide, by decide, (by decide +kernel)⟩, by decide⟩
abbrev kX10_raws : th_M := (cX10_raws, RX10, 1, (some .int), "raws")
set_option maxRecDepth 20000 in
theorem bX10_raws : th_cB yX10_raws kX10_raws 0 := ⟨(th_mW 1181 rfl rfl), (th_mW 12 (by decide +kernel) rfl), ⟨by decide, by decide, (by decide +kernel)⟩, by decide⟩
abbrev kX10_many : th_M := (cX10_many, RX10, 2, (some .int), "many")
set_option maxRecDepth 20000 in
theorem bX10_many : th_cB yX10_many kX10_many 1 := ⟨(th_mW 1177 rfl rfl), (th_mW 12 (by decide +kernel) rfl), ⟨by decide, by decide, (by decide +kernel)⟩, by decide⟩
abbrev kX10_rawAt : th_M := (cX10_rawAt, RX10, 2, (some .int), "rawAt")
set_option maxRecDepth 20000 in
theorem bX10_rawAt : th_cB yX10_rawAt kX10_rawAt 1 := ⟨(th_mW 1190 rfl rfl), (th_mW 12 (by decide +kernel) rfl), ⟨by decide, by decide, (by decide +kernel)⟩, by decide⟩
abbrev kX10_raw : th_M := (cX10_raw, RX10, 6, (some .int), "raw")
set_option maxRecDepth 20000 in
theorem bX10_raw : th_cB yX10_raw kX10_raw 2 := ⟨(th_mW 1185 rfl rfl), (th_mW 12 (by decide +kernel) rfl), ⟨by decide, by decide, (by decide +kernel)⟩, by decide⟩
abbrev kX10_again : th_M := (cX10_again, RX10, 4, (some .int), "again")
set_option maxRecDepth 20000 in
theorem bX10_again : th_cB yX10_again kX10_again 1 := ⟨(th_mW 1194 rfl rfl), (th_mW 12 (by decide +kernel) rfl), ⟨by decide, by decide, (by decide +kernel)⟩, by decide⟩
abbrev kX10_anew : th_M := (cX10_anew, RX10, 3, (some .int), "anew")
set_option maxRecDepth 20000 in
theorem bX10_anew : th_cB yX10_anew kX10_anew 0 := ⟨(th_mW 1198 rfl rfl), (th_mW 12 (by decide +kernel) rfl), ⟨by decide, by decide, (by decide +kernel)⟩, by decide⟩
abbrev kJ6_numberOfTrailingZeros_0f7a4 : th_M := (cJ6_numberOfTrailingZeros_0f7a4, RJ6, 2, (some .int), "numberOfTrailingZeros")
set_option maxRecDepth 20000 in
theorem bJ6_numberOfTrailingZeros_0f7a4 : th_cB yJ6_numberOfTrailingZeros_0f7a4 kJ6_numberOfTrailingZeros_0f7a4 1 := ⟨(th_mW 530 rfl rfl), (th_mW 13 (by decide +kernel) rfl), ⟨by decide, by decide, (by decide +kernel)⟩, by decide⟩
abbrev kJ6_bitCount_0f7a4 : th_M := (cJ6_bitCount_0f7a4, RJ6, 1, (some .int), "bitCount")
set_option maxRecDepth 20000 in
theorem bJ6_bitCount_0f7a4 : th_cB yJ6_bitCount_0f7a4 kJ6_bitCount_0f7a4 1 := ⟨(th_mW 310 rfl rfl), (th_mW 13 (by decide +kernel) rfl), ⟨by decide, by decide, (by decide +kernel)⟩, by decide⟩
abbrev kJ9_floorMod_7cf53 : th_M := (cJ9_floorMod_7cf53, RJ9, 3, (some .int), "floorMod")
set_option maxRecDepth 20000 in
theorem bJ9_floorMod_7cf53 : th_cB yJ9_floorMod_7cf53 kJ9_floorMod_7cf53 2 := ⟨(th_mW 783 rfl rfl), (th_mW 16 (by decide +kernel) rfl), ⟨by decide, by decide, (by decide +kernel)⟩, by decide⟩
abbrev kJ9_max_7cf53 : th_M := (cJ9_max_7cf53, RJ9, 2, (some .int), "max")
set_option maxRecDepth 20000 in
theorem bJ9_max_7cf53 : th_cB yJ9_max_7cf53 kJ9_max_7cf53 2 := ⟨(th_mW 398 rfl rfl), (th_mW 16 (by decide +kernel) rfl), ⟨by decide, by decide, (by decide +kernel)⟩, by decide⟩
abbrev kJ9_min_7cf53 : th_M := (cJ9_min_7cf53, RJ9, 2, (some .int), "min")
set_option maxRecDepth 20000 in
theorem bJ9_min_7cf53 : th_cB yJ9_min_7cf53 kJ9_min_7cf53 2 := ⟨(th_mW 430 rfl rfl), (th_mW 16 (by decide +kernel) rfl), ⟨by decide, by decide, (by decide +kernel)⟩, by decide⟩
abbrev kJxa1e45_init_da8c8 : th_M := (cJxa1e45_init_da8c8, RJxa1e45, 1, none, "<init>")
set_option maxRecDepth 20000 in
theorem bJxa1e45_init_da8c8 : th_cB yJxa1e45_init_da8c8 kJxa1e45_init_da8c8 0 := ⟨(th_mW 62 rfl rfl), (th_mW 3 (by decide +kernel) rfl), ⟨by decide, by decide, (by decide +kernel)⟩, by decide⟩
abbrev kJxc12de_init_da8c8 : th_M := (cJxc12de_init_da8c8, RJxc12de, 1, none, "<init>")
set_option maxRecDepth 20000 in
theorem bJxc12de_init_da8c8 : th_cB yJxc12de_init_da8c8 kJxc12de_init_da8c8 0 := ⟨(th_mW 59 rfl rfl), (th_mW 4 (by decide +kernel) rfl), ⟨by decide, by decide, (by decide +kernel)⟩, by decide⟩
abbrev kJx4a65c_init_da8c8 : th_M := (cJx4a65c_init_da8c8, RJx4a65c, 1, none, "<init>")
set_option maxRecDepth 20000 in
theorem bJx4a65c_init_da8c8 : th_cB yJx4a65c_init_da8c8 kJx4a65c_init_da8c8 0 := ⟨(th_mW 56 rfl rfl), (th_mW 5 (by decide +kernel) rfl), ⟨by decide, by decide, (by decide +kernel)⟩, by decide⟩
abbrev kJx4a65c_grow_92f84 : th_M := (cJx4a65c_grow_92f84, RJx4a65c, 4, (some (.array (.object "java/lang/Object"))), "grow")
set_option maxRecDepth 20000 in
theorem bJx4a65c_grow_92f84 : th_cB yJx4a65c_grow_92f84 kJx4a65c_grow_92f84 1 := ⟨(th_mW 392 rfl rfl), (th_mW 5 (by decide +kernel) rfl), ⟨by decide, by decide, (by decide +kernel)⟩, by decide⟩
abbrev kJx4a65c_grow_d5877 : th_M := (cJx4a65c_grow_d5877, RJx4a65c, 1, (some (.array (.object "java/lang/Object"))), "grow")
set_option maxRecDepth 20000 in
theorem bJx4a65c_grow_d5877 : th_cB yJx4a65c_grow_d5877 kJx4a65c_grow_d5877 0 := ⟨(th_mW 388 rfl rfl), (th_mW 5 (by decide +kernel) rfl), ⟨by decide, by decide, (by decide +kernel)⟩, by decide⟩
abbrev kJx4a65c_size_8abf5 : th_M := (cJx4a65c_size_8abf5, RJx4a65c, 1, (some .int), "size")
set_option maxRecDepth 20000 in
theorem bJx4a65c_size_8abf5 : th_cB yJx4a65c_size_8abf5 kJx4a65c_size_8abf5 0 := ⟨(th_mW 349 rfl rfl), (th_mW 5 (by decide +kernel) rfl), ⟨by decide, by decide, (by decide +kernel)⟩, by decide⟩
abbrev kJx4a65c_elementData_915e3 : th_M := (cJx4a65c_elementData_915e3, RJx4a65c, 2, (some (.object "java/lang/Object")), "elementData")
set_option maxRecDepth 20000 in
theorem bJx4a65c_elementData_915e3 : th_cB yJx4a65c_elementData_915e3 kJx4a65c_elementData_915e3 1 := ⟨(th_mW 462 rfl rfl), (th_mW 5 (by decide +kernel) rfl), ⟨by decide, by decide, (by decide +kernel)⟩, by decide⟩
abbrev kJx4a65c_get_915e3 : th_M := (cJx4a65c_get_915e3, RJx4a65c, 2, (some (.object "java/lang/Object")), "get")
set_option maxRecDepth 20000 in
theorem bJx4a65c_get_915e3 : th_cB yJx4a65c_get_915e3 kJx4a65c_get_915e3 1 := ⟨(th_mW 452 rfl rfl), (th_mW 5 (by decide +kernel) rfl), ⟨by decide, by decide, (by decide +kernel)⟩, by decide⟩
abbrev kJx4a65c_add_72be8 : th_M := (cJx4a65c_add_72be8, RJx4a65c, 4, none, "add")
set_option maxRecDepth 20000 in
theorem bJx4a65c_add_72be8 : th_cB yJx4a65c_add_72be8 kJx4a65c_add_72be8 3 := ⟨(th_mW 384 rfl rfl), (th_mW 5 (by decide +kernel) rfl), ⟨by decide, by decide, (by decide +kernel)⟩, by decide⟩
abbrev kJx4a65c_add_9ea2d : th_M := (cJx4a65c_add_9ea2d, RJx4a65c, 2, (some .boolean), "add")
set_option maxRecDepth 20000 in
theorem bJx4a65c_add_9ea2d : th_cB yJx4a65c_add_9ea2d kJx4a65c_add_9ea2d 1 := ⟨(th_mW 380 rfl rfl), (th_mW 5 (by decide +kernel) rfl), ⟨by decide, by decide, (by decide +kernel)⟩, by decide⟩
abbrev kJ7_copyOf_1904c : th_M := (cJ7_copyOf_1904c, RJ7, 2, (some (.array (.object "java/lang/Object"))), "copyOf")
set_option maxRecDepth 20000 in
theorem bJ7_copyOf_1904c : th_cB yJ7_copyOf_1904c kJ7_copyOf_1904c 2 := ⟨(th_mW 405 rfl rfl), (th_mW 17 (by decide +kernel) rfl), ⟨by decide, by decide, (by decide +kernel)⟩, by decide⟩
abbrev kJ7_copyOf_6403c : th_M := (cJ7_copyOf_6403c, RJ7, 4, (some (.array (.object "java/lang/Object"))), "copyOf")
set_option maxRecDepth 20000 in
theorem bJ7_copyOf_6403c : th_cB yJ7_copyOf_6403c kJ7_copyOf_6403c 3 := ⟨(th_mW 424 rfl rfl), (th_mW 17 (by decide +kernel) rfl), ⟨by decide, by decide, (by decide +kernel)⟩, by decide⟩
abbrev kJ15_checkIndex_7cf53 : th_M := (cJ15_checkIndex_7cf53, RJ15, 2, (some .int), "checkIndex")
set_option maxRecDepth 20000 in
theorem bJ15_checkIndex_7cf53 : th_cB yJ15_checkIndex_7cf53 kJ15_checkIndex_7cf53 2 := ⟨(th_mW 455 rfl rfl), (th_mW 19 (by decide +kernel) rfl), ⟨by decide, by decide, (by decide +kernel)⟩, by decide⟩
abbrev kJ8_newLength_cabcc : th_M := (cJ8_newLength_cabcc, RJ8, 4, (some .int), "newLength")
set_option maxRecDepth 20000 in
theorem bJ8_newLength_cabcc : th_cB yJ8_newLength_cabcc kJ8_newLength_cabcc 3 := ⟨(th_mW 395 rfl rfl), (th_mW 15 (by decide +kernel) rfl), ⟨by decide, by decide, (by decide +kernel)⟩, by decide⟩
abbrev kJ8_hugeLength_7cf53 : th_M := (cJ8_hugeLength_7cf53, RJ8, 3, (some .int), "hugeLength")
set_option maxRecDepth 20000 in
theorem bJ8_hugeLength_7cf53 : th_cB yJ8_hugeLength_7cf53 kJ8_hugeLength_7cf53 2 := ⟨(th_mW 402 rfl rfl), (th_mW 15 (by decide +kernel) rfl), ⟨by decide, by decide, (by decide +kernel)⟩, by decide⟩
abbrev kJ3_checkIndex_8e157 : th_M := (cJ3_checkIndex_8e157, RJ3, 3, (some .int), "checkIndex")
set_option maxRecDepth 20000 in
theorem bJ3_checkIndex_8e157 : th_cB yJ3_checkIndex_8e157 kJ3_checkIndex_8e157 3 := ⟨(th_mW 458 rfl rfl), (th_mW 20 (by decide +kernel) rfl), ⟨by decide, by decide, (by decide +kernel)⟩, by decide⟩
abbrev kL_law : th_M := (cL_law, RL, 4, ret, "law")
theorem g_X7_9 : th_gf RX7 9 7 0 := ⟨_, _, _, rfl, by decide, (Or.inl (th_mW 37 (by decide +kernel) rfl))⟩
theorem p_X7_9 : th_pf RX7 "<init>" 9 7 0 := ⟨_, _, _, rfl, by decide, Or.inr ⟨rfl, rfl, rfl, (th_mW 37 (by decide +kernel) rfl)⟩⟩
theorem g_X7_15 : th_gf RX7 15 7 1 := ⟨_, _, _, rfl, by decide, (Or.inl (th_mW 38 (by decide +kernel) rfl))⟩
theorem p_X7_15 (nm : String) : th_pf RX7 nm 15 7 1 := ⟨_, _, _, rfl, by decide, Or.inl ⟨rfl, (Or.inl (th_mW 38 (by decide +kernel) rfl))⟩⟩
theorem g_X9_75 : th_gf RX9 75 7 1 := ⟨_, _, _, rfl, by decide, (Or.inr (Or.inr ⟨"TriggerHall", (th_mN 39 (by decide +kernel) rfl)⟩))⟩
theorem p_X9_75 (nm : String) : th_pf RX9 nm 75 7 1 := ⟨_, _, _, rfl, by decide, Or.inl ⟨rfl, (Or.inr (Or.inr ⟨"TriggerHall", (th_mN 39 (by decide +kernel) rfl)⟩))⟩⟩
theorem g_X7_19 : th_gf RX7 19 7 2 := ⟨_, _, _, rfl, by decide, (Or.inl (th_mW 40 (by decide +kernel) rfl))⟩
theorem p_X7_19 (nm : String) : th_pf RX7 nm 19 7 2 := ⟨_, _, _, rfl, by decide, Or.inl ⟨rfl, (Or.inl (th_mW 40 (by decide +kernel) rfl))⟩⟩
theorem g_X7_23 : th_gf RX7 23 7 3 := ⟨_, _, _, rfl, by decide, (Or.inl (th_mW 41 (by decide +kernel) rfl))⟩
theorem p_X7_23 (nm : String) : th_pf RX7 nm 23 7 3 := ⟨_, _, _, rfl, by decide, Or.inl ⟨rfl, (Or.inl (th_mW 41 (by decide +kernel) rfl))⟩⟩
theorem sl_Jx4a65c_39 : Cond.fieldLink RJx4a65c 39 "java/util/ArrayList" "DEFAULTCAPACITY_EMPTY_ELEMENTDATA" "[Ljava/lang/Object;" ∈ th_W := (th_mW 64 (by decide +kernel) rfl)
theorem g_Jx4a65c_9 : th_gf RJx4a65c 9 11 1 := ⟨_, _, _, rfl, by decide, (Or.inl (th_mW 66 (by decide +kernel) rfl))⟩
theorem p_Jx4a65c_9 (nm : String) : th_pf RJx4a65c nm 9 11 1 := ⟨_, _, _, rfl, by decide, Or.inl ⟨rfl, (Or.inl (th_mW 66 (by decide +kernel) rfl))⟩⟩
theorem g_Jx4a65c_48 : th_gf RJx4a65c 48 11 2 := ⟨_, _, _, rfl, by decide, (Or.inl (th_mW 67 (by decide +kernel) rfl))⟩
theorem p_Jx4a65c_48 (nm : String) : th_pf RJx4a65c nm 48 11 2 := ⟨_, _, _, rfl, by decide, Or.inl ⟨rfl, (Or.inl (th_mW 67 (by decide +kernel) rfl))⟩⟩
theorem g_Jxc12de_7 : th_gf RJxc12de 7 11 0 := ⟨_, _, _, rfl, by decide, (Or.inl (th_mW 68 (by decide +kernel) rfl))⟩
theorem p_Jxc12de_7 (nm : String) : th_pf RJxc12de nm 7 11 0 := ⟨_, _, _, rfl, by decide, Or.inl ⟨rfl, (Or.inl (th_mW 68 (by decide +kernel) rfl))⟩⟩
theorem g_Jx4a65c_63 : th_gf RJx4a65c 63 11 0 := ⟨_, _, _, rfl, by decide, (Or.inr (Or.inl ⟨"java/util/ArrayList", (th_mW 69 (by decide +kernel) rfl), (th_mW 70 (by decide +kernel) rfl)⟩))⟩
theorem p_Jx4a65c_63 (nm : String) : th_pf RJx4a65c nm 63 11 0 := ⟨_, _, _, rfl, by decide, Or.inl ⟨rfl, (Or.inr (Or.inl ⟨"java/util/ArrayList", (th_mW 69 (by decide +kernel) rfl), (th_mW 70 (by decide +kernel) rfl)⟩))⟩⟩
theorem g_X0_9 : th_gf RX0 9 0 0 := ⟨_, _, _, rfl, by decide, (Or.inl (th_mW 90 (by decide +kernel) rfl))⟩
theorem p_X0_9 : th_pf RX0 "<init>" 9 0 0 := ⟨_, _, _, rfl, by decide, Or.inr ⟨rfl, rfl, rfl, (th_mW 90 (by decide +kernel) rfl)⟩⟩
theorem g_X0_15 : th_gf RX0 15 0 1 := ⟨_, _, _, rfl, by decide, (Or.inl (th_mW 91 (by decide +kernel) rfl))⟩
theorem p_X0_15 : th_pf RX0 "<init>" 15 0 1 := ⟨_, _, _, rfl, by decide, Or.inr ⟨rfl, rfl, rfl, (th_mW 91 (by decide +kernel) rfl)⟩⟩
theorem g_X0_18 : th_gf RX0 18 0 2 := ⟨_, _, _, rfl, by decide, (Or.inl (th_mW 92 (by decide +kernel) rfl))⟩
theorem p_X0_18 : th_pf RX0 "<init>" 18 0 2 := ⟨_, _, _, rfl, by decide, Or.inr ⟨rfl, rfl, rfl, (th_mW 92 (by decide +kernel) rfl)⟩⟩
theorem g_X3_63 : th_gf RX3 63 0 2 := ⟨_, _, _, rfl, by decide, (Or.inr (Or.inr ⟨"TriggerHall", (th_mN 93 (by decide +kernel) rfl)⟩))⟩
theorem g_X9_160 : th_gf RX9 160 0 2 := ⟨_, _, _, rfl, by decide, (Or.inr (Or.inr ⟨"TriggerHall", (th_mN 94 (by decide +kernel) rfl)⟩))⟩
theorem g_X0_21 : th_gf RX0 21 0 3 := ⟨_, _, _, rfl, by decide, (Or.inl (th_mW 95 (by decide +kernel) rfl))⟩
theorem p_X0_21 (nm : String) : th_pf RX0 nm 21 0 3 := ⟨_, _, _, rfl, by decide, Or.inl ⟨rfl, (Or.inl (th_mW 95 (by decide +kernel) rfl))⟩⟩
theorem g_X0_25 : th_gf RX0 25 0 4 := ⟨_, _, _, rfl, by decide, (Or.inl (th_mW 96 (by decide +kernel) rfl))⟩
theorem p_X0_25 (nm : String) : th_pf RX0 nm 25 0 4 := ⟨_, _, _, rfl, by decide, Or.inl ⟨rfl, (Or.inl (th_mW 96 (by decide +kernel) rfl))⟩⟩
theorem g_X0_34 : th_gf RX0 34 0 5 := ⟨_, _, _, rfl, by decide, (Or.inl (th_mW 97 (by decide +kernel) rfl))⟩
theorem p_X0_34 (nm : String) : th_pf RX0 nm 34 0 5 := ⟨_, _, _, rfl, by decide, Or.inl ⟨rfl, (Or.inl (th_mW 97 (by decide +kernel) rfl))⟩⟩
theorem g_X0_38 : th_gf RX0 38 0 6 := ⟨_, _, _, rfl, by decide, (Or.inl (th_mW 98 (by decide +kernel) rfl))⟩
theorem p_X0_38 (nm : String) : th_pf RX0 nm 38 0 6 := ⟨_, _, _, rfl, by decide, Or.inl ⟨rfl, (Or.inl (th_mW 98 (by decide +kernel) rfl))⟩⟩
theorem g_X1_9 : th_gf RX1 9 1 0 := ⟨_, _, _, rfl, by decide, (Or.inl (th_mW 120 (by decide +kernel) rfl))⟩
theorem p_X1_9 : th_pf RX1 "<init>" 9 1 0 := ⟨_, _, _, rfl, by decide, Or.inr ⟨rfl, rfl, rfl, (th_mW 120 (by decide +kernel) rfl)⟩⟩
theorem g_X1_15 : th_gf RX1 15 1 1 := ⟨_, _, _, rfl, by decide, (Or.inl (th_mW 121 (by decide +kernel) rfl))⟩
theorem p_X1_15 : th_pf RX1 "<init>" 15 1 1 := ⟨_, _, _, rfl, by decide, Or.inr ⟨rfl, rfl, rfl, (th_mW 121 (by decide +kernel) rfl)⟩⟩
theorem g_X1_18 : th_gf RX1 18 1 2 := ⟨_, _, _, rfl, by decide, (Or.inl (th_mW 122 (by decide +kernel) rfl))⟩
theorem p_X1_18 : th_pf RX1 "<init>" 18 1 2 := ⟨_, _, _, rfl, by decide, Or.inr ⟨rfl, rfl, rfl, (th_mW 122 (by decide +kernel) rfl)⟩⟩
theorem g_X1_21 : th_gf RX1 21 1 3 := ⟨_, _, _, rfl, by decide, (Or.inl (th_mW 123 (by decide +kernel) rfl))⟩
theorem p_X1_21 : th_pf RX1 "<init>" 21 1 3 := ⟨_, _, _, rfl, by decide, Or.inr ⟨rfl, rfl, rfl, (th_mW 123 (by decide +kernel) rfl)⟩⟩
theorem g_X1_24 : th_gf RX1 24 1 4 := ⟨_, _, _, rfl, by decide, (Or.inl (th_mW 124 (by decide +kernel) rfl))⟩
theorem p_X1_24 (nm : String) : th_pf RX1 nm 24 1 4 := ⟨_, _, _, rfl, by decide, Or.inl ⟨rfl, (Or.inl (th_mW 124 (by decide +kernel) rfl))⟩⟩
theorem g_X1_28 : th_gf RX1 28 1 5 := ⟨_, _, _, rfl, by decide, (Or.inl (th_mW 125 (by decide +kernel) rfl))⟩
theorem p_X1_28 (nm : String) : th_pf RX1 nm 28 1 5 := ⟨_, _, _, rfl, by decide, Or.inl ⟨rfl, (Or.inl (th_mW 125 (by decide +kernel) rfl))⟩⟩
theorem g_X3_73 : th_gf RX3 73 1 5 := ⟨_, _, _, rfl, by decide, (Or.inr (Or.inr ⟨"TriggerHall", (th_mN 126 (by decide +kernel) rfl)⟩))⟩
theorem p_X3_73 (nm : String) : th_pf RX3 nm 73 1 5 := ⟨_, _, _, rfl, by decide, Or.inl ⟨rfl, (Or.inr (Or.inr ⟨"TriggerHall", (th_mN 126 (by decide +kernel) rfl)⟩))⟩⟩
theorem g_X9_186 : th_gf RX9 186 1 5 := ⟨_, _, _, rfl, by decide, (Or.inr (Or.inr ⟨"TriggerHall", (th_mN 127 (by decide +kernel) rfl)⟩))⟩
theorem p_X9_186 (nm : String) : th_pf RX9 nm 186 1 5 := ⟨_, _, _, rfl, by decide, Or.inl ⟨rfl, (Or.inr (Or.inr ⟨"TriggerHall", (th_mN 127 (by decide +kernel) rfl)⟩))⟩⟩
theorem g_X1_31 : th_gf RX1 31 1 6 := ⟨_, _, _, rfl, by decide, (Or.inl (th_mW 128 (by decide +kernel) rfl))⟩
theorem p_X1_31 (nm : String) : th_pf RX1 nm 31 1 6 := ⟨_, _, _, rfl, by decide, Or.inl ⟨rfl, (Or.inl (th_mW 128 (by decide +kernel) rfl))⟩⟩
theorem g_X3_86 : th_gf RX3 86 1 6 := ⟨_, _, _, rfl, by decide, (Or.inr (Or.inr ⟨"TriggerHall", (th_mN 129 (by decide +kernel) rfl)⟩))⟩
theorem p_X3_86 (nm : String) : th_pf RX3 nm 86 1 6 := ⟨_, _, _, rfl, by decide, Or.inl ⟨rfl, (Or.inr (Or.inr ⟨"TriggerHall", (th_mN 129 (by decide +kernel) rfl)⟩))⟩⟩
theorem g_X9_191 : th_gf RX9 191 1 6 := ⟨_, _, _, rfl, by decide, (Or.inr (Or.inr ⟨"TriggerHall", (th_mN 130 (by decide +kernel) rfl)⟩))⟩
theorem p_X9_191 (nm : String) : th_pf RX9 nm 191 1 6 := ⟨_, _, _, rfl, by decide, Or.inl ⟨rfl, (Or.inr (Or.inr ⟨"TriggerHall", (th_mN 130 (by decide +kernel) rfl)⟩))⟩⟩
theorem g_X3_9 : th_gf RX3 9 3 0 := ⟨_, _, _, rfl, by decide, (Or.inl (th_mW 146 (by decide +kernel) rfl))⟩
theorem p_X3_9 : th_pf RX3 "<init>" 9 3 0 := ⟨_, _, _, rfl, by decide, Or.inr ⟨rfl, rfl, rfl, (th_mW 146 (by decide +kernel) rfl)⟩⟩
theorem g_X9_146 : th_gf RX9 146 3 0 := ⟨_, _, _, rfl, by decide, (Or.inr (Or.inr ⟨"TriggerHall", (th_mN 147 (by decide +kernel) rfl)⟩))⟩
theorem g_X3_18 : th_gf RX3 18 3 1 := ⟨_, _, _, rfl, by decide, (Or.inl (th_mW 148 (by decide +kernel) rfl))⟩
theorem p_X3_18 : th_pf RX3 "<init>" 18 3 1 := ⟨_, _, _, rfl, by decide, Or.inr ⟨rfl, rfl, rfl, (th_mW 148 (by decide +kernel) rfl)⟩⟩
theorem g_X9_156 : th_gf RX9 156 3 1 := ⟨_, _, _, rfl, by decide, (Or.inr (Or.inr ⟨"TriggerHall", (th_mN 149 (by decide +kernel) rfl)⟩))⟩
theorem g_X3_25 : th_gf RX3 25 3 2 := ⟨_, _, _, rfl, by decide, (Or.inl (th_mW 150 (by decide +kernel) rfl))⟩
theorem p_X3_25 : th_pf RX3 "<init>" 25 3 2 := ⟨_, _, _, rfl, by decide, Or.inr ⟨rfl, rfl, rfl, (th_mW 150 (by decide +kernel) rfl)⟩⟩
theorem g_X9_182 : th_gf RX9 182 3 2 := ⟨_, _, _, rfl, by decide, (Or.inr (Or.inr ⟨"TriggerHall", (th_mN 151 (by decide +kernel) rfl)⟩))⟩
theorem g_X3_29 : th_gf RX3 29 3 3 := ⟨_, _, _, rfl, by decide, (Or.inl (th_mW 152 (by decide +kernel) rfl))⟩
theorem p_X3_29 (nm : String) : th_pf RX3 nm 29 3 3 := ⟨_, _, _, rfl, by decide, Or.inl ⟨rfl, (Or.inl (th_mW 152 (by decide +kernel) rfl))⟩⟩
theorem g_X9_142 : th_gf RX9 142 3 3 := ⟨_, _, _, rfl, by decide, (Or.inr (Or.inr ⟨"TriggerHall", (th_mN 153 (by decide +kernel) rfl)⟩))⟩
theorem p_X9_142 (nm : String) : th_pf RX9 nm 142 3 3 := ⟨_, _, _, rfl, by decide, Or.inl ⟨rfl, (Or.inr (Or.inr ⟨"TriggerHall", (th_mN 153 (by decide +kernel) rfl)⟩))⟩⟩
theorem g_X8_9 : th_gf RX8 9 8 0 := ⟨_, _, _, rfl, by decide, (Or.inl (th_mW 169 (by decide +kernel) rfl))⟩
theorem p_X8_9 : th_pf RX8 "<init>" 9 8 0 := ⟨_, _, _, rfl, by decide, Or.inr ⟨rfl, rfl, rfl, (th_mW 169 (by decide +kernel) rfl)⟩⟩
theorem g_X8_15 : th_gf RX8 15 8 1 := ⟨_, _, _, rfl, by decide, (Or.inl (th_mW 170 (by decide +kernel) rfl))⟩
theorem p_X8_15 (nm : String) : th_pf RX8 nm 15 8 1 := ⟨_, _, _, rfl, by decide, Or.inl ⟨rfl, (Or.inl (th_mW 170 (by decide +kernel) rfl))⟩⟩
theorem g_X5_30 : th_gf RX5 30 8 1 := ⟨_, _, _, rfl, by decide, (Or.inr (Or.inr ⟨"TriggerHall", (th_mN 171 (by decide +kernel) rfl)⟩))⟩
theorem p_X5_30 (nm : String) : th_pf RX5 nm 30 8 1 := ⟨_, _, _, rfl, by decide, Or.inl ⟨rfl, (Or.inr (Or.inr ⟨"TriggerHall", (th_mN 171 (by decide +kernel) rfl)⟩))⟩⟩
theorem g_X9_200 : th_gf RX9 200 8 1 := ⟨_, _, _, rfl, by decide, (Or.inr (Or.inr ⟨"TriggerHall", (th_mN 172 (by decide +kernel) rfl)⟩))⟩
theorem p_X9_200 (nm : String) : th_pf RX9 nm 200 8 1 := ⟨_, _, _, rfl, by decide, Or.inl ⟨rfl, (Or.inr (Or.inr ⟨"TriggerHall", (th_mN 172 (by decide +kernel) rfl)⟩))⟩⟩
theorem g_X5_9 : th_gf RX5 9 5 0 := ⟨_, _, _, rfl, by decide, (Or.inl (th_mW 185 (by decide +kernel) rfl))⟩
theorem p_X5_9 (nm : String) : th_pf RX5 nm 9 5 0 := ⟨_, _, _, rfl, by decide, Or.inl ⟨rfl, (Or.inl (th_mW 185 (by decide +kernel) rfl))⟩⟩
theorem g_X5_15 : th_gf RX5 15 5 1 := ⟨_, _, _, rfl, by decide, (Or.inl (th_mW 186 (by decide +kernel) rfl))⟩
theorem p_X5_15 (nm : String) : th_pf RX5 nm 15 5 1 := ⟨_, _, _, rfl, by decide, Or.inl ⟨rfl, (Or.inl (th_mW 186 (by decide +kernel) rfl))⟩⟩
theorem g_X5_19 : th_gf RX5 19 5 2 := ⟨_, _, _, rfl, by decide, (Or.inl (th_mW 187 (by decide +kernel) rfl))⟩
theorem p_X5_19 (nm : String) : th_pf RX5 nm 19 5 2 := ⟨_, _, _, rfl, by decide, Or.inl ⟨rfl, (Or.inl (th_mW 187 (by decide +kernel) rfl))⟩⟩
theorem g_X5_23 : th_gf RX5 23 5 3 := ⟨_, _, _, rfl, by decide, (Or.inl (th_mW 188 (by decide +kernel) rfl))⟩
theorem p_X5_23 (nm : String) : th_pf RX5 nm 23 5 3 := ⟨_, _, _, rfl, by decide, Or.inl ⟨rfl, (Or.inl (th_mW 188 (by decide +kernel) rfl))⟩⟩
theorem g_X9_217 : th_gf RX9 217 5 3 := ⟨_, _, _, rfl, by decide, (Or.inr (Or.inr ⟨"TriggerHall", (th_mN 189 (by decide +kernel) rfl)⟩))⟩
theorem p_X9_217 (nm : String) : th_pf RX9 nm 217 5 3 := ⟨_, _, _, rfl, by decide, Or.inl ⟨rfl, (Or.inr (Or.inr ⟨"TriggerHall", (th_mN 189 (by decide +kernel) rfl)⟩))⟩⟩
theorem g_X4_9 : th_gf RX4 9 4 0 := ⟨_, _, _, rfl, by decide, (Or.inl (th_mW 205 (by decide +kernel) rfl))⟩
theorem p_X4_9 : th_pf RX4 "<init>" 9 4 0 := ⟨_, _, _, rfl, by decide, Or.inr ⟨rfl, rfl, rfl, (th_mW 205 (by decide +kernel) rfl)⟩⟩
theorem g_X4_15 : th_gf RX4 15 4 1 := ⟨_, _, _, rfl, by decide, (Or.inl (th_mW 206 (by decide +kernel) rfl))⟩
theorem p_X4_15 : th_pf RX4 "<init>" 15 4 1 := ⟨_, _, _, rfl, by decide, Or.inr ⟨rfl, rfl, rfl, (th_mW 206 (by decide +kernel) rfl)⟩⟩
theorem g_X4_18 : th_gf RX4 18 4 2 := ⟨_, _, _, rfl, by decide, (Or.inl (th_mW 207 (by decide +kernel) rfl))⟩
theorem p_X4_18 : th_pf RX4 "<init>" 18 4 2 := ⟨_, _, _, rfl, by decide, Or.inr ⟨rfl, rfl, rfl, (th_mW 207 (by decide +kernel) rfl)⟩⟩
theorem g_X4_21 : th_gf RX4 21 4 3 := ⟨_, _, _, rfl, by decide, (Or.inl (th_mW 208 (by decide +kernel) rfl))⟩
theorem p_X4_21 (nm : String) : th_pf RX4 nm 21 4 3 := ⟨_, _, _, rfl, by decide, Or.inl ⟨rfl, (Or.inl (th_mW 208 (by decide +kernel) rfl))⟩⟩
theorem g_X9_268 : th_gf RX9 268 4 3 := ⟨_, _, _, rfl, by decide, (Or.inr (Or.inr ⟨"TriggerHall", (th_mN 209 (by decide +kernel) rfl)⟩))⟩
theorem p_X9_268 (nm : String) : th_pf RX9 nm 268 4 3 := ⟨_, _, _, rfl, by decide, Or.inl ⟨rfl, (Or.inr (Or.inr ⟨"TriggerHall", (th_mN 209 (by decide +kernel) rfl)⟩))⟩⟩
theorem g_X9_10 : th_gf RX9 10 9 0 := ⟨_, _, _, rfl, by decide, (Or.inl (th_mW 219 (by decide +kernel) rfl))⟩
theorem p_X9_10 : th_pf RX9 "<init>" 10 9 0 := ⟨_, _, _, rfl, by decide, Or.inr ⟨rfl, rfl, rfl, (th_mW 219 (by decide +kernel) rfl)⟩⟩
theorem g_X9_16 : th_gf RX9 16 9 1 := ⟨_, _, _, rfl, by decide, (Or.inl (th_mW 220 (by decide +kernel) rfl))⟩
theorem p_X9_16 : th_pf RX9 "<init>" 16 9 1 := ⟨_, _, _, rfl, by decide, Or.inr ⟨rfl, rfl, rfl, (th_mW 220 (by decide +kernel) rfl)⟩⟩
theorem g_X9_20 : th_gf RX9 20 9 2 := ⟨_, _, _, rfl, by decide, (Or.inl (th_mW 221 (by decide +kernel) rfl))⟩
theorem p_X9_20 : th_pf RX9 "<init>" 20 9 2 := ⟨_, _, _, rfl, by decide, Or.inr ⟨rfl, rfl, rfl, (th_mW 221 (by decide +kernel) rfl)⟩⟩
theorem g_X9_23 : th_gf RX9 23 9 3 := ⟨_, _, _, rfl, by decide, (Or.inl (th_mW 222 (by decide +kernel) rfl))⟩
theorem p_X9_23 : th_pf RX9 "<init>" 23 9 3 := ⟨_, _, _, rfl, by decide, Or.inr ⟨rfl, rfl, rfl, (th_mW 222 (by decide +kernel) rfl)⟩⟩
theorem g_X9_29 : th_gf RX9 29 9 4 := ⟨_, _, _, rfl, by decide, (Or.inl (th_mW 223 (by decide +kernel) rfl))⟩
theorem p_X9_29 : th_pf RX9 "<init>" 29 9 4 := ⟨_, _, _, rfl, by decide, Or.inr ⟨rfl, rfl, rfl, (th_mW 223 (by decide +kernel) rfl)⟩⟩
theorem g_X9_36 : th_gf RX9 36 9 5 := ⟨_, _, _, rfl, by decide, (Or.inl (th_mW 224 (by decide +kernel) rfl))⟩
theorem p_X9_36 : th_pf RX9 "<init>" 36 9 5 := ⟨_, _, _, rfl, by decide, Or.inr ⟨rfl, rfl, rfl, (th_mW 224 (by decide +kernel) rfl)⟩⟩
theorem g_X9_43 : th_gf RX9 43 9 6 := ⟨_, _, _, rfl, by decide, (Or.inl (th_mW 225 (by decide +kernel) rfl))⟩
theorem p_X9_43 : th_pf RX9 "<init>" 43 9 6 := ⟨_, _, _, rfl, by decide, Or.inr ⟨rfl, rfl, rfl, (th_mW 225 (by decide +kernel) rfl)⟩⟩
theorem g_X9_50 : th_gf RX9 50 9 7 := ⟨_, _, _, rfl, by decide, (Or.inl (th_mW 226 (by decide +kernel) rfl))⟩
theorem p_X9_50 : th_pf RX9 "<init>" 50 9 7 := ⟨_, _, _, rfl, by decide, Or.inr ⟨rfl, rfl, rfl, (th_mW 226 (by decide +kernel) rfl)⟩⟩
theorem g_X9_54 : th_gf RX9 54 9 8 := ⟨_, _, _, rfl, by decide, (Or.inl (th_mW 227 (by decide +kernel) rfl))⟩
theorem p_X9_54 : th_pf RX9 "<init>" 54 9 8 := ⟨_, _, _, rfl, by decide, Or.inr ⟨rfl, rfl, rfl, (th_mW 227 (by decide +kernel) rfl)⟩⟩
theorem g_X9_60 : th_gf RX9 60 9 9 := ⟨_, _, _, rfl, by decide, (Or.inl (th_mW 228 (by decide +kernel) rfl))⟩
theorem p_X9_60 : th_pf RX9 "<init>" 60 9 9 := ⟨_, _, _, rfl, by decide, Or.inr ⟨rfl, rfl, rfl, (th_mW 228 (by decide +kernel) rfl)⟩⟩
theorem g_X9_64 : th_gf RX9 64 9 10 := ⟨_, _, _, rfl, by decide, (Or.inl (th_mW 229 (by decide +kernel) rfl))⟩
theorem p_X9_64 : th_pf RX9 "<init>" 64 9 10 := ⟨_, _, _, rfl, by decide, Or.inr ⟨rfl, rfl, rfl, (th_mW 229 (by decide +kernel) rfl)⟩⟩
theorem g_X9_262 : th_gf RX9 262 9 11 := ⟨_, _, _, rfl, by decide, (Or.inl (th_mW 230 (by decide +kernel) rfl))⟩
theorem p_X9_262 (nm : String) : th_pf RX9 nm 262 9 11 := ⟨_, _, _, rfl, by decide, Or.inl ⟨rfl, (Or.inl (th_mW 230 (by decide +kernel) rfl))⟩⟩
theorem g_X9_253 : th_gf RX9 253 9 12 := ⟨_, _, _, rfl, by decide, (Or.inl (th_mW 231 (by decide +kernel) rfl))⟩
theorem p_X9_253 (nm : String) : th_pf RX9 nm 253 9 12 := ⟨_, _, _, rfl, by decide, Or.inl ⟨rfl, (Or.inl (th_mW 231 (by decide +kernel) rfl))⟩⟩
theorem g_X9_250 : th_gf RX9 250 9 13 := ⟨_, _, _, rfl, by decide, (Or.inl (th_mW 232 (by decide +kernel) rfl))⟩
theorem p_X9_250 (nm : String) : th_pf RX9 nm 250 9 13 := ⟨_, _, _, rfl, by decide, Or.inl ⟨rfl, (Or.inl (th_mW 232 (by decide +kernel) rfl))⟩⟩
theorem g_X9_265 : th_gf RX9 265 9 14 := ⟨_, _, _, rfl, by decide, (Or.inl (th_mW 233 (by decide +kernel) rfl))⟩
theorem p_X9_265 (nm : String) : th_pf RX9 nm 265 9 14 := ⟨_, _, _, rfl, by decide, Or.inl ⟨rfl, (Or.inl (th_mW 233 (by decide +kernel) rfl))⟩⟩
theorem g_X9_269 : th_gf RX9 269 9 15 := ⟨_, _, _, rfl, by decide, (Or.inl (th_mW 234 (by decide +kernel) rfl))⟩
theorem p_X9_269 (nm : String) : th_pf RX9 nm 269 9 15 := ⟨_, _, _, rfl, by decide, Or.inl ⟨rfl, (Or.inl (th_mW 234 (by decide +kernel) rfl))⟩⟩
theorem g_X6_9 : th_gf RX6 9 6 0 := ⟨_, _, _, rfl, by decide, (Or.inl (th_mW 356 (by decide +kernel) rfl))⟩
theorem p_X6_9 : th_pf RX6 "<init>" 9 6 0 := ⟨_, _, _, rfl, by decide, Or.inr ⟨rfl, rfl, rfl, (th_mW 356 (by decide +kernel) rfl)⟩⟩
theorem g_X6_15 : th_gf RX6 15 6 1 := ⟨_, _, _, rfl, by decide, (Or.inl (th_mW 357 (by decide +kernel) rfl))⟩
theorem p_X6_15 : th_pf RX6 "<init>" 15 6 1 := ⟨_, _, _, rfl, by decide, Or.inr ⟨rfl, rfl, rfl, (th_mW 357 (by decide +kernel) rfl)⟩⟩
theorem g_X6_18 : th_gf RX6 18 6 2 := ⟨_, _, _, rfl, by decide, (Or.inl (th_mW 358 (by decide +kernel) rfl))⟩
theorem p_X6_18 : th_pf RX6 "<init>" 18 6 2 := ⟨_, _, _, rfl, by decide, Or.inr ⟨rfl, rfl, rfl, (th_mW 358 (by decide +kernel) rfl)⟩⟩
theorem sl_X9_194 : Cond.fieldLink RX9 194 "TriggerHall" "NO_CELLS" "[I" ∈ th_W := (th_mW 600 (by decide +kernel) rfl)
theorem g_X2_10 : th_gf RX2 10 2 0 := ⟨_, _, _, rfl, by decide, (Or.inl (th_mW 692 (by decide +kernel) rfl))⟩
theorem p_X2_10 : th_pf RX2 "<init>" 10 2 0 := ⟨_, _, _, rfl, by decide, Or.inr ⟨rfl, rfl, rfl, (th_mW 692 (by decide +kernel) rfl)⟩⟩
theorem g_X9_232 : th_gf RX9 232 2 0 := ⟨_, _, _, rfl, by decide, (Or.inr (Or.inr ⟨"TriggerHall", (th_mN 693 (by decide +kernel) rfl)⟩))⟩
theorem g_X2_24 : th_gf RX2 24 2 1 := ⟨_, _, _, rfl, by decide, (Or.inl (th_mW 694 (by decide +kernel) rfl))⟩
theorem p_X2_24 : th_pf RX2 "<init>" 24 2 1 := ⟨_, _, _, rfl, by decide, Or.inr ⟨rfl, rfl, rfl, (th_mW 694 (by decide +kernel) rfl)⟩⟩
theorem g_X9_235 : th_gf RX9 235 2 1 := ⟨_, _, _, rfl, by decide, (Or.inr (Or.inr ⟨"TriggerHall", (th_mN 695 (by decide +kernel) rfl)⟩))⟩
theorem g_X2_20 : th_gf RX2 20 2 2 := ⟨_, _, _, rfl, by decide, (Or.inl (th_mW 696 (by decide +kernel) rfl))⟩
theorem p_X2_20 (nm : String) : th_pf RX2 nm 20 2 2 := ⟨_, _, _, rfl, by decide, Or.inl ⟨rfl, (Or.inl (th_mW 696 (by decide +kernel) rfl))⟩⟩
theorem g_X9_229 : th_gf RX9 229 2 2 := ⟨_, _, _, rfl, by decide, (Or.inr (Or.inr ⟨"TriggerHall", (th_mN 697 (by decide +kernel) rfl)⟩))⟩
theorem p_X9_229 (nm : String) : th_pf RX9 nm 229 2 2 := ⟨_, _, _, rfl, by decide, Or.inl ⟨rfl, (Or.inr (Or.inr ⟨"TriggerHall", (th_mN 697 (by decide +kernel) rfl)⟩))⟩⟩
theorem g_X2_28 : th_gf RX2 28 2 3 := ⟨_, _, _, rfl, by decide, (Or.inl (th_mW 698 (by decide +kernel) rfl))⟩
theorem p_X2_28 (nm : String) : th_pf RX2 nm 28 2 3 := ⟨_, _, _, rfl, by decide, Or.inl ⟨rfl, (Or.inl (th_mW 698 (by decide +kernel) rfl))⟩⟩
theorem g_X9_238 : th_gf RX9 238 2 3 := ⟨_, _, _, rfl, by decide, (Or.inr (Or.inr ⟨"TriggerHall", (th_mN 699 (by decide +kernel) rfl)⟩))⟩
theorem p_X9_238 (nm : String) : th_pf RX9 nm 238 2 3 := ⟨_, _, _, rfl, by decide, Or.inl ⟨rfl, (Or.inr (Or.inr ⟨"TriggerHall", (th_mN 699 (by decide +kernel) rfl)⟩))⟩⟩
theorem g_X2_31 : th_gf RX2 31 2 4 := ⟨_, _, _, rfl, by decide, (Or.inl (th_mW 700 (by decide +kernel) rfl))⟩
theorem p_X2_31 (nm : String) : th_pf RX2 nm 31 2 4 := ⟨_, _, _, rfl, by decide, Or.inl ⟨rfl, (Or.inl (th_mW 700 (by decide +kernel) rfl))⟩⟩
theorem g_X9_241 : th_gf RX9 241 2 4 := ⟨_, _, _, rfl, by decide, (Or.inr (Or.inr ⟨"TriggerHall", (th_mN 701 (by decide +kernel) rfl)⟩))⟩
theorem p_X9_241 (nm : String) : th_pf RX9 nm 241 2 4 := ⟨_, _, _, rfl, by decide, Or.inl ⟨rfl, (Or.inr (Or.inr ⟨"TriggerHall", (th_mN 701 (by decide +kernel) rfl)⟩))⟩⟩
theorem g_X2_34 : th_gf RX2 34 2 5 := ⟨_, _, _, rfl, by decide, (Or.inl (th_mW 702 (by decide +kernel) rfl))⟩
theorem p_X2_34 (nm : String) : th_pf RX2 nm 34 2 5 := ⟨_, _, _, rfl, by decide, Or.inl ⟨rfl, (Or.inl (th_mW 702 (by decide +kernel) rfl))⟩⟩
theorem g_X9_244 : th_gf RX9 244 2 5 := ⟨_, _, _, rfl, by decide, (Or.inr (Or.inr ⟨"TriggerHall", (th_mN 703 (by decide +kernel) rfl)⟩))⟩
theorem p_X9_244 (nm : String) : th_pf RX9 nm 244 2 5 := ⟨_, _, _, rfl, by decide, Or.inl ⟨rfl, (Or.inr (Or.inr ⟨"TriggerHall", (th_mN 703 (by decide +kernel) rfl)⟩))⟩⟩
theorem g_X2_37 : th_gf RX2 37 2 6 := ⟨_, _, _, rfl, by decide, (Or.inl (th_mW 704 (by decide +kernel) rfl))⟩
theorem p_X2_37 (nm : String) : th_pf RX2 nm 37 2 6 := ⟨_, _, _, rfl, by decide, Or.inl ⟨rfl, (Or.inl (th_mW 704 (by decide +kernel) rfl))⟩⟩
theorem g_X9_247 : th_gf RX9 247 2 6 := ⟨_, _, _, rfl, by decide, (Or.inr (Or.inr ⟨"TriggerHall", (th_mN 705 (by decide +kernel) rfl)⟩))⟩
theorem p_X9_247 (nm : String) : th_pf RX9 nm 247 2 6 := ⟨_, _, _, rfl, by decide, Or.inl ⟨rfl, (Or.inr (Or.inr ⟨"TriggerHall", (th_mN 705 (by decide +kernel) rfl)⟩))⟩⟩
theorem g_X10_9 : th_gf RX10 9 10 0 := ⟨_, _, _, rfl, by decide, (Or.inl (th_mW 836 (by decide +kernel) rfl))⟩
theorem p_X10_9 : th_pf RX10 "<init>" 9 10 0 := ⟨_, _, _, rfl, by decide, Or.inr ⟨rfl, rfl, rfl, (th_mW 836 (by decide +kernel) rfl)⟩⟩
theorem g_X10_13 : th_gf RX10 13 10 1 := ⟨_, _, _, rfl, by decide, (Or.inl (th_mW 837 (by decide +kernel) rfl))⟩
theorem p_X10_13 : th_pf RX10 "<init>" 13 10 1 := ⟨_, _, _, rfl, by decide, Or.inr ⟨rfl, rfl, rfl, (th_mW 837 (by decide +kernel) rfl)⟩⟩
theorem g_X10_16 : th_gf RX10 16 10 2 := ⟨_, _, _, rfl, by decide, (Or.inl (th_mW 838 (by decide +kernel) rfl))⟩
theorem p_X10_16 : th_pf RX10 "<init>" 16 10 2 := ⟨_, _, _, rfl, by decide, Or.inr ⟨rfl, rfl, rfl, (th_mW 838 (by decide +kernel) rfl)⟩⟩
theorem g_X10_19 : th_gf RX10 19 10 3 := ⟨_, _, _, rfl, by decide, (Or.inl (th_mW 839 (by decide +kernel) rfl))⟩
theorem p_X10_19 : th_pf RX10 "<init>" 19 10 3 := ⟨_, _, _, rfl, by decide, Or.inr ⟨rfl, rfl, rfl, (th_mW 839 (by decide +kernel) rfl)⟩⟩
theorem g_X10_22 : th_gf RX10 22 10 4 := ⟨_, _, _, rfl, by decide, (Or.inl (th_mW 840 (by decide +kernel) rfl))⟩
theorem p_X10_22 : th_pf RX10 "<init>" 22 10 4 := ⟨_, _, _, rfl, by decide, Or.inr ⟨rfl, rfl, rfl, (th_mW 840 (by decide +kernel) rfl)⟩⟩
theorem g_X10_25 : th_gf RX10 25 10 5 := ⟨_, _, _, rfl, by decide, (Or.inl (th_mW 841 (by decide +kernel) rfl))⟩
theorem p_X10_25 : th_pf RX10 "<init>" 25 10 5 := ⟨_, _, _, rfl, by decide, Or.inr ⟨rfl, rfl, rfl, (th_mW 841 (by decide +kernel) rfl)⟩⟩
theorem g_X10_124 : th_gf RX10 124 10 6 := ⟨_, _, _, rfl, by decide, (Or.inl (th_mW 842 (by decide +kernel) rfl))⟩
theorem p_X10_124 (nm : String) : th_pf RX10 nm 124 10 6 := ⟨_, _, _, rfl, by decide, Or.inl ⟨rfl, (Or.inl (th_mW 842 (by decide +kernel) rfl))⟩⟩
theorem g_X10_28 : th_gf RX10 28 10 7 := ⟨_, _, _, rfl, by decide, (Or.inl (th_mW 843 (by decide +kernel) rfl))⟩
theorem p_X10_28 : th_pf RX10 "<init>" 28 10 7 := ⟨_, _, _, rfl, by decide, Or.inr ⟨rfl, rfl, rfl, (th_mW 843 (by decide +kernel) rfl)⟩⟩
theorem g_X10_31 : th_gf RX10 31 10 8 := ⟨_, _, _, rfl, by decide, (Or.inl (th_mW 844 (by decide +kernel) rfl))⟩
theorem p_X10_31 : th_pf RX10 "<init>" 31 10 8 := ⟨_, _, _, rfl, by decide, Or.inr ⟨rfl, rfl, rfl, (th_mW 844 (by decide +kernel) rfl)⟩⟩
theorem g_X10_34 : th_gf RX10 34 10 9 := ⟨_, _, _, rfl, by decide, (Or.inl (th_mW 845 (by decide +kernel) rfl))⟩
theorem p_X10_34 : th_pf RX10 "<init>" 34 10 9 := ⟨_, _, _, rfl, by decide, Or.inr ⟨rfl, rfl, rfl, (th_mW 845 (by decide +kernel) rfl)⟩⟩
theorem g_X10_175 : th_gf RX10 175 10 10 := ⟨_, _, _, rfl, by decide, (Or.inl (th_mW 846 (by decide +kernel) rfl))⟩
theorem p_X10_175 (nm : String) : th_pf RX10 nm 175 10 10 := ⟨_, _, _, rfl, by decide, Or.inl ⟨rfl, (Or.inl (th_mW 846 (by decide +kernel) rfl))⟩⟩
theorem g_X10_186 : th_gf RX10 186 10 11 := ⟨_, _, _, rfl, by decide, (Or.inl (th_mW 847 (by decide +kernel) rfl))⟩
theorem p_X10_186 (nm : String) : th_pf RX10 nm 186 10 11 := ⟨_, _, _, rfl, by decide, Or.inl ⟨rfl, (Or.inl (th_mW 847 (by decide +kernel) rfl))⟩⟩
theorem g_X10_38 : th_gf RX10 38 10 12 := ⟨_, _, _, rfl, by decide, (Or.inl (th_mW 848 (by decide +kernel) rfl))⟩
theorem p_X10_38 : th_pf RX10 "<init>" 38 10 12 := ⟨_, _, _, rfl, by decide, Or.inr ⟨rfl, rfl, rfl, (th_mW 848 (by decide +kernel) rfl)⟩⟩
theorem g_X10_41 : th_gf RX10 41 10 13 := ⟨_, _, _, rfl, by decide, (Or.inl (th_mW 849 (by decide +kernel) rfl))⟩
theorem p_X10_41 : th_pf RX10 "<init>" 41 10 13 := ⟨_, _, _, rfl, by decide, Or.inr ⟨rfl, rfl, rfl, (th_mW 849 (by decide +kernel) rfl)⟩⟩
theorem g_X10_44 : th_gf RX10 44 10 14 := ⟨_, _, _, rfl, by decide, (Or.inl (th_mW 850 (by decide +kernel) rfl))⟩
theorem p_X10_44 : th_pf RX10 "<init>" 44 10 14 := ⟨_, _, _, rfl, by decide, Or.inr ⟨rfl, rfl, rfl, (th_mW 850 (by decide +kernel) rfl)⟩⟩
theorem g_X10_47 : th_gf RX10 47 10 15 := ⟨_, _, _, rfl, by decide, (Or.inl (th_mW 851 (by decide +kernel) rfl))⟩
theorem p_X10_47 : th_pf RX10 "<init>" 47 10 15 := ⟨_, _, _, rfl, by decide, Or.inr ⟨rfl, rfl, rfl, (th_mW 851 (by decide +kernel) rfl)⟩⟩
theorem g_X10_51 : th_gf RX10 51 10 16 := ⟨_, _, _, rfl, by decide, (Or.inl (th_mW 852 (by decide +kernel) rfl))⟩
theorem p_X10_51 : th_pf RX10 "<init>" 51 10 16 := ⟨_, _, _, rfl, by decide, Or.inr ⟨rfl, rfl, rfl, (th_mW 852 (by decide +kernel) rfl)⟩⟩
theorem g_X10_54 : th_gf RX10 54 10 17 := ⟨_, _, _, rfl, by decide, (Or.inl (th_mW 853 (by decide +kernel) rfl))⟩
theorem p_X10_54 : th_pf RX10 "<init>" 54 10 17 := ⟨_, _, _, rfl, by decide, Or.inr ⟨rfl, rfl, rfl, (th_mW 853 (by decide +kernel) rfl)⟩⟩
theorem g_X10_57 : th_gf RX10 57 10 18 := ⟨_, _, _, rfl, by decide, (Or.inl (th_mW 854 (by decide +kernel) rfl))⟩
theorem p_X10_57 : th_pf RX10 "<init>" 57 10 18 := ⟨_, _, _, rfl, by decide, Or.inr ⟨rfl, rfl, rfl, (th_mW 854 (by decide +kernel) rfl)⟩⟩
theorem g_X10_60 : th_gf RX10 60 10 19 := ⟨_, _, _, rfl, by decide, (Or.inl (th_mW 855 (by decide +kernel) rfl))⟩
theorem p_X10_60 : th_pf RX10 "<init>" 60 10 19 := ⟨_, _, _, rfl, by decide, Or.inr ⟨rfl, rfl, rfl, (th_mW 855 (by decide +kernel) rfl)⟩⟩
theorem g_X10_226 : th_gf RX10 226 10 20 := ⟨_, _, _, rfl, by decide, (Or.inl (th_mW 856 (by decide +kernel) rfl))⟩
theorem p_X10_226 (nm : String) : th_pf RX10 nm 226 10 20 := ⟨_, _, _, rfl, by decide, Or.inl ⟨rfl, (Or.inl (th_mW 856 (by decide +kernel) rfl))⟩⟩
theorem g_X10_235 : th_gf RX10 235 10 21 := ⟨_, _, _, rfl, by decide, (Or.inl (th_mW 857 (by decide +kernel) rfl))⟩
theorem p_X10_235 (nm : String) : th_pf RX10 nm 235 10 21 := ⟨_, _, _, rfl, by decide, Or.inl ⟨rfl, (Or.inl (th_mW 857 (by decide +kernel) rfl))⟩⟩
theorem g_X10_223 : th_gf RX10 223 10 22 := ⟨_, _, _, rfl, by decide, (Or.inl (th_mW 858 (by decide +kernel) rfl))⟩
theorem p_X10_223 (nm : String) : th_pf RX10 nm 223 10 22 := ⟨_, _, _, rfl, by decide, Or.inl ⟨rfl, (Or.inl (th_mW 858 (by decide +kernel) rfl))⟩⟩
theorem g_X10_220 : th_gf RX10 220 10 23 := ⟨_, _, _, rfl, by decide, (Or.inl (th_mW 859 (by decide +kernel) rfl))⟩
theorem p_X10_220 (nm : String) : th_pf RX10 nm 220 10 23 := ⟨_, _, _, rfl, by decide, Or.inl ⟨rfl, (Or.inl (th_mW 859 (by decide +kernel) rfl))⟩⟩
theorem g_X10_229 : th_gf RX10 229 10 24 := ⟨_, _, _, rfl, by decide, (Or.inl (th_mW 860 (by decide +kernel) rfl))⟩
theorem p_X10_229 (nm : String) : th_pf RX10 nm 229 10 24 := ⟨_, _, _, rfl, by decide, Or.inl ⟨rfl, (Or.inl (th_mW 860 (by decide +kernel) rfl))⟩⟩
theorem g_X10_232 : th_gf RX10 232 10 25 := ⟨_, _, _, rfl, by decide, (Or.inl (th_mW 861 (by decide +kernel) rfl))⟩
theorem p_X10_232 (nm : String) : th_pf RX10 nm 232 10 25 := ⟨_, _, _, rfl, by decide, Or.inl ⟨rfl, (Or.inl (th_mW 861 (by decide +kernel) rfl))⟩⟩
theorem g_X10_63 : th_gf RX10 63 10 26 := ⟨_, _, _, rfl, by decide, (Or.inl (th_mW 862 (by decide +kernel) rfl))⟩
theorem p_X10_63 : th_pf RX10 "<init>" 63 10 26 := ⟨_, _, _, rfl, by decide, Or.inr ⟨rfl, rfl, rfl, (th_mW 862 (by decide +kernel) rfl)⟩⟩
theorem g_X10_66 : th_gf RX10 66 10 27 := ⟨_, _, _, rfl, by decide, (Or.inl (th_mW 863 (by decide +kernel) rfl))⟩
theorem p_X10_66 : th_pf RX10 "<init>" 66 10 27 := ⟨_, _, _, rfl, by decide, Or.inr ⟨rfl, rfl, rfl, (th_mW 863 (by decide +kernel) rfl)⟩⟩
theorem g_X10_69 : th_gf RX10 69 10 28 := ⟨_, _, _, rfl, by decide, (Or.inl (th_mW 864 (by decide +kernel) rfl))⟩
theorem p_X10_69 : th_pf RX10 "<init>" 69 10 28 := ⟨_, _, _, rfl, by decide, Or.inr ⟨rfl, rfl, rfl, (th_mW 864 (by decide +kernel) rfl)⟩⟩
theorem g_X10_72 : th_gf RX10 72 10 29 := ⟨_, _, _, rfl, by decide, (Or.inl (th_mW 865 (by decide +kernel) rfl))⟩
theorem p_X10_72 : th_pf RX10 "<init>" 72 10 29 := ⟨_, _, _, rfl, by decide, Or.inr ⟨rfl, rfl, rfl, (th_mW 865 (by decide +kernel) rfl)⟩⟩
theorem g_X10_75 : th_gf RX10 75 10 30 := ⟨_, _, _, rfl, by decide, (Or.inl (th_mW 866 (by decide +kernel) rfl))⟩
theorem p_X10_75 : th_pf RX10 "<init>" 75 10 30 := ⟨_, _, _, rfl, by decide, Or.inr ⟨rfl, rfl, rfl, (th_mW 866 (by decide +kernel) rfl)⟩⟩
theorem g_X10_78 : th_gf RX10 78 10 31 := ⟨_, _, _, rfl, by decide, (Or.inl (th_mW 867 (by decide +kernel) rfl))⟩
theorem p_X10_78 : th_pf RX10 "<init>" 78 10 31 := ⟨_, _, _, rfl, by decide, Or.inr ⟨rfl, rfl, rfl, (th_mW 867 (by decide +kernel) rfl)⟩⟩
theorem g_X10_81 : th_gf RX10 81 10 32 := ⟨_, _, _, rfl, by decide, (Or.inl (th_mW 868 (by decide +kernel) rfl))⟩
theorem p_X10_81 : th_pf RX10 "<init>" 81 10 32 := ⟨_, _, _, rfl, by decide, Or.inr ⟨rfl, rfl, rfl, (th_mW 868 (by decide +kernel) rfl)⟩⟩
theorem g_X10_84 : th_gf RX10 84 10 33 := ⟨_, _, _, rfl, by decide, (Or.inl (th_mW 869 (by decide +kernel) rfl))⟩
theorem p_X10_84 : th_pf RX10 "<init>" 84 10 33 := ⟨_, _, _, rfl, by decide, Or.inr ⟨rfl, rfl, rfl, (th_mW 869 (by decide +kernel) rfl)⟩⟩
theorem g_X10_142 : th_gf RX10 142 10 34 := ⟨_, _, _, rfl, by decide, (Or.inl (th_mW 870 (by decide +kernel) rfl))⟩
theorem p_X10_142 (nm : String) : th_pf RX10 nm 142 10 34 := ⟨_, _, _, rfl, by decide, Or.inl ⟨rfl, (Or.inl (th_mW 870 (by decide +kernel) rfl))⟩⟩
theorem g_X10_162 : th_gf RX10 162 10 35 := ⟨_, _, _, rfl, by decide, (Or.inl (th_mW 871 (by decide +kernel) rfl))⟩
theorem p_X10_162 (nm : String) : th_pf RX10 nm 162 10 35 := ⟨_, _, _, rfl, by decide, Or.inl ⟨rfl, (Or.inl (th_mW 871 (by decide +kernel) rfl))⟩⟩
theorem g_X10_165 : th_gf RX10 165 10 36 := ⟨_, _, _, rfl, by decide, (Or.inl (th_mW 872 (by decide +kernel) rfl))⟩
theorem p_X10_165 (nm : String) : th_pf RX10 nm 165 10 36 := ⟨_, _, _, rfl, by decide, Or.inl ⟨rfl, (Or.inl (th_mW 872 (by decide +kernel) rfl))⟩⟩
theorem g_X10_87 : th_gf RX10 87 10 37 := ⟨_, _, _, rfl, by decide, (Or.inl (th_mW 873 (by decide +kernel) rfl))⟩
theorem p_X10_87 : th_pf RX10 "<init>" 87 10 37 := ⟨_, _, _, rfl, by decide, Or.inr ⟨rfl, rfl, rfl, (th_mW 873 (by decide +kernel) rfl)⟩⟩
theorem g_X10_198 : th_gf RX10 198 10 38 := ⟨_, _, _, rfl, by decide, (Or.inl (th_mW 874 (by decide +kernel) rfl))⟩
theorem p_X10_198 (nm : String) : th_pf RX10 nm 198 10 38 := ⟨_, _, _, rfl, by decide, Or.inl ⟨rfl, (Or.inl (th_mW 874 (by decide +kernel) rfl))⟩⟩
theorem g_X10_195 : th_gf RX10 195 10 39 := ⟨_, _, _, rfl, by decide, (Or.inl (th_mW 875 (by decide +kernel) rfl))⟩
theorem p_X10_195 (nm : String) : th_pf RX10 nm 195 10 39 := ⟨_, _, _, rfl, by decide, Or.inl ⟨rfl, (Or.inl (th_mW 875 (by decide +kernel) rfl))⟩⟩
theorem g_X10_90 : th_gf RX10 90 10 40 := ⟨_, _, _, rfl, by decide, (Or.inl (th_mW 876 (by decide +kernel) rfl))⟩
theorem p_X10_90 : th_pf RX10 "<init>" 90 10 40 := ⟨_, _, _, rfl, by decide, Or.inr ⟨rfl, rfl, rfl, (th_mW 876 (by decide +kernel) rfl)⟩⟩
theorem l_L_9 : th_cI RL 9 yX9_init kX9_init 0 := ⟨bX9_init, (Or.inl (th_mW 24 (by decide +kernel) rfl)), (th_mW 25 (by decide +kernel) rfl), rfl, rfl⟩
theorem l_X9_1 : Cond.methodLink RX9 1 objectInit ∈ th_W := (th_mW 27 (by decide +kernel) rfl)
theorem l_X9_9 : th_cI RX9 9 yX7_init kX7_init 0 := ⟨bX7_init, (Or.inr ⟨"TriggerHall", (th_mN 33 (by decide +kernel) rfl)⟩), (th_mW 34 (by decide +kernel) rfl), rfl, rfl⟩
theorem l_X7_3 : Cond.methodLink RX7 3 objectInit ∈ th_W := (th_mW 36 (by decide +kernel) rfl)
theorem l_X9_28 : th_cI RX9 28 yJx4a65c_init_da8c8 kJx4a65c_init_da8c8 0 := ⟨bJx4a65c_init_da8c8, (Or.inl (th_mW 54 (by decide +kernel) rfl)), (th_mW 55 (by decide +kernel) rfl), rfl, rfl⟩
theorem l_Jx4a65c_1 : th_cI RJx4a65c 1 yJxc12de_init_da8c8 kJxc12de_init_da8c8 0 := ⟨bJxc12de_init_da8c8, (Or.inl (th_mW 57 (by decide +kernel) rfl)), (th_mW 58 (by decide +kernel) rfl), rfl, rfl⟩
theorem l_Jxc12de_1 : th_cI RJxc12de 1 yJxa1e45_init_da8c8 kJxa1e45_init_da8c8 0 := ⟨bJxa1e45_init_da8c8, (Or.inl (th_mW 60 (by decide +kernel) rfl)), (th_mW 61 (by decide +kernel) rfl), rfl, rfl⟩
theorem l_Jxa1e45_1 : Cond.methodLink RJxa1e45 1 objectInit ∈ th_W := (th_mW 63 (by decide +kernel) rfl)
theorem l_X9_35 : th_cI RX9 35 yX3_init kX3_init 0 := ⟨bX3_init, (Or.inr ⟨"TriggerHall", (th_mN 80 (by decide +kernel) rfl)⟩), (th_mW 81 (by decide +kernel) rfl), rfl, rfl⟩
theorem l_X3_3 : Cond.methodLink RX3 3 objectInit ∈ th_W := (th_mW 83 (by decide +kernel) rfl)
theorem l_X3_17 : th_cI RX3 17 yX0_init kX0_init 0 := ⟨bX0_init, (Or.inr ⟨"TriggerHall", (th_mN 86 (by decide +kernel) rfl)⟩), (th_mW 87 (by decide +kernel) rfl), rfl, rfl⟩
theorem l_X0_3 : Cond.methodLink RX0 3 objectInit ∈ th_W := (th_mW 89 (by decide +kernel) rfl)
theorem l_X3_24 : th_cI RX3 24 yX1_init kX1_init 0 := ⟨bX1_init, (Or.inr ⟨"TriggerHall", (th_mN 116 (by decide +kernel) rfl)⟩), (th_mW 117 (by decide +kernel) rfl), rfl, rfl⟩
theorem l_X1_3 : Cond.methodLink RX1 3 objectInit ∈ th_W := (th_mW 119 (by decide +kernel) rfl)
theorem l_X9_42 : th_cI RX9 42 yX8_init kX8_init 0 := ⟨bX8_init, (Or.inr ⟨"TriggerHall", (th_mN 165 (by decide +kernel) rfl)⟩), (th_mW 166 (by decide +kernel) rfl), rfl, rfl⟩
theorem l_X8_3 : Cond.methodLink RX8 3 objectInit ∈ th_W := (th_mW 168 (by decide +kernel) rfl)
theorem l_X9_49 : th_cI RX9 49 yX5_init kX5_init 0 := ⟨bX5_init, (Or.inr ⟨"TriggerHall", (th_mN 181 (by decide +kernel) rfl)⟩), (th_mW 182 (by decide +kernel) rfl), rfl, rfl⟩
theorem l_X5_3 : Cond.methodLink RX5 3 objectInit ∈ th_W := (th_mW 184 (by decide +kernel) rfl)
theorem l_X9_59 : th_cI RX9 59 yX4_init kX4_init 0 := ⟨bX4_init, (Or.inr ⟨"TriggerHall", (th_mN 201 (by decide +kernel) rfl)⟩), (th_mW 202 (by decide +kernel) rfl), rfl, rfl⟩
theorem l_X4_3 : Cond.methodLink RX4 3 objectInit ∈ th_W := (th_mW 204 (by decide +kernel) rfl)
theorem l_L_13 : th_cV RL 13 yX9_sheet kX9_sheet 3 := ⟨bX9_sheet, (Or.inl (th_mW 268 (by decide +kernel) rfl)), (th_mW 269 (by decide +kernel) rfl), (th_mW 270 (by decide +kernel) rfl)⟩
theorem l_X9_67 : th_cV RX9 67 yX9_sheetAt kX9_sheetAt 1 := ⟨bX9_sheetAt, (Or.inl (th_mW 272 (by decide +kernel) rfl)), (th_mW 274 (by decide +kernel) rfl), (th_mS 0 (by decide +kernel) rfl)⟩
theorem l_X9_71 : th_cV RX9 71 yX7_lay kX7_lay 2 := ⟨bX7_lay, (Or.inr ⟨"TriggerHall", (th_mN 276 (by decide +kernel) rfl)⟩), (th_mW 278 (by decide +kernel) rfl), (th_mS 1 (by decide +kernel) rfl)⟩
theorem l_L_18 : th_cV RL 18 yX9_cell kX9_cell 3 := ⟨bX9_cell, (Or.inl (th_mW 280 (by decide +kernel) rfl)), (th_mW 281 (by decide +kernel) rfl), (th_mW 282 (by decide +kernel) rfl)⟩
theorem l_X9_79 : th_cV RX9 79 yX7_has kX7_has 1 := ⟨bX7_has, (Or.inr ⟨"TriggerHall", (th_mN 284 (by decide +kernel) rfl)⟩), (th_mW 286 (by decide +kernel) rfl), (th_mS 2 (by decide +kernel) rfl)⟩
theorem l_X9_83 : th_cV RX9 83 yX7_put kX7_put 2 := ⟨bX7_put, (Or.inr ⟨"TriggerHall", (th_mN 288 (by decide +kernel) rfl)⟩), (th_mW 290 (by decide +kernel) rfl), (th_mS 3 (by decide +kernel) rfl)⟩
theorem l_X7_26 : th_cV RX7 26 yX7_has kX7_has 1 := ⟨bX7_has, (Or.inl (th_mW 292 (by decide +kernel) rfl)), (th_mW 286 (by decide +kernel) rfl), (th_mS 2 (by decide +kernel) rfl)⟩
theorem l_L_22 : th_cV RL 22 yX9_lose kX9_lose 1 := ⟨bX9_lose, (Or.inl (th_mW 293 (by decide +kernel) rfl)), (th_mW 294 (by decide +kernel) rfl), (th_mW 295 (by decide +kernel) rfl)⟩
theorem l_L_27 : th_cV RL 27 yX9_hits kX9_hits 2 := ⟨bX9_hits, (Or.inl (th_mW 297 (by decide +kernel) rfl)), (th_mW 298 (by decide +kernel) rfl), (th_mW 299 (by decide +kernel) rfl)⟩
theorem l_X9_86 : th_cS RX9 86 yX9_isLayer kX9_isLayer 1 := ⟨bX9_isLayer, (Or.inl (th_mW 301 (by decide +kernel) rfl)), (th_mW 302 (by decide +kernel) rfl)⟩
theorem l_X9_89 : th_cS RX9 89 yX9_areCells kX9_areCells 1 := ⟨bX9_areCells, (Or.inl (th_mW 304 (by decide +kernel) rfl)), (th_mW 305 (by decide +kernel) rfl)⟩
theorem l_X9_92 : th_cS RX9 92 yJ6_bitCount_0f7a4 kJ6_bitCount_0f7a4 1 := ⟨bJ6_bitCount_0f7a4, (Or.inl (th_mW 308 (by decide +kernel) rfl)), (th_mW 309 (by decide +kernel) rfl)⟩
theorem l_L_32 : th_cV RL 32 yX9_load kX9_load 2 := ⟨bX9_load, (Or.inl (th_mW 314 (by decide +kernel) rfl)), (th_mW 315 (by decide +kernel) rfl), (th_mW 316 (by decide +kernel) rfl)⟩
theorem l_X9_98 : th_cV RX9 98 yX7_numberAt kX7_numberAt 1 := ⟨bX7_numberAt, (Or.inr ⟨"TriggerHall", (th_mN 318 (by decide +kernel) rfl)⟩), (th_mW 320 (by decide +kernel) rfl), (th_mS 4 (by decide +kernel) rfl)⟩
theorem l_X9_102 : th_cS RX9 102 yX9_cellsIn kX9_cellsIn 1 := ⟨bX9_cellsIn, (Or.inl (th_mW 322 (by decide +kernel) rfl)), (th_mW 323 (by decide +kernel) rfl)⟩
theorem l_L_36 : th_cV RL 36 yX9_mask kX9_mask 3 := ⟨bX9_mask, (Or.inl (th_mW 325 (by decide +kernel) rfl)), (th_mW 326 (by decide +kernel) rfl), (th_mW 327 (by decide +kernel) rfl)⟩
theorem l_L_40 : th_cV RL 40 yX9_layer kX9_layer 2 := ⟨bX9_layer, (Or.inl (th_mW 329 (by decide +kernel) rfl)), (th_mW 330 (by decide +kernel) rfl), (th_mW 331 (by decide +kernel) rfl)⟩
theorem l_L_44 : th_cV RL 44 yX9_road kX9_road 6 := ⟨bX9_road, (Or.inl (th_mW 333 (by decide +kernel) rfl)), (th_mW 334 (by decide +kernel) rfl), (th_mW 335 (by decide +kernel) rfl)⟩
theorem l_X9_106 : th_cS RX9 106 yX9_isSpan kX9_isSpan 1 := ⟨bX9_isSpan, (Or.inl (th_mW 337 (by decide +kernel) rfl)), (th_mW 338 (by decide +kernel) rfl)⟩
theorem l_X9_109 : th_cF RX9 109 yLi_size yJx4a65c_size_8abf5 kJx4a65c_size_8abf5 0 := ⟨bJx4a65c_size_8abf5, (th_mW 341 (by decide +kernel) rfl), (th_mW 345 (by decide +kernel) rfl), (th_mW 347 (by decide +kernel) rfl), Or.inl ⟨rfl, rfl⟩⟩
theorem l_X9_117 : th_cI RX9 117 yX6_init kX6_init 1 := ⟨bX6_init, (Or.inr ⟨"TriggerHall", (th_mN 352 (by decide +kernel) rfl)⟩), (th_mW 353 (by decide +kernel) rfl), rfl, rfl⟩
theorem l_X6_3 : Cond.methodLink RX6 3 objectInit ∈ th_W := (th_mW 355 (by decide +kernel) rfl)
theorem l_X9_120 : th_cV RX9 120 yX6_setSpan kX6_setSpan 2 := ⟨bX6_setSpan, (Or.inr ⟨"TriggerHall", (th_mN 366 (by decide +kernel) rfl)⟩), (th_mW 368 (by decide +kernel) rfl), (th_mS 5 (by decide +kernel) rfl)⟩
theorem l_X6_22 : th_cS RX6 22 yX9_isLayer kX9_isLayer 1 := ⟨bX9_isLayer, (Or.inr ⟨"TriggerHall", (th_mN 370 (by decide +kernel) rfl)⟩), (th_mW 302 (by decide +kernel) rfl)⟩
theorem l_X6_26 : th_cS RX6 26 yX9_isSpan kX9_isSpan 1 := ⟨bX9_isSpan, (Or.inr ⟨"TriggerHall", (th_mN 371 (by decide +kernel) rfl)⟩), (th_mW 338 (by decide +kernel) rfl)⟩
theorem l_X9_123 : th_cF RX9 123 yLi_add yJx4a65c_add_9ea2d kJx4a65c_add_9ea2d 1 := ⟨bJx4a65c_add_9ea2d, (th_mW 373 (by decide +kernel) rfl), (th_mW 376 (by decide +kernel) rfl), (th_mW 378 (by decide +kernel) rfl), Or.inr (Or.inr ⟨rfl, rfl⟩)⟩
theorem l_Jx4a65c_131 : th_cV RJx4a65c 131 yJx4a65c_add_72be8 kJx4a65c_add_72be8 3 := ⟨bJx4a65c_add_72be8, (Or.inl (th_mW 381 (by decide +kernel) rfl)), (th_mW 383 (by decide +kernel) rfl), (th_mS 6 (by decide +kernel) rfl)⟩
theorem l_Jx4a65c_129 : th_cV RJx4a65c 129 yJx4a65c_grow_d5877 kJx4a65c_grow_d5877 0 := ⟨bJx4a65c_grow_d5877, (Or.inl (th_mW 385 (by decide +kernel) rfl)), (th_mW 387 (by decide +kernel) rfl), (th_mS 7 (by decide +kernel) rfl)⟩
theorem l_Jx4a65c_69 : th_cV RJx4a65c 69 yJx4a65c_grow_92f84 kJx4a65c_grow_92f84 1 := ⟨bJx4a65c_grow_92f84, (Or.inl (th_mW 389 (by decide +kernel) rfl)), (th_mW 391 (by decide +kernel) rfl), (th_mS 8 (by decide +kernel) rfl)⟩
theorem l_Jx4a65c_73 : th_cS RJx4a65c 73 yJ8_newLength_cabcc kJ8_newLength_cabcc 3 := ⟨bJ8_newLength_cabcc, (Or.inl (th_mW 393 (by decide +kernel) rfl)), (th_mW 394 (by decide +kernel) rfl)⟩
theorem l_J8_194 : th_cS RJ8 194 yJ9_max_7cf53 kJ9_max_7cf53 2 := ⟨bJ9_max_7cf53, (Or.inl (th_mW 396 (by decide +kernel) rfl)), (th_mW 397 (by decide +kernel) rfl)⟩
theorem l_J8_201 : th_cS RJ8 201 yJ8_hugeLength_7cf53 kJ8_hugeLength_7cf53 2 := ⟨bJ8_hugeLength_7cf53, (Or.inl (th_mW 400 (by decide +kernel) rfl)), (th_mW 401 (by decide +kernel) rfl)⟩
theorem l_Jx4a65c_66 : th_cS RJx4a65c 66 yJ7_copyOf_1904c kJ7_copyOf_1904c 2 := ⟨bJ7_copyOf_1904c, (Or.inl (th_mW 403 (by decide +kernel) rfl)), (th_mW 404 (by decide +kernel) rfl)⟩
theorem l_J7_300 : th_cS RJ7 300 yJ7_copyOf_6403c kJ7_copyOf_6403c 3 := ⟨bJ7_copyOf_6403c, (Or.inl (th_mW 422 (by decide +kernel) rfl)), (th_mW 423 (by decide +kernel) rfl)⟩
theorem l_J7_304 : th_cS RJ7 304 yJ9_min_7cf53 kJ9_min_7cf53 2 := ⟨bJ9_min_7cf53, (Or.inl (th_mW 428 (by decide +kernel) rfl)), (th_mW 429 (by decide +kernel) rfl)⟩
theorem l_Jx4a65c_79 : th_cS RJx4a65c 79 yJ9_max_7cf53 kJ9_max_7cf53 2 := ⟨bJ9_max_7cf53, (Or.inl (th_mW 434 (by decide +kernel) rfl)), (th_mW 397 (by decide +kernel) rfl)⟩
theorem l_L_49 : th_cV RL 49 yX9_span kX9_span 3 := ⟨bX9_span, (Or.inl (th_mW 436 (by decide +kernel) rfl)), (th_mW 437 (by decide +kernel) rfl), (th_mW 438 (by decide +kernel) rfl)⟩
theorem l_X9_127 : th_cV RX9 127 yX9_roadAt kX9_roadAt 1 := ⟨bX9_roadAt, (Or.inl (th_mW 440 (by decide +kernel) rfl)), (th_mW 442 (by decide +kernel) rfl), (th_mS 9 (by decide +kernel) rfl)⟩
theorem l_X9_287 : th_cF RX9 287 yLi_get yJx4a65c_get_915e3 kJx4a65c_get_915e3 1 := ⟨bJx4a65c_get_915e3, (th_mW 445 (by decide +kernel) rfl), (th_mW 448 (by decide +kernel) rfl), (th_mW 450 (by decide +kernel) rfl), Or.inr (Or.inl ⟨rfl, rfl⟩)⟩
theorem l_Jx4a65c_118 : th_cS RJx4a65c 118 yJ15_checkIndex_7cf53 kJ15_checkIndex_7cf53 2 := ⟨bJ15_checkIndex_7cf53, (Or.inl (th_mW 453 (by decide +kernel) rfl)), (th_mW 454 (by decide +kernel) rfl)⟩
theorem l_J15_105 : th_cS RJ15 105 yJ3_checkIndex_8e157 kJ3_checkIndex_8e157 3 := ⟨bJ3_checkIndex_8e157, (Or.inl (th_mW 456 (by decide +kernel) rfl)), (th_mW 457 (by decide +kernel) rfl)⟩
theorem l_Jx4a65c_123 : th_cV RJx4a65c 123 yJx4a65c_elementData_915e3 kJx4a65c_elementData_915e3 1 := ⟨bJx4a65c_elementData_915e3, (Or.inl (th_mW 459 (by decide +kernel) rfl)), (th_mW 460 (by decide +kernel) rfl), (th_mW 461 (by decide +kernel) rfl)⟩
theorem l_X9_131 : th_cV RX9 131 yX6_spanTold kX6_spanTold 1 := ⟨bX6_spanTold, (Or.inr ⟨"TriggerHall", (th_mN 463 (by decide +kernel) rfl)⟩), (th_mW 465 (by decide +kernel) rfl), (th_mS 10 (by decide +kernel) rfl)⟩
theorem l_L_53 : th_cV RL 53 yX9_lit kX9_lit 0 := ⟨bX9_lit, (Or.inl (th_mW 467 (by decide +kernel) rfl)), (th_mW 468 (by decide +kernel) rfl), (th_mW 469 (by decide +kernel) rfl)⟩
theorem l_X9_134 : th_cV RX9 134 yX3_see kX3_see 3 := ⟨bX3_see, (Or.inr ⟨"TriggerHall", (th_mN 471 (by decide +kernel) rfl)⟩), (th_mW 473 (by decide +kernel) rfl), (th_mS 11 (by decide +kernel) rfl)⟩
theorem l_X9_138 : th_cV RX9 138 yX3_light kX3_light 1 := ⟨bX3_light, (Or.inr ⟨"TriggerHall", (th_mN 475 (by decide +kernel) rfl)⟩), (th_mW 477 (by decide +kernel) rfl), (th_mS 12 (by decide +kernel) rfl)⟩
theorem l_X3_33 : th_cF RX3 33 yLi_size yJx4a65c_size_8abf5 kJx4a65c_size_8abf5 0 := ⟨bJx4a65c_size_8abf5, (th_mW 480 (by decide +kernel) rfl), (th_mW 345 (by decide +kernel) rfl), (th_mW 347 (by decide +kernel) rfl), Or.inl ⟨rfl, rfl⟩⟩
theorem l_X3_39 : th_cF RX3 39 yLi_get yJx4a65c_get_915e3 kJx4a65c_get_915e3 1 := ⟨bJx4a65c_get_915e3, (th_mW 482 (by decide +kernel) rfl), (th_mW 448 (by decide +kernel) rfl), (th_mW 450 (by decide +kernel) rfl), Or.inr (Or.inl ⟨rfl, rfl⟩)⟩
theorem l_X3_45 : th_cV RX3 45 yX6_isLit kX6_isLit 1 := ⟨bX6_isLit, (Or.inr ⟨"TriggerHall", (th_mN 484 (by decide +kernel) rfl)⟩), (th_mW 486 (by decide +kernel) rfl), (th_mS 13 (by decide +kernel) rfl)⟩
theorem l_X6_33 : th_cV RX6 33 yX6_layersHeld kX6_layersHeld 1 := ⟨bX6_layersHeld, (Or.inl (th_mW 488 (by decide +kernel) rfl)), (th_mW 490 (by decide +kernel) rfl), (th_mS 14 (by decide +kernel) rfl)⟩
theorem l_X6_29 : th_cV RX6 29 yX6_seenIn kX6_seenIn 2 := ⟨bX6_seenIn, (Or.inl (th_mW 492 (by decide +kernel) rfl)), (th_mW 494 (by decide +kernel) rfl), (th_mS 15 (by decide +kernel) rfl)⟩
theorem l_X6_37 : th_cS RX6 37 yJ6_bitCount_0f7a4 kJ6_bitCount_0f7a4 1 := ⟨bJ6_bitCount_0f7a4, (Or.inl (th_mW 496 (by decide +kernel) rfl)), (th_mW 309 (by decide +kernel) rfl)⟩
theorem l_L_58 : th_cV RL 58 yX9_held kX9_held 1 := ⟨bX9_held, (Or.inl (th_mW 497 (by decide +kernel) rfl)), (th_mW 498 (by decide +kernel) rfl), (th_mW 499 (by decide +kernel) rfl)⟩
theorem l_X9_149 : th_cV RX9 149 yX6_layersHeld kX6_layersHeld 1 := ⟨bX6_layersHeld, (Or.inr ⟨"TriggerHall", (th_mN 501 (by decide +kernel) rfl)⟩), (th_mW 490 (by decide +kernel) rfl), (th_mS 14 (by decide +kernel) rfl)⟩
theorem l_L_62 : th_cV RL 62 yX9_track kX9_track 2 := ⟨bX9_track, (Or.inl (th_mW 502 (by decide +kernel) rfl)), (th_mW 503 (by decide +kernel) rfl), (th_mW 504 (by decide +kernel) rfl)⟩
theorem l_X9_152 : th_cV RX9 152 yX9_fitInHand kX9_fitInHand 1 := ⟨bX9_fitInHand, (Or.inl (th_mW 506 (by decide +kernel) rfl)), (th_mW 508 (by decide +kernel) rfl), (th_mS 16 (by decide +kernel) rfl)⟩
theorem l_X9_299 : th_cV RX9 299 yX3_fitAlong kX3_fitAlong 1 := ⟨bX3_fitAlong, (Or.inr ⟨"TriggerHall", (th_mN 510 (by decide +kernel) rfl)⟩), (th_mW 512 (by decide +kernel) rfl), (th_mS 17 (by decide +kernel) rfl)⟩
theorem l_X3_49 : th_cV RX3 49 yX0_along kX0_along 2 := ⟨bX0_along, (Or.inr ⟨"TriggerHall", (th_mN 514 (by decide +kernel) rfl)⟩), (th_mW 516 (by decide +kernel) rfl), (th_mS 18 (by decide +kernel) rfl)⟩
theorem l_X0_28 : th_cV RX0 28 yX6_seenIn kX6_seenIn 2 := ⟨bX6_seenIn, (Or.inr ⟨"TriggerHall", (th_mN 518 (by decide +kernel) rfl)⟩), (th_mW 494 (by decide +kernel) rfl), (th_mS 15 (by decide +kernel) rfl)⟩
theorem l_X0_41 : th_cV RX0 41 yX0_tryCells kX0_tryCells 4 := ⟨bX0_tryCells, (Or.inl (th_mW 520 (by decide +kernel) rfl)), (th_mW 522 (by decide +kernel) rfl), (th_mS 19 (by decide +kernel) rfl)⟩
theorem l_X0_45 : th_cV RX0 45 yX0_takeTrial kX0_takeTrial 3 := ⟨bX0_takeTrial, (Or.inl (th_mW 524 (by decide +kernel) rfl)), (th_mW 526 (by decide +kernel) rfl), (th_mS 20 (by decide +kernel) rfl)⟩
theorem l_X0_49 : th_cS RX0 49 yJ6_numberOfTrailingZeros_0f7a4 kJ6_numberOfTrailingZeros_0f7a4 1 := ⟨bJ6_numberOfTrailingZeros_0f7a4, (Or.inl (th_mW 528 (by decide +kernel) rfl)), (th_mW 529 (by decide +kernel) rfl)⟩
theorem l_X0_55 : th_cV RX0 55 yX0_isPerfect kX0_isPerfect 0 := ⟨bX0_isPerfect, (Or.inl (th_mW 532 (by decide +kernel) rfl)), (th_mW 534 (by decide +kernel) rfl), (th_mS 21 (by decide +kernel) rfl)⟩
theorem l_L_66 : th_cV RL 66 yX9_miss kX9_miss 2 := ⟨bX9_miss, (Or.inl (th_mW 536 (by decide +kernel) rfl)), (th_mW 537 (by decide +kernel) rfl), (th_mW 538 (by decide +kernel) rfl)⟩
theorem l_X9_165 : th_cV RX9 165 yX0_above kX0_above 0 := ⟨bX0_above, (Or.inr ⟨"TriggerHall", (th_mN 540 (by decide +kernel) rfl)⟩), (th_mW 542 (by decide +kernel) rfl), (th_mS 22 (by decide +kernel) rfl)⟩
theorem l_X9_168 : th_cV RX9 168 yX0_below kX0_below 0 := ⟨bX0_below, (Or.inr ⟨"TriggerHall", (th_mN 544 (by decide +kernel) rfl)⟩), (th_mW 546 (by decide +kernel) rfl), (th_mS 23 (by decide +kernel) rfl)⟩
theorem l_X0_59 : th_cS RX0 59 yJ9_max_7cf53 kJ9_max_7cf53 2 := ⟨bJ9_max_7cf53, (Or.inl (th_mW 548 (by decide +kernel) rfl)), (th_mW 397 (by decide +kernel) rfl)⟩
theorem l_X9_171 : th_cS RX9 171 yX9_greatestDivisor kX9_greatestDivisor 2 := ⟨bX9_greatestDivisor, (Or.inl (th_mW 549 (by decide +kernel) rfl)), (th_mW 550 (by decide +kernel) rfl)⟩
theorem l_X9_294 : th_cS RX9 294 yJ9_max_7cf53 kJ9_max_7cf53 2 := ⟨bJ9_max_7cf53, (Or.inl (th_mW 552 (by decide +kernel) rfl)), (th_mW 397 (by decide +kernel) rfl)⟩
theorem l_L_70 : th_cV RL 70 yX9_weight kX9_weight 1 := ⟨bX9_weight, (Or.inl (th_mW 553 (by decide +kernel) rfl)), (th_mW 554 (by decide +kernel) rfl), (th_mW 555 (by decide +kernel) rfl)⟩
theorem l_X9_175 : th_cV RX9 175 yX0_worth kX0_worth 0 := ⟨bX0_worth, (Or.inr ⟨"TriggerHall", (th_mN 557 (by decide +kernel) rfl)⟩), (th_mW 559 (by decide +kernel) rfl), (th_mS 24 (by decide +kernel) rfl)⟩
theorem l_X0_65 : th_cV RX0 65 yX0_below kX0_below 0 := ⟨bX0_below, (Or.inl (th_mW 561 (by decide +kernel) rfl)), (th_mW 546 (by decide +kernel) rfl), (th_mS 23 (by decide +kernel) rfl)⟩
theorem l_L_74 : th_cV RL 74 yX9_heap kX9_heap 1 := ⟨bX9_heap, (Or.inl (th_mW 562 (by decide +kernel) rfl)), (th_mW 563 (by decide +kernel) rfl), (th_mW 564 (by decide +kernel) rfl)⟩
theorem l_X9_178 : th_cV RX9 178 yX9_lookAt kX9_lookAt 1 := ⟨bX9_lookAt, (Or.inl (th_mW 566 (by decide +kernel) rfl)), (th_mW 568 (by decide +kernel) rfl), (th_mS 25 (by decide +kernel) rfl)⟩
theorem l_X9_302 : th_cV RX9 302 yX3_pile kX3_pile 1 := ⟨bX3_pile, (Or.inr ⟨"TriggerHall", (th_mN 570 (by decide +kernel) rfl)⟩), (th_mW 572 (by decide +kernel) rfl), (th_mS 26 (by decide +kernel) rfl)⟩
theorem l_X3_53 : th_cV RX3 53 yX1_empty kX1_empty 0 := ⟨bX1_empty, (Or.inr ⟨"TriggerHall", (th_mN 574 (by decide +kernel) rfl)⟩), (th_mW 576 (by decide +kernel) rfl), (th_mS 27 (by decide +kernel) rfl)⟩
theorem l_X3_56 : th_cV RX3 56 yX3_fitAlong kX3_fitAlong 1 := ⟨bX3_fitAlong, (Or.inl (th_mW 578 (by decide +kernel) rfl)), (th_mW 512 (by decide +kernel) rfl), (th_mS 17 (by decide +kernel) rfl)⟩
theorem l_X3_60 : th_cV RX3 60 yX0_worth kX0_worth 0 := ⟨bX0_worth, (Or.inr ⟨"TriggerHall", (th_mN 579 (by decide +kernel) rfl)⟩), (th_mW 559 (by decide +kernel) rfl), (th_mS 24 (by decide +kernel) rfl)⟩
theorem l_X3_66 : th_cV RX3 66 yX1_put kX1_put 2 := ⟨bX1_put, (Or.inr ⟨"TriggerHall", (th_mN 580 (by decide +kernel) rfl)⟩), (th_mW 582 (by decide +kernel) rfl), (th_mS 28 (by decide +kernel) rfl)⟩
theorem l_X1_34 : th_cV RX1 34 yX1_clash kX1_clash 2 := ⟨bX1_clash, (Or.inl (th_mW 584 (by decide +kernel) rfl)), (th_mW 586 (by decide +kernel) rfl), (th_mS 29 (by decide +kernel) rfl)⟩
theorem l_X3_70 : th_cV RX3 70 yX1_choose kX1_choose 0 := ⟨bX1_choose, (Or.inr ⟨"TriggerHall", (th_mN 588 (by decide +kernel) rfl)⟩), (th_mW 590 (by decide +kernel) rfl), (th_mS 30 (by decide +kernel) rfl)⟩
theorem l_X1_38 : th_cV RX1 38 yX1_chooseFrom kX1_chooseFrom 3 := ⟨bX1_chooseFrom, (Or.inl (th_mW 592 (by decide +kernel) rfl)), (th_mW 594 (by decide +kernel) rfl), (th_mS 31 (by decide +kernel) rfl)⟩
theorem l_L_78 : th_cV RL 78 yX9_blind kX9_blind 0 := ⟨bX9_blind, (Or.inl (th_mW 596 (by decide +kernel) rfl)), (th_mW 597 (by decide +kernel) rfl), (th_mW 598 (by decide +kernel) rfl)⟩
theorem l_L_82 : th_cV RL 82 yX9_feed kX9_feed 1 := ⟨bX9_feed, (Or.inl (th_mW 602 (by decide +kernel) rfl)), (th_mW 603 (by decide +kernel) rfl), (th_mW 604 (by decide +kernel) rfl)⟩
theorem l_X9_197 : th_cS RX9 197 yX9_lettersIn kX9_lettersIn 1 := ⟨bX9_lettersIn, (Or.inl (th_mW 606 (by decide +kernel) rfl)), (th_mW 607 (by decide +kernel) rfl)⟩
theorem l_X9_203 : th_cS RX9 203 yX9_letterIn kX9_letterIn 2 := ⟨bX9_letterIn, (Or.inl (th_mW 609 (by decide +kernel) rfl)), (th_mW 610 (by decide +kernel) rfl)⟩
theorem l_X9_207 : th_cV RX9 207 yX8_put kX8_put 1 := ⟨bX8_put, (Or.inr ⟨"TriggerHall", (th_mN 612 (by decide +kernel) rfl)⟩), (th_mW 614 (by decide +kernel) rfl), (th_mS 32 (by decide +kernel) rfl)⟩
theorem l_L_86 : th_cV RL 86 yX9_clear kX9_clear 0 := ⟨bX9_clear, (Or.inl (th_mW 616 (by decide +kernel) rfl)), (th_mW 617 (by decide +kernel) rfl), (th_mW 618 (by decide +kernel) rfl)⟩
theorem l_L_90 : th_cV RL 90 yX9_line kX9_line 2 := ⟨bX9_line, (Or.inl (th_mW 620 (by decide +kernel) rfl)), (th_mW 621 (by decide +kernel) rfl), (th_mW 622 (by decide +kernel) rfl)⟩
theorem l_X9_210 : th_cS RX9 210 yX9_isShare kX9_isShare 1 := ⟨bX9_isShare, (Or.inl (th_mW 624 (by decide +kernel) rfl)), (th_mW 625 (by decide +kernel) rfl)⟩
theorem l_X9_213 : th_cV RX9 213 yX5_read kX5_read 2 := ⟨bX5_read, (Or.inr ⟨"TriggerHall", (th_mN 627 (by decide +kernel) rfl)⟩), (th_mW 629 (by decide +kernel) rfl), (th_mS 33 (by decide +kernel) rfl)⟩
theorem l_X5_26 : th_cV RX5 26 yX5_readAny kX5_readAny 1 := ⟨bX5_readAny, (Or.inl (th_mW 631 (by decide +kernel) rfl)), (th_mW 633 (by decide +kernel) rfl), (th_mS 34 (by decide +kernel) rfl)⟩
theorem l_X5_39 : th_cV RX5 39 yX5_readBoth kX5_readBoth 1 := ⟨bX5_readBoth, (Or.inl (th_mW 635 (by decide +kernel) rfl)), (th_mW 637 (by decide +kernel) rfl), (th_mS 35 (by decide +kernel) rfl)⟩
theorem l_X5_46 : th_cV RX5 46 yX5_readOne kX5_readOne 1 := ⟨bX5_readOne, (Or.inl (th_mW 639 (by decide +kernel) rfl)), (th_mW 641 (by decide +kernel) rfl), (th_mS 36 (by decide +kernel) rfl)⟩
theorem l_X5_49 : th_cV RX5 49 yX8_letterAt kX8_letterAt 1 := ⟨bX8_letterAt, (Or.inr ⟨"TriggerHall", (th_mN 643 (by decide +kernel) rfl)⟩), (th_mW 645 (by decide +kernel) rfl), (th_mS 37 (by decide +kernel) rfl)⟩
theorem l_X5_53 : th_cV RX5 53 yX5_readAsked kX5_readAsked 0 := ⟨bX5_readAsked, (Or.inl (th_mW 647 (by decide +kernel) rfl)), (th_mW 649 (by decide +kernel) rfl), (th_mS 38 (by decide +kernel) rfl)⟩
theorem l_X5_56 : th_cS RX5 56 yX5_canAsk kX5_canAsk 1 := ⟨bX5_canAsk, (Or.inl (th_mW 651 (by decide +kernel) rfl)), (th_mW 652 (by decide +kernel) rfl)⟩
theorem l_X5_35 : th_cV RX5 35 yX5_fail kX5_fail 0 := ⟨bX5_fail, (Or.inl (th_mW 654 (by decide +kernel) rfl)), (th_mW 656 (by decide +kernel) rfl), (th_mS 39 (by decide +kernel) rfl)⟩
theorem l_X5_59 : th_cV RX5 59 yX5_readNumber kX5_readNumber 0 := ⟨bX5_readNumber, (Or.inl (th_mW 658 (by decide +kernel) rfl)), (th_mW 660 (by decide +kernel) rfl), (th_mS 40 (by decide +kernel) rfl)⟩
theorem l_X5_69 : th_cS RX5 69 yX5_isFigure kX5_isFigure 1 := ⟨bX5_isFigure, (Or.inl (th_mW 662 (by decide +kernel) rfl)), (th_mW 663 (by decide +kernel) rfl)⟩
theorem l_X5_63 : th_cV RX5 63 yX3_answers kX3_answers 2 := ⟨bX3_answers, (Or.inr ⟨"TriggerHall", (th_mN 665 (by decide +kernel) rfl)⟩), (th_mW 667 (by decide +kernel) rfl), (th_mS 41 (by decide +kernel) rfl)⟩
theorem l_X3_76 : th_cS RX3 76 yJ6_bitCount_0f7a4 kJ6_bitCount_0f7a4 1 := ⟨bJ6_bitCount_0f7a4, (Or.inl (th_mW 669 (by decide +kernel) rfl)), (th_mW 309 (by decide +kernel) rfl)⟩
theorem l_X3_82 : th_cS RX3 82 yX9_cellsIn kX9_cellsIn 1 := ⟨bX9_cellsIn, (Or.inr ⟨"TriggerHall", (th_mN 670 (by decide +kernel) rfl)⟩), (th_mW 323 (by decide +kernel) rfl)⟩
theorem l_X3_89 : th_cV RX3 89 yX3_layersSeen kX3_layersSeen 0 := ⟨bX3_layersSeen, (Or.inl (th_mW 671 (by decide +kernel) rfl)), (th_mW 673 (by decide +kernel) rfl), (th_mS 42 (by decide +kernel) rfl)⟩
theorem l_X5_42 : th_cV RX5 42 yX5_passOver kX5_passOver 1 := ⟨bX5_passOver, (Or.inl (th_mW 675 (by decide +kernel) rfl)), (th_mW 677 (by decide +kernel) rfl), (th_mS 43 (by decide +kernel) rfl)⟩
theorem l_X9_222 : th_cI RX9 222 yX2_init kX2_init 3 := ⟨bX2_init, (Or.inr ⟨"TriggerHall", (th_mN 681 (by decide +kernel) rfl)⟩), (th_mW 682 (by decide +kernel) rfl), rfl, rfl⟩
theorem l_X2_1 : Cond.methodLink RX2 1 objectInit ∈ th_W := (th_mW 684 (by decide +kernel) rfl)
theorem l_X2_9 : th_cI RX2 9 yX8_init kX8_init 0 := ⟨bX8_init, (Or.inr ⟨"TriggerHall", (th_mN 686 (by decide +kernel) rfl)⟩), (th_mW 166 (by decide +kernel) rfl), rfl, rfl⟩
theorem l_X2_16 : th_cV RX2 16 yX8_copy kX8_copy 1 := ⟨bX8_copy, (Or.inr ⟨"TriggerHall", (th_mN 687 (by decide +kernel) rfl)⟩), (th_mW 689 (by decide +kernel) rfl), (th_mS 44 (by decide +kernel) rfl)⟩
theorem l_X8_19 : th_cV RX8 19 yX8_put kX8_put 1 := ⟨bX8_put, (Or.inl (th_mW 691 (by decide +kernel) rfl)), (th_mW 614 (by decide +kernel) rfl), (th_mS 32 (by decide +kernel) rfl)⟩
theorem l_L_95 : th_cV RL 95 yX9_thin kX9_thin 2 := ⟨bX9_thin, (Or.inl (th_mW 721 (by decide +kernel) rfl)), (th_mW 722 (by decide +kernel) rfl), (th_mW 723 (by decide +kernel) rfl)⟩
theorem l_X9_225 : th_cV RX9 225 yX9_lineAt kX9_lineAt 1 := ⟨bX9_lineAt, (Or.inl (th_mW 725 (by decide +kernel) rfl)), (th_mW 727 (by decide +kernel) rfl), (th_mS 45 (by decide +kernel) rfl)⟩
theorem l_L_99 : th_cV RL 99 yX9_holds kX9_holds 1 := ⟨bX9_holds, (Or.inl (th_mW 729 (by decide +kernel) rfl)), (th_mW 730 (by decide +kernel) rfl), (th_mW 731 (by decide +kernel) rfl)⟩
theorem l_L_103 : th_cV RL 103 yX9_of kX9_of 2 := ⟨bX9_of, (Or.inl (th_mW 733 (by decide +kernel) rfl)), (th_mW 734 (by decide +kernel) rfl), (th_mW 735 (by decide +kernel) rfl)⟩
theorem l_L_107 : th_cV RL 107 yX9_fire kX9_fire 0 := ⟨bX9_fire, (Or.inl (th_mW 737 (by decide +kernel) rfl)), (th_mW 738 (by decide +kernel) rfl), (th_mW 739 (by decide +kernel) rfl)⟩
theorem l_X9_256 : th_cV RX9 256 yX9_loseCrossing kX9_loseCrossing 0 := ⟨bX9_loseCrossing, (Or.inl (th_mW 741 (by decide +kernel) rfl)), (th_mW 743 (by decide +kernel) rfl), (th_mS 46 (by decide +kernel) rfl)⟩
theorem l_X9_259 : th_cV RX9 259 yX9_judgeCrossing kX9_judgeCrossing 1 := ⟨bX9_judgeCrossing, (Or.inl (th_mW 745 (by decide +kernel) rfl)), (th_mW 747 (by decide +kernel) rfl), (th_mS 47 (by decide +kernel) rfl)⟩
theorem l_X9_284 : th_cV RX9 284 yX9_holdingLines kX9_holdingLines 0 := ⟨bX9_holdingLines, (Or.inl (th_mW 749 (by decide +kernel) rfl)), (th_mW 751 (by decide +kernel) rfl), (th_mS 48 (by decide +kernel) rfl)⟩
theorem l_X9_305 : th_cV RX9 305 yX9_passLines kX9_passLines 1 := ⟨bX9_passLines, (Or.inl (th_mW 753 (by decide +kernel) rfl)), (th_mW 755 (by decide +kernel) rfl), (th_mS 49 (by decide +kernel) rfl)⟩
theorem l_X9_318 : th_cV RX9 318 yX2_countPasses kX2_countPasses 0 := ⟨bX2_countPasses, (Or.inr ⟨"TriggerHall", (th_mN 757 (by decide +kernel) rfl)⟩), (th_mW 759 (by decide +kernel) rfl), (th_mS 50 (by decide +kernel) rfl)⟩
theorem l_X9_308 : th_cV RX9 308 yX9_barLines kX9_barLines 0 := ⟨bX9_barLines, (Or.inl (th_mW 761 (by decide +kernel) rfl)), (th_mW 763 (by decide +kernel) rfl), (th_mS 51 (by decide +kernel) rfl)⟩
theorem l_X9_311 : th_cV RX9 311 yX9_creditLines kX9_creditLines 1 := ⟨bX9_creditLines, (Or.inl (th_mW 765 (by decide +kernel) rfl)), (th_mW 767 (by decide +kernel) rfl), (th_mS 52 (by decide +kernel) rfl)⟩
theorem l_X9_322 : th_cV RX9 322 yX2_credit kX2_credit 1 := ⟨bX2_credit, (Or.inr ⟨"TriggerHall", (th_mN 769 (by decide +kernel) rfl)⟩), (th_mW 771 (by decide +kernel) rfl), (th_mS 53 (by decide +kernel) rfl)⟩
theorem l_X9_314 : th_cV RX9 314 yX4_keep kX4_keep 3 := ⟨bX4_keep, (Or.inr ⟨"TriggerHall", (th_mN 773 (by decide +kernel) rfl)⟩), (th_mW 775 (by decide +kernel) rfl), (th_mS 54 (by decide +kernel) rfl)⟩
theorem l_X4_38 : th_cV RX4 38 yX4_slotOf kX4_slotOf 1 := ⟨bX4_slotOf, (Or.inl (th_mW 777 (by decide +kernel) rfl)), (th_mW 779 (by decide +kernel) rfl), (th_mS 55 (by decide +kernel) rfl)⟩
theorem l_X4_35 : th_cS RX4 35 yJ9_floorMod_7cf53 kJ9_floorMod_7cf53 2 := ⟨bJ9_floorMod_7cf53, (Or.inl (th_mW 781 (by decide +kernel) rfl)), (th_mW 782 (by decide +kernel) rfl)⟩
theorem l_L_111 : th_cV RL 111 yX9_rest kX9_rest 1 := ⟨bX9_rest, (Or.inl (th_mW 784 (by decide +kernel) rfl)), (th_mW 785 (by decide +kernel) rfl), (th_mW 786 (by decide +kernel) rfl)⟩
theorem l_L_115 : th_cV RL 115 yX9_many kX9_many 1 := ⟨bX9_many, (Or.inl (th_mW 788 (by decide +kernel) rfl)), (th_mW 789 (by decide +kernel) rfl), (th_mW 790 (by decide +kernel) rfl)⟩
theorem l_X9_272 : th_cV RX9 272 yX4_size kX4_size 0 := ⟨bX4_size, (Or.inr ⟨"TriggerHall", (th_mN 792 (by decide +kernel) rfl)⟩), (th_mW 794 (by decide +kernel) rfl), (th_mS 56 (by decide +kernel) rfl)⟩
theorem l_X4_25 : th_cS RX4 25 yJ9_min_7cf53 kJ9_min_7cf53 2 := ⟨bJ9_min_7cf53, (Or.inl (th_mW 796 (by decide +kernel) rfl)), (th_mW 429 (by decide +kernel) rfl)⟩
theorem l_L_119 : th_cV RL 119 yX9_raw kX9_raw 2 := ⟨bX9_raw, (Or.inl (th_mW 797 (by decide +kernel) rfl)), (th_mW 798 (by decide +kernel) rfl), (th_mW 799 (by decide +kernel) rfl)⟩
theorem l_X9_273 : th_cV RX9 273 yX4_has kX4_has 1 := ⟨bX4_has, (Or.inr ⟨"TriggerHall", (th_mN 801 (by decide +kernel) rfl)⟩), (th_mW 803 (by decide +kernel) rfl), (th_mS 57 (by decide +kernel) rfl)⟩
theorem l_X4_31 : th_cV RX4 31 yX4_size kX4_size 0 := ⟨bX4_size, (Or.inl (th_mW 805 (by decide +kernel) rfl)), (th_mW 794 (by decide +kernel) rfl), (th_mS 56 (by decide +kernel) rfl)⟩
theorem l_X9_274 : th_cV RX9 274 yX4_numberOf kX4_numberOf 1 := ⟨bX4_numberOf, (Or.inr ⟨"TriggerHall", (th_mN 806 (by decide +kernel) rfl)⟩), (th_mW 808 (by decide +kernel) rfl), (th_mS 58 (by decide +kernel) rfl)⟩
theorem l_X9_277 : th_cV RX9 277 yX4_passedAt kX4_passedAt 1 := ⟨bX4_passedAt, (Or.inr ⟨"TriggerHall", (th_mN 810 (by decide +kernel) rfl)⟩), (th_mW 812 (by decide +kernel) rfl), (th_mS 59 (by decide +kernel) rfl)⟩
theorem l_X9_280 : th_cV RX9 280 yX4_copyHits kX4_copyHits 2 := ⟨bX4_copyHits, (Or.inr ⟨"TriggerHall", (th_mN 814 (by decide +kernel) rfl)⟩), (th_mW 816 (by decide +kernel) rfl), (th_mS 60 (by decide +kernel) rfl)⟩
theorem l_L_123 : th_cV RL 123 yX9_again kX9_again 1 := ⟨bX9_again, (Or.inl (th_mW 818 (by decide +kernel) rfl)), (th_mW 819 (by decide +kernel) rfl), (th_mW 820 (by decide +kernel) rfl)⟩
theorem l_L_127 : th_cV RL 127 yX9_anew kX9_anew 0 := ⟨bX9_anew, (Or.inl (th_mW 822 (by decide +kernel) rfl)), (th_mW 823 (by decide +kernel) rfl), (th_mW 824 (by decide +kernel) rfl)⟩
theorem l_X9_291 : th_cV RX9 291 yX2_forget kX2_forget 0 := ⟨bX2_forget, (Or.inr ⟨"TriggerHall", (th_mN 826 (by decide +kernel) rfl)⟩), (th_mW 828 (by decide +kernel) rfl), (th_mS 61 (by decide +kernel) rfl)⟩
theorem l_L_12 : th_cI RL 12 yX10_init kX10_init 0 := ⟨bX10_init, (Or.inl (th_mW 832 (by decide +kernel) rfl)), (th_mW 833 (by decide +kernel) rfl), rfl, rfl⟩
theorem l_X10_1 : Cond.methodLink RX10 1 objectInit ∈ th_W := (th_mW 835 (by decide +kernel) rfl)
theorem l_L_17 : th_cV RL 17 yX10_sheet kX10_sheet 3 := ⟨bX10_sheet, (Or.inl (th_mW 962 (by decide +kernel) rfl)), (th_mW 963 (by decide +kernel) rfl), (th_mW 964 (by decide +kernel) rfl)⟩
theorem l_X10_95 : th_cS RX10 95 yX10_in kX10_in 3 := ⟨bX10_in, (Or.inl (th_mW 967 (by decide +kernel) rfl)), (th_mW 968 (by decide +kernel) rfl)⟩
theorem l_L_21 : th_cV RL 21 yX10_cell kX10_cell 3 := ⟨bX10_cell, (Or.inl (th_mW 970 (by decide +kernel) rfl)), (th_mW 971 (by decide +kernel) rfl), (th_mW 972 (by decide +kernel) rfl)⟩
theorem l_L_26 : th_cV RL 26 yX10_lose kX10_lose 1 := ⟨bX10_lose, (Or.inl (th_mW 974 (by decide +kernel) rfl)), (th_mW 975 (by decide +kernel) rfl), (th_mW 976 (by decide +kernel) rfl)⟩
theorem l_L_31 : th_cV RL 31 yX10_hits kX10_hits 2 := ⟨bX10_hits, (Or.inl (th_mW 978 (by decide +kernel) rfl)), (th_mW 979 (by decide +kernel) rfl), (th_mW 980 (by decide +kernel) rfl)⟩
theorem l_X10_105 : th_cS RX10 105 yX10_isLayer kX10_isLayer 1 := ⟨bX10_isLayer, (Or.inl (th_mW 982 (by decide +kernel) rfl)), (th_mW 983 (by decide +kernel) rfl)⟩
theorem l_X10_101 : th_cS RX10 101 yX10_bitsOf kX10_bitsOf 1 := ⟨bX10_bitsOf, (Or.inl (th_mW 987 (by decide +kernel) rfl)), (th_mW 988 (by decide +kernel) rfl)⟩
theorem l_L_35 : th_cV RL 35 yX10_load kX10_load 2 := ⟨bX10_load, (Or.inl (th_mW 990 (by decide +kernel) rfl)), (th_mW 991 (by decide +kernel) rfl), (th_mW 992 (by decide +kernel) rfl)⟩
theorem l_X10_112 : th_cV RX10 112 yX10_allHits kX10_allHits 0 := ⟨bX10_allHits, (Or.inl (th_mW 995 (by decide +kernel) rfl)), (th_mW 997 (by decide +kernel) rfl), (th_mS 62 (by decide +kernel) rfl)⟩
theorem l_L_39 : th_cV RL 39 yX10_mask kX10_mask 3 := ⟨bX10_mask, (Or.inl (th_mW 999 (by decide +kernel) rfl)), (th_mW 1000 (by decide +kernel) rfl), (th_mW 1001 (by decide +kernel) rfl)⟩
theorem l_L_43 : th_cV RL 43 yX10_layer kX10_layer 2 := ⟨bX10_layer, (Or.inl (th_mW 1003 (by decide +kernel) rfl)), (th_mW 1004 (by decide +kernel) rfl), (th_mW 1005 (by decide +kernel) rfl)⟩
theorem l_X10_116 : th_cV RX10 116 yX10_seen kX10_seen 1 := ⟨bX10_seen, (Or.inl (th_mW 1007 (by decide +kernel) rfl)), (th_mW 1009 (by decide +kernel) rfl), (th_mS 63 (by decide +kernel) rfl)⟩
theorem l_L_48 : th_cV RL 48 yX10_road kX10_road 6 := ⟨bX10_road, (Or.inl (th_mW 1011 (by decide +kernel) rfl)), (th_mW 1012 (by decide +kernel) rfl), (th_mW 1013 (by decide +kernel) rfl)⟩
theorem l_X10_119 : th_cS RX10 119 yX10_isSpan kX10_isSpan 1 := ⟨bX10_isSpan, (Or.inl (th_mW 1015 (by decide +kernel) rfl)), (th_mW 1016 (by decide +kernel) rfl)⟩
theorem l_L_52 : th_cV RL 52 yX10_span kX10_span 3 := ⟨bX10_span, (Or.inl (th_mW 1019 (by decide +kernel) rfl)), (th_mW 1020 (by decide +kernel) rfl), (th_mW 1021 (by decide +kernel) rfl)⟩
theorem l_X10_128 : th_cV RX10 128 yX10_isRoad kX10_isRoad 1 := ⟨bX10_isRoad, (Or.inl (th_mW 1023 (by decide +kernel) rfl)), (th_mW 1025 (by decide +kernel) rfl), (th_mS 64 (by decide +kernel) rfl)⟩
theorem l_L_57 : th_cV RL 57 yX10_lit kX10_lit 0 := ⟨bX10_lit, (Or.inl (th_mW 1027 (by decide +kernel) rfl)), (th_mW 1028 (by decide +kernel) rfl), (th_mW 1029 (by decide +kernel) rfl)⟩
theorem l_X10_139 : th_cV RX10 139 yX10_isLit kX10_isLit 1 := ⟨bX10_isLit, (Or.inl (th_mW 1031 (by decide +kernel) rfl)), (th_mW 1033 (by decide +kernel) rfl), (th_mS 65 (by decide +kernel) rfl)⟩
theorem l_X10_135 : th_cV RX10 135 yX10_heldBy kX10_heldBy 2 := ⟨bX10_heldBy, (Or.inl (th_mW 1035 (by decide +kernel) rfl)), (th_mW 1037 (by decide +kernel) rfl), (th_mS 66 (by decide +kernel) rfl)⟩
theorem l_X10_131 : th_cV RX10 131 yX10_isIn kX10_isIn 3 := ⟨bX10_isIn, (Or.inl (th_mW 1039 (by decide +kernel) rfl)), (th_mW 1041 (by decide +kernel) rfl), (th_mS 67 (by decide +kernel) rfl)⟩
theorem l_L_61 : th_cV RL 61 yX10_held kX10_held 1 := ⟨bX10_held, (Or.inl (th_mW 1043 (by decide +kernel) rfl)), (th_mW 1044 (by decide +kernel) rfl), (th_mW 1045 (by decide +kernel) rfl)⟩
theorem l_L_65 : th_cV RL 65 yX10_track kX10_track 2 := ⟨bX10_track, (Or.inl (th_mW 1047 (by decide +kernel) rfl)), (th_mW 1048 (by decide +kernel) rfl), (th_mW 1049 (by decide +kernel) rfl)⟩
theorem l_X10_152 : th_cV RX10 152 yX10_findTrack kX10_findTrack 1 := ⟨bX10_findTrack, (Or.inl (th_mW 1051 (by decide +kernel) rfl)), (th_mW 1053 (by decide +kernel) rfl), (th_mS 68 (by decide +kernel) rfl)⟩
theorem l_X10_148 : th_cV RX10 148 yX10_findFrom kX10_findFrom 3 := ⟨bX10_findFrom, (Or.inl (th_mW 1055 (by decide +kernel) rfl)), (th_mW 1057 (by decide +kernel) rfl), (th_mS 69 (by decide +kernel) rfl)⟩
theorem l_X10_145 : th_cV RX10 145 yX10_miss kX10_miss 1 := ⟨bX10_miss, (Or.inl (th_mW 1059 (by decide +kernel) rfl)), (th_mW 1061 (by decide +kernel) rfl), (th_mS 70 (by decide +kernel) rfl)⟩
theorem l_L_69 : th_cV RL 69 yX10_miss_ kX10_miss_ 2 := ⟨bX10_miss_, (Or.inl (th_mW 1063 (by decide +kernel) rfl)), (th_mW 1064 (by decide +kernel) rfl), (th_mW 1065 (by decide +kernel) rfl)⟩
theorem l_X10_155 : th_cS RX10 155 yX10_common kX10_common 2 := ⟨bX10_common, (Or.inl (th_mW 1067 (by decide +kernel) rfl)), (th_mW 1068 (by decide +kernel) rfl)⟩
theorem l_L_73 : th_cV RL 73 yX10_weight kX10_weight 1 := ⟨bX10_weight, (Or.inl (th_mW 1070 (by decide +kernel) rfl)), (th_mW 1071 (by decide +kernel) rfl), (th_mW 1072 (by decide +kernel) rfl)⟩
theorem l_X10_159 : th_cV RX10 159 yX10_weightOf kX10_weightOf 1 := ⟨bX10_weightOf, (Or.inl (th_mW 1074 (by decide +kernel) rfl)), (th_mW 1076 (by decide +kernel) rfl), (th_mS 71 (by decide +kernel) rfl)⟩
theorem l_L_77 : th_cV RL 77 yX10_heap kX10_heap 1 := ⟨bX10_heap, (Or.inl (th_mW 1078 (by decide +kernel) rfl)), (th_mW 1079 (by decide +kernel) rfl), (th_mW 1080 (by decide +kernel) rfl)⟩
theorem l_X10_172 : th_cV RX10 172 yX10_findHeap kX10_findHeap 0 := ⟨bX10_findHeap, (Or.inl (th_mW 1082 (by decide +kernel) rfl)), (th_mW 1084 (by decide +kernel) rfl), (th_mS 72 (by decide +kernel) rfl)⟩
theorem l_X10_168 : th_cV RX10 168 yX10_areApart kX10_areApart 2 := ⟨bX10_areApart, (Or.inl (th_mW 1086 (by decide +kernel) rfl)), (th_mW 1088 (by decide +kernel) rfl), (th_mS 73 (by decide +kernel) rfl)⟩
theorem l_L_81 : th_cV RL 81 yX10_blind kX10_blind 0 := ⟨bX10_blind, (Or.inl (th_mW 1090 (by decide +kernel) rfl)), (th_mW 1091 (by decide +kernel) rfl), (th_mW 1092 (by decide +kernel) rfl)⟩
theorem l_L_85 : th_cV RL 85 yX10_feed kX10_feed 1 := ⟨bX10_feed, (Or.inl (th_mW 1094 (by decide +kernel) rfl)), (th_mW 1095 (by decide +kernel) rfl), (th_mW 1096 (by decide +kernel) rfl)⟩
theorem l_L_89 : th_cV RL 89 yX10_clear kX10_clear 0 := ⟨bX10_clear, (Or.inl (th_mW 1098 (by decide +kernel) rfl)), (th_mW 1099 (by decide +kernel) rfl), (th_mW 1100 (by decide +kernel) rfl)⟩
theorem l_L_94 : th_cV RL 94 yX10_line kX10_line 2 := ⟨bX10_line, (Or.inl (th_mW 1102 (by decide +kernel) rfl)), (th_mW 1103 (by decide +kernel) rfl), (th_mW 1104 (by decide +kernel) rfl)⟩
theorem l_X10_189 : th_cV RX10 189 yX10_faultOf kX10_faultOf 0 := ⟨bX10_faultOf, (Or.inl (th_mW 1107 (by decide +kernel) rfl)), (th_mW 1109 (by decide +kernel) rfl), (th_mS 74 (by decide +kernel) rfl)⟩
theorem l_X10_178 : th_cS RX10 178 yX10_isName kX10_isName 1 := ⟨bX10_isName, (Or.inl (th_mW 1111 (by decide +kernel) rfl)), (th_mW 1112 (by decide +kernel) rfl)⟩
theorem l_X10_181 : th_cS RX10 181 yX10_isFigure kX10_isFigure 1 := ⟨bX10_isFigure, (Or.inl (th_mW 1114 (by decide +kernel) rfl)), (th_mW 1115 (by decide +kernel) rfl)⟩
theorem l_L_98 : th_cV RL 98 yX10_thin kX10_thin 2 := ⟨bX10_thin, (Or.inl (th_mW 1117 (by decide +kernel) rfl)), (th_mW 1118 (by decide +kernel) rfl), (th_mW 1119 (by decide +kernel) rfl)⟩
theorem l_X10_192 : th_cV RX10 192 yX10_isLine kX10_isLine 1 := ⟨bX10_isLine, (Or.inl (th_mW 1121 (by decide +kernel) rfl)), (th_mW 1123 (by decide +kernel) rfl), (th_mS 75 (by decide +kernel) rfl)⟩
theorem l_L_102 : th_cV RL 102 yX10_holds kX10_holds 1 := ⟨bX10_holds, (Or.inl (th_mW 1125 (by decide +kernel) rfl)), (th_mW 1126 (by decide +kernel) rfl), (th_mW 1127 (by decide +kernel) rfl)⟩
theorem l_X10_217 : th_cV RX10 217 yX10_holding kX10_holding 0 := ⟨bX10_holding, (Or.inl (th_mW 1129 (by decide +kernel) rfl)), (th_mW 1131 (by decide +kernel) rfl), (th_mS 76 (by decide +kernel) rfl)⟩
theorem l_X10_211 : th_cV RX10 211 yX10_any kX10_any 0 := ⟨bX10_any, (Or.inl (th_mW 1133 (by decide +kernel) rfl)), (th_mW 1135 (by decide +kernel) rfl), (th_mS 77 (by decide +kernel) rfl)⟩
theorem l_X10_201 : th_cV RX10 201 yX10_both kX10_both 0 := ⟨bX10_both, (Or.inl (th_mW 1137 (by decide +kernel) rfl)), (th_mW 1139 (by decide +kernel) rfl), (th_mS 78 (by decide +kernel) rfl)⟩
theorem l_X10_208 : th_cV RX10 208 yX10_one kX10_one 0 := ⟨bX10_one, (Or.inl (th_mW 1141 (by decide +kernel) rfl)), (th_mW 1143 (by decide +kernel) rfl), (th_mS 79 (by decide +kernel) rfl)⟩
theorem l_X10_205 : th_cV RX10 205 yX10_letter kX10_letter 0 := ⟨bX10_letter, (Or.inl (th_mW 1145 (by decide +kernel) rfl)), (th_mW 1147 (by decide +kernel) rfl), (th_mS 80 (by decide +kernel) rfl)⟩
theorem l_X10_214 : th_cV RX10 214 yX10_is kX10_is 2 := ⟨bX10_is, (Or.inl (th_mW 1149 (by decide +kernel) rfl)), (th_mW 1151 (by decide +kernel) rfl), (th_mS 81 (by decide +kernel) rfl)⟩
theorem l_L_106 : th_cV RL 106 yX10_of kX10_of 2 := ⟨bX10_of, (Or.inl (th_mW 1153 (by decide +kernel) rfl)), (th_mW 1154 (by decide +kernel) rfl), (th_mW 1155 (by decide +kernel) rfl)⟩
theorem l_L_110 : th_cV RL 110 yX10_fire kX10_fire 0 := ⟨bX10_fire, (Or.inl (th_mW 1157 (by decide +kernel) rfl)), (th_mW 1158 (by decide +kernel) rfl), (th_mW 1159 (by decide +kernel) rfl)⟩
theorem l_X10_238 : th_cV RX10 238 yX10_look kX10_look 0 := ⟨bX10_look, (Or.inl (th_mW 1161 (by decide +kernel) rfl)), (th_mW 1163 (by decide +kernel) rfl), (th_mS 82 (by decide +kernel) rfl)⟩
theorem l_X10_241 : th_cV RX10 241 yX10_noHits kX10_noHits 0 := ⟨bX10_noHits, (Or.inl (th_mW 1165 (by decide +kernel) rfl)), (th_mW 1167 (by decide +kernel) rfl), (th_mS 83 (by decide +kernel) rfl)⟩
theorem l_L_114 : th_cV RL 114 yX10_rest kX10_rest 1 := ⟨bX10_rest, (Or.inl (th_mW 1169 (by decide +kernel) rfl)), (th_mW 1170 (by decide +kernel) rfl), (th_mW 1171 (by decide +kernel) rfl)⟩
theorem l_L_118 : th_cV RL 118 yX10_many kX10_many 1 := ⟨bX10_many, (Or.inl (th_mW 1174 (by decide +kernel) rfl)), (th_mW 1175 (by decide +kernel) rfl), (th_mW 1176 (by decide +kernel) rfl)⟩
theorem l_X10_246 : th_cV RX10 246 yX10_raws kX10_raws 0 := ⟨bX10_raws, (Or.inl (th_mW 1178 (by decide +kernel) rfl)), (th_mW 1180 (by decide +kernel) rfl), (th_mS 84 (by decide +kernel) rfl)⟩
theorem l_L_122 : th_cV RL 122 yX10_raw kX10_raw 2 := ⟨bX10_raw, (Or.inl (th_mW 1182 (by decide +kernel) rfl)), (th_mW 1183 (by decide +kernel) rfl), (th_mW 1184 (by decide +kernel) rfl)⟩
theorem l_X10_251 : th_cV RX10 251 yX10_rawAt kX10_rawAt 1 := ⟨bX10_rawAt, (Or.inl (th_mW 1187 (by decide +kernel) rfl)), (th_mW 1189 (by decide +kernel) rfl), (th_mS 85 (by decide +kernel) rfl)⟩
theorem l_L_126 : th_cV RL 126 yX10_again kX10_again 1 := ⟨bX10_again, (Or.inl (th_mW 1191 (by decide +kernel) rfl)), (th_mW 1192 (by decide +kernel) rfl), (th_mW 1193 (by decide +kernel) rfl)⟩
theorem l_L_130 : th_cV RL 130 yX10_anew kX10_anew 0 := ⟨bX10_anew, (Or.inl (th_mW 1195 (by decide +kernel) rfl)), (th_mW 1196 (by decide +kernel) rfl), (th_mW 1197 (by decide +kernel) rfl)⟩
theorem l_oi1 : Cond.instanceMethod objectInit ∈ th_W := (th_mW 28 (by decide +kernel) rfl)
set_option maxRecDepth 20000 in
theorem l_oi2 : Cond.code objectInit ⟨#[0xb1]⟩ 1 none ∈ th_W := (th_mW 29 rfl rfl)
theorem n_L_7 : Cond.classLink RL 7 "TriggerHall" ∈ th_W := (th_mW 22 (by decide +kernel) rfl)
theorem i1_X9 : Cond.instantiable RX9 16 ∈ th_W := (th_mW 23 (by decide +kernel) rfl)
theorem i2_X9 : Cond.initialized RX9 ∈ th_W := (th_mW 1 (by decide +kernel) rfl)
theorem n_X9_7 : Cond.classLink RX9 7 "TriggerHall$Sheet" ∈ th_W := (th_mW 30 (by decide +kernel) rfl)
theorem i1_X7 : Cond.instantiable RX7 4 ∈ th_W := (th_mW 32 (by decide +kernel) rfl)
theorem i2_X7 : Cond.initialized RX7 ∈ th_W := (th_mW 2 (by decide +kernel) rfl)
theorem ac_int : Cond.arrayClass .int ∈ th_W := (th_mW 51 (by decide +kernel) rfl)
theorem n_X9_26 : Cond.classLink RX9 26 "java/util/ArrayList" ∈ th_W := (th_mW 52 (by decide +kernel) rfl)
theorem i1_Jx4a65c : Cond.instantiable RJx4a65c 3 ∈ th_W := (th_mW 53 (by decide +kernel) rfl)
theorem i2_Jx4a65c : Cond.initialized RJx4a65c ∈ th_W := (th_mW 5 (by decide +kernel) rfl)
theorem n_X9_33 : Cond.classLink RX9 33 "TriggerHall$Look" ∈ th_W := (th_mW 78 (by decide +kernel) rfl)
theorem i1_X3 : Cond.instantiable RX3 4 ∈ th_W := (th_mW 79 (by decide +kernel) rfl)
theorem i2_X3 : Cond.initialized RX3 ∈ th_W := (th_mW 6 (by decide +kernel) rfl)
theorem n_X3_15 : Cond.classLink RX3 15 "TriggerHall$Fit" ∈ th_W := (th_mW 84 (by decide +kernel) rfl)
theorem i1_X0 : Cond.instantiable RX0 7 ∈ th_W := (th_mW 85 (by decide +kernel) rfl)
theorem i2_X0 : Cond.initialized RX0 ∈ th_W := (th_mW 7 (by decide +kernel) rfl)
theorem n_X3_22 : Cond.classLink RX3 22 "TriggerHall$Heap" ∈ th_W := (th_mW 114 (by decide +kernel) rfl)
theorem i1_X1 : Cond.instantiable RX1 7 ∈ th_W := (th_mW 115 (by decide +kernel) rfl)
theorem i2_X1 : Cond.initialized RX1 ∈ th_W := (th_mW 8 (by decide +kernel) rfl)
theorem n_X9_40 : Cond.classLink RX9 40 "TriggerHall$Text" ∈ th_W := (th_mW 163 (by decide +kernel) rfl)
theorem i1_X8 : Cond.instantiable RX8 2 ∈ th_W := (th_mW 164 (by decide +kernel) rfl)
theorem i2_X8 : Cond.initialized RX8 ∈ th_W := (th_mW 9 (by decide +kernel) rfl)
theorem ac_char : Cond.arrayClass .char ∈ th_W := (th_mW 178 (by decide +kernel) rfl)
theorem n_X9_47 : Cond.classLink RX9 47 "TriggerHall$Reader" ∈ th_W := (th_mW 179 (by decide +kernel) rfl)
theorem i1_X5 : Cond.instantiable RX5 4 ∈ th_W := (th_mW 180 (by decide +kernel) rfl)
theorem i2_X5 : Cond.initialized RX5 ∈ th_W := (th_mW 10 (by decide +kernel) rfl)
theorem n_X9_57 : Cond.classLink RX9 57 "TriggerHall$Raws" ∈ th_W := (th_mW 199 (by decide +kernel) rfl)
theorem i1_X4 : Cond.instantiable RX4 4 ∈ th_W := (th_mW 200 (by decide +kernel) rfl)
theorem i2_X4 : Cond.initialized RX4 ∈ th_W := (th_mW 11 (by decide +kernel) rfl)
theorem q_X9_101 : Cond.constant RX9 101 (65535 : Int32) ∈ th_W := (th_mW 307 (by decide +kernel) rfl)
theorem q_J6_265 : Cond.constant RJ6 265 (1431655765 : Int32) ∈ th_W := (th_mW 311 (by decide +kernel) rfl)
theorem q_J6_266 : Cond.constant RJ6 266 (858993459 : Int32) ∈ th_W := (th_mW 312 (by decide +kernel) rfl)
theorem q_J6_267 : Cond.constant RJ6 267 (252645135 : Int32) ∈ th_W := (th_mW 313 (by decide +kernel) rfl)
theorem n_X9_115 : Cond.classLink RX9 115 "TriggerHall$Road" ∈ th_W := (th_mW 350 (by decide +kernel) rfl)
theorem i1_X6 : Cond.instantiable RX6 3 ∈ th_W := (th_mW 351 (by decide +kernel) rfl)
theorem i2_X6 : Cond.initialized RX6 ∈ th_W := (th_mW 14 (by decide +kernel) rfl)
theorem q_J8_200 : Cond.constant RJ8 200 (2147483639 : Int32) ∈ th_W := (th_mW 399 (by decide +kernel) rfl)
theorem n_J7_110 : Cond.classLink RJ7 110 "[Ljava/lang/Object;" ∈ th_W := (th_mW 425 (by decide +kernel) rfl)
theorem n_J7_2 : Cond.classLink RJ7 2 "java/lang/Object" ∈ th_W := (th_mW 427 (by decide +kernel) rfl)
theorem n_Jx4a65c_7 : Cond.classLink RJx4a65c 7 "java/lang/Object" ∈ th_W := (th_mW 435 (by decide +kernel) rfl)
theorem n_X3_43 : Cond.classLink RX3 43 "TriggerHall$Road" ∈ th_W := (th_mW 483 (by decide +kernel) rfl)
theorem q_X0_37 : Cond.constant RX0 37 (1073741824 : Int32) ∈ th_W := (th_mW 519 (by decide +kernel) rfl)
theorem q_J6_264 : Cond.constant RJ6 264 (65536 : Int32) ∈ th_W := (th_mW 531 (by decide +kernel) rfl)
theorem n_X9_220 : Cond.classLink RX9 220 "TriggerHall$Line" ∈ th_W := (th_mW 679 (by decide +kernel) rfl)
theorem i1_X2 : Cond.instantiable RX2 7 ∈ th_W := (th_mW 680 (by decide +kernel) rfl)
theorem i2_X2 : Cond.initialized RX2 ∈ th_W := (th_mW 21 (by decide +kernel) rfl)
theorem n_X2_7 : Cond.classLink RX2 7 "TriggerHall$Text" ∈ th_W := (th_mW 685 (by decide +kernel) rfl)
theorem n_L_10 : Cond.classLink RL 10 "TriggerHallModel" ∈ th_W := (th_mW 830 (by decide +kernel) rfl)
theorem i1_X10 : Cond.instantiable RX10 41 ∈ th_W := (th_mW 831 (by decide +kernel) rfl)
theorem i2_X10 : Cond.initialized RX10 ∈ th_W := (th_mW 12 (by decide +kernel) rfl)
theorem ac_byte : Cond.arrayClass .byte ∈ th_W := (th_mW 960 (by decide +kernel) rfl)
theorem ac_boolean : Cond.arrayClass .boolean ∈ th_W := (th_mW 961 (by decide +kernel) rfl)
theorem q_X10_99 : Cond.constantLong RX10 99 (2 : Int64) ∈ th_W := (th_mW 966 (by decide +kernel) rfl)
theorem q_X10_93 : Cond.constantLong RX10 93 (4 : Int64) ∈ th_W := (th_mW 985 (by decide +kernel) rfl)
theorem q_X10_109 : Cond.constantLong RX10 109 (65535 : Int64) ∈ th_W := (th_mW 986 (by decide +kernel) rfl)
theorem q_X10_111 : Cond.constant RX10 111 (65535 : Int32) ∈ th_W := (th_mW 994 (by decide +kernel) rfl)
theorem q_X10_122 : Cond.constantLong RX10 122 (5 : Int64) ∈ th_W := (th_mW 1018 (by decide +kernel) rfl)
theorem q_X10_184 : Cond.constantLong RX10 184 (100 : Int64) ∈ th_W := (th_mW 1106 (by decide +kernel) rfl)
theorem q_X10_244 : Cond.constantLong RX10 244 (20 : Int64) ∈ th_W := (th_mW 1173 (by decide +kernel) rfl)
theorem q_X10_249 : Cond.constantLong RX10 249 (7 : Int64) ∈ th_W := (th_mW 1186 (by decide +kernel) rfl)
end
section
theorem dX0_init_0 : decode cX0_init 0 = .ok (.aload_n 0, 1) := by decide +kernel
theorem dX0_init_1 : decode cX0_init 1 = .ok (.invokespecial 3, 3) := by decide +kernel
theorem dX0_init_4 : decode cX0_init 4 = .ok (.aload_n 0, 1) := by decide +kernel
theorem dX0_init_5 : decode cX0_init 5 = .ok (.iconst 5, 1) := by decide +kernel
theorem dX0_init_6 : decode cX0_init 6 = .ok (.newarray .int, 2) := by decide +kernel
theorem dX0_init_8 : decode cX0_init 8 = .ok (.putfield 9, 3) := by decide +kernel
theorem dX0_init_11 : decode cX0_init 11 = .ok (.aload_n 0, 1) := by decide +kernel
theorem dX0_init_12 : decode cX0_init 12 = .ok (.iconst 5, 1) := by decide +kernel
theorem dX0_init_13 : decode cX0_init 13 = .ok (.newarray .int, 2) := by decide +kernel
theorem dX0_init_15 : decode cX0_init 15 = .ok (.putfield 15, 3) := by decide +kernel
theorem dX0_init_18 : decode cX0_init 18 = .ok (.aload_n 0, 1) := by decide +kernel
theorem dX0_init_19 : decode cX0_init 19 = .ok (.iconst 5, 1) := by decide +kernel
theorem dX0_init_20 : decode cX0_init 20 = .ok (.newarray .int, 2) := by decide +kernel
theorem dX0_init_22 : decode cX0_init 22 = .ok (.putfield 18, 3) := by decide +kernel
theorem dX0_init_25 : decode cX0_init 25 = .ok (.return_, 1) := by decide +kernel
theorem dX0_along_0 : decode cX0_along 0 = .ok (.aload_n 0, 1) := by decide +kernel
theorem dX0_along_1 : decode cX0_along 1 = .ok (.iconst 0, 1) := by decide +kernel
theorem dX0_along_2 : decode cX0_along 2 = .ok (.putfield 21, 3) := by decide +kernel
theorem dX0_along_5 : decode cX0_along 5 = .ok (.aload_n 0, 1) := by decide +kernel
theorem dX0_along_6 : decode cX0_along 6 = .ok (.iconst 0, 1) := by decide +kernel
theorem dX0_along_7 : decode cX0_along 7 = .ok (.putfield 25, 3) := by decide +kernel
theorem dX0_along_10 : decode cX0_along 10 = .ok (.iconst 0, 1) := by decide +kernel
theorem dX0_along_11 : decode cX0_along 11 = .ok (.istore_n 3, 1) := by decide +kernel
theorem dX0_along_12 : decode cX0_along 12 = .ok (.iconst 0, 1) := by decide +kernel
theorem dX0_along_13 : decode cX0_along 13 = .ok (.istore 4, 2) := by decide +kernel
theorem dX0_along_15 : decode cX0_along 15 = .ok (.iload 4, 2) := by decide +kernel
theorem dX0_along_17 : decode cX0_along 17 = .ok (.iconst 5, 1) := by decide +kernel
theorem dX0_along_18 : decode cX0_along 18 = .ok (.if_icmp .ge 70, 3) := by decide +kernel
theorem dX0_along_21 : decode cX0_along 21 = .ok (.aload_n 0, 1) := by decide +kernel
theorem dX0_along_22 : decode cX0_along 22 = .ok (.getfield 9, 3) := by decide +kernel
theorem dX0_along_25 : decode cX0_along 25 = .ok (.iload 4, 2) := by decide +kernel
theorem dX0_along_27 : decode cX0_along 27 = .ok (.aload_n 1, 1) := by decide +kernel
theorem dX0_along_28 : decode cX0_along 28 = .ok (.iload 4, 2) := by decide +kernel
theorem dX0_along_30 : decode cX0_along 30 = .ok (.aload_n 2, 1) := by decide +kernel
theorem dX0_along_31 : decode cX0_along 31 = .ok (.invokevirtual 28, 3) := by decide +kernel
theorem dX0_along_34 : decode cX0_along 34 = .ok (.iastore, 1) := by decide +kernel
theorem dX0_along_35 : decode cX0_along 35 = .ok (.aload_n 0, 1) := by decide +kernel
theorem dX0_along_36 : decode cX0_along 36 = .ok (.getfield 15, 3) := by decide +kernel
theorem dX0_along_39 : decode cX0_along 39 = .ok (.iload 4, 2) := by decide +kernel
theorem dX0_along_41 : decode cX0_along 41 = .ok (.iconst (-1), 1) := by decide +kernel
theorem dX0_along_42 : decode cX0_along 42 = .ok (.iastore, 1) := by decide +kernel
theorem dX0_along_43 : decode cX0_along 43 = .ok (.aload_n 0, 1) := by decide +kernel
theorem dX0_along_44 : decode cX0_along 44 = .ok (.getfield 9, 3) := by decide +kernel
theorem dX0_along_47 : decode cX0_along 47 = .ok (.iload 4, 2) := by decide +kernel
theorem dX0_along_49 : decode cX0_along 49 = .ok (.iaload, 1) := by decide +kernel
theorem dX0_along_50 : decode cX0_along 50 = .ok (.ifCond .eq 32, 3) := by decide +kernel
theorem dX0_along_53 : decode cX0_along 53 = .ok (.aload_n 0, 1) := by decide +kernel
theorem dX0_along_54 : decode cX0_along 54 = .ok (.dup, 1) := by decide +kernel
theorem dX0_along_55 : decode cX0_along 55 = .ok (.getfield 21, 3) := by decide +kernel
theorem dX0_along_58 : decode cX0_along 58 = .ok (.iconst 1, 1) := by decide +kernel
theorem dX0_along_59 : decode cX0_along 59 = .ok (.iadd, 1) := by decide +kernel
theorem dX0_along_60 : decode cX0_along 60 = .ok (.putfield 21, 3) := by decide +kernel
theorem dX0_along_63 : decode cX0_along 63 = .ok (.aload_n 0, 1) := by decide +kernel
theorem dX0_along_64 : decode cX0_along 64 = .ok (.dup, 1) := by decide +kernel
theorem dX0_along_65 : decode cX0_along 65 = .ok (.getfield 25, 3) := by decide +kernel
theorem dX0_along_68 : decode cX0_along 68 = .ok (.iload 4, 2) := by decide +kernel
theorem dX0_along_70 : decode cX0_along 70 = .ok (.iadd, 1) := by decide +kernel
theorem dX0_along_71 : decode cX0_along 71 = .ok (.putfield 25, 3) := by decide +kernel
theorem dX0_along_74 : decode cX0_along 74 = .ok (.iload_n 3, 1) := by decide +kernel
theorem dX0_along_75 : decode cX0_along 75 = .ok (.iload 4, 2) := by decide +kernel
theorem dX0_along_77 : decode cX0_along 77 = .ok (.iload 4, 2) := by decide +kernel
theorem dX0_along_79 : decode cX0_along 79 = .ok (.imul, 1) := by decide +kernel
theorem dX0_along_80 : decode cX0_along 80 = .ok (.iadd, 1) := by decide +kernel
theorem dX0_along_81 : decode cX0_along 81 = .ok (.istore_n 3, 1) := by decide +kernel
theorem dX0_along_82 : decode cX0_along 82 = .ok (.iinc 4 1, 3) := by decide +kernel
theorem dX0_along_85 : decode cX0_along 85 = .ok (.goto (-70), 3) := by decide +kernel
theorem dX0_along_88 : decode cX0_along 88 = .ok (.aload_n 0, 1) := by decide +kernel
theorem dX0_along_89 : decode cX0_along 89 = .ok (.aload_n 0, 1) := by decide +kernel
theorem dX0_along_90 : decode cX0_along 90 = .ok (.getfield 21, 3) := by decide +kernel
theorem dX0_along_93 : decode cX0_along 93 = .ok (.iload_n 3, 1) := by decide +kernel
theorem dX0_along_94 : decode cX0_along 94 = .ok (.imul, 1) := by decide +kernel
theorem dX0_along_95 : decode cX0_along 95 = .ok (.aload_n 0, 1) := by decide +kernel
theorem dX0_along_96 : decode cX0_along 96 = .ok (.getfield 25, 3) := by decide +kernel
theorem dX0_along_99 : decode cX0_along 99 = .ok (.aload_n 0, 1) := by decide +kernel
theorem dX0_along_100 : decode cX0_along 100 = .ok (.getfield 25, 3) := by decide +kernel
theorem dX0_along_103 : decode cX0_along 103 = .ok (.imul, 1) := by decide +kernel
theorem dX0_along_104 : decode cX0_along 104 = .ok (.isub, 1) := by decide +kernel
theorem dX0_along_105 : decode cX0_along 105 = .ok (.putfield 34, 3) := by decide +kernel
theorem dX0_along_108 : decode cX0_along 108 = .ok (.aload_n 0, 1) := by decide +kernel
theorem dX0_along_109 : decode cX0_along 109 = .ok (.ldc 37, 2) := by decide +kernel
theorem dX0_along_111 : decode cX0_along 111 = .ok (.putfield 38, 3) := by decide +kernel
theorem dX0_along_114 : decode cX0_along 114 = .ok (.aload_n 0, 1) := by decide +kernel
theorem dX0_along_115 : decode cX0_along 115 = .ok (.iconst 0, 1) := by decide +kernel
theorem dX0_along_116 : decode cX0_along 116 = .ok (.iconst 0, 1) := by decide +kernel
theorem dX0_along_117 : decode cX0_along 117 = .ok (.iconst 0, 1) := by decide +kernel
theorem dX0_along_118 : decode cX0_along 118 = .ok (.iconst 0, 1) := by decide +kernel
theorem dX0_along_119 : decode cX0_along 119 = .ok (.invokevirtual 41, 3) := by decide +kernel
theorem dX0_along_122 : decode cX0_along 122 = .ok (.return_, 1) := by decide +kernel
theorem dX0_tryCells_0 : decode cX0_tryCells 0 = .ok (.iload_n 1, 1) := by decide +kernel
theorem dX0_tryCells_1 : decode cX0_tryCells 1 = .ok (.ifCond .lt 8, 3) := by decide +kernel
theorem dX0_tryCells_4 : decode cX0_tryCells 4 = .ok (.iload_n 1, 1) := by decide +kernel
theorem dX0_tryCells_5 : decode cX0_tryCells 5 = .ok (.iconst 5, 1) := by decide +kernel
theorem dX0_tryCells_6 : decode cX0_tryCells 6 = .ok (.if_icmp .lt 12, 3) := by decide +kernel
theorem dX0_tryCells_9 : decode cX0_tryCells 9 = .ok (.aload_n 0, 1) := by decide +kernel
theorem dX0_tryCells_10 : decode cX0_tryCells 10 = .ok (.iload_n 2, 1) := by decide +kernel
theorem dX0_tryCells_11 : decode cX0_tryCells 11 = .ok (.iload_n 3, 1) := by decide +kernel
theorem dX0_tryCells_12 : decode cX0_tryCells 12 = .ok (.iload 4, 2) := by decide +kernel
theorem dX0_tryCells_14 : decode cX0_tryCells 14 = .ok (.invokevirtual 45, 3) := by decide +kernel
theorem dX0_tryCells_17 : decode cX0_tryCells 17 = .ok (.return_, 1) := by decide +kernel
theorem dX0_tryCells_18 : decode cX0_tryCells 18 = .ok (.aload_n 0, 1) := by decide +kernel
theorem dX0_tryCells_19 : decode cX0_tryCells 19 = .ok (.getfield 9, 3) := by decide +kernel
theorem dX0_tryCells_22 : decode cX0_tryCells 22 = .ok (.iload_n 1, 1) := by decide +kernel
theorem dX0_tryCells_23 : decode cX0_tryCells 23 = .ok (.iaload, 1) := by decide +kernel
theorem dX0_tryCells_24 : decode cX0_tryCells 24 = .ok (.ifCond .ne 15, 3) := by decide +kernel
theorem dX0_tryCells_27 : decode cX0_tryCells 27 = .ok (.aload_n 0, 1) := by decide +kernel
theorem dX0_tryCells_28 : decode cX0_tryCells 28 = .ok (.iload_n 1, 1) := by decide +kernel
theorem dX0_tryCells_29 : decode cX0_tryCells 29 = .ok (.iconst 1, 1) := by decide +kernel
theorem dX0_tryCells_30 : decode cX0_tryCells 30 = .ok (.iadd, 1) := by decide +kernel
theorem dX0_tryCells_31 : decode cX0_tryCells 31 = .ok (.iload_n 2, 1) := by decide +kernel
theorem dX0_tryCells_32 : decode cX0_tryCells 32 = .ok (.iload_n 3, 1) := by decide +kernel
theorem dX0_tryCells_33 : decode cX0_tryCells 33 = .ok (.iload 4, 2) := by decide +kernel
theorem dX0_tryCells_35 : decode cX0_tryCells 35 = .ok (.invokevirtual 41, 3) := by decide +kernel
theorem dX0_tryCells_38 : decode cX0_tryCells 38 = .ok (.return_, 1) := by decide +kernel
theorem dX0_tryCells_39 : decode cX0_tryCells 39 = .ok (.aload_n 0, 1) := by decide +kernel
theorem dX0_tryCells_40 : decode cX0_tryCells 40 = .ok (.getfield 9, 3) := by decide +kernel
theorem dX0_tryCells_43 : decode cX0_tryCells 43 = .ok (.iload_n 1, 1) := by decide +kernel
theorem dX0_tryCells_44 : decode cX0_tryCells 44 = .ok (.iaload, 1) := by decide +kernel
theorem dX0_tryCells_45 : decode cX0_tryCells 45 = .ok (.invokestatic 49, 3) := by decide +kernel
theorem dX0_tryCells_48 : decode cX0_tryCells 48 = .ok (.istore 5, 2) := by decide +kernel
theorem dX0_tryCells_50 : decode cX0_tryCells 50 = .ok (.iload 5, 2) := by decide +kernel
theorem dX0_tryCells_52 : decode cX0_tryCells 52 = .ok (.istore 6, 2) := by decide +kernel
theorem dX0_tryCells_54 : decode cX0_tryCells 54 = .ok (.iload 6, 2) := by decide +kernel
theorem dX0_tryCells_56 : decode cX0_tryCells 56 = .ok (.iload 5, 2) := by decide +kernel
theorem dX0_tryCells_58 : decode cX0_tryCells 58 = .ok (.iconst 3, 1) := by decide +kernel
theorem dX0_tryCells_59 : decode cX0_tryCells 59 = .ok (.iadd, 1) := by decide +kernel
theorem dX0_tryCells_60 : decode cX0_tryCells 60 = .ok (.if_icmp .gt 64, 3) := by decide +kernel
theorem dX0_tryCells_63 : decode cX0_tryCells 63 = .ok (.aload_n 0, 1) := by decide +kernel
theorem dX0_tryCells_64 : decode cX0_tryCells 64 = .ok (.invokevirtual 55, 3) := by decide +kernel
theorem dX0_tryCells_67 : decode cX0_tryCells 67 = .ok (.ifCond .ne 57, 3) := by decide +kernel
theorem dX0_tryCells_70 : decode cX0_tryCells 70 = .ok (.aload_n 0, 1) := by decide +kernel
theorem dX0_tryCells_71 : decode cX0_tryCells 71 = .ok (.getfield 9, 3) := by decide +kernel
theorem dX0_tryCells_74 : decode cX0_tryCells 74 = .ok (.iload_n 1, 1) := by decide +kernel
theorem dX0_tryCells_75 : decode cX0_tryCells 75 = .ok (.iaload, 1) := by decide +kernel
theorem dX0_tryCells_76 : decode cX0_tryCells 76 = .ok (.iload 6, 2) := by decide +kernel
theorem dX0_tryCells_78 : decode cX0_tryCells 78 = .ok (.ishr, 1) := by decide +kernel
theorem dX0_tryCells_79 : decode cX0_tryCells 79 = .ok (.iconst 1, 1) := by decide +kernel
theorem dX0_tryCells_80 : decode cX0_tryCells 80 = .ok (.iand, 1) := by decide +kernel
theorem dX0_tryCells_81 : decode cX0_tryCells 81 = .ok (.iconst 1, 1) := by decide +kernel
theorem dX0_tryCells_82 : decode cX0_tryCells 82 = .ok (.if_icmp .ne 36, 3) := by decide +kernel
theorem dX0_tryCells_85 : decode cX0_tryCells 85 = .ok (.aload_n 0, 1) := by decide +kernel
theorem dX0_tryCells_86 : decode cX0_tryCells 86 = .ok (.getfield 15, 3) := by decide +kernel
theorem dX0_tryCells_89 : decode cX0_tryCells 89 = .ok (.iload_n 1, 1) := by decide +kernel
theorem dX0_tryCells_90 : decode cX0_tryCells 90 = .ok (.iload 6, 2) := by decide +kernel
theorem dX0_tryCells_92 : decode cX0_tryCells 92 = .ok (.iastore, 1) := by decide +kernel
theorem dX0_tryCells_93 : decode cX0_tryCells 93 = .ok (.aload_n 0, 1) := by decide +kernel
theorem dX0_tryCells_94 : decode cX0_tryCells 94 = .ok (.iload_n 1, 1) := by decide +kernel
theorem dX0_tryCells_95 : decode cX0_tryCells 95 = .ok (.iconst 1, 1) := by decide +kernel
theorem dX0_tryCells_96 : decode cX0_tryCells 96 = .ok (.iadd, 1) := by decide +kernel
theorem dX0_tryCells_97 : decode cX0_tryCells 97 = .ok (.iload_n 2, 1) := by decide +kernel
theorem dX0_tryCells_98 : decode cX0_tryCells 98 = .ok (.iload 6, 2) := by decide +kernel
theorem dX0_tryCells_100 : decode cX0_tryCells 100 = .ok (.iadd, 1) := by decide +kernel
theorem dX0_tryCells_101 : decode cX0_tryCells 101 = .ok (.iload_n 3, 1) := by decide +kernel
theorem dX0_tryCells_102 : decode cX0_tryCells 102 = .ok (.iload 6, 2) := by decide +kernel
theorem dX0_tryCells_104 : decode cX0_tryCells 104 = .ok (.iload 6, 2) := by decide +kernel
theorem dX0_tryCells_106 : decode cX0_tryCells 106 = .ok (.imul, 1) := by decide +kernel
theorem dX0_tryCells_107 : decode cX0_tryCells 107 = .ok (.iadd, 1) := by decide +kernel
theorem dX0_tryCells_108 : decode cX0_tryCells 108 = .ok (.iload 4, 2) := by decide +kernel
theorem dX0_tryCells_110 : decode cX0_tryCells 110 = .ok (.iload_n 1, 1) := by decide +kernel
theorem dX0_tryCells_111 : decode cX0_tryCells 111 = .ok (.iload 6, 2) := by decide +kernel
theorem dX0_tryCells_113 : decode cX0_tryCells 113 = .ok (.imul, 1) := by decide +kernel
theorem dX0_tryCells_114 : decode cX0_tryCells 114 = .ok (.iadd, 1) := by decide +kernel
theorem dX0_tryCells_115 : decode cX0_tryCells 115 = .ok (.invokevirtual 41, 3) := by decide +kernel
theorem dX0_tryCells_118 : decode cX0_tryCells 118 = .ok (.iinc 6 1, 3) := by decide +kernel
theorem dX0_tryCells_121 : decode cX0_tryCells 121 = .ok (.goto (-67), 3) := by decide +kernel
theorem dX0_tryCells_124 : decode cX0_tryCells 124 = .ok (.return_, 1) := by decide +kernel
theorem dX0_isPerfect_0 : decode cX0_isPerfect 0 = .ok (.aload_n 0, 1) := by decide +kernel
theorem dX0_isPerfect_1 : decode cX0_isPerfect 1 = .ok (.getfield 38, 3) := by decide +kernel
theorem dX0_isPerfect_4 : decode cX0_isPerfect 4 = .ok (.ifCond .ne 7, 3) := by decide +kernel
theorem dX0_isPerfect_7 : decode cX0_isPerfect 7 = .ok (.iconst 1, 1) := by decide +kernel
theorem dX0_isPerfect_8 : decode cX0_isPerfect 8 = .ok (.goto 4, 3) := by decide +kernel
theorem dX0_isPerfect_11 : decode cX0_isPerfect 11 = .ok (.iconst 0, 1) := by decide +kernel
theorem dX0_isPerfect_12 : decode cX0_isPerfect 12 = .ok (.ireturn, 1) := by decide +kernel
theorem dX0_takeTrial_0 : decode cX0_takeTrial 0 = .ok (.aload_n 0, 1) := by decide +kernel
theorem dX0_takeTrial_1 : decode cX0_takeTrial 1 = .ok (.getfield 21, 3) := by decide +kernel
theorem dX0_takeTrial_4 : decode cX0_takeTrial 4 = .ok (.iload_n 3, 1) := by decide +kernel
theorem dX0_takeTrial_5 : decode cX0_takeTrial 5 = .ok (.imul, 1) := by decide +kernel
theorem dX0_takeTrial_6 : decode cX0_takeTrial 6 = .ok (.aload_n 0, 1) := by decide +kernel
theorem dX0_takeTrial_7 : decode cX0_takeTrial 7 = .ok (.getfield 25, 3) := by decide +kernel
theorem dX0_takeTrial_10 : decode cX0_takeTrial 10 = .ok (.iload_n 1, 1) := by decide +kernel
theorem dX0_takeTrial_11 : decode cX0_takeTrial 11 = .ok (.imul, 1) := by decide +kernel
theorem dX0_takeTrial_12 : decode cX0_takeTrial 12 = .ok (.isub, 1) := by decide +kernel
theorem dX0_takeTrial_13 : decode cX0_takeTrial 13 = .ok (.istore 4, 2) := by decide +kernel
theorem dX0_takeTrial_15 : decode cX0_takeTrial 15 = .ok (.aload_n 0, 1) := by decide +kernel
theorem dX0_takeTrial_16 : decode cX0_takeTrial 16 = .ok (.getfield 21, 3) := by decide +kernel
theorem dX0_takeTrial_19 : decode cX0_takeTrial 19 = .ok (.iload_n 2, 1) := by decide +kernel
theorem dX0_takeTrial_20 : decode cX0_takeTrial 20 = .ok (.imul, 1) := by decide +kernel
theorem dX0_takeTrial_21 : decode cX0_takeTrial 21 = .ok (.iload_n 1, 1) := by decide +kernel
theorem dX0_takeTrial_22 : decode cX0_takeTrial 22 = .ok (.iload_n 1, 1) := by decide +kernel
theorem dX0_takeTrial_23 : decode cX0_takeTrial 23 = .ok (.imul, 1) := by decide +kernel
theorem dX0_takeTrial_24 : decode cX0_takeTrial 24 = .ok (.isub, 1) := by decide +kernel
theorem dX0_takeTrial_25 : decode cX0_takeTrial 25 = .ok (.aload_n 0, 1) := by decide +kernel
theorem dX0_takeTrial_26 : decode cX0_takeTrial 26 = .ok (.getfield 34, 3) := by decide +kernel
theorem dX0_takeTrial_29 : decode cX0_takeTrial 29 = .ok (.imul, 1) := by decide +kernel
theorem dX0_takeTrial_30 : decode cX0_takeTrial 30 = .ok (.iload 4, 2) := by decide +kernel
theorem dX0_takeTrial_32 : decode cX0_takeTrial 32 = .ok (.iload 4, 2) := by decide +kernel
theorem dX0_takeTrial_34 : decode cX0_takeTrial 34 = .ok (.imul, 1) := by decide +kernel
theorem dX0_takeTrial_35 : decode cX0_takeTrial 35 = .ok (.isub, 1) := by decide +kernel
theorem dX0_takeTrial_36 : decode cX0_takeTrial 36 = .ok (.istore 5, 2) := by decide +kernel
theorem dX0_takeTrial_38 : decode cX0_takeTrial 38 = .ok (.iload 5, 2) := by decide +kernel
theorem dX0_takeTrial_40 : decode cX0_takeTrial 40 = .ok (.aload_n 0, 1) := by decide +kernel
theorem dX0_takeTrial_41 : decode cX0_takeTrial 41 = .ok (.getfield 38, 3) := by decide +kernel
theorem dX0_takeTrial_44 : decode cX0_takeTrial 44 = .ok (.if_icmp .lt 4, 3) := by decide +kernel
theorem dX0_takeTrial_47 : decode cX0_takeTrial 47 = .ok (.return_, 1) := by decide +kernel
theorem dX0_takeTrial_48 : decode cX0_takeTrial 48 = .ok (.aload_n 0, 1) := by decide +kernel
theorem dX0_takeTrial_49 : decode cX0_takeTrial 49 = .ok (.iload 5, 2) := by decide +kernel
theorem dX0_takeTrial_51 : decode cX0_takeTrial 51 = .ok (.putfield 38, 3) := by decide +kernel
theorem dX0_takeTrial_54 : decode cX0_takeTrial 54 = .ok (.iconst 0, 1) := by decide +kernel
theorem dX0_takeTrial_55 : decode cX0_takeTrial 55 = .ok (.istore 6, 2) := by decide +kernel
theorem dX0_takeTrial_57 : decode cX0_takeTrial 57 = .ok (.iload 6, 2) := by decide +kernel
theorem dX0_takeTrial_59 : decode cX0_takeTrial 59 = .ok (.iconst 5, 1) := by decide +kernel
theorem dX0_takeTrial_60 : decode cX0_takeTrial 60 = .ok (.if_icmp .ge 23, 3) := by decide +kernel
theorem dX0_takeTrial_63 : decode cX0_takeTrial 63 = .ok (.aload_n 0, 1) := by decide +kernel
theorem dX0_takeTrial_64 : decode cX0_takeTrial 64 = .ok (.getfield 18, 3) := by decide +kernel
theorem dX0_takeTrial_67 : decode cX0_takeTrial 67 = .ok (.iload 6, 2) := by decide +kernel
theorem dX0_takeTrial_69 : decode cX0_takeTrial 69 = .ok (.aload_n 0, 1) := by decide +kernel
theorem dX0_takeTrial_70 : decode cX0_takeTrial 70 = .ok (.getfield 15, 3) := by decide +kernel
theorem dX0_takeTrial_73 : decode cX0_takeTrial 73 = .ok (.iload 6, 2) := by decide +kernel
theorem dX0_takeTrial_75 : decode cX0_takeTrial 75 = .ok (.iaload, 1) := by decide +kernel
theorem dX0_takeTrial_76 : decode cX0_takeTrial 76 = .ok (.iastore, 1) := by decide +kernel
theorem dX0_takeTrial_77 : decode cX0_takeTrial 77 = .ok (.iinc 6 1, 3) := by decide +kernel
theorem dX0_takeTrial_80 : decode cX0_takeTrial 80 = .ok (.goto (-23), 3) := by decide +kernel
theorem dX0_takeTrial_83 : decode cX0_takeTrial 83 = .ok (.return_, 1) := by decide +kernel
theorem dX0_above_0 : decode cX0_above 0 = .ok (.aload_n 0, 1) := by decide +kernel
theorem dX0_above_1 : decode cX0_above 1 = .ok (.getfield 38, 3) := by decide +kernel
theorem dX0_above_4 : decode cX0_above 4 = .ok (.ireturn, 1) := by decide +kernel
theorem dX0_below_0 : decode cX0_below 0 = .ok (.aload_n 0, 1) := by decide +kernel
theorem dX0_below_1 : decode cX0_below 1 = .ok (.getfield 21, 3) := by decide +kernel
theorem dX0_below_4 : decode cX0_below 4 = .ok (.aload_n 0, 1) := by decide +kernel
theorem dX0_below_5 : decode cX0_below 5 = .ok (.getfield 34, 3) := by decide +kernel
theorem dX0_below_8 : decode cX0_below 8 = .ok (.imul, 1) := by decide +kernel
theorem dX0_below_9 : decode cX0_below 9 = .ok (.iconst 1, 1) := by decide +kernel
theorem dX0_below_10 : decode cX0_below 10 = .ok (.invokestatic 59, 3) := by decide +kernel
theorem dX0_below_13 : decode cX0_below 13 = .ok (.ireturn, 1) := by decide +kernel
theorem dX0_worth_0 : decode cX0_worth 0 = .ok (.bipush 100, 2) := by decide +kernel
theorem dX0_worth_2 : decode cX0_worth 2 = .ok (.aload_n 0, 1) := by decide +kernel
theorem dX0_worth_3 : decode cX0_worth 3 = .ok (.getfield 21, 3) := by decide +kernel
theorem dX0_worth_6 : decode cX0_worth 6 = .ok (.imul, 1) := by decide +kernel
theorem dX0_worth_7 : decode cX0_worth 7 = .ok (.bipush 10, 2) := by decide +kernel
theorem dX0_worth_9 : decode cX0_worth 9 = .ok (.aload_n 0, 1) := by decide +kernel
theorem dX0_worth_10 : decode cX0_worth 10 = .ok (.getfield 38, 3) := by decide +kernel
theorem dX0_worth_13 : decode cX0_worth 13 = .ok (.imul, 1) := by decide +kernel
theorem dX0_worth_14 : decode cX0_worth 14 = .ok (.aload_n 0, 1) := by decide +kernel
theorem dX0_worth_15 : decode cX0_worth 15 = .ok (.invokevirtual 65, 3) := by decide +kernel
theorem dX0_worth_18 : decode cX0_worth 18 = .ok (.idiv, 1) := by decide +kernel
theorem dX0_worth_19 : decode cX0_worth 19 = .ok (.isub, 1) := by decide +kernel
theorem dX0_worth_20 : decode cX0_worth 20 = .ok (.iconst 0, 1) := by decide +kernel
theorem dX0_worth_21 : decode cX0_worth 21 = .ok (.invokestatic 59, 3) := by decide +kernel
theorem dX0_worth_24 : decode cX0_worth 24 = .ok (.ireturn, 1) := by decide +kernel
theorem dX1_init_0 : decode cX1_init 0 = .ok (.aload_n 0, 1) := by decide +kernel
theorem dX1_init_1 : decode cX1_init 1 = .ok (.invokespecial 3, 3) := by decide +kernel
theorem dX1_init_4 : decode cX1_init 4 = .ok (.aload_n 0, 1) := by decide +kernel
theorem dX1_init_5 : decode cX1_init 5 = .ok (.bipush 60, 2) := by decide +kernel
theorem dX1_init_7 : decode cX1_init 7 = .ok (.newarray .int, 2) := by decide +kernel
theorem dX1_init_9 : decode cX1_init 9 = .ok (.putfield 9, 3) := by decide +kernel
theorem dX1_init_12 : decode cX1_init 12 = .ok (.aload_n 0, 1) := by decide +kernel
theorem dX1_init_13 : decode cX1_init 13 = .ok (.bipush 12, 2) := by decide +kernel
theorem dX1_init_15 : decode cX1_init 15 = .ok (.newarray .int, 2) := by decide +kernel
theorem dX1_init_17 : decode cX1_init 17 = .ok (.putfield 15, 3) := by decide +kernel
theorem dX1_init_20 : decode cX1_init 20 = .ok (.aload_n 0, 1) := by decide +kernel
theorem dX1_init_21 : decode cX1_init 21 = .ok (.bipush 12, 2) := by decide +kernel
theorem dX1_init_23 : decode cX1_init 23 = .ok (.newarray .int, 2) := by decide +kernel
theorem dX1_init_25 : decode cX1_init 25 = .ok (.putfield 18, 3) := by decide +kernel
theorem dX1_init_28 : decode cX1_init 28 = .ok (.aload_n 0, 1) := by decide +kernel
theorem dX1_init_29 : decode cX1_init 29 = .ok (.bipush 12, 2) := by decide +kernel
theorem dX1_init_31 : decode cX1_init 31 = .ok (.newarray .int, 2) := by decide +kernel
theorem dX1_init_33 : decode cX1_init 33 = .ok (.putfield 21, 3) := by decide +kernel
theorem dX1_init_36 : decode cX1_init 36 = .ok (.return_, 1) := by decide +kernel
theorem dX1_empty_0 : decode cX1_empty 0 = .ok (.aload_n 0, 1) := by decide +kernel
theorem dX1_empty_1 : decode cX1_empty 1 = .ok (.iconst 0, 1) := by decide +kernel
theorem dX1_empty_2 : decode cX1_empty 2 = .ok (.putfield 24, 3) := by decide +kernel
theorem dX1_empty_5 : decode cX1_empty 5 = .ok (.aload_n 0, 1) := by decide +kernel
theorem dX1_empty_6 : decode cX1_empty 6 = .ok (.iconst 0, 1) := by decide +kernel
theorem dX1_empty_7 : decode cX1_empty 7 = .ok (.putfield 28, 3) := by decide +kernel
theorem dX1_empty_10 : decode cX1_empty 10 = .ok (.aload_n 0, 1) := by decide +kernel
theorem dX1_empty_11 : decode cX1_empty 11 = .ok (.iconst 0, 1) := by decide +kernel
theorem dX1_empty_12 : decode cX1_empty 12 = .ok (.putfield 31, 3) := by decide +kernel
theorem dX1_empty_15 : decode cX1_empty 15 = .ok (.return_, 1) := by decide +kernel
theorem dX1_put_0 : decode cX1_put 0 = .ok (.aload_n 0, 1) := by decide +kernel
theorem dX1_put_1 : decode cX1_put 1 = .ok (.getfield 24, 3) := by decide +kernel
theorem dX1_put_4 : decode cX1_put 4 = .ok (.bipush 12, 2) := by decide +kernel
theorem dX1_put_6 : decode cX1_put 6 = .ok (.if_icmp .ge 9, 3) := by decide +kernel
theorem dX1_put_9 : decode cX1_put 9 = .ok (.aload_n 2, 1) := by decide +kernel
theorem dX1_put_10 : decode cX1_put 10 = .ok (.arraylength, 1) := by decide +kernel
theorem dX1_put_11 : decode cX1_put 11 = .ok (.iconst 5, 1) := by decide +kernel
theorem dX1_put_12 : decode cX1_put 12 = .ok (.if_icmp .ge 4, 3) := by decide +kernel
theorem dX1_put_15 : decode cX1_put 15 = .ok (.return_, 1) := by decide +kernel
theorem dX1_put_16 : decode cX1_put 16 = .ok (.iconst 0, 1) := by decide +kernel
theorem dX1_put_17 : decode cX1_put 17 = .ok (.istore_n 3, 1) := by decide +kernel
theorem dX1_put_18 : decode cX1_put 18 = .ok (.iload_n 3, 1) := by decide +kernel
theorem dX1_put_19 : decode cX1_put 19 = .ok (.iconst 5, 1) := by decide +kernel
theorem dX1_put_20 : decode cX1_put 20 = .ok (.if_icmp .ge 25, 3) := by decide +kernel
theorem dX1_put_23 : decode cX1_put 23 = .ok (.aload_n 0, 1) := by decide +kernel
theorem dX1_put_24 : decode cX1_put 24 = .ok (.getfield 9, 3) := by decide +kernel
theorem dX1_put_27 : decode cX1_put 27 = .ok (.aload_n 0, 1) := by decide +kernel
theorem dX1_put_28 : decode cX1_put 28 = .ok (.getfield 24, 3) := by decide +kernel
theorem dX1_put_31 : decode cX1_put 31 = .ok (.iconst 5, 1) := by decide +kernel
theorem dX1_put_32 : decode cX1_put 32 = .ok (.imul, 1) := by decide +kernel
theorem dX1_put_33 : decode cX1_put 33 = .ok (.iload_n 3, 1) := by decide +kernel
theorem dX1_put_34 : decode cX1_put 34 = .ok (.iadd, 1) := by decide +kernel
theorem dX1_put_35 : decode cX1_put 35 = .ok (.aload_n 2, 1) := by decide +kernel
theorem dX1_put_36 : decode cX1_put 36 = .ok (.iload_n 3, 1) := by decide +kernel
theorem dX1_put_37 : decode cX1_put 37 = .ok (.iaload, 1) := by decide +kernel
theorem dX1_put_38 : decode cX1_put 38 = .ok (.iastore, 1) := by decide +kernel
theorem dX1_put_39 : decode cX1_put 39 = .ok (.iinc 3 1, 3) := by decide +kernel
theorem dX1_put_42 : decode cX1_put 42 = .ok (.goto (-24), 3) := by decide +kernel
theorem dX1_put_45 : decode cX1_put 45 = .ok (.aload_n 0, 1) := by decide +kernel
theorem dX1_put_46 : decode cX1_put 46 = .ok (.getfield 18, 3) := by decide +kernel
theorem dX1_put_49 : decode cX1_put 49 = .ok (.aload_n 0, 1) := by decide +kernel
theorem dX1_put_50 : decode cX1_put 50 = .ok (.getfield 24, 3) := by decide +kernel
theorem dX1_put_53 : decode cX1_put 53 = .ok (.iload_n 1, 1) := by decide +kernel
theorem dX1_put_54 : decode cX1_put 54 = .ok (.iastore, 1) := by decide +kernel
theorem dX1_put_55 : decode cX1_put 55 = .ok (.aload_n 0, 1) := by decide +kernel
theorem dX1_put_56 : decode cX1_put 56 = .ok (.getfield 21, 3) := by decide +kernel
theorem dX1_put_59 : decode cX1_put 59 = .ok (.aload_n 0, 1) := by decide +kernel
theorem dX1_put_60 : decode cX1_put 60 = .ok (.getfield 24, 3) := by decide +kernel
theorem dX1_put_63 : decode cX1_put 63 = .ok (.iload_n 1, 1) := by decide +kernel
theorem dX1_put_64 : decode cX1_put 64 = .ok (.aload_n 0, 1) := by decide +kernel
theorem dX1_put_65 : decode cX1_put 65 = .ok (.getfield 24, 3) := by decide +kernel
theorem dX1_put_68 : decode cX1_put 68 = .ok (.ifCond .ne 7, 3) := by decide +kernel
theorem dX1_put_71 : decode cX1_put 71 = .ok (.iconst 0, 1) := by decide +kernel
theorem dX1_put_72 : decode cX1_put 72 = .ok (.goto 14, 3) := by decide +kernel
theorem dX1_put_75 : decode cX1_put 75 = .ok (.aload_n 0, 1) := by decide +kernel
theorem dX1_put_76 : decode cX1_put 76 = .ok (.getfield 21, 3) := by decide +kernel
theorem dX1_put_79 : decode cX1_put 79 = .ok (.aload_n 0, 1) := by decide +kernel
theorem dX1_put_80 : decode cX1_put 80 = .ok (.getfield 24, 3) := by decide +kernel
theorem dX1_put_83 : decode cX1_put 83 = .ok (.iconst 1, 1) := by decide +kernel
theorem dX1_put_84 : decode cX1_put 84 = .ok (.isub, 1) := by decide +kernel
theorem dX1_put_85 : decode cX1_put 85 = .ok (.iaload, 1) := by decide +kernel
theorem dX1_put_86 : decode cX1_put 86 = .ok (.iadd, 1) := by decide +kernel
theorem dX1_put_87 : decode cX1_put 87 = .ok (.iastore, 1) := by decide +kernel
theorem dX1_put_88 : decode cX1_put 88 = .ok (.aload_n 0, 1) := by decide +kernel
theorem dX1_put_89 : decode cX1_put 89 = .ok (.getfield 15, 3) := by decide +kernel
theorem dX1_put_92 : decode cX1_put 92 = .ok (.aload_n 0, 1) := by decide +kernel
theorem dX1_put_93 : decode cX1_put 93 = .ok (.getfield 24, 3) := by decide +kernel
theorem dX1_put_96 : decode cX1_put 96 = .ok (.iconst 0, 1) := by decide +kernel
theorem dX1_put_97 : decode cX1_put 97 = .ok (.iastore, 1) := by decide +kernel
theorem dX1_put_98 : decode cX1_put 98 = .ok (.iconst 0, 1) := by decide +kernel
theorem dX1_put_99 : decode cX1_put 99 = .ok (.istore_n 3, 1) := by decide +kernel
theorem dX1_put_100 : decode cX1_put 100 = .ok (.iload_n 3, 1) := by decide +kernel
theorem dX1_put_101 : decode cX1_put 101 = .ok (.aload_n 0, 1) := by decide +kernel
theorem dX1_put_102 : decode cX1_put 102 = .ok (.getfield 24, 3) := by decide +kernel
theorem dX1_put_105 : decode cX1_put 105 = .ok (.if_icmp .ge 36, 3) := by decide +kernel
theorem dX1_put_108 : decode cX1_put 108 = .ok (.aload_n 0, 1) := by decide +kernel
theorem dX1_put_109 : decode cX1_put 109 = .ok (.aload_n 0, 1) := by decide +kernel
theorem dX1_put_110 : decode cX1_put 110 = .ok (.getfield 24, 3) := by decide +kernel
theorem dX1_put_113 : decode cX1_put 113 = .ok (.iload_n 3, 1) := by decide +kernel
theorem dX1_put_114 : decode cX1_put 114 = .ok (.invokevirtual 34, 3) := by decide +kernel
theorem dX1_put_117 : decode cX1_put 117 = .ok (.ifCond .eq 18, 3) := by decide +kernel
theorem dX1_put_120 : decode cX1_put 120 = .ok (.aload_n 0, 1) := by decide +kernel
theorem dX1_put_121 : decode cX1_put 121 = .ok (.getfield 15, 3) := by decide +kernel
theorem dX1_put_124 : decode cX1_put 124 = .ok (.iload_n 3, 1) := by decide +kernel
theorem dX1_put_125 : decode cX1_put 125 = .ok (.dup2, 1) := by decide +kernel
theorem dX1_put_126 : decode cX1_put 126 = .ok (.iaload, 1) := by decide +kernel
theorem dX1_put_127 : decode cX1_put 127 = .ok (.iconst 1, 1) := by decide +kernel
theorem dX1_put_128 : decode cX1_put 128 = .ok (.aload_n 0, 1) := by decide +kernel
theorem dX1_put_129 : decode cX1_put 129 = .ok (.getfield 24, 3) := by decide +kernel
theorem dX1_put_132 : decode cX1_put 132 = .ok (.ishl, 1) := by decide +kernel
theorem dX1_put_133 : decode cX1_put 133 = .ok (.ior, 1) := by decide +kernel
theorem dX1_put_134 : decode cX1_put 134 = .ok (.iastore, 1) := by decide +kernel
theorem dX1_put_135 : decode cX1_put 135 = .ok (.iinc 3 1, 3) := by decide +kernel
theorem dX1_put_138 : decode cX1_put 138 = .ok (.goto (-38), 3) := by decide +kernel
theorem dX1_put_141 : decode cX1_put 141 = .ok (.aload_n 0, 1) := by decide +kernel
theorem dX1_put_142 : decode cX1_put 142 = .ok (.dup, 1) := by decide +kernel
theorem dX1_put_143 : decode cX1_put 143 = .ok (.getfield 24, 3) := by decide +kernel
theorem dX1_put_146 : decode cX1_put 146 = .ok (.iconst 1, 1) := by decide +kernel
theorem dX1_put_147 : decode cX1_put 147 = .ok (.iadd, 1) := by decide +kernel
theorem dX1_put_148 : decode cX1_put 148 = .ok (.putfield 24, 3) := by decide +kernel
theorem dX1_put_151 : decode cX1_put 151 = .ok (.return_, 1) := by decide +kernel
theorem dX1_clash_0 : decode cX1_clash 0 = .ok (.iconst 0, 1) := by decide +kernel
theorem dX1_clash_1 : decode cX1_clash 1 = .ok (.istore_n 3, 1) := by decide +kernel
theorem dX1_clash_2 : decode cX1_clash 2 = .ok (.iload_n 3, 1) := by decide +kernel
theorem dX1_clash_3 : decode cX1_clash 3 = .ok (.iconst 5, 1) := by decide +kernel
theorem dX1_clash_4 : decode cX1_clash 4 = .ok (.if_icmp .ge 44, 3) := by decide +kernel
theorem dX1_clash_7 : decode cX1_clash 7 = .ok (.aload_n 0, 1) := by decide +kernel
theorem dX1_clash_8 : decode cX1_clash 8 = .ok (.getfield 9, 3) := by decide +kernel
theorem dX1_clash_11 : decode cX1_clash 11 = .ok (.iload_n 1, 1) := by decide +kernel
theorem dX1_clash_12 : decode cX1_clash 12 = .ok (.iconst 5, 1) := by decide +kernel
theorem dX1_clash_13 : decode cX1_clash 13 = .ok (.imul, 1) := by decide +kernel
theorem dX1_clash_14 : decode cX1_clash 14 = .ok (.iload_n 3, 1) := by decide +kernel
theorem dX1_clash_15 : decode cX1_clash 15 = .ok (.iadd, 1) := by decide +kernel
theorem dX1_clash_16 : decode cX1_clash 16 = .ok (.iaload, 1) := by decide +kernel
theorem dX1_clash_17 : decode cX1_clash 17 = .ok (.istore 4, 2) := by decide +kernel
theorem dX1_clash_19 : decode cX1_clash 19 = .ok (.iload 4, 2) := by decide +kernel
theorem dX1_clash_21 : decode cX1_clash 21 = .ok (.iconst (-1), 1) := by decide +kernel
theorem dX1_clash_22 : decode cX1_clash 22 = .ok (.if_icmp .eq 20, 3) := by decide +kernel
theorem dX1_clash_25 : decode cX1_clash 25 = .ok (.iload 4, 2) := by decide +kernel
theorem dX1_clash_27 : decode cX1_clash 27 = .ok (.aload_n 0, 1) := by decide +kernel
theorem dX1_clash_28 : decode cX1_clash 28 = .ok (.getfield 9, 3) := by decide +kernel
theorem dX1_clash_31 : decode cX1_clash 31 = .ok (.iload_n 2, 1) := by decide +kernel
theorem dX1_clash_32 : decode cX1_clash 32 = .ok (.iconst 5, 1) := by decide +kernel
theorem dX1_clash_33 : decode cX1_clash 33 = .ok (.imul, 1) := by decide +kernel
theorem dX1_clash_34 : decode cX1_clash 34 = .ok (.iload_n 3, 1) := by decide +kernel
theorem dX1_clash_35 : decode cX1_clash 35 = .ok (.iadd, 1) := by decide +kernel
theorem dX1_clash_36 : decode cX1_clash 36 = .ok (.iaload, 1) := by decide +kernel
theorem dX1_clash_37 : decode cX1_clash 37 = .ok (.if_icmp .ne 5, 3) := by decide +kernel
theorem dX1_clash_40 : decode cX1_clash 40 = .ok (.iconst 1, 1) := by decide +kernel
theorem dX1_clash_41 : decode cX1_clash 41 = .ok (.ireturn, 1) := by decide +kernel
theorem dX1_clash_42 : decode cX1_clash 42 = .ok (.iinc 3 1, 3) := by decide +kernel
theorem dX1_clash_45 : decode cX1_clash 45 = .ok (.goto (-43), 3) := by decide +kernel
theorem dX1_clash_48 : decode cX1_clash 48 = .ok (.iconst 0, 1) := by decide +kernel
theorem dX1_clash_49 : decode cX1_clash 49 = .ok (.ireturn, 1) := by decide +kernel
theorem dX1_choose_0 : decode cX1_choose 0 = .ok (.aload_n 0, 1) := by decide +kernel
theorem dX1_choose_1 : decode cX1_choose 1 = .ok (.aload_n 0, 1) := by decide +kernel
theorem dX1_choose_2 : decode cX1_choose 2 = .ok (.getfield 24, 3) := by decide +kernel
theorem dX1_choose_5 : decode cX1_choose 5 = .ok (.iconst 1, 1) := by decide +kernel
theorem dX1_choose_6 : decode cX1_choose 6 = .ok (.isub, 1) := by decide +kernel
theorem dX1_choose_7 : decode cX1_choose 7 = .ok (.iconst 0, 1) := by decide +kernel
theorem dX1_choose_8 : decode cX1_choose 8 = .ok (.iconst 0, 1) := by decide +kernel
theorem dX1_choose_9 : decode cX1_choose 9 = .ok (.invokevirtual 38, 3) := by decide +kernel
theorem dX1_choose_12 : decode cX1_choose 12 = .ok (.return_, 1) := by decide +kernel
theorem dX1_chooseFrom_0 : decode cX1_chooseFrom 0 = .ok (.iload_n 1, 1) := by decide +kernel
theorem dX1_chooseFrom_1 : decode cX1_chooseFrom 1 = .ok (.ifCond .lt 9, 3) := by decide +kernel
theorem dX1_chooseFrom_4 : decode cX1_chooseFrom 4 = .ok (.iload_n 1, 1) := by decide +kernel
theorem dX1_chooseFrom_5 : decode cX1_chooseFrom 5 = .ok (.bipush 12, 2) := by decide +kernel
theorem dX1_chooseFrom_7 : decode cX1_chooseFrom 7 = .ok (.if_icmp .lt 22, 3) := by decide +kernel
theorem dX1_chooseFrom_10 : decode cX1_chooseFrom 10 = .ok (.iload_n 3, 1) := by decide +kernel
theorem dX1_chooseFrom_11 : decode cX1_chooseFrom 11 = .ok (.aload_n 0, 1) := by decide +kernel
theorem dX1_chooseFrom_12 : decode cX1_chooseFrom 12 = .ok (.getfield 31, 3) := by decide +kernel
theorem dX1_chooseFrom_15 : decode cX1_chooseFrom 15 = .ok (.if_icmp .le 13, 3) := by decide +kernel
theorem dX1_chooseFrom_18 : decode cX1_chooseFrom 18 = .ok (.aload_n 0, 1) := by decide +kernel
theorem dX1_chooseFrom_19 : decode cX1_chooseFrom 19 = .ok (.iload_n 3, 1) := by decide +kernel
theorem dX1_chooseFrom_20 : decode cX1_chooseFrom 20 = .ok (.putfield 31, 3) := by decide +kernel
theorem dX1_chooseFrom_23 : decode cX1_chooseFrom 23 = .ok (.aload_n 0, 1) := by decide +kernel
theorem dX1_chooseFrom_24 : decode cX1_chooseFrom 24 = .ok (.iload_n 2, 1) := by decide +kernel
theorem dX1_chooseFrom_25 : decode cX1_chooseFrom 25 = .ok (.putfield 28, 3) := by decide +kernel
theorem dX1_chooseFrom_28 : decode cX1_chooseFrom 28 = .ok (.return_, 1) := by decide +kernel
theorem dX1_chooseFrom_29 : decode cX1_chooseFrom 29 = .ok (.iload_n 3, 1) := by decide +kernel
theorem dX1_chooseFrom_30 : decode cX1_chooseFrom 30 = .ok (.aload_n 0, 1) := by decide +kernel
theorem dX1_chooseFrom_31 : decode cX1_chooseFrom 31 = .ok (.getfield 21, 3) := by decide +kernel
theorem dX1_chooseFrom_34 : decode cX1_chooseFrom 34 = .ok (.iload_n 1, 1) := by decide +kernel
theorem dX1_chooseFrom_35 : decode cX1_chooseFrom 35 = .ok (.iaload, 1) := by decide +kernel
theorem dX1_chooseFrom_36 : decode cX1_chooseFrom 36 = .ok (.iadd, 1) := by decide +kernel
theorem dX1_chooseFrom_37 : decode cX1_chooseFrom 37 = .ok (.aload_n 0, 1) := by decide +kernel
theorem dX1_chooseFrom_38 : decode cX1_chooseFrom 38 = .ok (.getfield 31, 3) := by decide +kernel
theorem dX1_chooseFrom_41 : decode cX1_chooseFrom 41 = .ok (.if_icmp .gt 4, 3) := by decide +kernel
theorem dX1_chooseFrom_44 : decode cX1_chooseFrom 44 = .ok (.return_, 1) := by decide +kernel
theorem dX1_chooseFrom_45 : decode cX1_chooseFrom 45 = .ok (.aload_n 0, 1) := by decide +kernel
theorem dX1_chooseFrom_46 : decode cX1_chooseFrom 46 = .ok (.iload_n 1, 1) := by decide +kernel
theorem dX1_chooseFrom_47 : decode cX1_chooseFrom 47 = .ok (.iconst 1, 1) := by decide +kernel
theorem dX1_chooseFrom_48 : decode cX1_chooseFrom 48 = .ok (.isub, 1) := by decide +kernel
theorem dX1_chooseFrom_49 : decode cX1_chooseFrom 49 = .ok (.iload_n 2, 1) := by decide +kernel
theorem dX1_chooseFrom_50 : decode cX1_chooseFrom 50 = .ok (.iload_n 3, 1) := by decide +kernel
theorem dX1_chooseFrom_51 : decode cX1_chooseFrom 51 = .ok (.invokevirtual 38, 3) := by decide +kernel
theorem dX1_chooseFrom_54 : decode cX1_chooseFrom 54 = .ok (.aload_n 0, 1) := by decide +kernel
theorem dX1_chooseFrom_55 : decode cX1_chooseFrom 55 = .ok (.getfield 18, 3) := by decide +kernel
theorem dX1_chooseFrom_58 : decode cX1_chooseFrom 58 = .ok (.iload_n 1, 1) := by decide +kernel
theorem dX1_chooseFrom_59 : decode cX1_chooseFrom 59 = .ok (.iaload, 1) := by decide +kernel
theorem dX1_chooseFrom_60 : decode cX1_chooseFrom 60 = .ok (.ifCond .le 34, 3) := by decide +kernel
theorem dX1_chooseFrom_63 : decode cX1_chooseFrom 63 = .ok (.aload_n 0, 1) := by decide +kernel
theorem dX1_chooseFrom_64 : decode cX1_chooseFrom 64 = .ok (.getfield 15, 3) := by decide +kernel
theorem dX1_chooseFrom_67 : decode cX1_chooseFrom 67 = .ok (.iload_n 1, 1) := by decide +kernel
theorem dX1_chooseFrom_68 : decode cX1_chooseFrom 68 = .ok (.iaload, 1) := by decide +kernel
theorem dX1_chooseFrom_69 : decode cX1_chooseFrom 69 = .ok (.iload_n 2, 1) := by decide +kernel
theorem dX1_chooseFrom_70 : decode cX1_chooseFrom 70 = .ok (.iand, 1) := by decide +kernel
theorem dX1_chooseFrom_71 : decode cX1_chooseFrom 71 = .ok (.ifCond .ne 23, 3) := by decide +kernel
theorem dX1_chooseFrom_74 : decode cX1_chooseFrom 74 = .ok (.aload_n 0, 1) := by decide +kernel
theorem dX1_chooseFrom_75 : decode cX1_chooseFrom 75 = .ok (.iload_n 1, 1) := by decide +kernel
theorem dX1_chooseFrom_76 : decode cX1_chooseFrom 76 = .ok (.iconst 1, 1) := by decide +kernel
theorem dX1_chooseFrom_77 : decode cX1_chooseFrom 77 = .ok (.isub, 1) := by decide +kernel
theorem dX1_chooseFrom_78 : decode cX1_chooseFrom 78 = .ok (.iload_n 2, 1) := by decide +kernel
theorem dX1_chooseFrom_79 : decode cX1_chooseFrom 79 = .ok (.iconst 1, 1) := by decide +kernel
theorem dX1_chooseFrom_80 : decode cX1_chooseFrom 80 = .ok (.iload_n 1, 1) := by decide +kernel
theorem dX1_chooseFrom_81 : decode cX1_chooseFrom 81 = .ok (.ishl, 1) := by decide +kernel
theorem dX1_chooseFrom_82 : decode cX1_chooseFrom 82 = .ok (.ior, 1) := by decide +kernel
theorem dX1_chooseFrom_83 : decode cX1_chooseFrom 83 = .ok (.iload_n 3, 1) := by decide +kernel
theorem dX1_chooseFrom_84 : decode cX1_chooseFrom 84 = .ok (.aload_n 0, 1) := by decide +kernel
theorem dX1_chooseFrom_85 : decode cX1_chooseFrom 85 = .ok (.getfield 18, 3) := by decide +kernel
theorem dX1_chooseFrom_88 : decode cX1_chooseFrom 88 = .ok (.iload_n 1, 1) := by decide +kernel
theorem dX1_chooseFrom_89 : decode cX1_chooseFrom 89 = .ok (.iaload, 1) := by decide +kernel
theorem dX1_chooseFrom_90 : decode cX1_chooseFrom 90 = .ok (.iadd, 1) := by decide +kernel
theorem dX1_chooseFrom_91 : decode cX1_chooseFrom 91 = .ok (.invokevirtual 38, 3) := by decide +kernel
theorem dX1_chooseFrom_94 : decode cX1_chooseFrom 94 = .ok (.return_, 1) := by decide +kernel
theorem dX2_init_0 : decode cX2_init 0 = .ok (.aload_n 0, 1) := by decide +kernel
theorem dX2_init_1 : decode cX2_init 1 = .ok (.invokespecial 1, 3) := by decide +kernel
theorem dX2_init_4 : decode cX2_init 4 = .ok (.aload_n 0, 1) := by decide +kernel
theorem dX2_init_5 : decode cX2_init 5 = .ok (.new 7, 3) := by decide +kernel
theorem dX2_init_8 : decode cX2_init 8 = .ok (.dup, 1) := by decide +kernel
theorem dX2_init_9 : decode cX2_init 9 = .ok (.invokespecial 9, 3) := by decide +kernel
theorem dX2_init_12 : decode cX2_init 12 = .ok (.putfield 10, 3) := by decide +kernel
theorem dX2_init_15 : decode cX2_init 15 = .ok (.aload_n 0, 1) := by decide +kernel
theorem dX2_init_16 : decode cX2_init 16 = .ok (.getfield 10, 3) := by decide +kernel
theorem dX2_init_19 : decode cX2_init 19 = .ok (.aload_n 1, 1) := by decide +kernel
theorem dX2_init_20 : decode cX2_init 20 = .ok (.invokevirtual 16, 3) := by decide +kernel
theorem dX2_init_23 : decode cX2_init 23 = .ok (.aload_n 0, 1) := by decide +kernel
theorem dX2_init_24 : decode cX2_init 24 = .ok (.iload_n 2, 1) := by decide +kernel
theorem dX2_init_25 : decode cX2_init 25 = .ok (.putfield 20, 3) := by decide +kernel
theorem dX2_init_28 : decode cX2_init 28 = .ok (.aload_n 0, 1) := by decide +kernel
theorem dX2_init_29 : decode cX2_init 29 = .ok (.iload_n 3, 1) := by decide +kernel
theorem dX2_init_30 : decode cX2_init 30 = .ok (.putfield 24, 3) := by decide +kernel
theorem dX2_init_33 : decode cX2_init 33 = .ok (.return_, 1) := by decide +kernel
theorem dX2_countPasses_0 : decode cX2_countPasses 0 = .ok (.aload_n 0, 1) := by decide +kernel
theorem dX2_countPasses_1 : decode cX2_countPasses 1 = .ok (.dup, 1) := by decide +kernel
theorem dX2_countPasses_2 : decode cX2_countPasses 2 = .ok (.getfield 28, 3) := by decide +kernel
theorem dX2_countPasses_5 : decode cX2_countPasses 5 = .ok (.iconst 1, 1) := by decide +kernel
theorem dX2_countPasses_6 : decode cX2_countPasses 6 = .ok (.iadd, 1) := by decide +kernel
theorem dX2_countPasses_7 : decode cX2_countPasses 7 = .ok (.putfield 28, 3) := by decide +kernel
theorem dX2_countPasses_10 : decode cX2_countPasses 10 = .ok (.aload_n 0, 1) := by decide +kernel
theorem dX2_countPasses_11 : decode cX2_countPasses 11 = .ok (.getfield 20, 3) := by decide +kernel
theorem dX2_countPasses_14 : decode cX2_countPasses 14 = .ok (.iconst 1, 1) := by decide +kernel
theorem dX2_countPasses_15 : decode cX2_countPasses 15 = .ok (.if_icmp .lt 15, 3) := by decide +kernel
theorem dX2_countPasses_18 : decode cX2_countPasses 18 = .ok (.aload_n 0, 1) := by decide +kernel
theorem dX2_countPasses_19 : decode cX2_countPasses 19 = .ok (.getfield 28, 3) := by decide +kernel
theorem dX2_countPasses_22 : decode cX2_countPasses 22 = .ok (.aload_n 0, 1) := by decide +kernel
theorem dX2_countPasses_23 : decode cX2_countPasses 23 = .ok (.getfield 20, 3) := by decide +kernel
theorem dX2_countPasses_26 : decode cX2_countPasses 26 = .ok (.irem, 1) := by decide +kernel
theorem dX2_countPasses_27 : decode cX2_countPasses 27 = .ok (.ifCond .eq 5, 3) := by decide +kernel
theorem dX2_countPasses_30 : decode cX2_countPasses 30 = .ok (.iconst 0, 1) := by decide +kernel
theorem dX2_countPasses_31 : decode cX2_countPasses 31 = .ok (.ireturn, 1) := by decide +kernel
theorem dX2_countPasses_32 : decode cX2_countPasses 32 = .ok (.aload_n 0, 1) := by decide +kernel
theorem dX2_countPasses_33 : decode cX2_countPasses 33 = .ok (.dup, 1) := by decide +kernel
theorem dX2_countPasses_34 : decode cX2_countPasses 34 = .ok (.getfield 31, 3) := by decide +kernel
theorem dX2_countPasses_37 : decode cX2_countPasses 37 = .ok (.iconst 1, 1) := by decide +kernel
theorem dX2_countPasses_38 : decode cX2_countPasses 38 = .ok (.iadd, 1) := by decide +kernel
theorem dX2_countPasses_39 : decode cX2_countPasses 39 = .ok (.putfield 31, 3) := by decide +kernel
theorem dX2_countPasses_42 : decode cX2_countPasses 42 = .ok (.iconst 1, 1) := by decide +kernel
theorem dX2_countPasses_43 : decode cX2_countPasses 43 = .ok (.ireturn, 1) := by decide +kernel
theorem dX2_credit_0 : decode cX2_credit 0 = .ok (.aload_n 0, 1) := by decide +kernel
theorem dX2_credit_1 : decode cX2_credit 1 = .ok (.dup, 1) := by decide +kernel
theorem dX2_credit_2 : decode cX2_credit 2 = .ok (.getfield 34, 3) := by decide +kernel
theorem dX2_credit_5 : decode cX2_credit 5 = .ok (.iconst 1, 1) := by decide +kernel
theorem dX2_credit_6 : decode cX2_credit 6 = .ok (.iadd, 1) := by decide +kernel
theorem dX2_credit_7 : decode cX2_credit 7 = .ok (.putfield 34, 3) := by decide +kernel
theorem dX2_credit_10 : decode cX2_credit 10 = .ok (.iload_n 1, 1) := by decide +kernel
theorem dX2_credit_11 : decode cX2_credit 11 = .ok (.ifCond .eq 13, 3) := by decide +kernel
theorem dX2_credit_14 : decode cX2_credit 14 = .ok (.aload_n 0, 1) := by decide +kernel
theorem dX2_credit_15 : decode cX2_credit 15 = .ok (.dup, 1) := by decide +kernel
theorem dX2_credit_16 : decode cX2_credit 16 = .ok (.getfield 37, 3) := by decide +kernel
theorem dX2_credit_19 : decode cX2_credit 19 = .ok (.iconst 1, 1) := by decide +kernel
theorem dX2_credit_20 : decode cX2_credit 20 = .ok (.iadd, 1) := by decide +kernel
theorem dX2_credit_21 : decode cX2_credit 21 = .ok (.putfield 37, 3) := by decide +kernel
theorem dX2_credit_24 : decode cX2_credit 24 = .ok (.return_, 1) := by decide +kernel
theorem dX2_forget_0 : decode cX2_forget 0 = .ok (.aload_n 0, 1) := by decide +kernel
theorem dX2_forget_1 : decode cX2_forget 1 = .ok (.iconst 0, 1) := by decide +kernel
theorem dX2_forget_2 : decode cX2_forget 2 = .ok (.putfield 28, 3) := by decide +kernel
theorem dX2_forget_5 : decode cX2_forget 5 = .ok (.aload_n 0, 1) := by decide +kernel
theorem dX2_forget_6 : decode cX2_forget 6 = .ok (.iconst 0, 1) := by decide +kernel
theorem dX2_forget_7 : decode cX2_forget 7 = .ok (.putfield 31, 3) := by decide +kernel
theorem dX2_forget_10 : decode cX2_forget 10 = .ok (.aload_n 0, 1) := by decide +kernel
theorem dX2_forget_11 : decode cX2_forget 11 = .ok (.iconst 0, 1) := by decide +kernel
theorem dX2_forget_12 : decode cX2_forget 12 = .ok (.putfield 34, 3) := by decide +kernel
theorem dX2_forget_15 : decode cX2_forget 15 = .ok (.aload_n 0, 1) := by decide +kernel
theorem dX2_forget_16 : decode cX2_forget 16 = .ok (.iconst 0, 1) := by decide +kernel
theorem dX2_forget_17 : decode cX2_forget 17 = .ok (.putfield 37, 3) := by decide +kernel
theorem dX2_forget_20 : decode cX2_forget 20 = .ok (.return_, 1) := by decide +kernel
theorem dX3_init_0 : decode cX3_init 0 = .ok (.aload_n 0, 1) := by decide +kernel
theorem dX3_init_1 : decode cX3_init 1 = .ok (.invokespecial 3, 3) := by decide +kernel
theorem dX3_init_4 : decode cX3_init 4 = .ok (.aload_n 0, 1) := by decide +kernel
theorem dX3_init_5 : decode cX3_init 5 = .ok (.iconst 5, 1) := by decide +kernel
theorem dX3_init_6 : decode cX3_init 6 = .ok (.newarray .int, 2) := by decide +kernel
theorem dX3_init_8 : decode cX3_init 8 = .ok (.putfield 9, 3) := by decide +kernel
theorem dX3_init_11 : decode cX3_init 11 = .ok (.aload_n 0, 1) := by decide +kernel
theorem dX3_init_12 : decode cX3_init 12 = .ok (.new 15, 3) := by decide +kernel
theorem dX3_init_15 : decode cX3_init 15 = .ok (.dup, 1) := by decide +kernel
theorem dX3_init_16 : decode cX3_init 16 = .ok (.invokespecial 17, 3) := by decide +kernel
theorem dX3_init_19 : decode cX3_init 19 = .ok (.putfield 18, 3) := by decide +kernel
theorem dX3_init_22 : decode cX3_init 22 = .ok (.aload_n 0, 1) := by decide +kernel
theorem dX3_init_23 : decode cX3_init 23 = .ok (.new 22, 3) := by decide +kernel
theorem dX3_init_26 : decode cX3_init 26 = .ok (.dup, 1) := by decide +kernel
theorem dX3_init_27 : decode cX3_init 27 = .ok (.invokespecial 24, 3) := by decide +kernel
theorem dX3_init_30 : decode cX3_init 30 = .ok (.putfield 25, 3) := by decide +kernel
theorem dX3_init_33 : decode cX3_init 33 = .ok (.return_, 1) := by decide +kernel
theorem dX3_see_0 : decode cX3_see 0 = .ok (.iconst 0, 1) := by decide +kernel
theorem dX3_see_1 : decode cX3_see 1 = .ok (.istore 4, 2) := by decide +kernel
theorem dX3_see_3 : decode cX3_see 3 = .ok (.iload 4, 2) := by decide +kernel
theorem dX3_see_5 : decode cX3_see 5 = .ok (.iconst 5, 1) := by decide +kernel
theorem dX3_see_6 : decode cX3_see 6 = .ok (.if_icmp .ge 34, 3) := by decide +kernel
theorem dX3_see_9 : decode cX3_see 9 = .ok (.aload_n 0, 1) := by decide +kernel
theorem dX3_see_10 : decode cX3_see 10 = .ok (.getfield 9, 3) := by decide +kernel
theorem dX3_see_13 : decode cX3_see 13 = .ok (.iload 4, 2) := by decide +kernel
theorem dX3_see_15 : decode cX3_see 15 = .ok (.aload_n 1, 1) := by decide +kernel
theorem dX3_see_16 : decode cX3_see 16 = .ok (.iload 4, 2) := by decide +kernel
theorem dX3_see_18 : decode cX3_see 18 = .ok (.iaload, 1) := by decide +kernel
theorem dX3_see_19 : decode cX3_see 19 = .ok (.aload_n 2, 1) := by decide +kernel
theorem dX3_see_20 : decode cX3_see 20 = .ok (.iload 4, 2) := by decide +kernel
theorem dX3_see_22 : decode cX3_see 22 = .ok (.iaload, 1) := by decide +kernel
theorem dX3_see_23 : decode cX3_see 23 = .ok (.iconst (-1), 1) := by decide +kernel
theorem dX3_see_24 : decode cX3_see 24 = .ok (.ixor, 1) := by decide +kernel
theorem dX3_see_25 : decode cX3_see 25 = .ok (.iand, 1) := by decide +kernel
theorem dX3_see_26 : decode cX3_see 26 = .ok (.aload_n 3, 1) := by decide +kernel
theorem dX3_see_27 : decode cX3_see 27 = .ok (.iload 4, 2) := by decide +kernel
theorem dX3_see_29 : decode cX3_see 29 = .ok (.iaload, 1) := by decide +kernel
theorem dX3_see_30 : decode cX3_see 30 = .ok (.iconst (-1), 1) := by decide +kernel
theorem dX3_see_31 : decode cX3_see 31 = .ok (.ixor, 1) := by decide +kernel
theorem dX3_see_32 : decode cX3_see 32 = .ok (.iand, 1) := by decide +kernel
theorem dX3_see_33 : decode cX3_see 33 = .ok (.iastore, 1) := by decide +kernel
theorem dX3_see_34 : decode cX3_see 34 = .ok (.iinc 4 1, 3) := by decide +kernel
theorem dX3_see_37 : decode cX3_see 37 = .ok (.goto (-34), 3) := by decide +kernel
theorem dX3_see_40 : decode cX3_see 40 = .ok (.return_, 1) := by decide +kernel
theorem dX3_light_0 : decode cX3_light 0 = .ok (.aload_n 0, 1) := by decide +kernel
theorem dX3_light_1 : decode cX3_light 1 = .ok (.iconst 0, 1) := by decide +kernel
theorem dX3_light_2 : decode cX3_light 2 = .ok (.putfield 29, 3) := by decide +kernel
theorem dX3_light_5 : decode cX3_light 5 = .ok (.iconst 0, 1) := by decide +kernel
theorem dX3_light_6 : decode cX3_light 6 = .ok (.istore_n 2, 1) := by decide +kernel
theorem dX3_light_7 : decode cX3_light 7 = .ok (.iload_n 2, 1) := by decide +kernel
theorem dX3_light_8 : decode cX3_light 8 = .ok (.aload_n 1, 1) := by decide +kernel
theorem dX3_light_9 : decode cX3_light 9 = .ok (.invokeinterface 33 1, 5) := by decide +kernel
theorem dX3_light_14 : decode cX3_light 14 = .ok (.if_icmp .ge 41, 3) := by decide +kernel
theorem dX3_light_17 : decode cX3_light 17 = .ok (.aload_n 1, 1) := by decide +kernel
theorem dX3_light_18 : decode cX3_light 18 = .ok (.iload_n 2, 1) := by decide +kernel
theorem dX3_light_19 : decode cX3_light 19 = .ok (.invokeinterface 39 2, 5) := by decide +kernel
theorem dX3_light_24 : decode cX3_light 24 = .ok (.checkcast 43, 3) := by decide +kernel
theorem dX3_light_27 : decode cX3_light 27 = .ok (.aload_n 0, 1) := by decide +kernel
theorem dX3_light_28 : decode cX3_light 28 = .ok (.getfield 9, 3) := by decide +kernel
theorem dX3_light_31 : decode cX3_light 31 = .ok (.invokevirtual 45, 3) := by decide +kernel
theorem dX3_light_34 : decode cX3_light 34 = .ok (.ifCond .eq 15, 3) := by decide +kernel
theorem dX3_light_37 : decode cX3_light 37 = .ok (.aload_n 0, 1) := by decide +kernel
theorem dX3_light_38 : decode cX3_light 38 = .ok (.dup, 1) := by decide +kernel
theorem dX3_light_39 : decode cX3_light 39 = .ok (.getfield 29, 3) := by decide +kernel
theorem dX3_light_42 : decode cX3_light 42 = .ok (.iconst 1, 1) := by decide +kernel
theorem dX3_light_43 : decode cX3_light 43 = .ok (.iload_n 2, 1) := by decide +kernel
theorem dX3_light_44 : decode cX3_light 44 = .ok (.ishl, 1) := by decide +kernel
theorem dX3_light_45 : decode cX3_light 45 = .ok (.ior, 1) := by decide +kernel
theorem dX3_light_46 : decode cX3_light 46 = .ok (.putfield 29, 3) := by decide +kernel
theorem dX3_light_49 : decode cX3_light 49 = .ok (.iinc 2 1, 3) := by decide +kernel
theorem dX3_light_52 : decode cX3_light 52 = .ok (.goto (-45), 3) := by decide +kernel
theorem dX3_light_55 : decode cX3_light 55 = .ok (.return_, 1) := by decide +kernel
theorem dX3_fitAlong_0 : decode cX3_fitAlong 0 = .ok (.aload_n 1, 1) := by decide +kernel
theorem dX3_fitAlong_1 : decode cX3_fitAlong 1 = .ok (.aload_n 0, 1) := by decide +kernel
theorem dX3_fitAlong_2 : decode cX3_fitAlong 2 = .ok (.getfield 9, 3) := by decide +kernel
theorem dX3_fitAlong_5 : decode cX3_fitAlong 5 = .ok (.invokevirtual 45, 3) := by decide +kernel
theorem dX3_fitAlong_8 : decode cX3_fitAlong 8 = .ok (.ifCond .ne 5, 3) := by decide +kernel
theorem dX3_fitAlong_11 : decode cX3_fitAlong 11 = .ok (.iconst 0, 1) := by decide +kernel
theorem dX3_fitAlong_12 : decode cX3_fitAlong 12 = .ok (.ireturn, 1) := by decide +kernel
theorem dX3_fitAlong_13 : decode cX3_fitAlong 13 = .ok (.aload_n 0, 1) := by decide +kernel
theorem dX3_fitAlong_14 : decode cX3_fitAlong 14 = .ok (.getfield 18, 3) := by decide +kernel
theorem dX3_fitAlong_17 : decode cX3_fitAlong 17 = .ok (.aload_n 1, 1) := by decide +kernel
theorem dX3_fitAlong_18 : decode cX3_fitAlong 18 = .ok (.aload_n 0, 1) := by decide +kernel
theorem dX3_fitAlong_19 : decode cX3_fitAlong 19 = .ok (.getfield 9, 3) := by decide +kernel
theorem dX3_fitAlong_22 : decode cX3_fitAlong 22 = .ok (.invokevirtual 49, 3) := by decide +kernel
theorem dX3_fitAlong_25 : decode cX3_fitAlong 25 = .ok (.iconst 1, 1) := by decide +kernel
theorem dX3_fitAlong_26 : decode cX3_fitAlong 26 = .ok (.ireturn, 1) := by decide +kernel
theorem dX3_pile_0 : decode cX3_pile 0 = .ok (.aload_n 0, 1) := by decide +kernel
theorem dX3_pile_1 : decode cX3_pile 1 = .ok (.getfield 25, 3) := by decide +kernel
theorem dX3_pile_4 : decode cX3_pile 4 = .ok (.invokevirtual 53, 3) := by decide +kernel
theorem dX3_pile_7 : decode cX3_pile 7 = .ok (.iconst 0, 1) := by decide +kernel
theorem dX3_pile_8 : decode cX3_pile 8 = .ok (.istore_n 2, 1) := by decide +kernel
theorem dX3_pile_9 : decode cX3_pile 9 = .ok (.iload_n 2, 1) := by decide +kernel
theorem dX3_pile_10 : decode cX3_pile 10 = .ok (.aload_n 1, 1) := by decide +kernel
theorem dX3_pile_11 : decode cX3_pile 11 = .ok (.invokeinterface 33 1, 5) := by decide +kernel
theorem dX3_pile_16 : decode cX3_pile 16 = .ok (.if_icmp .ge 53, 3) := by decide +kernel
theorem dX3_pile_19 : decode cX3_pile 19 = .ok (.aload_n 0, 1) := by decide +kernel
theorem dX3_pile_20 : decode cX3_pile 20 = .ok (.aload_n 1, 1) := by decide +kernel
theorem dX3_pile_21 : decode cX3_pile 21 = .ok (.iload_n 2, 1) := by decide +kernel
theorem dX3_pile_22 : decode cX3_pile 22 = .ok (.invokeinterface 39 2, 5) := by decide +kernel
theorem dX3_pile_27 : decode cX3_pile 27 = .ok (.checkcast 43, 3) := by decide +kernel
theorem dX3_pile_30 : decode cX3_pile 30 = .ok (.invokevirtual 56, 3) := by decide +kernel
theorem dX3_pile_33 : decode cX3_pile 33 = .ok (.ifCond .eq 13, 3) := by decide +kernel
theorem dX3_pile_36 : decode cX3_pile 36 = .ok (.aload_n 0, 1) := by decide +kernel
theorem dX3_pile_37 : decode cX3_pile 37 = .ok (.getfield 18, 3) := by decide +kernel
theorem dX3_pile_40 : decode cX3_pile 40 = .ok (.invokevirtual 60, 3) := by decide +kernel
theorem dX3_pile_43 : decode cX3_pile 43 = .ok (.goto 4, 3) := by decide +kernel
theorem dX3_pile_46 : decode cX3_pile 46 = .ok (.iconst 0, 1) := by decide +kernel
theorem dX3_pile_47 : decode cX3_pile 47 = .ok (.istore_n 3, 1) := by decide +kernel
theorem dX3_pile_48 : decode cX3_pile 48 = .ok (.aload_n 0, 1) := by decide +kernel
theorem dX3_pile_49 : decode cX3_pile 49 = .ok (.getfield 25, 3) := by decide +kernel
theorem dX3_pile_52 : decode cX3_pile 52 = .ok (.iload_n 3, 1) := by decide +kernel
theorem dX3_pile_53 : decode cX3_pile 53 = .ok (.aload_n 0, 1) := by decide +kernel
theorem dX3_pile_54 : decode cX3_pile 54 = .ok (.getfield 18, 3) := by decide +kernel
theorem dX3_pile_57 : decode cX3_pile 57 = .ok (.getfield 63, 3) := by decide +kernel
theorem dX3_pile_60 : decode cX3_pile 60 = .ok (.invokevirtual 66, 3) := by decide +kernel
theorem dX3_pile_63 : decode cX3_pile 63 = .ok (.iinc 2 1, 3) := by decide +kernel
theorem dX3_pile_66 : decode cX3_pile 66 = .ok (.goto (-57), 3) := by decide +kernel
theorem dX3_pile_69 : decode cX3_pile 69 = .ok (.aload_n 0, 1) := by decide +kernel
theorem dX3_pile_70 : decode cX3_pile 70 = .ok (.getfield 25, 3) := by decide +kernel
theorem dX3_pile_73 : decode cX3_pile 73 = .ok (.invokevirtual 70, 3) := by decide +kernel
theorem dX3_pile_76 : decode cX3_pile 76 = .ok (.return_, 1) := by decide +kernel
theorem dX3_layersSeen_0 : decode cX3_layersSeen 0 = .ok (.iconst 0, 1) := by decide +kernel
theorem dX3_layersSeen_1 : decode cX3_layersSeen 1 = .ok (.istore_n 1, 1) := by decide +kernel
theorem dX3_layersSeen_2 : decode cX3_layersSeen 2 = .ok (.aload_n 0, 1) := by decide +kernel
theorem dX3_layersSeen_3 : decode cX3_layersSeen 3 = .ok (.getfield 9, 3) := by decide +kernel
theorem dX3_layersSeen_6 : decode cX3_layersSeen 6 = .ok (.astore_n 2, 1) := by decide +kernel
theorem dX3_layersSeen_7 : decode cX3_layersSeen 7 = .ok (.aload_n 2, 1) := by decide +kernel
theorem dX3_layersSeen_8 : decode cX3_layersSeen 8 = .ok (.arraylength, 1) := by decide +kernel
theorem dX3_layersSeen_9 : decode cX3_layersSeen 9 = .ok (.istore_n 3, 1) := by decide +kernel
theorem dX3_layersSeen_10 : decode cX3_layersSeen 10 = .ok (.iconst 0, 1) := by decide +kernel
theorem dX3_layersSeen_11 : decode cX3_layersSeen 11 = .ok (.istore 4, 2) := by decide +kernel
theorem dX3_layersSeen_13 : decode cX3_layersSeen 13 = .ok (.iload 4, 2) := by decide +kernel
theorem dX3_layersSeen_15 : decode cX3_layersSeen 15 = .ok (.iload_n 3, 1) := by decide +kernel
theorem dX3_layersSeen_16 : decode cX3_layersSeen 16 = .ok (.if_icmp .ge 23, 3) := by decide +kernel
theorem dX3_layersSeen_19 : decode cX3_layersSeen 19 = .ok (.aload_n 2, 1) := by decide +kernel
theorem dX3_layersSeen_20 : decode cX3_layersSeen 20 = .ok (.iload 4, 2) := by decide +kernel
theorem dX3_layersSeen_22 : decode cX3_layersSeen 22 = .ok (.iaload, 1) := by decide +kernel
theorem dX3_layersSeen_23 : decode cX3_layersSeen 23 = .ok (.istore 5, 2) := by decide +kernel
theorem dX3_layersSeen_25 : decode cX3_layersSeen 25 = .ok (.iload 5, 2) := by decide +kernel
theorem dX3_layersSeen_27 : decode cX3_layersSeen 27 = .ok (.ifCond .eq 6, 3) := by decide +kernel
theorem dX3_layersSeen_30 : decode cX3_layersSeen 30 = .ok (.iinc 1 1, 3) := by decide +kernel
theorem dX3_layersSeen_33 : decode cX3_layersSeen 33 = .ok (.iinc 4 1, 3) := by decide +kernel
theorem dX3_layersSeen_36 : decode cX3_layersSeen 36 = .ok (.goto (-23), 3) := by decide +kernel
theorem dX3_layersSeen_39 : decode cX3_layersSeen 39 = .ok (.iload_n 1, 1) := by decide +kernel
theorem dX3_layersSeen_40 : decode cX3_layersSeen 40 = .ok (.ireturn, 1) := by decide +kernel
theorem dX3_answers_0 : decode cX3_answers 0 = .ok (.iload_n 1, 1) := by decide +kernel
theorem dX3_answers_1 : decode cX3_answers 1 = .ok (.lookupswitch 111 #[(104, 63), (108, 97), (116, 43), (119, 80)], 43) := by decide +kernel
theorem dX3_answers_44 : decode cX3_answers 44 = .ok (.aload_n 0, 1) := by decide +kernel
theorem dX3_answers_45 : decode cX3_answers 45 = .ok (.getfield 25, 3) := by decide +kernel
theorem dX3_answers_48 : decode cX3_answers 48 = .ok (.getfield 73, 3) := by decide +kernel
theorem dX3_answers_51 : decode cX3_answers 51 = .ok (.invokestatic 76, 3) := by decide +kernel
theorem dX3_answers_54 : decode cX3_answers 54 = .ok (.iload_n 2, 1) := by decide +kernel
theorem dX3_answers_55 : decode cX3_answers 55 = .ok (.if_icmp .lt 7, 3) := by decide +kernel
theorem dX3_answers_58 : decode cX3_answers 58 = .ok (.iconst 1, 1) := by decide +kernel
theorem dX3_answers_59 : decode cX3_answers 59 = .ok (.goto 4, 3) := by decide +kernel
theorem dX3_answers_62 : decode cX3_answers 62 = .ok (.iconst 0, 1) := by decide +kernel
theorem dX3_answers_63 : decode cX3_answers 63 = .ok (.ireturn, 1) := by decide +kernel
theorem dX3_answers_64 : decode cX3_answers 64 = .ok (.aload_n 0, 1) := by decide +kernel
theorem dX3_answers_65 : decode cX3_answers 65 = .ok (.getfield 9, 3) := by decide +kernel
theorem dX3_answers_68 : decode cX3_answers 68 = .ok (.invokestatic 82, 3) := by decide +kernel
theorem dX3_answers_71 : decode cX3_answers 71 = .ok (.iload_n 2, 1) := by decide +kernel
theorem dX3_answers_72 : decode cX3_answers 72 = .ok (.if_icmp .lt 7, 3) := by decide +kernel
theorem dX3_answers_75 : decode cX3_answers 75 = .ok (.iconst 1, 1) := by decide +kernel
theorem dX3_answers_76 : decode cX3_answers 76 = .ok (.goto 4, 3) := by decide +kernel
theorem dX3_answers_79 : decode cX3_answers 79 = .ok (.iconst 0, 1) := by decide +kernel
theorem dX3_answers_80 : decode cX3_answers 80 = .ok (.ireturn, 1) := by decide +kernel
theorem dX3_answers_81 : decode cX3_answers 81 = .ok (.aload_n 0, 1) := by decide +kernel
theorem dX3_answers_82 : decode cX3_answers 82 = .ok (.getfield 25, 3) := by decide +kernel
theorem dX3_answers_85 : decode cX3_answers 85 = .ok (.getfield 86, 3) := by decide +kernel
theorem dX3_answers_88 : decode cX3_answers 88 = .ok (.iload_n 2, 1) := by decide +kernel
theorem dX3_answers_89 : decode cX3_answers 89 = .ok (.if_icmp .lt 7, 3) := by decide +kernel
theorem dX3_answers_92 : decode cX3_answers 92 = .ok (.iconst 1, 1) := by decide +kernel
theorem dX3_answers_93 : decode cX3_answers 93 = .ok (.goto 4, 3) := by decide +kernel
theorem dX3_answers_96 : decode cX3_answers 96 = .ok (.iconst 0, 1) := by decide +kernel
theorem dX3_answers_97 : decode cX3_answers 97 = .ok (.ireturn, 1) := by decide +kernel
theorem dX3_answers_98 : decode cX3_answers 98 = .ok (.aload_n 0, 1) := by decide +kernel
theorem dX3_answers_99 : decode cX3_answers 99 = .ok (.invokevirtual 89, 3) := by decide +kernel
theorem dX3_answers_102 : decode cX3_answers 102 = .ok (.iload_n 2, 1) := by decide +kernel
theorem dX3_answers_103 : decode cX3_answers 103 = .ok (.if_icmp .lt 7, 3) := by decide +kernel
theorem dX3_answers_106 : decode cX3_answers 106 = .ok (.iconst 1, 1) := by decide +kernel
theorem dX3_answers_107 : decode cX3_answers 107 = .ok (.goto 4, 3) := by decide +kernel
theorem dX3_answers_110 : decode cX3_answers 110 = .ok (.iconst 0, 1) := by decide +kernel
theorem dX3_answers_111 : decode cX3_answers 111 = .ok (.ireturn, 1) := by decide +kernel
theorem dX3_answers_112 : decode cX3_answers 112 = .ok (.iload_n 2, 1) := by decide +kernel
theorem dX3_answers_113 : decode cX3_answers 113 = .ok (.bipush 12, 2) := by decide +kernel
theorem dX3_answers_115 : decode cX3_answers 115 = .ok (.if_icmp .ge 19, 3) := by decide +kernel
theorem dX3_answers_118 : decode cX3_answers 118 = .ok (.aload_n 0, 1) := by decide +kernel
theorem dX3_answers_119 : decode cX3_answers 119 = .ok (.getfield 29, 3) := by decide +kernel
theorem dX3_answers_122 : decode cX3_answers 122 = .ok (.iload_n 2, 1) := by decide +kernel
theorem dX3_answers_123 : decode cX3_answers 123 = .ok (.ishr, 1) := by decide +kernel
theorem dX3_answers_124 : decode cX3_answers 124 = .ok (.iconst 1, 1) := by decide +kernel
theorem dX3_answers_125 : decode cX3_answers 125 = .ok (.iand, 1) := by decide +kernel
theorem dX3_answers_126 : decode cX3_answers 126 = .ok (.iconst 1, 1) := by decide +kernel
theorem dX3_answers_127 : decode cX3_answers 127 = .ok (.if_icmp .ne 7, 3) := by decide +kernel
theorem dX3_answers_130 : decode cX3_answers 130 = .ok (.iconst 1, 1) := by decide +kernel
theorem dX3_answers_131 : decode cX3_answers 131 = .ok (.goto 4, 3) := by decide +kernel
theorem dX3_answers_134 : decode cX3_answers 134 = .ok (.iconst 0, 1) := by decide +kernel
theorem dX3_answers_135 : decode cX3_answers 135 = .ok (.ireturn, 1) := by decide +kernel
theorem dX4_init_0 : decode cX4_init 0 = .ok (.aload_n 0, 1) := by decide +kernel
theorem dX4_init_1 : decode cX4_init 1 = .ok (.invokespecial 3, 3) := by decide +kernel
theorem dX4_init_4 : decode cX4_init 4 = .ok (.aload_n 0, 1) := by decide +kernel
theorem dX4_init_5 : decode cX4_init 5 = .ok (.bipush 30, 2) := by decide +kernel
theorem dX4_init_7 : decode cX4_init 7 = .ok (.newarray .int, 2) := by decide +kernel
theorem dX4_init_9 : decode cX4_init 9 = .ok (.putfield 9, 3) := by decide +kernel
theorem dX4_init_12 : decode cX4_init 12 = .ok (.aload_n 0, 1) := by decide +kernel
theorem dX4_init_13 : decode cX4_init 13 = .ok (.bipush 30, 2) := by decide +kernel
theorem dX4_init_15 : decode cX4_init 15 = .ok (.newarray .int, 2) := by decide +kernel
theorem dX4_init_17 : decode cX4_init 17 = .ok (.putfield 15, 3) := by decide +kernel
theorem dX4_init_20 : decode cX4_init 20 = .ok (.aload_n 0, 1) := by decide +kernel
theorem dX4_init_21 : decode cX4_init 21 = .ok (.sipush 150, 3) := by decide +kernel
theorem dX4_init_24 : decode cX4_init 24 = .ok (.newarray .int, 2) := by decide +kernel
theorem dX4_init_26 : decode cX4_init 26 = .ok (.putfield 18, 3) := by decide +kernel
theorem dX4_init_29 : decode cX4_init 29 = .ok (.return_, 1) := by decide +kernel
theorem dX4_size_0 : decode cX4_size 0 = .ok (.aload_n 0, 1) := by decide +kernel
theorem dX4_size_1 : decode cX4_size 1 = .ok (.getfield 21, 3) := by decide +kernel
theorem dX4_size_4 : decode cX4_size 4 = .ok (.bipush 30, 2) := by decide +kernel
theorem dX4_size_6 : decode cX4_size 6 = .ok (.invokestatic 25, 3) := by decide +kernel
theorem dX4_size_9 : decode cX4_size 9 = .ok (.ireturn, 1) := by decide +kernel
theorem dX4_has_0 : decode cX4_has 0 = .ok (.iload_n 1, 1) := by decide +kernel
theorem dX4_has_1 : decode cX4_has 1 = .ok (.ifCond .lt 15, 3) := by decide +kernel
theorem dX4_has_4 : decode cX4_has 4 = .ok (.iload_n 1, 1) := by decide +kernel
theorem dX4_has_5 : decode cX4_has 5 = .ok (.aload_n 0, 1) := by decide +kernel
theorem dX4_has_6 : decode cX4_has 6 = .ok (.invokevirtual 31, 3) := by decide +kernel
theorem dX4_has_9 : decode cX4_has 9 = .ok (.if_icmp .ge 7, 3) := by decide +kernel
theorem dX4_has_12 : decode cX4_has 12 = .ok (.iconst 1, 1) := by decide +kernel
theorem dX4_has_13 : decode cX4_has 13 = .ok (.goto 4, 3) := by decide +kernel
theorem dX4_has_16 : decode cX4_has 16 = .ok (.iconst 0, 1) := by decide +kernel
theorem dX4_has_17 : decode cX4_has 17 = .ok (.ireturn, 1) := by decide +kernel
theorem dX4_slotOf_0 : decode cX4_slotOf 0 = .ok (.aload_n 0, 1) := by decide +kernel
theorem dX4_slotOf_1 : decode cX4_slotOf 1 = .ok (.getfield 21, 3) := by decide +kernel
theorem dX4_slotOf_4 : decode cX4_slotOf 4 = .ok (.iconst 1, 1) := by decide +kernel
theorem dX4_slotOf_5 : decode cX4_slotOf 5 = .ok (.isub, 1) := by decide +kernel
theorem dX4_slotOf_6 : decode cX4_slotOf 6 = .ok (.iload_n 1, 1) := by decide +kernel
theorem dX4_slotOf_7 : decode cX4_slotOf 7 = .ok (.isub, 1) := by decide +kernel
theorem dX4_slotOf_8 : decode cX4_slotOf 8 = .ok (.bipush 30, 2) := by decide +kernel
theorem dX4_slotOf_10 : decode cX4_slotOf 10 = .ok (.invokestatic 35, 3) := by decide +kernel
theorem dX4_slotOf_13 : decode cX4_slotOf 13 = .ok (.ireturn, 1) := by decide +kernel
theorem dX4_keep_0 : decode cX4_keep 0 = .ok (.aload_n 0, 1) := by decide +kernel
theorem dX4_keep_1 : decode cX4_keep 1 = .ok (.dup, 1) := by decide +kernel
theorem dX4_keep_2 : decode cX4_keep 2 = .ok (.getfield 21, 3) := by decide +kernel
theorem dX4_keep_5 : decode cX4_keep 5 = .ok (.iconst 1, 1) := by decide +kernel
theorem dX4_keep_6 : decode cX4_keep 6 = .ok (.iadd, 1) := by decide +kernel
theorem dX4_keep_7 : decode cX4_keep 7 = .ok (.putfield 21, 3) := by decide +kernel
theorem dX4_keep_10 : decode cX4_keep 10 = .ok (.aload_n 0, 1) := by decide +kernel
theorem dX4_keep_11 : decode cX4_keep 11 = .ok (.iconst 0, 1) := by decide +kernel
theorem dX4_keep_12 : decode cX4_keep 12 = .ok (.invokevirtual 38, 3) := by decide +kernel
theorem dX4_keep_15 : decode cX4_keep 15 = .ok (.istore 4, 2) := by decide +kernel
theorem dX4_keep_17 : decode cX4_keep 17 = .ok (.aload_n 0, 1) := by decide +kernel
theorem dX4_keep_18 : decode cX4_keep 18 = .ok (.getfield 9, 3) := by decide +kernel
theorem dX4_keep_21 : decode cX4_keep 21 = .ok (.iload 4, 2) := by decide +kernel
theorem dX4_keep_23 : decode cX4_keep 23 = .ok (.iload_n 1, 1) := by decide +kernel
theorem dX4_keep_24 : decode cX4_keep 24 = .ok (.iastore, 1) := by decide +kernel
theorem dX4_keep_25 : decode cX4_keep 25 = .ok (.aload_n 0, 1) := by decide +kernel
theorem dX4_keep_26 : decode cX4_keep 26 = .ok (.getfield 15, 3) := by decide +kernel
theorem dX4_keep_29 : decode cX4_keep 29 = .ok (.iload 4, 2) := by decide +kernel
theorem dX4_keep_31 : decode cX4_keep 31 = .ok (.iload_n 2, 1) := by decide +kernel
theorem dX4_keep_32 : decode cX4_keep 32 = .ok (.iastore, 1) := by decide +kernel
theorem dX4_keep_33 : decode cX4_keep 33 = .ok (.iconst 0, 1) := by decide +kernel
theorem dX4_keep_34 : decode cX4_keep 34 = .ok (.istore 5, 2) := by decide +kernel
theorem dX4_keep_36 : decode cX4_keep 36 = .ok (.iload 5, 2) := by decide +kernel
theorem dX4_keep_38 : decode cX4_keep 38 = .ok (.iconst 5, 1) := by decide +kernel
theorem dX4_keep_39 : decode cX4_keep 39 = .ok (.if_icmp .ge 25, 3) := by decide +kernel
theorem dX4_keep_42 : decode cX4_keep 42 = .ok (.aload_n 0, 1) := by decide +kernel
theorem dX4_keep_43 : decode cX4_keep 43 = .ok (.getfield 18, 3) := by decide +kernel
theorem dX4_keep_46 : decode cX4_keep 46 = .ok (.iload 4, 2) := by decide +kernel
theorem dX4_keep_48 : decode cX4_keep 48 = .ok (.iconst 5, 1) := by decide +kernel
theorem dX4_keep_49 : decode cX4_keep 49 = .ok (.imul, 1) := by decide +kernel
theorem dX4_keep_50 : decode cX4_keep 50 = .ok (.iload 5, 2) := by decide +kernel
theorem dX4_keep_52 : decode cX4_keep 52 = .ok (.iadd, 1) := by decide +kernel
theorem dX4_keep_53 : decode cX4_keep 53 = .ok (.aload_n 3, 1) := by decide +kernel
theorem dX4_keep_54 : decode cX4_keep 54 = .ok (.iload 5, 2) := by decide +kernel
theorem dX4_keep_56 : decode cX4_keep 56 = .ok (.iaload, 1) := by decide +kernel
theorem dX4_keep_57 : decode cX4_keep 57 = .ok (.iastore, 1) := by decide +kernel
theorem dX4_keep_58 : decode cX4_keep 58 = .ok (.iinc 5 1, 3) := by decide +kernel
theorem dX4_keep_61 : decode cX4_keep 61 = .ok (.goto (-25), 3) := by decide +kernel
theorem dX4_keep_64 : decode cX4_keep 64 = .ok (.return_, 1) := by decide +kernel
theorem dX4_numberOf_0 : decode cX4_numberOf 0 = .ok (.aload_n 0, 1) := by decide +kernel
theorem dX4_numberOf_1 : decode cX4_numberOf 1 = .ok (.getfield 9, 3) := by decide +kernel
theorem dX4_numberOf_4 : decode cX4_numberOf 4 = .ok (.aload_n 0, 1) := by decide +kernel
theorem dX4_numberOf_5 : decode cX4_numberOf 5 = .ok (.iload_n 1, 1) := by decide +kernel
theorem dX4_numberOf_6 : decode cX4_numberOf 6 = .ok (.invokevirtual 38, 3) := by decide +kernel
theorem dX4_numberOf_9 : decode cX4_numberOf 9 = .ok (.iaload, 1) := by decide +kernel
theorem dX4_numberOf_10 : decode cX4_numberOf 10 = .ok (.ireturn, 1) := by decide +kernel
theorem dX4_passedAt_0 : decode cX4_passedAt 0 = .ok (.aload_n 0, 1) := by decide +kernel
theorem dX4_passedAt_1 : decode cX4_passedAt 1 = .ok (.getfield 15, 3) := by decide +kernel
theorem dX4_passedAt_4 : decode cX4_passedAt 4 = .ok (.aload_n 0, 1) := by decide +kernel
theorem dX4_passedAt_5 : decode cX4_passedAt 5 = .ok (.iload_n 1, 1) := by decide +kernel
theorem dX4_passedAt_6 : decode cX4_passedAt 6 = .ok (.invokevirtual 38, 3) := by decide +kernel
theorem dX4_passedAt_9 : decode cX4_passedAt 9 = .ok (.iaload, 1) := by decide +kernel
theorem dX4_passedAt_10 : decode cX4_passedAt 10 = .ok (.ireturn, 1) := by decide +kernel
theorem dX4_copyHits_0 : decode cX4_copyHits 0 = .ok (.aload_n 0, 1) := by decide +kernel
theorem dX4_copyHits_1 : decode cX4_copyHits 1 = .ok (.iload_n 1, 1) := by decide +kernel
theorem dX4_copyHits_2 : decode cX4_copyHits 2 = .ok (.invokevirtual 38, 3) := by decide +kernel
theorem dX4_copyHits_5 : decode cX4_copyHits 5 = .ok (.istore_n 3, 1) := by decide +kernel
theorem dX4_copyHits_6 : decode cX4_copyHits 6 = .ok (.iconst 0, 1) := by decide +kernel
theorem dX4_copyHits_7 : decode cX4_copyHits 7 = .ok (.istore 4, 2) := by decide +kernel
theorem dX4_copyHits_9 : decode cX4_copyHits 9 = .ok (.iload 4, 2) := by decide +kernel
theorem dX4_copyHits_11 : decode cX4_copyHits 11 = .ok (.iconst 5, 1) := by decide +kernel
theorem dX4_copyHits_12 : decode cX4_copyHits 12 = .ok (.if_icmp .ge 24, 3) := by decide +kernel
theorem dX4_copyHits_15 : decode cX4_copyHits 15 = .ok (.aload_n 2, 1) := by decide +kernel
theorem dX4_copyHits_16 : decode cX4_copyHits 16 = .ok (.iload 4, 2) := by decide +kernel
theorem dX4_copyHits_18 : decode cX4_copyHits 18 = .ok (.aload_n 0, 1) := by decide +kernel
theorem dX4_copyHits_19 : decode cX4_copyHits 19 = .ok (.getfield 18, 3) := by decide +kernel
theorem dX4_copyHits_22 : decode cX4_copyHits 22 = .ok (.iload_n 3, 1) := by decide +kernel
theorem dX4_copyHits_23 : decode cX4_copyHits 23 = .ok (.iconst 5, 1) := by decide +kernel
theorem dX4_copyHits_24 : decode cX4_copyHits 24 = .ok (.imul, 1) := by decide +kernel
theorem dX4_copyHits_25 : decode cX4_copyHits 25 = .ok (.iload 4, 2) := by decide +kernel
theorem dX4_copyHits_27 : decode cX4_copyHits 27 = .ok (.iadd, 1) := by decide +kernel
theorem dX4_copyHits_28 : decode cX4_copyHits 28 = .ok (.iaload, 1) := by decide +kernel
theorem dX4_copyHits_29 : decode cX4_copyHits 29 = .ok (.iastore, 1) := by decide +kernel
theorem dX4_copyHits_30 : decode cX4_copyHits 30 = .ok (.iinc 4 1, 3) := by decide +kernel
theorem dX4_copyHits_33 : decode cX4_copyHits 33 = .ok (.goto (-24), 3) := by decide +kernel
theorem dX4_copyHits_36 : decode cX4_copyHits 36 = .ok (.return_, 1) := by decide +kernel
theorem dX5_init_0 : decode cX5_init 0 = .ok (.aload_n 0, 1) := by decide +kernel
theorem dX5_init_1 : decode cX5_init 1 = .ok (.invokespecial 3, 3) := by decide +kernel
theorem dX5_init_4 : decode cX5_init 4 = .ok (.return_, 1) := by decide +kernel
theorem dX5_read_0 : decode cX5_read 0 = .ok (.aload_n 0, 1) := by decide +kernel
theorem dX5_read_1 : decode cX5_read 1 = .ok (.aload_n 1, 1) := by decide +kernel
theorem dX5_read_2 : decode cX5_read 2 = .ok (.putfield 9, 3) := by decide +kernel
theorem dX5_read_5 : decode cX5_read 5 = .ok (.aload_n 0, 1) := by decide +kernel
theorem dX5_read_6 : decode cX5_read 6 = .ok (.aload_n 2, 1) := by decide +kernel
theorem dX5_read_7 : decode cX5_read 7 = .ok (.putfield 15, 3) := by decide +kernel
theorem dX5_read_10 : decode cX5_read 10 = .ok (.aload_n 0, 1) := by decide +kernel
theorem dX5_read_11 : decode cX5_read 11 = .ok (.iconst 0, 1) := by decide +kernel
theorem dX5_read_12 : decode cX5_read 12 = .ok (.putfield 19, 3) := by decide +kernel
theorem dX5_read_15 : decode cX5_read 15 = .ok (.aload_n 0, 1) := by decide +kernel
theorem dX5_read_16 : decode cX5_read 16 = .ok (.iconst (-1), 1) := by decide +kernel
theorem dX5_read_17 : decode cX5_read 17 = .ok (.putfield 23, 3) := by decide +kernel
theorem dX5_read_20 : decode cX5_read 20 = .ok (.aload_n 0, 1) := by decide +kernel
theorem dX5_read_21 : decode cX5_read 21 = .ok (.iconst 0, 1) := by decide +kernel
theorem dX5_read_22 : decode cX5_read 22 = .ok (.invokevirtual 26, 3) := by decide +kernel
theorem dX5_read_25 : decode cX5_read 25 = .ok (.istore_n 3, 1) := by decide +kernel
theorem dX5_read_26 : decode cX5_read 26 = .ok (.aload_n 0, 1) := by decide +kernel
theorem dX5_read_27 : decode cX5_read 27 = .ok (.getfield 19, 3) := by decide +kernel
theorem dX5_read_30 : decode cX5_read 30 = .ok (.aload_n 0, 1) := by decide +kernel
theorem dX5_read_31 : decode cX5_read 31 = .ok (.getfield 9, 3) := by decide +kernel
theorem dX5_read_34 : decode cX5_read 34 = .ok (.getfield 30, 3) := by decide +kernel
theorem dX5_read_37 : decode cX5_read 37 = .ok (.if_icmp .ge 8, 3) := by decide +kernel
theorem dX5_read_40 : decode cX5_read 40 = .ok (.aload_n 0, 1) := by decide +kernel
theorem dX5_read_41 : decode cX5_read 41 = .ok (.invokevirtual 35, 3) := by decide +kernel
theorem dX5_read_44 : decode cX5_read 44 = .ok (.pop, 1) := by decide +kernel
theorem dX5_read_45 : decode cX5_read 45 = .ok (.iload_n 3, 1) := by decide +kernel
theorem dX5_read_46 : decode cX5_read 46 = .ok (.ireturn, 1) := by decide +kernel
theorem dX5_readAny_0 : decode cX5_readAny 0 = .ok (.aload_n 0, 1) := by decide +kernel
theorem dX5_readAny_1 : decode cX5_readAny 1 = .ok (.iload_n 1, 1) := by decide +kernel
theorem dX5_readAny_2 : decode cX5_readAny 2 = .ok (.invokevirtual 39, 3) := by decide +kernel
theorem dX5_readAny_5 : decode cX5_readAny 5 = .ok (.istore_n 2, 1) := by decide +kernel
theorem dX5_readAny_6 : decode cX5_readAny 6 = .ok (.iconst 0, 1) := by decide +kernel
theorem dX5_readAny_7 : decode cX5_readAny 7 = .ok (.istore_n 3, 1) := by decide +kernel
theorem dX5_readAny_8 : decode cX5_readAny 8 = .ok (.iload_n 3, 1) := by decide +kernel
theorem dX5_readAny_9 : decode cX5_readAny 9 = .ok (.bipush 60, 2) := by decide +kernel
theorem dX5_readAny_11 : decode cX5_readAny 11 = .ok (.if_icmp .ge 40, 3) := by decide +kernel
theorem dX5_readAny_14 : decode cX5_readAny 14 = .ok (.aload_n 0, 1) := by decide +kernel
theorem dX5_readAny_15 : decode cX5_readAny 15 = .ok (.bipush 124, 2) := by decide +kernel
theorem dX5_readAny_17 : decode cX5_readAny 17 = .ok (.invokevirtual 42, 3) := by decide +kernel
theorem dX5_readAny_20 : decode cX5_readAny 20 = .ok (.ifCond .eq 31, 3) := by decide +kernel
theorem dX5_readAny_23 : decode cX5_readAny 23 = .ok (.aload_n 0, 1) := by decide +kernel
theorem dX5_readAny_24 : decode cX5_readAny 24 = .ok (.iload_n 1, 1) := by decide +kernel
theorem dX5_readAny_25 : decode cX5_readAny 25 = .ok (.invokevirtual 39, 3) := by decide +kernel
theorem dX5_readAny_28 : decode cX5_readAny 28 = .ok (.istore 4, 2) := by decide +kernel
theorem dX5_readAny_30 : decode cX5_readAny 30 = .ok (.iload_n 2, 1) := by decide +kernel
theorem dX5_readAny_31 : decode cX5_readAny 31 = .ok (.ifCond .ne 8, 3) := by decide +kernel
theorem dX5_readAny_34 : decode cX5_readAny 34 = .ok (.iload 4, 2) := by decide +kernel
theorem dX5_readAny_36 : decode cX5_readAny 36 = .ok (.ifCond .eq 7, 3) := by decide +kernel
theorem dX5_readAny_39 : decode cX5_readAny 39 = .ok (.iconst 1, 1) := by decide +kernel
theorem dX5_readAny_40 : decode cX5_readAny 40 = .ok (.goto 4, 3) := by decide +kernel
theorem dX5_readAny_43 : decode cX5_readAny 43 = .ok (.iconst 0, 1) := by decide +kernel
theorem dX5_readAny_44 : decode cX5_readAny 44 = .ok (.istore_n 2, 1) := by decide +kernel
theorem dX5_readAny_45 : decode cX5_readAny 45 = .ok (.iinc 3 1, 3) := by decide +kernel
theorem dX5_readAny_48 : decode cX5_readAny 48 = .ok (.goto (-40), 3) := by decide +kernel
theorem dX5_readAny_51 : decode cX5_readAny 51 = .ok (.iload_n 2, 1) := by decide +kernel
theorem dX5_readAny_52 : decode cX5_readAny 52 = .ok (.ireturn, 1) := by decide +kernel
theorem dX5_readBoth_0 : decode cX5_readBoth 0 = .ok (.aload_n 0, 1) := by decide +kernel
theorem dX5_readBoth_1 : decode cX5_readBoth 1 = .ok (.iload_n 1, 1) := by decide +kernel
theorem dX5_readBoth_2 : decode cX5_readBoth 2 = .ok (.invokevirtual 46, 3) := by decide +kernel
theorem dX5_readBoth_5 : decode cX5_readBoth 5 = .ok (.istore_n 2, 1) := by decide +kernel
theorem dX5_readBoth_6 : decode cX5_readBoth 6 = .ok (.iconst 0, 1) := by decide +kernel
theorem dX5_readBoth_7 : decode cX5_readBoth 7 = .ok (.istore_n 3, 1) := by decide +kernel
theorem dX5_readBoth_8 : decode cX5_readBoth 8 = .ok (.iload_n 3, 1) := by decide +kernel
theorem dX5_readBoth_9 : decode cX5_readBoth 9 = .ok (.bipush 60, 2) := by decide +kernel
theorem dX5_readBoth_11 : decode cX5_readBoth 11 = .ok (.if_icmp .ge 40, 3) := by decide +kernel
theorem dX5_readBoth_14 : decode cX5_readBoth 14 = .ok (.aload_n 0, 1) := by decide +kernel
theorem dX5_readBoth_15 : decode cX5_readBoth 15 = .ok (.bipush 38, 2) := by decide +kernel
theorem dX5_readBoth_17 : decode cX5_readBoth 17 = .ok (.invokevirtual 42, 3) := by decide +kernel
theorem dX5_readBoth_20 : decode cX5_readBoth 20 = .ok (.ifCond .eq 31, 3) := by decide +kernel
theorem dX5_readBoth_23 : decode cX5_readBoth 23 = .ok (.aload_n 0, 1) := by decide +kernel
theorem dX5_readBoth_24 : decode cX5_readBoth 24 = .ok (.iload_n 1, 1) := by decide +kernel
theorem dX5_readBoth_25 : decode cX5_readBoth 25 = .ok (.invokevirtual 46, 3) := by decide +kernel
theorem dX5_readBoth_28 : decode cX5_readBoth 28 = .ok (.istore 4, 2) := by decide +kernel
theorem dX5_readBoth_30 : decode cX5_readBoth 30 = .ok (.iload_n 2, 1) := by decide +kernel
theorem dX5_readBoth_31 : decode cX5_readBoth 31 = .ok (.ifCond .eq 12, 3) := by decide +kernel
theorem dX5_readBoth_34 : decode cX5_readBoth 34 = .ok (.iload 4, 2) := by decide +kernel
theorem dX5_readBoth_36 : decode cX5_readBoth 36 = .ok (.ifCond .eq 7, 3) := by decide +kernel
theorem dX5_readBoth_39 : decode cX5_readBoth 39 = .ok (.iconst 1, 1) := by decide +kernel
theorem dX5_readBoth_40 : decode cX5_readBoth 40 = .ok (.goto 4, 3) := by decide +kernel
theorem dX5_readBoth_43 : decode cX5_readBoth 43 = .ok (.iconst 0, 1) := by decide +kernel
theorem dX5_readBoth_44 : decode cX5_readBoth 44 = .ok (.istore_n 2, 1) := by decide +kernel
theorem dX5_readBoth_45 : decode cX5_readBoth 45 = .ok (.iinc 3 1, 3) := by decide +kernel
theorem dX5_readBoth_48 : decode cX5_readBoth 48 = .ok (.goto (-40), 3) := by decide +kernel
theorem dX5_readBoth_51 : decode cX5_readBoth 51 = .ok (.iload_n 2, 1) := by decide +kernel
theorem dX5_readBoth_52 : decode cX5_readBoth 52 = .ok (.ireturn, 1) := by decide +kernel
theorem dX5_readOne_0 : decode cX5_readOne 0 = .ok (.aload_n 0, 1) := by decide +kernel
theorem dX5_readOne_1 : decode cX5_readOne 1 = .ok (.getfield 9, 3) := by decide +kernel
theorem dX5_readOne_4 : decode cX5_readOne 4 = .ok (.aload_n 0, 1) := by decide +kernel
theorem dX5_readOne_5 : decode cX5_readOne 5 = .ok (.getfield 19, 3) := by decide +kernel
theorem dX5_readOne_8 : decode cX5_readOne 8 = .ok (.invokevirtual 49, 3) := by decide +kernel
theorem dX5_readOne_11 : decode cX5_readOne 11 = .ok (.istore_n 2, 1) := by decide +kernel
theorem dX5_readOne_12 : decode cX5_readOne 12 = .ok (.iload_n 2, 1) := by decide +kernel
theorem dX5_readOne_13 : decode cX5_readOne 13 = .ok (.bipush 33, 2) := by decide +kernel
theorem dX5_readOne_15 : decode cX5_readOne 15 = .ok (.if_icmp .eq 14, 3) := by decide +kernel
theorem dX5_readOne_18 : decode cX5_readOne 18 = .ok (.iload_n 2, 1) := by decide +kernel
theorem dX5_readOne_19 : decode cX5_readOne 19 = .ok (.bipush 40, 2) := by decide +kernel
theorem dX5_readOne_21 : decode cX5_readOne 21 = .ok (.if_icmp .eq 8, 3) := by decide +kernel
theorem dX5_readOne_24 : decode cX5_readOne 24 = .ok (.aload_n 0, 1) := by decide +kernel
theorem dX5_readOne_25 : decode cX5_readOne 25 = .ok (.invokevirtual 53, 3) := by decide +kernel
theorem dX5_readOne_28 : decode cX5_readOne 28 = .ok (.ireturn, 1) := by decide +kernel
theorem dX5_readOne_29 : decode cX5_readOne 29 = .ok (.iload_n 1, 1) := by decide +kernel
theorem dX5_readOne_30 : decode cX5_readOne 30 = .ok (.bipush 20, 2) := by decide +kernel
theorem dX5_readOne_32 : decode cX5_readOne 32 = .ok (.if_icmp .lt 8, 3) := by decide +kernel
theorem dX5_readOne_35 : decode cX5_readOne 35 = .ok (.aload_n 0, 1) := by decide +kernel
theorem dX5_readOne_36 : decode cX5_readOne 36 = .ok (.invokevirtual 35, 3) := by decide +kernel
theorem dX5_readOne_39 : decode cX5_readOne 39 = .ok (.ireturn, 1) := by decide +kernel
theorem dX5_readOne_40 : decode cX5_readOne 40 = .ok (.aload_n 0, 1) := by decide +kernel
theorem dX5_readOne_41 : decode cX5_readOne 41 = .ok (.bipush 33, 2) := by decide +kernel
theorem dX5_readOne_43 : decode cX5_readOne 43 = .ok (.invokevirtual 42, 3) := by decide +kernel
theorem dX5_readOne_46 : decode cX5_readOne 46 = .ok (.ifCond .eq 19, 3) := by decide +kernel
theorem dX5_readOne_49 : decode cX5_readOne 49 = .ok (.aload_n 0, 1) := by decide +kernel
theorem dX5_readOne_50 : decode cX5_readOne 50 = .ok (.iload_n 1, 1) := by decide +kernel
theorem dX5_readOne_51 : decode cX5_readOne 51 = .ok (.iconst 1, 1) := by decide +kernel
theorem dX5_readOne_52 : decode cX5_readOne 52 = .ok (.iadd, 1) := by decide +kernel
theorem dX5_readOne_53 : decode cX5_readOne 53 = .ok (.invokevirtual 46, 3) := by decide +kernel
theorem dX5_readOne_56 : decode cX5_readOne 56 = .ok (.ifCond .ne 7, 3) := by decide +kernel
theorem dX5_readOne_59 : decode cX5_readOne 59 = .ok (.iconst 1, 1) := by decide +kernel
theorem dX5_readOne_60 : decode cX5_readOne 60 = .ok (.goto 4, 3) := by decide +kernel
theorem dX5_readOne_63 : decode cX5_readOne 63 = .ok (.iconst 0, 1) := by decide +kernel
theorem dX5_readOne_64 : decode cX5_readOne 64 = .ok (.ireturn, 1) := by decide +kernel
theorem dX5_readOne_65 : decode cX5_readOne 65 = .ok (.aload_n 0, 1) := by decide +kernel
theorem dX5_readOne_66 : decode cX5_readOne 66 = .ok (.bipush 40, 2) := by decide +kernel
theorem dX5_readOne_68 : decode cX5_readOne 68 = .ok (.invokevirtual 42, 3) := by decide +kernel
theorem dX5_readOne_71 : decode cX5_readOne 71 = .ok (.pop, 1) := by decide +kernel
theorem dX5_readOne_72 : decode cX5_readOne 72 = .ok (.aload_n 0, 1) := by decide +kernel
theorem dX5_readOne_73 : decode cX5_readOne 73 = .ok (.iload_n 1, 1) := by decide +kernel
theorem dX5_readOne_74 : decode cX5_readOne 74 = .ok (.iconst 1, 1) := by decide +kernel
theorem dX5_readOne_75 : decode cX5_readOne 75 = .ok (.iadd, 1) := by decide +kernel
theorem dX5_readOne_76 : decode cX5_readOne 76 = .ok (.invokevirtual 26, 3) := by decide +kernel
theorem dX5_readOne_79 : decode cX5_readOne 79 = .ok (.istore_n 3, 1) := by decide +kernel
theorem dX5_readOne_80 : decode cX5_readOne 80 = .ok (.aload_n 0, 1) := by decide +kernel
theorem dX5_readOne_81 : decode cX5_readOne 81 = .ok (.bipush 41, 2) := by decide +kernel
theorem dX5_readOne_83 : decode cX5_readOne 83 = .ok (.invokevirtual 42, 3) := by decide +kernel
theorem dX5_readOne_86 : decode cX5_readOne 86 = .ok (.ifCond .eq 7, 3) := by decide +kernel
theorem dX5_readOne_89 : decode cX5_readOne 89 = .ok (.iload_n 3, 1) := by decide +kernel
theorem dX5_readOne_90 : decode cX5_readOne 90 = .ok (.goto 7, 3) := by decide +kernel
theorem dX5_readOne_93 : decode cX5_readOne 93 = .ok (.aload_n 0, 1) := by decide +kernel
theorem dX5_readOne_94 : decode cX5_readOne 94 = .ok (.invokevirtual 35, 3) := by decide +kernel
theorem dX5_readOne_97 : decode cX5_readOne 97 = .ok (.ireturn, 1) := by decide +kernel
theorem dX5_readAsked_0 : decode cX5_readAsked 0 = .ok (.aload_n 0, 1) := by decide +kernel
theorem dX5_readAsked_1 : decode cX5_readAsked 1 = .ok (.getfield 9, 3) := by decide +kernel
theorem dX5_readAsked_4 : decode cX5_readAsked 4 = .ok (.aload_n 0, 1) := by decide +kernel
theorem dX5_readAsked_5 : decode cX5_readAsked 5 = .ok (.getfield 19, 3) := by decide +kernel
theorem dX5_readAsked_8 : decode cX5_readAsked 8 = .ok (.invokevirtual 49, 3) := by decide +kernel
theorem dX5_readAsked_11 : decode cX5_readAsked 11 = .ok (.istore_n 1, 1) := by decide +kernel
theorem dX5_readAsked_12 : decode cX5_readAsked 12 = .ok (.iload_n 1, 1) := by decide +kernel
theorem dX5_readAsked_13 : decode cX5_readAsked 13 = .ok (.invokestatic 56, 3) := by decide +kernel
theorem dX5_readAsked_16 : decode cX5_readAsked 16 = .ok (.ifCond .ne 8, 3) := by decide +kernel
theorem dX5_readAsked_19 : decode cX5_readAsked 19 = .ok (.aload_n 0, 1) := by decide +kernel
theorem dX5_readAsked_20 : decode cX5_readAsked 20 = .ok (.invokevirtual 35, 3) := by decide +kernel
theorem dX5_readAsked_23 : decode cX5_readAsked 23 = .ok (.ireturn, 1) := by decide +kernel
theorem dX5_readAsked_24 : decode cX5_readAsked 24 = .ok (.aload_n 0, 1) := by decide +kernel
theorem dX5_readAsked_25 : decode cX5_readAsked 25 = .ok (.dup, 1) := by decide +kernel
theorem dX5_readAsked_26 : decode cX5_readAsked 26 = .ok (.getfield 19, 3) := by decide +kernel
theorem dX5_readAsked_29 : decode cX5_readAsked 29 = .ok (.iconst 1, 1) := by decide +kernel
theorem dX5_readAsked_30 : decode cX5_readAsked 30 = .ok (.iadd, 1) := by decide +kernel
theorem dX5_readAsked_31 : decode cX5_readAsked 31 = .ok (.putfield 19, 3) := by decide +kernel
theorem dX5_readAsked_34 : decode cX5_readAsked 34 = .ok (.aload_n 0, 1) := by decide +kernel
theorem dX5_readAsked_35 : decode cX5_readAsked 35 = .ok (.invokevirtual 59, 3) := by decide +kernel
theorem dX5_readAsked_38 : decode cX5_readAsked 38 = .ok (.istore_n 2, 1) := by decide +kernel
theorem dX5_readAsked_39 : decode cX5_readAsked 39 = .ok (.aload_n 0, 1) := by decide +kernel
theorem dX5_readAsked_40 : decode cX5_readAsked 40 = .ok (.getfield 15, 3) := by decide +kernel
theorem dX5_readAsked_43 : decode cX5_readAsked 43 = .ok (.iload_n 1, 1) := by decide +kernel
theorem dX5_readAsked_44 : decode cX5_readAsked 44 = .ok (.iload_n 2, 1) := by decide +kernel
theorem dX5_readAsked_45 : decode cX5_readAsked 45 = .ok (.invokevirtual 63, 3) := by decide +kernel
theorem dX5_readAsked_48 : decode cX5_readAsked 48 = .ok (.ireturn, 1) := by decide +kernel
theorem dX5_canAsk_0 : decode cX5_canAsk 0 = .ok (.iload_n 0, 1) := by decide +kernel
theorem dX5_canAsk_1 : decode cX5_canAsk 1 = .ok (.bipush 116, 2) := by decide +kernel
theorem dX5_canAsk_3 : decode cX5_canAsk 3 = .ok (.if_icmp .eq 27, 3) := by decide +kernel
theorem dX5_canAsk_6 : decode cX5_canAsk 6 = .ok (.iload_n 0, 1) := by decide +kernel
theorem dX5_canAsk_7 : decode cX5_canAsk 7 = .ok (.bipush 104, 2) := by decide +kernel
theorem dX5_canAsk_9 : decode cX5_canAsk 9 = .ok (.if_icmp .eq 21, 3) := by decide +kernel
theorem dX5_canAsk_12 : decode cX5_canAsk 12 = .ok (.iload_n 0, 1) := by decide +kernel
theorem dX5_canAsk_13 : decode cX5_canAsk 13 = .ok (.bipush 119, 2) := by decide +kernel
theorem dX5_canAsk_15 : decode cX5_canAsk 15 = .ok (.if_icmp .eq 15, 3) := by decide +kernel
theorem dX5_canAsk_18 : decode cX5_canAsk 18 = .ok (.iload_n 0, 1) := by decide +kernel
theorem dX5_canAsk_19 : decode cX5_canAsk 19 = .ok (.bipush 108, 2) := by decide +kernel
theorem dX5_canAsk_21 : decode cX5_canAsk 21 = .ok (.if_icmp .eq 9, 3) := by decide +kernel
theorem dX5_canAsk_24 : decode cX5_canAsk 24 = .ok (.iload_n 0, 1) := by decide +kernel
theorem dX5_canAsk_25 : decode cX5_canAsk 25 = .ok (.bipush 114, 2) := by decide +kernel
theorem dX5_canAsk_27 : decode cX5_canAsk 27 = .ok (.if_icmp .ne 7, 3) := by decide +kernel
theorem dX5_canAsk_30 : decode cX5_canAsk 30 = .ok (.iconst 1, 1) := by decide +kernel
theorem dX5_canAsk_31 : decode cX5_canAsk 31 = .ok (.goto 4, 3) := by decide +kernel
theorem dX5_canAsk_34 : decode cX5_canAsk 34 = .ok (.iconst 0, 1) := by decide +kernel
theorem dX5_canAsk_35 : decode cX5_canAsk 35 = .ok (.ireturn, 1) := by decide +kernel
theorem dX5_readNumber_0 : decode cX5_readNumber 0 = .ok (.iconst 0, 1) := by decide +kernel
theorem dX5_readNumber_1 : decode cX5_readNumber 1 = .ok (.istore_n 1, 1) := by decide +kernel
theorem dX5_readNumber_2 : decode cX5_readNumber 2 = .ok (.iconst 0, 1) := by decide +kernel
theorem dX5_readNumber_3 : decode cX5_readNumber 3 = .ok (.istore_n 2, 1) := by decide +kernel
theorem dX5_readNumber_4 : decode cX5_readNumber 4 = .ok (.iload_n 2, 1) := by decide +kernel
theorem dX5_readNumber_5 : decode cX5_readNumber 5 = .ok (.iconst 3, 1) := by decide +kernel
theorem dX5_readNumber_6 : decode cX5_readNumber 6 = .ok (.if_icmp .ge 56, 3) := by decide +kernel
theorem dX5_readNumber_9 : decode cX5_readNumber 9 = .ok (.aload_n 0, 1) := by decide +kernel
theorem dX5_readNumber_10 : decode cX5_readNumber 10 = .ok (.getfield 9, 3) := by decide +kernel
theorem dX5_readNumber_13 : decode cX5_readNumber 13 = .ok (.aload_n 0, 1) := by decide +kernel
theorem dX5_readNumber_14 : decode cX5_readNumber 14 = .ok (.getfield 19, 3) := by decide +kernel
theorem dX5_readNumber_17 : decode cX5_readNumber 17 = .ok (.invokevirtual 49, 3) := by decide +kernel
theorem dX5_readNumber_20 : decode cX5_readNumber 20 = .ok (.invokestatic 69, 3) := by decide +kernel
theorem dX5_readNumber_23 : decode cX5_readNumber 23 = .ok (.ifCond .eq 39, 3) := by decide +kernel
theorem dX5_readNumber_26 : decode cX5_readNumber 26 = .ok (.bipush 10, 2) := by decide +kernel
theorem dX5_readNumber_28 : decode cX5_readNumber 28 = .ok (.iload_n 1, 1) := by decide +kernel
theorem dX5_readNumber_29 : decode cX5_readNumber 29 = .ok (.imul, 1) := by decide +kernel
theorem dX5_readNumber_30 : decode cX5_readNumber 30 = .ok (.aload_n 0, 1) := by decide +kernel
theorem dX5_readNumber_31 : decode cX5_readNumber 31 = .ok (.getfield 9, 3) := by decide +kernel
theorem dX5_readNumber_34 : decode cX5_readNumber 34 = .ok (.aload_n 0, 1) := by decide +kernel
theorem dX5_readNumber_35 : decode cX5_readNumber 35 = .ok (.getfield 19, 3) := by decide +kernel
theorem dX5_readNumber_38 : decode cX5_readNumber 38 = .ok (.invokevirtual 49, 3) := by decide +kernel
theorem dX5_readNumber_41 : decode cX5_readNumber 41 = .ok (.iadd, 1) := by decide +kernel
theorem dX5_readNumber_42 : decode cX5_readNumber 42 = .ok (.bipush 48, 2) := by decide +kernel
theorem dX5_readNumber_44 : decode cX5_readNumber 44 = .ok (.isub, 1) := by decide +kernel
theorem dX5_readNumber_45 : decode cX5_readNumber 45 = .ok (.istore_n 1, 1) := by decide +kernel
theorem dX5_readNumber_46 : decode cX5_readNumber 46 = .ok (.iinc 2 1, 3) := by decide +kernel
theorem dX5_readNumber_49 : decode cX5_readNumber 49 = .ok (.aload_n 0, 1) := by decide +kernel
theorem dX5_readNumber_50 : decode cX5_readNumber 50 = .ok (.dup, 1) := by decide +kernel
theorem dX5_readNumber_51 : decode cX5_readNumber 51 = .ok (.getfield 19, 3) := by decide +kernel
theorem dX5_readNumber_54 : decode cX5_readNumber 54 = .ok (.iconst 1, 1) := by decide +kernel
theorem dX5_readNumber_55 : decode cX5_readNumber 55 = .ok (.iadd, 1) := by decide +kernel
theorem dX5_readNumber_56 : decode cX5_readNumber 56 = .ok (.putfield 19, 3) := by decide +kernel
theorem dX5_readNumber_59 : decode cX5_readNumber 59 = .ok (.goto (-55), 3) := by decide +kernel
theorem dX5_readNumber_62 : decode cX5_readNumber 62 = .ok (.iload_n 2, 1) := by decide +kernel
theorem dX5_readNumber_63 : decode cX5_readNumber 63 = .ok (.ifCond .ne 8, 3) := by decide +kernel
theorem dX5_readNumber_66 : decode cX5_readNumber 66 = .ok (.aload_n 0, 1) := by decide +kernel
theorem dX5_readNumber_67 : decode cX5_readNumber 67 = .ok (.invokevirtual 35, 3) := by decide +kernel
theorem dX5_readNumber_70 : decode cX5_readNumber 70 = .ok (.pop, 1) := by decide +kernel
theorem dX5_readNumber_71 : decode cX5_readNumber 71 = .ok (.iload_n 1, 1) := by decide +kernel
theorem dX5_readNumber_72 : decode cX5_readNumber 72 = .ok (.ireturn, 1) := by decide +kernel
theorem dX5_isFigure_0 : decode cX5_isFigure 0 = .ok (.iload_n 0, 1) := by decide +kernel
theorem dX5_isFigure_1 : decode cX5_isFigure 1 = .ok (.bipush 48, 2) := by decide +kernel
theorem dX5_isFigure_3 : decode cX5_isFigure 3 = .ok (.if_icmp .lt 13, 3) := by decide +kernel
theorem dX5_isFigure_6 : decode cX5_isFigure 6 = .ok (.iload_n 0, 1) := by decide +kernel
theorem dX5_isFigure_7 : decode cX5_isFigure 7 = .ok (.bipush 57, 2) := by decide +kernel
theorem dX5_isFigure_9 : decode cX5_isFigure 9 = .ok (.if_icmp .gt 7, 3) := by decide +kernel
theorem dX5_isFigure_12 : decode cX5_isFigure 12 = .ok (.iconst 1, 1) := by decide +kernel
theorem dX5_isFigure_13 : decode cX5_isFigure 13 = .ok (.goto 4, 3) := by decide +kernel
theorem dX5_isFigure_16 : decode cX5_isFigure 16 = .ok (.iconst 0, 1) := by decide +kernel
theorem dX5_isFigure_17 : decode cX5_isFigure 17 = .ok (.ireturn, 1) := by decide +kernel
theorem dX5_passOver_0 : decode cX5_passOver 0 = .ok (.aload_n 0, 1) := by decide +kernel
theorem dX5_passOver_1 : decode cX5_passOver 1 = .ok (.getfield 23, 3) := by decide +kernel
theorem dX5_passOver_4 : decode cX5_passOver 4 = .ok (.iconst (-1), 1) := by decide +kernel
theorem dX5_passOver_5 : decode cX5_passOver 5 = .ok (.if_icmp .ne 18, 3) := by decide +kernel
theorem dX5_passOver_8 : decode cX5_passOver 8 = .ok (.aload_n 0, 1) := by decide +kernel
theorem dX5_passOver_9 : decode cX5_passOver 9 = .ok (.getfield 9, 3) := by decide +kernel
theorem dX5_passOver_12 : decode cX5_passOver 12 = .ok (.aload_n 0, 1) := by decide +kernel
theorem dX5_passOver_13 : decode cX5_passOver 13 = .ok (.getfield 19, 3) := by decide +kernel
theorem dX5_passOver_16 : decode cX5_passOver 16 = .ok (.invokevirtual 49, 3) := by decide +kernel
theorem dX5_passOver_19 : decode cX5_passOver 19 = .ok (.iload_n 1, 1) := by decide +kernel
theorem dX5_passOver_20 : decode cX5_passOver 20 = .ok (.if_icmp .eq 5, 3) := by decide +kernel
theorem dX5_passOver_23 : decode cX5_passOver 23 = .ok (.iconst 0, 1) := by decide +kernel
theorem dX5_passOver_24 : decode cX5_passOver 24 = .ok (.ireturn, 1) := by decide +kernel
theorem dX5_passOver_25 : decode cX5_passOver 25 = .ok (.aload_n 0, 1) := by decide +kernel
theorem dX5_passOver_26 : decode cX5_passOver 26 = .ok (.dup, 1) := by decide +kernel
theorem dX5_passOver_27 : decode cX5_passOver 27 = .ok (.getfield 19, 3) := by decide +kernel
theorem dX5_passOver_30 : decode cX5_passOver 30 = .ok (.iconst 1, 1) := by decide +kernel
theorem dX5_passOver_31 : decode cX5_passOver 31 = .ok (.iadd, 1) := by decide +kernel
theorem dX5_passOver_32 : decode cX5_passOver 32 = .ok (.putfield 19, 3) := by decide +kernel
theorem dX5_passOver_35 : decode cX5_passOver 35 = .ok (.iconst 1, 1) := by decide +kernel
theorem dX5_passOver_36 : decode cX5_passOver 36 = .ok (.ireturn, 1) := by decide +kernel
theorem dX5_fail_0 : decode cX5_fail 0 = .ok (.aload_n 0, 1) := by decide +kernel
theorem dX5_fail_1 : decode cX5_fail 1 = .ok (.getfield 23, 3) := by decide +kernel
theorem dX5_fail_4 : decode cX5_fail 4 = .ok (.iconst (-1), 1) := by decide +kernel
theorem dX5_fail_5 : decode cX5_fail 5 = .ok (.if_icmp .ne 11, 3) := by decide +kernel
theorem dX5_fail_8 : decode cX5_fail 8 = .ok (.aload_n 0, 1) := by decide +kernel
theorem dX5_fail_9 : decode cX5_fail 9 = .ok (.aload_n 0, 1) := by decide +kernel
theorem dX5_fail_10 : decode cX5_fail 10 = .ok (.getfield 19, 3) := by decide +kernel
theorem dX5_fail_13 : decode cX5_fail 13 = .ok (.putfield 23, 3) := by decide +kernel
theorem dX5_fail_16 : decode cX5_fail 16 = .ok (.iconst 0, 1) := by decide +kernel
theorem dX5_fail_17 : decode cX5_fail 17 = .ok (.ireturn, 1) := by decide +kernel
theorem dX6_init_0 : decode cX6_init 0 = .ok (.aload_n 0, 1) := by decide +kernel
theorem dX6_init_1 : decode cX6_init 1 = .ok (.invokespecial 3, 3) := by decide +kernel
theorem dX6_init_4 : decode cX6_init 4 = .ok (.aload_n 0, 1) := by decide +kernel
theorem dX6_init_5 : decode cX6_init 5 = .ok (.iconst 5, 1) := by decide +kernel
theorem dX6_init_6 : decode cX6_init 6 = .ok (.newarray .int, 2) := by decide +kernel
theorem dX6_init_8 : decode cX6_init 8 = .ok (.putfield 9, 3) := by decide +kernel
theorem dX6_init_11 : decode cX6_init 11 = .ok (.aload_n 0, 1) := by decide +kernel
theorem dX6_init_12 : decode cX6_init 12 = .ok (.iconst 5, 1) := by decide +kernel
theorem dX6_init_13 : decode cX6_init 13 = .ok (.newarray .int, 2) := by decide +kernel
theorem dX6_init_15 : decode cX6_init 15 = .ok (.putfield 15, 3) := by decide +kernel
theorem dX6_init_18 : decode cX6_init 18 = .ok (.aload_n 0, 1) := by decide +kernel
theorem dX6_init_19 : decode cX6_init 19 = .ok (.iload_n 1, 1) := by decide +kernel
theorem dX6_init_20 : decode cX6_init 20 = .ok (.putfield 18, 3) := by decide +kernel
theorem dX6_init_23 : decode cX6_init 23 = .ok (.return_, 1) := by decide +kernel
theorem dX6_setSpan_0 : decode cX6_setSpan 0 = .ok (.iload_n 1, 1) := by decide +kernel
theorem dX6_setSpan_1 : decode cX6_setSpan 1 = .ok (.invokestatic 22, 3) := by decide +kernel
theorem dX6_setSpan_4 : decode cX6_setSpan 4 = .ok (.ifCond .eq 30, 3) := by decide +kernel
theorem dX6_setSpan_7 : decode cX6_setSpan 7 = .ok (.iload_n 2, 1) := by decide +kernel
theorem dX6_setSpan_8 : decode cX6_setSpan 8 = .ok (.invokestatic 26, 3) := by decide +kernel
theorem dX6_setSpan_11 : decode cX6_setSpan 11 = .ok (.ifCond .eq 23, 3) := by decide +kernel
theorem dX6_setSpan_14 : decode cX6_setSpan 14 = .ok (.aload_n 0, 1) := by decide +kernel
theorem dX6_setSpan_15 : decode cX6_setSpan 15 = .ok (.getfield 9, 3) := by decide +kernel
theorem dX6_setSpan_18 : decode cX6_setSpan 18 = .ok (.iload_n 1, 1) := by decide +kernel
theorem dX6_setSpan_19 : decode cX6_setSpan 19 = .ok (.iload_n 2, 1) := by decide +kernel
theorem dX6_setSpan_20 : decode cX6_setSpan 20 = .ok (.bipush 100, 2) := by decide +kernel
theorem dX6_setSpan_22 : decode cX6_setSpan 22 = .ok (.idiv, 1) := by decide +kernel
theorem dX6_setSpan_23 : decode cX6_setSpan 23 = .ok (.iastore, 1) := by decide +kernel
theorem dX6_setSpan_24 : decode cX6_setSpan 24 = .ok (.aload_n 0, 1) := by decide +kernel
theorem dX6_setSpan_25 : decode cX6_setSpan 25 = .ok (.getfield 15, 3) := by decide +kernel
theorem dX6_setSpan_28 : decode cX6_setSpan 28 = .ok (.iload_n 1, 1) := by decide +kernel
theorem dX6_setSpan_29 : decode cX6_setSpan 29 = .ok (.iload_n 2, 1) := by decide +kernel
theorem dX6_setSpan_30 : decode cX6_setSpan 30 = .ok (.bipush 100, 2) := by decide +kernel
theorem dX6_setSpan_32 : decode cX6_setSpan 32 = .ok (.irem, 1) := by decide +kernel
theorem dX6_setSpan_33 : decode cX6_setSpan 33 = .ok (.iastore, 1) := by decide +kernel
theorem dX6_setSpan_34 : decode cX6_setSpan 34 = .ok (.return_, 1) := by decide +kernel
theorem dX6_spanTold_0 : decode cX6_spanTold 0 = .ok (.iload_n 1, 1) := by decide +kernel
theorem dX6_spanTold_1 : decode cX6_spanTold 1 = .ok (.invokestatic 22, 3) := by decide +kernel
theorem dX6_spanTold_4 : decode cX6_spanTold 4 = .ok (.ifCond .eq 22, 3) := by decide +kernel
theorem dX6_spanTold_7 : decode cX6_spanTold 7 = .ok (.bipush 100, 2) := by decide +kernel
theorem dX6_spanTold_9 : decode cX6_spanTold 9 = .ok (.aload_n 0, 1) := by decide +kernel
theorem dX6_spanTold_10 : decode cX6_spanTold 10 = .ok (.getfield 9, 3) := by decide +kernel
theorem dX6_spanTold_13 : decode cX6_spanTold 13 = .ok (.iload_n 1, 1) := by decide +kernel
theorem dX6_spanTold_14 : decode cX6_spanTold 14 = .ok (.iaload, 1) := by decide +kernel
theorem dX6_spanTold_15 : decode cX6_spanTold 15 = .ok (.imul, 1) := by decide +kernel
theorem dX6_spanTold_16 : decode cX6_spanTold 16 = .ok (.aload_n 0, 1) := by decide +kernel
theorem dX6_spanTold_17 : decode cX6_spanTold 17 = .ok (.getfield 15, 3) := by decide +kernel
theorem dX6_spanTold_20 : decode cX6_spanTold 20 = .ok (.iload_n 1, 1) := by decide +kernel
theorem dX6_spanTold_21 : decode cX6_spanTold 21 = .ok (.iaload, 1) := by decide +kernel
theorem dX6_spanTold_22 : decode cX6_spanTold 22 = .ok (.iadd, 1) := by decide +kernel
theorem dX6_spanTold_23 : decode cX6_spanTold 23 = .ok (.goto 4, 3) := by decide +kernel
theorem dX6_spanTold_26 : decode cX6_spanTold 26 = .ok (.iconst 0, 1) := by decide +kernel
theorem dX6_spanTold_27 : decode cX6_spanTold 27 = .ok (.ireturn, 1) := by decide +kernel
theorem dX6_seenIn_0 : decode cX6_seenIn 0 = .ok (.iload_n 1, 1) := by decide +kernel
theorem dX6_seenIn_1 : decode cX6_seenIn 1 = .ok (.invokestatic 22, 3) := by decide +kernel
theorem dX6_seenIn_4 : decode cX6_seenIn 4 = .ok (.ifCond .eq 9, 3) := by decide +kernel
theorem dX6_seenIn_7 : decode cX6_seenIn 7 = .ok (.iload_n 1, 1) := by decide +kernel
theorem dX6_seenIn_8 : decode cX6_seenIn 8 = .ok (.aload_n 2, 1) := by decide +kernel
theorem dX6_seenIn_9 : decode cX6_seenIn 9 = .ok (.arraylength, 1) := by decide +kernel
theorem dX6_seenIn_10 : decode cX6_seenIn 10 = .ok (.if_icmp .lt 5, 3) := by decide +kernel
theorem dX6_seenIn_13 : decode cX6_seenIn 13 = .ok (.iconst 0, 1) := by decide +kernel
theorem dX6_seenIn_14 : decode cX6_seenIn 14 = .ok (.ireturn, 1) := by decide +kernel
theorem dX6_seenIn_15 : decode cX6_seenIn 15 = .ok (.aload_n 0, 1) := by decide +kernel
theorem dX6_seenIn_16 : decode cX6_seenIn 16 = .ok (.getfield 15, 3) := by decide +kernel
theorem dX6_seenIn_19 : decode cX6_seenIn 19 = .ok (.iload_n 1, 1) := by decide +kernel
theorem dX6_seenIn_20 : decode cX6_seenIn 20 = .ok (.iaload, 1) := by decide +kernel
theorem dX6_seenIn_21 : decode cX6_seenIn 21 = .ok (.aload_n 0, 1) := by decide +kernel
theorem dX6_seenIn_22 : decode cX6_seenIn 22 = .ok (.getfield 9, 3) := by decide +kernel
theorem dX6_seenIn_25 : decode cX6_seenIn 25 = .ok (.iload_n 1, 1) := by decide +kernel
theorem dX6_seenIn_26 : decode cX6_seenIn 26 = .ok (.iaload, 1) := by decide +kernel
theorem dX6_seenIn_27 : decode cX6_seenIn 27 = .ok (.isub, 1) := by decide +kernel
theorem dX6_seenIn_28 : decode cX6_seenIn 28 = .ok (.iconst 1, 1) := by decide +kernel
theorem dX6_seenIn_29 : decode cX6_seenIn 29 = .ok (.iadd, 1) := by decide +kernel
theorem dX6_seenIn_30 : decode cX6_seenIn 30 = .ok (.istore_n 3, 1) := by decide +kernel
theorem dX6_seenIn_31 : decode cX6_seenIn 31 = .ok (.iconst 1, 1) := by decide +kernel
theorem dX6_seenIn_32 : decode cX6_seenIn 32 = .ok (.iload_n 3, 1) := by decide +kernel
theorem dX6_seenIn_33 : decode cX6_seenIn 33 = .ok (.ishl, 1) := by decide +kernel
theorem dX6_seenIn_34 : decode cX6_seenIn 34 = .ok (.iconst 1, 1) := by decide +kernel
theorem dX6_seenIn_35 : decode cX6_seenIn 35 = .ok (.isub, 1) := by decide +kernel
theorem dX6_seenIn_36 : decode cX6_seenIn 36 = .ok (.aload_n 0, 1) := by decide +kernel
theorem dX6_seenIn_37 : decode cX6_seenIn 37 = .ok (.getfield 9, 3) := by decide +kernel
theorem dX6_seenIn_40 : decode cX6_seenIn 40 = .ok (.iload_n 1, 1) := by decide +kernel
theorem dX6_seenIn_41 : decode cX6_seenIn 41 = .ok (.iaload, 1) := by decide +kernel
theorem dX6_seenIn_42 : decode cX6_seenIn 42 = .ok (.ishl, 1) := by decide +kernel
theorem dX6_seenIn_43 : decode cX6_seenIn 43 = .ok (.istore 4, 2) := by decide +kernel
theorem dX6_seenIn_45 : decode cX6_seenIn 45 = .ok (.aload_n 2, 1) := by decide +kernel
theorem dX6_seenIn_46 : decode cX6_seenIn 46 = .ok (.iload_n 1, 1) := by decide +kernel
theorem dX6_seenIn_47 : decode cX6_seenIn 47 = .ok (.iaload, 1) := by decide +kernel
theorem dX6_seenIn_48 : decode cX6_seenIn 48 = .ok (.iload 4, 2) := by decide +kernel
theorem dX6_seenIn_50 : decode cX6_seenIn 50 = .ok (.iand, 1) := by decide +kernel
theorem dX6_seenIn_51 : decode cX6_seenIn 51 = .ok (.ireturn, 1) := by decide +kernel
theorem dX6_layersHeld_0 : decode cX6_layersHeld 0 = .ok (.iconst 0, 1) := by decide +kernel
theorem dX6_layersHeld_1 : decode cX6_layersHeld 1 = .ok (.istore_n 2, 1) := by decide +kernel
theorem dX6_layersHeld_2 : decode cX6_layersHeld 2 = .ok (.iconst 0, 1) := by decide +kernel
theorem dX6_layersHeld_3 : decode cX6_layersHeld 3 = .ok (.istore_n 3, 1) := by decide +kernel
theorem dX6_layersHeld_4 : decode cX6_layersHeld 4 = .ok (.iload_n 3, 1) := by decide +kernel
theorem dX6_layersHeld_5 : decode cX6_layersHeld 5 = .ok (.iconst 5, 1) := by decide +kernel
theorem dX6_layersHeld_6 : decode cX6_layersHeld 6 = .ok (.if_icmp .ge 24, 3) := by decide +kernel
theorem dX6_layersHeld_9 : decode cX6_layersHeld 9 = .ok (.aload_n 0, 1) := by decide +kernel
theorem dX6_layersHeld_10 : decode cX6_layersHeld 10 = .ok (.iload_n 3, 1) := by decide +kernel
theorem dX6_layersHeld_11 : decode cX6_layersHeld 11 = .ok (.aload_n 1, 1) := by decide +kernel
theorem dX6_layersHeld_12 : decode cX6_layersHeld 12 = .ok (.invokevirtual 29, 3) := by decide +kernel
theorem dX6_layersHeld_15 : decode cX6_layersHeld 15 = .ok (.ifCond .eq 9, 3) := by decide +kernel
theorem dX6_layersHeld_18 : decode cX6_layersHeld 18 = .ok (.iload_n 2, 1) := by decide +kernel
theorem dX6_layersHeld_19 : decode cX6_layersHeld 19 = .ok (.iconst 1, 1) := by decide +kernel
theorem dX6_layersHeld_20 : decode cX6_layersHeld 20 = .ok (.iload_n 3, 1) := by decide +kernel
theorem dX6_layersHeld_21 : decode cX6_layersHeld 21 = .ok (.ishl, 1) := by decide +kernel
theorem dX6_layersHeld_22 : decode cX6_layersHeld 22 = .ok (.ior, 1) := by decide +kernel
theorem dX6_layersHeld_23 : decode cX6_layersHeld 23 = .ok (.istore_n 2, 1) := by decide +kernel
theorem dX6_layersHeld_24 : decode cX6_layersHeld 24 = .ok (.iinc 3 1, 3) := by decide +kernel
theorem dX6_layersHeld_27 : decode cX6_layersHeld 27 = .ok (.goto (-23), 3) := by decide +kernel
theorem dX6_layersHeld_30 : decode cX6_layersHeld 30 = .ok (.iload_n 2, 1) := by decide +kernel
theorem dX6_layersHeld_31 : decode cX6_layersHeld 31 = .ok (.ireturn, 1) := by decide +kernel
theorem dX6_isLit_0 : decode cX6_isLit 0 = .ok (.aload_n 0, 1) := by decide +kernel
theorem dX6_isLit_1 : decode cX6_isLit 1 = .ok (.aload_n 1, 1) := by decide +kernel
theorem dX6_isLit_2 : decode cX6_isLit 2 = .ok (.invokevirtual 33, 3) := by decide +kernel
theorem dX6_isLit_5 : decode cX6_isLit 5 = .ok (.invokestatic 37, 3) := by decide +kernel
theorem dX6_isLit_8 : decode cX6_isLit 8 = .ok (.aload_n 0, 1) := by decide +kernel
theorem dX6_isLit_9 : decode cX6_isLit 9 = .ok (.getfield 18, 3) := by decide +kernel
theorem dX6_isLit_12 : decode cX6_isLit 12 = .ok (.if_icmp .lt 7, 3) := by decide +kernel
theorem dX6_isLit_15 : decode cX6_isLit 15 = .ok (.iconst 1, 1) := by decide +kernel
theorem dX6_isLit_16 : decode cX6_isLit 16 = .ok (.goto 4, 3) := by decide +kernel
theorem dX6_isLit_19 : decode cX6_isLit 19 = .ok (.iconst 0, 1) := by decide +kernel
theorem dX6_isLit_20 : decode cX6_isLit 20 = .ok (.ireturn, 1) := by decide +kernel
theorem dX7_init_0 : decode cX7_init 0 = .ok (.aload_n 0, 1) := by decide +kernel
theorem dX7_init_1 : decode cX7_init 1 = .ok (.invokespecial 3, 3) := by decide +kernel
theorem dX7_init_4 : decode cX7_init 4 = .ok (.aload_n 0, 1) := by decide +kernel
theorem dX7_init_5 : decode cX7_init 5 = .ok (.bipush 20, 2) := by decide +kernel
theorem dX7_init_7 : decode cX7_init 7 = .ok (.newarray .int, 2) := by decide +kernel
theorem dX7_init_9 : decode cX7_init 9 = .ok (.putfield 9, 3) := by decide +kernel
theorem dX7_init_12 : decode cX7_init 12 = .ok (.return_, 1) := by decide +kernel
theorem dX7_lay_0 : decode cX7_lay 0 = .ok (.aload_n 0, 1) := by decide +kernel
theorem dX7_lay_1 : decode cX7_lay 1 = .ok (.iconst 1, 1) := by decide +kernel
theorem dX7_lay_2 : decode cX7_lay 2 = .ok (.putfield 15, 3) := by decide +kernel
theorem dX7_lay_5 : decode cX7_lay 5 = .ok (.aload_n 0, 1) := by decide +kernel
theorem dX7_lay_6 : decode cX7_lay 6 = .ok (.iload_n 1, 1) := by decide +kernel
theorem dX7_lay_7 : decode cX7_lay 7 = .ok (.putfield 19, 3) := by decide +kernel
theorem dX7_lay_10 : decode cX7_lay 10 = .ok (.aload_n 0, 1) := by decide +kernel
theorem dX7_lay_11 : decode cX7_lay 11 = .ok (.iload_n 2, 1) := by decide +kernel
theorem dX7_lay_12 : decode cX7_lay 12 = .ok (.putfield 23, 3) := by decide +kernel
theorem dX7_lay_15 : decode cX7_lay 15 = .ok (.iconst 0, 1) := by decide +kernel
theorem dX7_lay_16 : decode cX7_lay 16 = .ok (.istore_n 3, 1) := by decide +kernel
theorem dX7_lay_17 : decode cX7_lay 17 = .ok (.iload_n 3, 1) := by decide +kernel
theorem dX7_lay_18 : decode cX7_lay 18 = .ok (.bipush 20, 2) := by decide +kernel
theorem dX7_lay_20 : decode cX7_lay 20 = .ok (.if_icmp .ge 16, 3) := by decide +kernel
theorem dX7_lay_23 : decode cX7_lay 23 = .ok (.aload_n 0, 1) := by decide +kernel
theorem dX7_lay_24 : decode cX7_lay 24 = .ok (.getfield 9, 3) := by decide +kernel
theorem dX7_lay_27 : decode cX7_lay 27 = .ok (.iload_n 3, 1) := by decide +kernel
theorem dX7_lay_28 : decode cX7_lay 28 = .ok (.iconst 0, 1) := by decide +kernel
theorem dX7_lay_29 : decode cX7_lay 29 = .ok (.iastore, 1) := by decide +kernel
theorem dX7_lay_30 : decode cX7_lay 30 = .ok (.iinc 3 1, 3) := by decide +kernel
theorem dX7_lay_33 : decode cX7_lay 33 = .ok (.goto (-16), 3) := by decide +kernel
theorem dX7_lay_36 : decode cX7_lay 36 = .ok (.return_, 1) := by decide +kernel
theorem dX7_has_0 : decode cX7_has 0 = .ok (.iload_n 1, 1) := by decide +kernel
theorem dX7_has_1 : decode cX7_has 1 = .ok (.ifCond .lt 21, 3) := by decide +kernel
theorem dX7_has_4 : decode cX7_has 4 = .ok (.iload_n 1, 1) := by decide +kernel
theorem dX7_has_5 : decode cX7_has 5 = .ok (.aload_n 0, 1) := by decide +kernel
theorem dX7_has_6 : decode cX7_has 6 = .ok (.getfield 23, 3) := by decide +kernel
theorem dX7_has_9 : decode cX7_has 9 = .ok (.if_icmp .ge 13, 3) := by decide +kernel
theorem dX7_has_12 : decode cX7_has 12 = .ok (.iload_n 1, 1) := by decide +kernel
theorem dX7_has_13 : decode cX7_has 13 = .ok (.bipush 20, 2) := by decide +kernel
theorem dX7_has_15 : decode cX7_has 15 = .ok (.if_icmp .ge 7, 3) := by decide +kernel
theorem dX7_has_18 : decode cX7_has 18 = .ok (.iconst 1, 1) := by decide +kernel
theorem dX7_has_19 : decode cX7_has 19 = .ok (.goto 4, 3) := by decide +kernel
theorem dX7_has_22 : decode cX7_has 22 = .ok (.iconst 0, 1) := by decide +kernel
theorem dX7_has_23 : decode cX7_has 23 = .ok (.ireturn, 1) := by decide +kernel
theorem dX7_numberAt_0 : decode cX7_numberAt 0 = .ok (.aload_n 0, 1) := by decide +kernel
theorem dX7_numberAt_1 : decode cX7_numberAt 1 = .ok (.iload_n 1, 1) := by decide +kernel
theorem dX7_numberAt_2 : decode cX7_numberAt 2 = .ok (.invokevirtual 26, 3) := by decide +kernel
theorem dX7_numberAt_5 : decode cX7_numberAt 5 = .ok (.ifCond .eq 12, 3) := by decide +kernel
theorem dX7_numberAt_8 : decode cX7_numberAt 8 = .ok (.aload_n 0, 1) := by decide +kernel
theorem dX7_numberAt_9 : decode cX7_numberAt 9 = .ok (.getfield 9, 3) := by decide +kernel
theorem dX7_numberAt_12 : decode cX7_numberAt 12 = .ok (.iload_n 1, 1) := by decide +kernel
theorem dX7_numberAt_13 : decode cX7_numberAt 13 = .ok (.iaload, 1) := by decide +kernel
theorem dX7_numberAt_14 : decode cX7_numberAt 14 = .ok (.goto 4, 3) := by decide +kernel
theorem dX7_numberAt_17 : decode cX7_numberAt 17 = .ok (.iconst 0, 1) := by decide +kernel
theorem dX7_numberAt_18 : decode cX7_numberAt 18 = .ok (.ireturn, 1) := by decide +kernel
theorem dX7_put_0 : decode cX7_put 0 = .ok (.aload_n 0, 1) := by decide +kernel
theorem dX7_put_1 : decode cX7_put 1 = .ok (.iload_n 1, 1) := by decide +kernel
theorem dX7_put_2 : decode cX7_put 2 = .ok (.invokevirtual 26, 3) := by decide +kernel
theorem dX7_put_5 : decode cX7_put 5 = .ok (.ifCond .ne 4, 3) := by decide +kernel
theorem dX7_put_8 : decode cX7_put 8 = .ok (.return_, 1) := by decide +kernel
theorem dX7_put_9 : decode cX7_put 9 = .ok (.aload_n 0, 1) := by decide +kernel
theorem dX7_put_10 : decode cX7_put 10 = .ok (.getfield 19, 3) := by decide +kernel
theorem dX7_put_13 : decode cX7_put 13 = .ok (.ifCond .ne 14, 3) := by decide +kernel
theorem dX7_put_16 : decode cX7_put 16 = .ok (.aload_n 0, 1) := by decide +kernel
theorem dX7_put_17 : decode cX7_put 17 = .ok (.getfield 9, 3) := by decide +kernel
theorem dX7_put_20 : decode cX7_put 20 = .ok (.iload_n 1, 1) := by decide +kernel
theorem dX7_put_21 : decode cX7_put 21 = .ok (.iload_n 2, 1) := by decide +kernel
theorem dX7_put_22 : decode cX7_put 22 = .ok (.i2b, 1) := by decide +kernel
theorem dX7_put_23 : decode cX7_put 23 = .ok (.iastore, 1) := by decide +kernel
theorem dX7_put_24 : decode cX7_put 24 = .ok (.goto 29, 3) := by decide +kernel
theorem dX7_put_27 : decode cX7_put 27 = .ok (.aload_n 0, 1) := by decide +kernel
theorem dX7_put_28 : decode cX7_put 28 = .ok (.getfield 19, 3) := by decide +kernel
theorem dX7_put_31 : decode cX7_put 31 = .ok (.iconst 1, 1) := by decide +kernel
theorem dX7_put_32 : decode cX7_put 32 = .ok (.if_icmp .ne 14, 3) := by decide +kernel
theorem dX7_put_35 : decode cX7_put 35 = .ok (.aload_n 0, 1) := by decide +kernel
theorem dX7_put_36 : decode cX7_put 36 = .ok (.getfield 9, 3) := by decide +kernel
theorem dX7_put_39 : decode cX7_put 39 = .ok (.iload_n 1, 1) := by decide +kernel
theorem dX7_put_40 : decode cX7_put 40 = .ok (.iload_n 2, 1) := by decide +kernel
theorem dX7_put_41 : decode cX7_put 41 = .ok (.i2s, 1) := by decide +kernel
theorem dX7_put_42 : decode cX7_put 42 = .ok (.iastore, 1) := by decide +kernel
theorem dX7_put_43 : decode cX7_put 43 = .ok (.goto 10, 3) := by decide +kernel
theorem dX7_put_46 : decode cX7_put 46 = .ok (.aload_n 0, 1) := by decide +kernel
theorem dX7_put_47 : decode cX7_put 47 = .ok (.getfield 9, 3) := by decide +kernel
theorem dX7_put_50 : decode cX7_put 50 = .ok (.iload_n 1, 1) := by decide +kernel
theorem dX7_put_51 : decode cX7_put 51 = .ok (.iload_n 2, 1) := by decide +kernel
theorem dX7_put_52 : decode cX7_put 52 = .ok (.iastore, 1) := by decide +kernel
theorem dX7_put_53 : decode cX7_put 53 = .ok (.return_, 1) := by decide +kernel
theorem dX8_init_0 : decode cX8_init 0 = .ok (.aload_n 0, 1) := by decide +kernel
theorem dX8_init_1 : decode cX8_init 1 = .ok (.invokespecial 3, 3) := by decide +kernel
theorem dX8_init_4 : decode cX8_init 4 = .ok (.aload_n 0, 1) := by decide +kernel
theorem dX8_init_5 : decode cX8_init 5 = .ok (.bipush 60, 2) := by decide +kernel
theorem dX8_init_7 : decode cX8_init 7 = .ok (.newarray .char, 2) := by decide +kernel
theorem dX8_init_9 : decode cX8_init 9 = .ok (.putfield 9, 3) := by decide +kernel
theorem dX8_init_12 : decode cX8_init 12 = .ok (.return_, 1) := by decide +kernel
theorem dX8_put_0 : decode cX8_put 0 = .ok (.aload_n 0, 1) := by decide +kernel
theorem dX8_put_1 : decode cX8_put 1 = .ok (.getfield 15, 3) := by decide +kernel
theorem dX8_put_4 : decode cX8_put 4 = .ok (.bipush 60, 2) := by decide +kernel
theorem dX8_put_6 : decode cX8_put 6 = .ok (.if_icmp .ge 23, 3) := by decide +kernel
theorem dX8_put_9 : decode cX8_put 9 = .ok (.aload_n 0, 1) := by decide +kernel
theorem dX8_put_10 : decode cX8_put 10 = .ok (.getfield 9, 3) := by decide +kernel
theorem dX8_put_13 : decode cX8_put 13 = .ok (.aload_n 0, 1) := by decide +kernel
theorem dX8_put_14 : decode cX8_put 14 = .ok (.getfield 15, 3) := by decide +kernel
theorem dX8_put_17 : decode cX8_put 17 = .ok (.iload_n 1, 1) := by decide +kernel
theorem dX8_put_18 : decode cX8_put 18 = .ok (.castore, 1) := by decide +kernel
theorem dX8_put_19 : decode cX8_put 19 = .ok (.aload_n 0, 1) := by decide +kernel
theorem dX8_put_20 : decode cX8_put 20 = .ok (.dup, 1) := by decide +kernel
theorem dX8_put_21 : decode cX8_put 21 = .ok (.getfield 15, 3) := by decide +kernel
theorem dX8_put_24 : decode cX8_put 24 = .ok (.iconst 1, 1) := by decide +kernel
theorem dX8_put_25 : decode cX8_put 25 = .ok (.iadd, 1) := by decide +kernel
theorem dX8_put_26 : decode cX8_put 26 = .ok (.putfield 15, 3) := by decide +kernel
theorem dX8_put_29 : decode cX8_put 29 = .ok (.return_, 1) := by decide +kernel
theorem dX8_copy_0 : decode cX8_copy 0 = .ok (.aload_n 0, 1) := by decide +kernel
theorem dX8_copy_1 : decode cX8_copy 1 = .ok (.iconst 0, 1) := by decide +kernel
theorem dX8_copy_2 : decode cX8_copy 2 = .ok (.putfield 15, 3) := by decide +kernel
theorem dX8_copy_5 : decode cX8_copy 5 = .ok (.iconst 0, 1) := by decide +kernel
theorem dX8_copy_6 : decode cX8_copy 6 = .ok (.istore_n 2, 1) := by decide +kernel
theorem dX8_copy_7 : decode cX8_copy 7 = .ok (.iload_n 2, 1) := by decide +kernel
theorem dX8_copy_8 : decode cX8_copy 8 = .ok (.aload_n 1, 1) := by decide +kernel
theorem dX8_copy_9 : decode cX8_copy 9 = .ok (.getfield 15, 3) := by decide +kernel
theorem dX8_copy_12 : decode cX8_copy 12 = .ok (.if_icmp .ge 19, 3) := by decide +kernel
theorem dX8_copy_15 : decode cX8_copy 15 = .ok (.aload_n 0, 1) := by decide +kernel
theorem dX8_copy_16 : decode cX8_copy 16 = .ok (.aload_n 1, 1) := by decide +kernel
theorem dX8_copy_17 : decode cX8_copy 17 = .ok (.getfield 9, 3) := by decide +kernel
theorem dX8_copy_20 : decode cX8_copy 20 = .ok (.iload_n 2, 1) := by decide +kernel
theorem dX8_copy_21 : decode cX8_copy 21 = .ok (.caload, 1) := by decide +kernel
theorem dX8_copy_22 : decode cX8_copy 22 = .ok (.invokevirtual 19, 3) := by decide +kernel
theorem dX8_copy_25 : decode cX8_copy 25 = .ok (.iinc 2 1, 3) := by decide +kernel
theorem dX8_copy_28 : decode cX8_copy 28 = .ok (.goto (-21), 3) := by decide +kernel
theorem dX8_copy_31 : decode cX8_copy 31 = .ok (.return_, 1) := by decide +kernel
theorem dX8_letterAt_0 : decode cX8_letterAt 0 = .ok (.iload_n 1, 1) := by decide +kernel
theorem dX8_letterAt_1 : decode cX8_letterAt 1 = .ok (.ifCond .lt 11, 3) := by decide +kernel
theorem dX8_letterAt_4 : decode cX8_letterAt 4 = .ok (.iload_n 1, 1) := by decide +kernel
theorem dX8_letterAt_5 : decode cX8_letterAt 5 = .ok (.aload_n 0, 1) := by decide +kernel
theorem dX8_letterAt_6 : decode cX8_letterAt 6 = .ok (.getfield 15, 3) := by decide +kernel
theorem dX8_letterAt_9 : decode cX8_letterAt 9 = .ok (.if_icmp .lt 7, 3) := by decide +kernel
theorem dX8_letterAt_12 : decode cX8_letterAt 12 = .ok (.iconst (-1), 1) := by decide +kernel
theorem dX8_letterAt_13 : decode cX8_letterAt 13 = .ok (.goto 9, 3) := by decide +kernel
theorem dX8_letterAt_16 : decode cX8_letterAt 16 = .ok (.aload_n 0, 1) := by decide +kernel
theorem dX8_letterAt_17 : decode cX8_letterAt 17 = .ok (.getfield 9, 3) := by decide +kernel
theorem dX8_letterAt_20 : decode cX8_letterAt 20 = .ok (.iload_n 1, 1) := by decide +kernel
theorem dX8_letterAt_21 : decode cX8_letterAt 21 = .ok (.caload, 1) := by decide +kernel
theorem dX8_letterAt_22 : decode cX8_letterAt 22 = .ok (.ireturn, 1) := by decide +kernel
end
section
theorem dX9_init_0 : decode cX9_init 0 = .ok (.aload_n 0, 1) := by decide +kernel
theorem dX9_init_1 : decode cX9_init 1 = .ok (.invokespecial 1, 3) := by decide +kernel
theorem dX9_init_4 : decode cX9_init 4 = .ok (.aload_n 0, 1) := by decide +kernel
theorem dX9_init_5 : decode cX9_init 5 = .ok (.iconst 3, 1) := by decide +kernel
theorem dX9_init_6 : decode cX9_init 6 = .ok (.anewarray 7, 3) := by decide +kernel
theorem dX9_init_9 : decode cX9_init 9 = .ok (.dup, 1) := by decide +kernel
theorem dX9_init_10 : decode cX9_init 10 = .ok (.iconst 0, 1) := by decide +kernel
theorem dX9_init_11 : decode cX9_init 11 = .ok (.new 7, 3) := by decide +kernel
theorem dX9_init_14 : decode cX9_init 14 = .ok (.dup, 1) := by decide +kernel
theorem dX9_init_15 : decode cX9_init 15 = .ok (.invokespecial 9, 3) := by decide +kernel
theorem dX9_init_18 : decode cX9_init 18 = .ok (.aastore, 1) := by decide +kernel
theorem dX9_init_19 : decode cX9_init 19 = .ok (.dup, 1) := by decide +kernel
theorem dX9_init_20 : decode cX9_init 20 = .ok (.iconst 1, 1) := by decide +kernel
theorem dX9_init_21 : decode cX9_init 21 = .ok (.new 7, 3) := by decide +kernel
theorem dX9_init_24 : decode cX9_init 24 = .ok (.dup, 1) := by decide +kernel
theorem dX9_init_25 : decode cX9_init 25 = .ok (.invokespecial 9, 3) := by decide +kernel
theorem dX9_init_28 : decode cX9_init 28 = .ok (.aastore, 1) := by decide +kernel
theorem dX9_init_29 : decode cX9_init 29 = .ok (.dup, 1) := by decide +kernel
theorem dX9_init_30 : decode cX9_init 30 = .ok (.iconst 2, 1) := by decide +kernel
theorem dX9_init_31 : decode cX9_init 31 = .ok (.new 7, 3) := by decide +kernel
theorem dX9_init_34 : decode cX9_init 34 = .ok (.dup, 1) := by decide +kernel
theorem dX9_init_35 : decode cX9_init 35 = .ok (.invokespecial 9, 3) := by decide +kernel
theorem dX9_init_38 : decode cX9_init 38 = .ok (.aastore, 1) := by decide +kernel
theorem dX9_init_39 : decode cX9_init 39 = .ok (.putfield 10, 3) := by decide +kernel
theorem dX9_init_42 : decode cX9_init 42 = .ok (.aload_n 0, 1) := by decide +kernel
theorem dX9_init_43 : decode cX9_init 43 = .ok (.iconst 5, 1) := by decide +kernel
theorem dX9_init_44 : decode cX9_init 44 = .ok (.newarray .int, 2) := by decide +kernel
theorem dX9_init_46 : decode cX9_init 46 = .ok (.putfield 16, 3) := by decide +kernel
theorem dX9_init_49 : decode cX9_init 49 = .ok (.aload_n 0, 1) := by decide +kernel
theorem dX9_init_50 : decode cX9_init 50 = .ok (.iconst 5, 1) := by decide +kernel
theorem dX9_init_51 : decode cX9_init 51 = .ok (.newarray .int, 2) := by decide +kernel
theorem dX9_init_53 : decode cX9_init 53 = .ok (.putfield 20, 3) := by decide +kernel
theorem dX9_init_56 : decode cX9_init 56 = .ok (.aload_n 0, 1) := by decide +kernel
theorem dX9_init_57 : decode cX9_init 57 = .ok (.iconst 5, 1) := by decide +kernel
theorem dX9_init_58 : decode cX9_init 58 = .ok (.newarray .int, 2) := by decide +kernel
theorem dX9_init_60 : decode cX9_init 60 = .ok (.putfield 23, 3) := by decide +kernel
theorem dX9_init_63 : decode cX9_init 63 = .ok (.aload_n 0, 1) := by decide +kernel
theorem dX9_init_64 : decode cX9_init 64 = .ok (.new 26, 3) := by decide +kernel
theorem dX9_init_67 : decode cX9_init 67 = .ok (.dup, 1) := by decide +kernel
theorem dX9_init_68 : decode cX9_init 68 = .ok (.invokespecial 28, 3) := by decide +kernel
theorem dX9_init_71 : decode cX9_init 71 = .ok (.putfield 29, 3) := by decide +kernel
theorem dX9_init_74 : decode cX9_init 74 = .ok (.aload_n 0, 1) := by decide +kernel
theorem dX9_init_75 : decode cX9_init 75 = .ok (.new 33, 3) := by decide +kernel
theorem dX9_init_78 : decode cX9_init 78 = .ok (.dup, 1) := by decide +kernel
theorem dX9_init_79 : decode cX9_init 79 = .ok (.invokespecial 35, 3) := by decide +kernel
theorem dX9_init_82 : decode cX9_init 82 = .ok (.putfield 36, 3) := by decide +kernel
theorem dX9_init_85 : decode cX9_init 85 = .ok (.aload_n 0, 1) := by decide +kernel
theorem dX9_init_86 : decode cX9_init 86 = .ok (.new 40, 3) := by decide +kernel
theorem dX9_init_89 : decode cX9_init 89 = .ok (.dup, 1) := by decide +kernel
theorem dX9_init_90 : decode cX9_init 90 = .ok (.invokespecial 42, 3) := by decide +kernel
theorem dX9_init_93 : decode cX9_init 93 = .ok (.putfield 43, 3) := by decide +kernel
theorem dX9_init_96 : decode cX9_init 96 = .ok (.aload_n 0, 1) := by decide +kernel
theorem dX9_init_97 : decode cX9_init 97 = .ok (.new 47, 3) := by decide +kernel
theorem dX9_init_100 : decode cX9_init 100 = .ok (.dup, 1) := by decide +kernel
theorem dX9_init_101 : decode cX9_init 101 = .ok (.invokespecial 49, 3) := by decide +kernel
theorem dX9_init_104 : decode cX9_init 104 = .ok (.putfield 50, 3) := by decide +kernel
theorem dX9_init_107 : decode cX9_init 107 = .ok (.aload_n 0, 1) := by decide +kernel
theorem dX9_init_108 : decode cX9_init 108 = .ok (.new 26, 3) := by decide +kernel
theorem dX9_init_111 : decode cX9_init 111 = .ok (.dup, 1) := by decide +kernel
theorem dX9_init_112 : decode cX9_init 112 = .ok (.invokespecial 28, 3) := by decide +kernel
theorem dX9_init_115 : decode cX9_init 115 = .ok (.putfield 54, 3) := by decide +kernel
theorem dX9_init_118 : decode cX9_init 118 = .ok (.aload_n 0, 1) := by decide +kernel
theorem dX9_init_119 : decode cX9_init 119 = .ok (.new 57, 3) := by decide +kernel
theorem dX9_init_122 : decode cX9_init 122 = .ok (.dup, 1) := by decide +kernel
theorem dX9_init_123 : decode cX9_init 123 = .ok (.invokespecial 59, 3) := by decide +kernel
theorem dX9_init_126 : decode cX9_init 126 = .ok (.putfield 60, 3) := by decide +kernel
theorem dX9_init_129 : decode cX9_init 129 = .ok (.aload_n 0, 1) := by decide +kernel
theorem dX9_init_130 : decode cX9_init 130 = .ok (.iconst 5, 1) := by decide +kernel
theorem dX9_init_131 : decode cX9_init 131 = .ok (.newarray .int, 2) := by decide +kernel
theorem dX9_init_133 : decode cX9_init 133 = .ok (.putfield 64, 3) := by decide +kernel
theorem dX9_init_136 : decode cX9_init 136 = .ok (.return_, 1) := by decide +kernel
theorem dX9_sheet_0 : decode cX9_sheet 0 = .ok (.aload_n 0, 1) := by decide +kernel
theorem dX9_sheet_1 : decode cX9_sheet 1 = .ok (.iload_n 1, 1) := by decide +kernel
theorem dX9_sheet_2 : decode cX9_sheet 2 = .ok (.invokevirtual 67, 3) := by decide +kernel
theorem dX9_sheet_5 : decode cX9_sheet 5 = .ok (.astore 4, 2) := by decide +kernel
theorem dX9_sheet_7 : decode cX9_sheet 7 = .ok (.aload 4, 2) := by decide +kernel
theorem dX9_sheet_9 : decode cX9_sheet 9 = .ok (.ifnull 12, 3) := by decide +kernel
theorem dX9_sheet_12 : decode cX9_sheet 12 = .ok (.iload_n 2, 1) := by decide +kernel
theorem dX9_sheet_13 : decode cX9_sheet 13 = .ok (.ifCond .lt 8, 3) := by decide +kernel
theorem dX9_sheet_16 : decode cX9_sheet 16 = .ok (.iload_n 2, 1) := by decide +kernel
theorem dX9_sheet_17 : decode cX9_sheet 17 = .ok (.iconst 2, 1) := by decide +kernel
theorem dX9_sheet_18 : decode cX9_sheet 18 = .ok (.if_icmp .le 5, 3) := by decide +kernel
theorem dX9_sheet_21 : decode cX9_sheet 21 = .ok (.iconst (-1), 1) := by decide +kernel
theorem dX9_sheet_22 : decode cX9_sheet 22 = .ok (.ireturn, 1) := by decide +kernel
theorem dX9_sheet_23 : decode cX9_sheet 23 = .ok (.iload_n 3, 1) := by decide +kernel
theorem dX9_sheet_24 : decode cX9_sheet 24 = .ok (.ifCond .ge 6, 3) := by decide +kernel
theorem dX9_sheet_27 : decode cX9_sheet 27 = .ok (.bipush (-4), 2) := by decide +kernel
theorem dX9_sheet_29 : decode cX9_sheet 29 = .ok (.ireturn, 1) := by decide +kernel
theorem dX9_sheet_30 : decode cX9_sheet 30 = .ok (.iload_n 3, 1) := by decide +kernel
theorem dX9_sheet_31 : decode cX9_sheet 31 = .ok (.bipush 20, 2) := by decide +kernel
theorem dX9_sheet_33 : decode cX9_sheet 33 = .ok (.if_icmp .le 5, 3) := by decide +kernel
theorem dX9_sheet_36 : decode cX9_sheet 36 = .ok (.iconst (-1), 1) := by decide +kernel
theorem dX9_sheet_37 : decode cX9_sheet 37 = .ok (.ireturn, 1) := by decide +kernel
theorem dX9_sheet_38 : decode cX9_sheet 38 = .ok (.aload 4, 2) := by decide +kernel
theorem dX9_sheet_40 : decode cX9_sheet 40 = .ok (.iload_n 2, 1) := by decide +kernel
theorem dX9_sheet_41 : decode cX9_sheet 41 = .ok (.iload_n 3, 1) := by decide +kernel
theorem dX9_sheet_42 : decode cX9_sheet 42 = .ok (.invokevirtual 71, 3) := by decide +kernel
theorem dX9_sheet_45 : decode cX9_sheet 45 = .ok (.iconst 1, 1) := by decide +kernel
theorem dX9_sheet_46 : decode cX9_sheet 46 = .ok (.ireturn, 1) := by decide +kernel
theorem dX9_cell_0 : decode cX9_cell 0 = .ok (.aload_n 0, 1) := by decide +kernel
theorem dX9_cell_1 : decode cX9_cell 1 = .ok (.iload_n 1, 1) := by decide +kernel
theorem dX9_cell_2 : decode cX9_cell 2 = .ok (.invokevirtual 67, 3) := by decide +kernel
theorem dX9_cell_5 : decode cX9_cell 5 = .ok (.astore 4, 2) := by decide +kernel
theorem dX9_cell_7 : decode cX9_cell 7 = .ok (.aload 4, 2) := by decide +kernel
theorem dX9_cell_9 : decode cX9_cell 9 = .ok (.ifnonnull 5, 3) := by decide +kernel
theorem dX9_cell_12 : decode cX9_cell 12 = .ok (.iconst (-1), 1) := by decide +kernel
theorem dX9_cell_13 : decode cX9_cell 13 = .ok (.ireturn, 1) := by decide +kernel
theorem dX9_cell_14 : decode cX9_cell 14 = .ok (.aload 4, 2) := by decide +kernel
theorem dX9_cell_16 : decode cX9_cell 16 = .ok (.getfield 75, 3) := by decide +kernel
theorem dX9_cell_19 : decode cX9_cell 19 = .ok (.ifCond .ne 6, 3) := by decide +kernel
theorem dX9_cell_22 : decode cX9_cell 22 = .ok (.bipush (-3), 2) := by decide +kernel
theorem dX9_cell_24 : decode cX9_cell 24 = .ok (.ireturn, 1) := by decide +kernel
theorem dX9_cell_25 : decode cX9_cell 25 = .ok (.aload 4, 2) := by decide +kernel
theorem dX9_cell_27 : decode cX9_cell 27 = .ok (.iload_n 2, 1) := by decide +kernel
theorem dX9_cell_28 : decode cX9_cell 28 = .ok (.invokevirtual 79, 3) := by decide +kernel
theorem dX9_cell_31 : decode cX9_cell 31 = .ok (.ifCond .ne 5, 3) := by decide +kernel
theorem dX9_cell_34 : decode cX9_cell 34 = .ok (.iconst (-1), 1) := by decide +kernel
theorem dX9_cell_35 : decode cX9_cell 35 = .ok (.ireturn, 1) := by decide +kernel
theorem dX9_cell_36 : decode cX9_cell 36 = .ok (.aload 4, 2) := by decide +kernel
theorem dX9_cell_38 : decode cX9_cell 38 = .ok (.iload_n 2, 1) := by decide +kernel
theorem dX9_cell_39 : decode cX9_cell 39 = .ok (.iload_n 3, 1) := by decide +kernel
theorem dX9_cell_40 : decode cX9_cell 40 = .ok (.invokevirtual 83, 3) := by decide +kernel
theorem dX9_cell_43 : decode cX9_cell 43 = .ok (.iconst 1, 1) := by decide +kernel
theorem dX9_cell_44 : decode cX9_cell 44 = .ok (.ireturn, 1) := by decide +kernel
theorem dX9_lose_0 : decode cX9_lose 0 = .ok (.aload_n 0, 1) := by decide +kernel
theorem dX9_lose_1 : decode cX9_lose 1 = .ok (.iload_n 1, 1) := by decide +kernel
theorem dX9_lose_2 : decode cX9_lose 2 = .ok (.invokevirtual 67, 3) := by decide +kernel
theorem dX9_lose_5 : decode cX9_lose 5 = .ok (.astore_n 2, 1) := by decide +kernel
theorem dX9_lose_6 : decode cX9_lose 6 = .ok (.aload_n 2, 1) := by decide +kernel
theorem dX9_lose_7 : decode cX9_lose 7 = .ok (.ifnonnull 5, 3) := by decide +kernel
theorem dX9_lose_10 : decode cX9_lose 10 = .ok (.iconst (-1), 1) := by decide +kernel
theorem dX9_lose_11 : decode cX9_lose 11 = .ok (.ireturn, 1) := by decide +kernel
theorem dX9_lose_12 : decode cX9_lose 12 = .ok (.aload_n 2, 1) := by decide +kernel
theorem dX9_lose_13 : decode cX9_lose 13 = .ok (.getfield 75, 3) := by decide +kernel
theorem dX9_lose_16 : decode cX9_lose 16 = .ok (.ifCond .ne 6, 3) := by decide +kernel
theorem dX9_lose_19 : decode cX9_lose 19 = .ok (.bipush (-3), 2) := by decide +kernel
theorem dX9_lose_21 : decode cX9_lose 21 = .ok (.ireturn, 1) := by decide +kernel
theorem dX9_lose_22 : decode cX9_lose 22 = .ok (.aload_n 2, 1) := by decide +kernel
theorem dX9_lose_23 : decode cX9_lose 23 = .ok (.iconst 0, 1) := by decide +kernel
theorem dX9_lose_24 : decode cX9_lose 24 = .ok (.putfield 75, 3) := by decide +kernel
theorem dX9_lose_27 : decode cX9_lose 27 = .ok (.iconst 1, 1) := by decide +kernel
theorem dX9_lose_28 : decode cX9_lose 28 = .ok (.ireturn, 1) := by decide +kernel
theorem dX9_hits_0 : decode cX9_hits 0 = .ok (.iload_n 1, 1) := by decide +kernel
theorem dX9_hits_1 : decode cX9_hits 1 = .ok (.invokestatic 86, 3) := by decide +kernel
theorem dX9_hits_4 : decode cX9_hits 4 = .ok (.ifCond .eq 10, 3) := by decide +kernel
theorem dX9_hits_7 : decode cX9_hits 7 = .ok (.iload_n 2, 1) := by decide +kernel
theorem dX9_hits_8 : decode cX9_hits 8 = .ok (.invokestatic 89, 3) := by decide +kernel
theorem dX9_hits_11 : decode cX9_hits 11 = .ok (.ifCond .ne 5, 3) := by decide +kernel
theorem dX9_hits_14 : decode cX9_hits 14 = .ok (.iconst (-1), 1) := by decide +kernel
theorem dX9_hits_15 : decode cX9_hits 15 = .ok (.ireturn, 1) := by decide +kernel
theorem dX9_hits_16 : decode cX9_hits 16 = .ok (.aload_n 0, 1) := by decide +kernel
theorem dX9_hits_17 : decode cX9_hits 17 = .ok (.getfield 16, 3) := by decide +kernel
theorem dX9_hits_20 : decode cX9_hits 20 = .ok (.iload_n 1, 1) := by decide +kernel
theorem dX9_hits_21 : decode cX9_hits 21 = .ok (.iload_n 2, 1) := by decide +kernel
theorem dX9_hits_22 : decode cX9_hits 22 = .ok (.iastore, 1) := by decide +kernel
theorem dX9_hits_23 : decode cX9_hits 23 = .ok (.iload_n 2, 1) := by decide +kernel
theorem dX9_hits_24 : decode cX9_hits 24 = .ok (.invokestatic 92, 3) := by decide +kernel
theorem dX9_hits_27 : decode cX9_hits 27 = .ok (.ireturn, 1) := by decide +kernel
theorem dX9_load_0 : decode cX9_load 0 = .ok (.aload_n 0, 1) := by decide +kernel
theorem dX9_load_1 : decode cX9_load 1 = .ok (.iload_n 1, 1) := by decide +kernel
theorem dX9_load_2 : decode cX9_load 2 = .ok (.invokevirtual 67, 3) := by decide +kernel
theorem dX9_load_5 : decode cX9_load 5 = .ok (.astore_n 3, 1) := by decide +kernel
theorem dX9_load_6 : decode cX9_load 6 = .ok (.aload_n 3, 1) := by decide +kernel
theorem dX9_load_7 : decode cX9_load 7 = .ok (.ifnull 7, 3) := by decide +kernel
theorem dX9_load_10 : decode cX9_load 10 = .ok (.iload_n 2, 1) := by decide +kernel
theorem dX9_load_11 : decode cX9_load 11 = .ok (.ifCond .ge 5, 3) := by decide +kernel
theorem dX9_load_14 : decode cX9_load 14 = .ok (.iconst (-1), 1) := by decide +kernel
theorem dX9_load_15 : decode cX9_load 15 = .ok (.ireturn, 1) := by decide +kernel
theorem dX9_load_16 : decode cX9_load 16 = .ok (.aload_n 3, 1) := by decide +kernel
theorem dX9_load_17 : decode cX9_load 17 = .ok (.getfield 75, 3) := by decide +kernel
theorem dX9_load_20 : decode cX9_load 20 = .ok (.ifCond .ne 6, 3) := by decide +kernel
theorem dX9_load_23 : decode cX9_load 23 = .ok (.bipush (-3), 2) := by decide +kernel
theorem dX9_load_25 : decode cX9_load 25 = .ok (.ireturn, 1) := by decide +kernel
theorem dX9_load_26 : decode cX9_load 26 = .ok (.iconst 0, 1) := by decide +kernel
theorem dX9_load_27 : decode cX9_load 27 = .ok (.istore 4, 2) := by decide +kernel
theorem dX9_load_29 : decode cX9_load 29 = .ok (.iload 4, 2) := by decide +kernel
theorem dX9_load_31 : decode cX9_load 31 = .ok (.iconst 5, 1) := by decide +kernel
theorem dX9_load_32 : decode cX9_load 32 = .ok (.if_icmp .ge 27, 3) := by decide +kernel
theorem dX9_load_35 : decode cX9_load 35 = .ok (.aload_n 0, 1) := by decide +kernel
theorem dX9_load_36 : decode cX9_load 36 = .ok (.getfield 16, 3) := by decide +kernel
theorem dX9_load_39 : decode cX9_load 39 = .ok (.iload 4, 2) := by decide +kernel
theorem dX9_load_41 : decode cX9_load 41 = .ok (.aload_n 3, 1) := by decide +kernel
theorem dX9_load_42 : decode cX9_load 42 = .ok (.iload_n 2, 1) := by decide +kernel
theorem dX9_load_43 : decode cX9_load 43 = .ok (.iload 4, 2) := by decide +kernel
theorem dX9_load_45 : decode cX9_load 45 = .ok (.iadd, 1) := by decide +kernel
theorem dX9_load_46 : decode cX9_load 46 = .ok (.invokevirtual 98, 3) := by decide +kernel
theorem dX9_load_49 : decode cX9_load 49 = .ok (.ldc 101, 2) := by decide +kernel
theorem dX9_load_51 : decode cX9_load 51 = .ok (.iand, 1) := by decide +kernel
theorem dX9_load_52 : decode cX9_load 52 = .ok (.iastore, 1) := by decide +kernel
theorem dX9_load_53 : decode cX9_load 53 = .ok (.iinc 4 1, 3) := by decide +kernel
theorem dX9_load_56 : decode cX9_load 56 = .ok (.goto (-27), 3) := by decide +kernel
theorem dX9_load_59 : decode cX9_load 59 = .ok (.aload_n 0, 1) := by decide +kernel
theorem dX9_load_60 : decode cX9_load 60 = .ok (.getfield 16, 3) := by decide +kernel
theorem dX9_load_63 : decode cX9_load 63 = .ok (.invokestatic 102, 3) := by decide +kernel
theorem dX9_load_66 : decode cX9_load 66 = .ok (.ireturn, 1) := by decide +kernel
theorem dX9_mask_0 : decode cX9_mask 0 = .ok (.iload_n 1, 1) := by decide +kernel
theorem dX9_mask_1 : decode cX9_mask 1 = .ok (.invokestatic 86, 3) := by decide +kernel
theorem dX9_mask_4 : decode cX9_mask 4 = .ok (.ifCond .eq 19, 3) := by decide +kernel
theorem dX9_mask_7 : decode cX9_mask 7 = .ok (.iload_n 2, 1) := by decide +kernel
theorem dX9_mask_8 : decode cX9_mask 8 = .ok (.ifCond .lt 15, 3) := by decide +kernel
theorem dX9_mask_11 : decode cX9_mask 11 = .ok (.iload_n 2, 1) := by decide +kernel
theorem dX9_mask_12 : decode cX9_mask 12 = .ok (.iconst 1, 1) := by decide +kernel
theorem dX9_mask_13 : decode cX9_mask 13 = .ok (.if_icmp .gt 10, 3) := by decide +kernel
theorem dX9_mask_16 : decode cX9_mask 16 = .ok (.iload_n 3, 1) := by decide +kernel
theorem dX9_mask_17 : decode cX9_mask 17 = .ok (.invokestatic 89, 3) := by decide +kernel
theorem dX9_mask_20 : decode cX9_mask 20 = .ok (.ifCond .ne 5, 3) := by decide +kernel
theorem dX9_mask_23 : decode cX9_mask 23 = .ok (.iconst (-1), 1) := by decide +kernel
theorem dX9_mask_24 : decode cX9_mask 24 = .ok (.ireturn, 1) := by decide +kernel
theorem dX9_mask_25 : decode cX9_mask 25 = .ok (.iload_n 2, 1) := by decide +kernel
theorem dX9_mask_26 : decode cX9_mask 26 = .ok (.ifCond .ne 10, 3) := by decide +kernel
theorem dX9_mask_29 : decode cX9_mask 29 = .ok (.aload_n 0, 1) := by decide +kernel
theorem dX9_mask_30 : decode cX9_mask 30 = .ok (.getfield 20, 3) := by decide +kernel
theorem dX9_mask_33 : decode cX9_mask 33 = .ok (.goto 7, 3) := by decide +kernel
theorem dX9_mask_36 : decode cX9_mask 36 = .ok (.aload_n 0, 1) := by decide +kernel
theorem dX9_mask_37 : decode cX9_mask 37 = .ok (.getfield 23, 3) := by decide +kernel
theorem dX9_mask_40 : decode cX9_mask 40 = .ok (.astore 4, 2) := by decide +kernel
theorem dX9_mask_42 : decode cX9_mask 42 = .ok (.aload 4, 2) := by decide +kernel
theorem dX9_mask_44 : decode cX9_mask 44 = .ok (.iload_n 1, 1) := by decide +kernel
theorem dX9_mask_45 : decode cX9_mask 45 = .ok (.iaload, 1) := by decide +kernel
theorem dX9_mask_46 : decode cX9_mask 46 = .ok (.istore 5, 2) := by decide +kernel
theorem dX9_mask_48 : decode cX9_mask 48 = .ok (.aload 4, 2) := by decide +kernel
theorem dX9_mask_50 : decode cX9_mask 50 = .ok (.iload_n 1, 1) := by decide +kernel
theorem dX9_mask_51 : decode cX9_mask 51 = .ok (.iload_n 3, 1) := by decide +kernel
theorem dX9_mask_52 : decode cX9_mask 52 = .ok (.iastore, 1) := by decide +kernel
theorem dX9_mask_53 : decode cX9_mask 53 = .ok (.iload 5, 2) := by decide +kernel
theorem dX9_mask_55 : decode cX9_mask 55 = .ok (.ireturn, 1) := by decide +kernel
theorem dX9_layer_0 : decode cX9_layer 0 = .ok (.iload_n 1, 1) := by decide +kernel
theorem dX9_layer_1 : decode cX9_layer 1 = .ok (.invokestatic 86, 3) := by decide +kernel
theorem dX9_layer_4 : decode cX9_layer 4 = .ok (.ifCond .ne 5, 3) := by decide +kernel
theorem dX9_layer_7 : decode cX9_layer 7 = .ok (.iconst (-1), 1) := by decide +kernel
theorem dX9_layer_8 : decode cX9_layer 8 = .ok (.ireturn, 1) := by decide +kernel
theorem dX9_layer_9 : decode cX9_layer 9 = .ok (.iload_n 2, 1) := by decide +kernel
theorem dX9_layer_10 : decode cX9_layer 10 = .ok (.tableswitch 76 0 3 #[30, 37, 62, 69], 30) := by decide +kernel
theorem dX9_layer_40 : decode cX9_layer 40 = .ok (.aload_n 0, 1) := by decide +kernel
theorem dX9_layer_41 : decode cX9_layer 41 = .ok (.getfield 16, 3) := by decide +kernel
theorem dX9_layer_44 : decode cX9_layer 44 = .ok (.iload_n 1, 1) := by decide +kernel
theorem dX9_layer_45 : decode cX9_layer 45 = .ok (.iaload, 1) := by decide +kernel
theorem dX9_layer_46 : decode cX9_layer 46 = .ok (.ireturn, 1) := by decide +kernel
theorem dX9_layer_47 : decode cX9_layer 47 = .ok (.aload_n 0, 1) := by decide +kernel
theorem dX9_layer_48 : decode cX9_layer 48 = .ok (.getfield 16, 3) := by decide +kernel
theorem dX9_layer_51 : decode cX9_layer 51 = .ok (.iload_n 1, 1) := by decide +kernel
theorem dX9_layer_52 : decode cX9_layer 52 = .ok (.iaload, 1) := by decide +kernel
theorem dX9_layer_53 : decode cX9_layer 53 = .ok (.aload_n 0, 1) := by decide +kernel
theorem dX9_layer_54 : decode cX9_layer 54 = .ok (.getfield 20, 3) := by decide +kernel
theorem dX9_layer_57 : decode cX9_layer 57 = .ok (.iload_n 1, 1) := by decide +kernel
theorem dX9_layer_58 : decode cX9_layer 58 = .ok (.iaload, 1) := by decide +kernel
theorem dX9_layer_59 : decode cX9_layer 59 = .ok (.iconst (-1), 1) := by decide +kernel
theorem dX9_layer_60 : decode cX9_layer 60 = .ok (.ixor, 1) := by decide +kernel
theorem dX9_layer_61 : decode cX9_layer 61 = .ok (.iand, 1) := by decide +kernel
theorem dX9_layer_62 : decode cX9_layer 62 = .ok (.aload_n 0, 1) := by decide +kernel
theorem dX9_layer_63 : decode cX9_layer 63 = .ok (.getfield 23, 3) := by decide +kernel
theorem dX9_layer_66 : decode cX9_layer 66 = .ok (.iload_n 1, 1) := by decide +kernel
theorem dX9_layer_67 : decode cX9_layer 67 = .ok (.iaload, 1) := by decide +kernel
theorem dX9_layer_68 : decode cX9_layer 68 = .ok (.iconst (-1), 1) := by decide +kernel
theorem dX9_layer_69 : decode cX9_layer 69 = .ok (.ixor, 1) := by decide +kernel
theorem dX9_layer_70 : decode cX9_layer 70 = .ok (.iand, 1) := by decide +kernel
theorem dX9_layer_71 : decode cX9_layer 71 = .ok (.ireturn, 1) := by decide +kernel
theorem dX9_layer_72 : decode cX9_layer 72 = .ok (.aload_n 0, 1) := by decide +kernel
theorem dX9_layer_73 : decode cX9_layer 73 = .ok (.getfield 20, 3) := by decide +kernel
theorem dX9_layer_76 : decode cX9_layer 76 = .ok (.iload_n 1, 1) := by decide +kernel
theorem dX9_layer_77 : decode cX9_layer 77 = .ok (.iaload, 1) := by decide +kernel
theorem dX9_layer_78 : decode cX9_layer 78 = .ok (.ireturn, 1) := by decide +kernel
theorem dX9_layer_79 : decode cX9_layer 79 = .ok (.aload_n 0, 1) := by decide +kernel
theorem dX9_layer_80 : decode cX9_layer 80 = .ok (.getfield 23, 3) := by decide +kernel
theorem dX9_layer_83 : decode cX9_layer 83 = .ok (.iload_n 1, 1) := by decide +kernel
theorem dX9_layer_84 : decode cX9_layer 84 = .ok (.iaload, 1) := by decide +kernel
theorem dX9_layer_85 : decode cX9_layer 85 = .ok (.ireturn, 1) := by decide +kernel
theorem dX9_layer_86 : decode cX9_layer 86 = .ok (.iconst (-1), 1) := by decide +kernel
theorem dX9_layer_87 : decode cX9_layer 87 = .ok (.ireturn, 1) := by decide +kernel
theorem dX9_road_0 : decode cX9_road 0 = .ok (.iload_n 1, 1) := by decide +kernel
theorem dX9_road_1 : decode cX9_road 1 = .ok (.invokestatic 106, 3) := by decide +kernel
theorem dX9_road_4 : decode cX9_road 4 = .ok (.ifCond .eq 37, 3) := by decide +kernel
theorem dX9_road_7 : decode cX9_road 7 = .ok (.iload_n 2, 1) := by decide +kernel
theorem dX9_road_8 : decode cX9_road 8 = .ok (.invokestatic 106, 3) := by decide +kernel
theorem dX9_road_11 : decode cX9_road 11 = .ok (.ifCond .eq 30, 3) := by decide +kernel
theorem dX9_road_14 : decode cX9_road 14 = .ok (.iload_n 3, 1) := by decide +kernel
theorem dX9_road_15 : decode cX9_road 15 = .ok (.invokestatic 106, 3) := by decide +kernel
theorem dX9_road_18 : decode cX9_road 18 = .ok (.ifCond .eq 23, 3) := by decide +kernel
theorem dX9_road_21 : decode cX9_road 21 = .ok (.iload 4, 2) := by decide +kernel
theorem dX9_road_23 : decode cX9_road 23 = .ok (.invokestatic 106, 3) := by decide +kernel
theorem dX9_road_26 : decode cX9_road 26 = .ok (.ifCond .eq 15, 3) := by decide +kernel
theorem dX9_road_29 : decode cX9_road 29 = .ok (.iload 5, 2) := by decide +kernel
theorem dX9_road_31 : decode cX9_road 31 = .ok (.invokestatic 106, 3) := by decide +kernel
theorem dX9_road_34 : decode cX9_road 34 = .ok (.ifCond .eq 7, 3) := by decide +kernel
theorem dX9_road_37 : decode cX9_road 37 = .ok (.iconst 1, 1) := by decide +kernel
theorem dX9_road_38 : decode cX9_road 38 = .ok (.goto 4, 3) := by decide +kernel
theorem dX9_road_41 : decode cX9_road 41 = .ok (.iconst 0, 1) := by decide +kernel
theorem dX9_road_42 : decode cX9_road 42 = .ok (.istore 7, 2) := by decide +kernel
theorem dX9_road_44 : decode cX9_road 44 = .ok (.iload 7, 2) := by decide +kernel
theorem dX9_road_46 : decode cX9_road 46 = .ok (.ifCond .eq 15, 3) := by decide +kernel
theorem dX9_road_49 : decode cX9_road 49 = .ok (.iload 6, 2) := by decide +kernel
theorem dX9_road_51 : decode cX9_road 51 = .ok (.iconst 1, 1) := by decide +kernel
theorem dX9_road_52 : decode cX9_road 52 = .ok (.if_icmp .lt 9, 3) := by decide +kernel
theorem dX9_road_55 : decode cX9_road 55 = .ok (.iload 6, 2) := by decide +kernel
theorem dX9_road_57 : decode cX9_road 57 = .ok (.iconst 5, 1) := by decide +kernel
theorem dX9_road_58 : decode cX9_road 58 = .ok (.if_icmp .le 5, 3) := by decide +kernel
theorem dX9_road_61 : decode cX9_road 61 = .ok (.iconst (-1), 1) := by decide +kernel
theorem dX9_road_62 : decode cX9_road 62 = .ok (.ireturn, 1) := by decide +kernel
theorem dX9_road_63 : decode cX9_road 63 = .ok (.aload_n 0, 1) := by decide +kernel
theorem dX9_road_64 : decode cX9_road 64 = .ok (.getfield 29, 3) := by decide +kernel
theorem dX9_road_67 : decode cX9_road 67 = .ok (.invokeinterface 109 1, 5) := by decide +kernel
theorem dX9_road_72 : decode cX9_road 72 = .ok (.bipush 12, 2) := by decide +kernel
theorem dX9_road_74 : decode cX9_road 74 = .ok (.if_icmp .lt 6, 3) := by decide +kernel
theorem dX9_road_77 : decode cX9_road 77 = .ok (.bipush (-2), 2) := by decide +kernel
theorem dX9_road_79 : decode cX9_road 79 = .ok (.ireturn, 1) := by decide +kernel
theorem dX9_road_80 : decode cX9_road 80 = .ok (.new 115, 3) := by decide +kernel
theorem dX9_road_83 : decode cX9_road 83 = .ok (.dup, 1) := by decide +kernel
theorem dX9_road_84 : decode cX9_road 84 = .ok (.iload 6, 2) := by decide +kernel
theorem dX9_road_86 : decode cX9_road 86 = .ok (.invokespecial 117, 3) := by decide +kernel
theorem dX9_road_89 : decode cX9_road 89 = .ok (.astore 8, 2) := by decide +kernel
theorem dX9_road_91 : decode cX9_road 91 = .ok (.aload 8, 2) := by decide +kernel
theorem dX9_road_93 : decode cX9_road 93 = .ok (.iconst 0, 1) := by decide +kernel
theorem dX9_road_94 : decode cX9_road 94 = .ok (.iload_n 1, 1) := by decide +kernel
theorem dX9_road_95 : decode cX9_road 95 = .ok (.invokevirtual 120, 3) := by decide +kernel
theorem dX9_road_98 : decode cX9_road 98 = .ok (.aload 8, 2) := by decide +kernel
theorem dX9_road_100 : decode cX9_road 100 = .ok (.iconst 1, 1) := by decide +kernel
theorem dX9_road_101 : decode cX9_road 101 = .ok (.iload_n 2, 1) := by decide +kernel
theorem dX9_road_102 : decode cX9_road 102 = .ok (.invokevirtual 120, 3) := by decide +kernel
theorem dX9_road_105 : decode cX9_road 105 = .ok (.aload 8, 2) := by decide +kernel
theorem dX9_road_107 : decode cX9_road 107 = .ok (.iconst 2, 1) := by decide +kernel
theorem dX9_road_108 : decode cX9_road 108 = .ok (.iload_n 3, 1) := by decide +kernel
theorem dX9_road_109 : decode cX9_road 109 = .ok (.invokevirtual 120, 3) := by decide +kernel
theorem dX9_road_112 : decode cX9_road 112 = .ok (.aload 8, 2) := by decide +kernel
theorem dX9_road_114 : decode cX9_road 114 = .ok (.iconst 3, 1) := by decide +kernel
theorem dX9_road_115 : decode cX9_road 115 = .ok (.iload 4, 2) := by decide +kernel
theorem dX9_road_117 : decode cX9_road 117 = .ok (.invokevirtual 120, 3) := by decide +kernel
theorem dX9_road_120 : decode cX9_road 120 = .ok (.aload 8, 2) := by decide +kernel
theorem dX9_road_122 : decode cX9_road 122 = .ok (.iconst 4, 1) := by decide +kernel
theorem dX9_road_123 : decode cX9_road 123 = .ok (.iload 5, 2) := by decide +kernel
theorem dX9_road_125 : decode cX9_road 125 = .ok (.invokevirtual 120, 3) := by decide +kernel
theorem dX9_road_128 : decode cX9_road 128 = .ok (.aload_n 0, 1) := by decide +kernel
theorem dX9_road_129 : decode cX9_road 129 = .ok (.getfield 29, 3) := by decide +kernel
theorem dX9_road_132 : decode cX9_road 132 = .ok (.aload 8, 2) := by decide +kernel
theorem dX9_road_134 : decode cX9_road 134 = .ok (.invokeinterface 123 2, 5) := by decide +kernel
theorem dX9_road_139 : decode cX9_road 139 = .ok (.pop, 1) := by decide +kernel
theorem dX9_road_140 : decode cX9_road 140 = .ok (.aload_n 0, 1) := by decide +kernel
theorem dX9_road_141 : decode cX9_road 141 = .ok (.getfield 29, 3) := by decide +kernel
theorem dX9_road_144 : decode cX9_road 144 = .ok (.invokeinterface 109 1, 5) := by decide +kernel
theorem dX9_road_149 : decode cX9_road 149 = .ok (.iconst 1, 1) := by decide +kernel
theorem dX9_road_150 : decode cX9_road 150 = .ok (.isub, 1) := by decide +kernel
theorem dX9_road_151 : decode cX9_road 151 = .ok (.ireturn, 1) := by decide +kernel
theorem dX9_span_0 : decode cX9_span 0 = .ok (.aload_n 0, 1) := by decide +kernel
theorem dX9_span_1 : decode cX9_span 1 = .ok (.iload_n 1, 1) := by decide +kernel
theorem dX9_span_2 : decode cX9_span 2 = .ok (.invokevirtual 127, 3) := by decide +kernel
theorem dX9_span_5 : decode cX9_span 5 = .ok (.astore 4, 2) := by decide +kernel
theorem dX9_span_7 : decode cX9_span 7 = .ok (.aload 4, 2) := by decide +kernel
theorem dX9_span_9 : decode cX9_span 9 = .ok (.ifnull 17, 3) := by decide +kernel
theorem dX9_span_12 : decode cX9_span 12 = .ok (.iload_n 2, 1) := by decide +kernel
theorem dX9_span_13 : decode cX9_span 13 = .ok (.invokestatic 86, 3) := by decide +kernel
theorem dX9_span_16 : decode cX9_span 16 = .ok (.ifCond .eq 10, 3) := by decide +kernel
theorem dX9_span_19 : decode cX9_span 19 = .ok (.iload_n 3, 1) := by decide +kernel
theorem dX9_span_20 : decode cX9_span 20 = .ok (.invokestatic 106, 3) := by decide +kernel
theorem dX9_span_23 : decode cX9_span 23 = .ok (.ifCond .ne 5, 3) := by decide +kernel
theorem dX9_span_26 : decode cX9_span 26 = .ok (.iconst (-1), 1) := by decide +kernel
theorem dX9_span_27 : decode cX9_span 27 = .ok (.ireturn, 1) := by decide +kernel
theorem dX9_span_28 : decode cX9_span 28 = .ok (.aload 4, 2) := by decide +kernel
theorem dX9_span_30 : decode cX9_span 30 = .ok (.iload_n 2, 1) := by decide +kernel
theorem dX9_span_31 : decode cX9_span 31 = .ok (.invokevirtual 131, 3) := by decide +kernel
theorem dX9_span_34 : decode cX9_span 34 = .ok (.istore 5, 2) := by decide +kernel
theorem dX9_span_36 : decode cX9_span 36 = .ok (.aload 4, 2) := by decide +kernel
theorem dX9_span_38 : decode cX9_span 38 = .ok (.iload_n 2, 1) := by decide +kernel
theorem dX9_span_39 : decode cX9_span 39 = .ok (.iload_n 3, 1) := by decide +kernel
theorem dX9_span_40 : decode cX9_span 40 = .ok (.invokevirtual 120, 3) := by decide +kernel
theorem dX9_span_43 : decode cX9_span 43 = .ok (.iload 5, 2) := by decide +kernel
theorem dX9_span_45 : decode cX9_span 45 = .ok (.ireturn, 1) := by decide +kernel
theorem dX9_lit_0 : decode cX9_lit 0 = .ok (.aload_n 0, 1) := by decide +kernel
theorem dX9_lit_1 : decode cX9_lit 1 = .ok (.getfield 36, 3) := by decide +kernel
theorem dX9_lit_4 : decode cX9_lit 4 = .ok (.aload_n 0, 1) := by decide +kernel
theorem dX9_lit_5 : decode cX9_lit 5 = .ok (.getfield 16, 3) := by decide +kernel
theorem dX9_lit_8 : decode cX9_lit 8 = .ok (.aload_n 0, 1) := by decide +kernel
theorem dX9_lit_9 : decode cX9_lit 9 = .ok (.getfield 20, 3) := by decide +kernel
theorem dX9_lit_12 : decode cX9_lit 12 = .ok (.aload_n 0, 1) := by decide +kernel
theorem dX9_lit_13 : decode cX9_lit 13 = .ok (.getfield 23, 3) := by decide +kernel
theorem dX9_lit_16 : decode cX9_lit 16 = .ok (.invokevirtual 134, 3) := by decide +kernel
theorem dX9_lit_19 : decode cX9_lit 19 = .ok (.aload_n 0, 1) := by decide +kernel
theorem dX9_lit_20 : decode cX9_lit 20 = .ok (.getfield 36, 3) := by decide +kernel
theorem dX9_lit_23 : decode cX9_lit 23 = .ok (.aload_n 0, 1) := by decide +kernel
theorem dX9_lit_24 : decode cX9_lit 24 = .ok (.getfield 29, 3) := by decide +kernel
theorem dX9_lit_27 : decode cX9_lit 27 = .ok (.invokevirtual 138, 3) := by decide +kernel
theorem dX9_lit_30 : decode cX9_lit 30 = .ok (.aload_n 0, 1) := by decide +kernel
theorem dX9_lit_31 : decode cX9_lit 31 = .ok (.getfield 36, 3) := by decide +kernel
theorem dX9_lit_34 : decode cX9_lit 34 = .ok (.getfield 142, 3) := by decide +kernel
theorem dX9_lit_37 : decode cX9_lit 37 = .ok (.ireturn, 1) := by decide +kernel
theorem dX9_held_0 : decode cX9_held 0 = .ok (.aload_n 0, 1) := by decide +kernel
theorem dX9_held_1 : decode cX9_held 1 = .ok (.iload_n 1, 1) := by decide +kernel
theorem dX9_held_2 : decode cX9_held 2 = .ok (.invokevirtual 127, 3) := by decide +kernel
theorem dX9_held_5 : decode cX9_held 5 = .ok (.astore_n 2, 1) := by decide +kernel
theorem dX9_held_6 : decode cX9_held 6 = .ok (.aload_n 2, 1) := by decide +kernel
theorem dX9_held_7 : decode cX9_held 7 = .ok (.ifnonnull 5, 3) := by decide +kernel
theorem dX9_held_10 : decode cX9_held 10 = .ok (.iconst (-1), 1) := by decide +kernel
theorem dX9_held_11 : decode cX9_held 11 = .ok (.ireturn, 1) := by decide +kernel
theorem dX9_held_12 : decode cX9_held 12 = .ok (.aload_n 0, 1) := by decide +kernel
theorem dX9_held_13 : decode cX9_held 13 = .ok (.getfield 36, 3) := by decide +kernel
theorem dX9_held_16 : decode cX9_held 16 = .ok (.aload_n 0, 1) := by decide +kernel
theorem dX9_held_17 : decode cX9_held 17 = .ok (.getfield 16, 3) := by decide +kernel
theorem dX9_held_20 : decode cX9_held 20 = .ok (.aload_n 0, 1) := by decide +kernel
theorem dX9_held_21 : decode cX9_held 21 = .ok (.getfield 20, 3) := by decide +kernel
theorem dX9_held_24 : decode cX9_held 24 = .ok (.aload_n 0, 1) := by decide +kernel
theorem dX9_held_25 : decode cX9_held 25 = .ok (.getfield 23, 3) := by decide +kernel
theorem dX9_held_28 : decode cX9_held 28 = .ok (.invokevirtual 134, 3) := by decide +kernel
theorem dX9_held_31 : decode cX9_held 31 = .ok (.aload_n 2, 1) := by decide +kernel
theorem dX9_held_32 : decode cX9_held 32 = .ok (.aload_n 0, 1) := by decide +kernel
theorem dX9_held_33 : decode cX9_held 33 = .ok (.getfield 36, 3) := by decide +kernel
theorem dX9_held_36 : decode cX9_held 36 = .ok (.getfield 146, 3) := by decide +kernel
theorem dX9_held_39 : decode cX9_held 39 = .ok (.invokevirtual 149, 3) := by decide +kernel
theorem dX9_held_42 : decode cX9_held 42 = .ok (.ireturn, 1) := by decide +kernel
theorem dX9_track_0 : decode cX9_track 0 = .ok (.aload_n 0, 1) := by decide +kernel
theorem dX9_track_1 : decode cX9_track 1 = .ok (.iload_n 1, 1) := by decide +kernel
theorem dX9_track_2 : decode cX9_track 2 = .ok (.invokevirtual 127, 3) := by decide +kernel
theorem dX9_track_5 : decode cX9_track 5 = .ok (.astore_n 3, 1) := by decide +kernel
theorem dX9_track_6 : decode cX9_track 6 = .ok (.aload_n 3, 1) := by decide +kernel
theorem dX9_track_7 : decode cX9_track 7 = .ok (.ifnull 10, 3) := by decide +kernel
theorem dX9_track_10 : decode cX9_track 10 = .ok (.iload_n 2, 1) := by decide +kernel
theorem dX9_track_11 : decode cX9_track 11 = .ok (.invokestatic 86, 3) := by decide +kernel
theorem dX9_track_14 : decode cX9_track 14 = .ok (.ifCond .ne 5, 3) := by decide +kernel
theorem dX9_track_17 : decode cX9_track 17 = .ok (.iconst (-1), 1) := by decide +kernel
theorem dX9_track_18 : decode cX9_track 18 = .ok (.ireturn, 1) := by decide +kernel
theorem dX9_track_19 : decode cX9_track 19 = .ok (.aload_n 0, 1) := by decide +kernel
theorem dX9_track_20 : decode cX9_track 20 = .ok (.aload_n 3, 1) := by decide +kernel
theorem dX9_track_21 : decode cX9_track 21 = .ok (.invokevirtual 152, 3) := by decide +kernel
theorem dX9_track_24 : decode cX9_track 24 = .ok (.ifCond .ne 6, 3) := by decide +kernel
theorem dX9_track_27 : decode cX9_track 27 = .ok (.bipush (-5), 2) := by decide +kernel
theorem dX9_track_29 : decode cX9_track 29 = .ok (.ireturn, 1) := by decide +kernel
theorem dX9_track_30 : decode cX9_track 30 = .ok (.aload_n 0, 1) := by decide +kernel
theorem dX9_track_31 : decode cX9_track 31 = .ok (.getfield 36, 3) := by decide +kernel
theorem dX9_track_34 : decode cX9_track 34 = .ok (.getfield 156, 3) := by decide +kernel
theorem dX9_track_37 : decode cX9_track 37 = .ok (.getfield 160, 3) := by decide +kernel
theorem dX9_track_40 : decode cX9_track 40 = .ok (.iload_n 2, 1) := by decide +kernel
theorem dX9_track_41 : decode cX9_track 41 = .ok (.iaload, 1) := by decide +kernel
theorem dX9_track_42 : decode cX9_track 42 = .ok (.istore 4, 2) := by decide +kernel
theorem dX9_track_44 : decode cX9_track 44 = .ok (.iload 4, 2) := by decide +kernel
theorem dX9_track_46 : decode cX9_track 46 = .ok (.iconst (-1), 1) := by decide +kernel
theorem dX9_track_47 : decode cX9_track 47 = .ok (.if_icmp .ne 8, 3) := by decide +kernel
theorem dX9_track_50 : decode cX9_track 50 = .ok (.bipush (-5), 2) := by decide +kernel
theorem dX9_track_52 : decode cX9_track 52 = .ok (.goto 5, 3) := by decide +kernel
theorem dX9_track_55 : decode cX9_track 55 = .ok (.iload 4, 2) := by decide +kernel
theorem dX9_track_57 : decode cX9_track 57 = .ok (.ireturn, 1) := by decide +kernel
theorem dX9_miss_0 : decode cX9_miss 0 = .ok (.aload_n 0, 1) := by decide +kernel
theorem dX9_miss_1 : decode cX9_miss 1 = .ok (.iload_n 1, 1) := by decide +kernel
theorem dX9_miss_2 : decode cX9_miss 2 = .ok (.invokevirtual 127, 3) := by decide +kernel
theorem dX9_miss_5 : decode cX9_miss 5 = .ok (.astore_n 3, 1) := by decide +kernel
theorem dX9_miss_6 : decode cX9_miss 6 = .ok (.aload_n 3, 1) := by decide +kernel
theorem dX9_miss_7 : decode cX9_miss 7 = .ok (.ifnull 12, 3) := by decide +kernel
theorem dX9_miss_10 : decode cX9_miss 10 = .ok (.iload_n 2, 1) := by decide +kernel
theorem dX9_miss_11 : decode cX9_miss 11 = .ok (.ifCond .lt 8, 3) := by decide +kernel
theorem dX9_miss_14 : decode cX9_miss 14 = .ok (.iload_n 2, 1) := by decide +kernel
theorem dX9_miss_15 : decode cX9_miss 15 = .ok (.iconst 1, 1) := by decide +kernel
theorem dX9_miss_16 : decode cX9_miss 16 = .ok (.if_icmp .le 5, 3) := by decide +kernel
theorem dX9_miss_19 : decode cX9_miss 19 = .ok (.iconst (-1), 1) := by decide +kernel
theorem dX9_miss_20 : decode cX9_miss 20 = .ok (.ireturn, 1) := by decide +kernel
theorem dX9_miss_21 : decode cX9_miss 21 = .ok (.aload_n 0, 1) := by decide +kernel
theorem dX9_miss_22 : decode cX9_miss 22 = .ok (.aload_n 3, 1) := by decide +kernel
theorem dX9_miss_23 : decode cX9_miss 23 = .ok (.invokevirtual 152, 3) := by decide +kernel
theorem dX9_miss_26 : decode cX9_miss 26 = .ok (.ifCond .ne 6, 3) := by decide +kernel
theorem dX9_miss_29 : decode cX9_miss 29 = .ok (.bipush (-5), 2) := by decide +kernel
theorem dX9_miss_31 : decode cX9_miss 31 = .ok (.ireturn, 1) := by decide +kernel
theorem dX9_miss_32 : decode cX9_miss 32 = .ok (.aload_n 0, 1) := by decide +kernel
theorem dX9_miss_33 : decode cX9_miss 33 = .ok (.getfield 36, 3) := by decide +kernel
theorem dX9_miss_36 : decode cX9_miss 36 = .ok (.getfield 156, 3) := by decide +kernel
theorem dX9_miss_39 : decode cX9_miss 39 = .ok (.invokevirtual 165, 3) := by decide +kernel
theorem dX9_miss_42 : decode cX9_miss 42 = .ok (.istore 4, 2) := by decide +kernel
theorem dX9_miss_44 : decode cX9_miss 44 = .ok (.aload_n 0, 1) := by decide +kernel
theorem dX9_miss_45 : decode cX9_miss 45 = .ok (.getfield 36, 3) := by decide +kernel
theorem dX9_miss_48 : decode cX9_miss 48 = .ok (.getfield 156, 3) := by decide +kernel
theorem dX9_miss_51 : decode cX9_miss 51 = .ok (.invokevirtual 168, 3) := by decide +kernel
theorem dX9_miss_54 : decode cX9_miss 54 = .ok (.istore 5, 2) := by decide +kernel
theorem dX9_miss_56 : decode cX9_miss 56 = .ok (.iload 4, 2) := by decide +kernel
theorem dX9_miss_58 : decode cX9_miss 58 = .ok (.iload 5, 2) := by decide +kernel
theorem dX9_miss_60 : decode cX9_miss 60 = .ok (.invokestatic 171, 3) := by decide +kernel
theorem dX9_miss_63 : decode cX9_miss 63 = .ok (.istore 6, 2) := by decide +kernel
theorem dX9_miss_65 : decode cX9_miss 65 = .ok (.iload_n 2, 1) := by decide +kernel
theorem dX9_miss_66 : decode cX9_miss 66 = .ok (.ifCond .ne 11, 3) := by decide +kernel
theorem dX9_miss_69 : decode cX9_miss 69 = .ok (.iload 4, 2) := by decide +kernel
theorem dX9_miss_71 : decode cX9_miss 71 = .ok (.iload 6, 2) := by decide +kernel
theorem dX9_miss_73 : decode cX9_miss 73 = .ok (.idiv, 1) := by decide +kernel
theorem dX9_miss_74 : decode cX9_miss 74 = .ok (.goto 8, 3) := by decide +kernel
theorem dX9_miss_77 : decode cX9_miss 77 = .ok (.iload 5, 2) := by decide +kernel
theorem dX9_miss_79 : decode cX9_miss 79 = .ok (.iload 6, 2) := by decide +kernel
theorem dX9_miss_81 : decode cX9_miss 81 = .ok (.idiv, 1) := by decide +kernel
theorem dX9_miss_82 : decode cX9_miss 82 = .ok (.ireturn, 1) := by decide +kernel
theorem dX9_weight_0 : decode cX9_weight 0 = .ok (.aload_n 0, 1) := by decide +kernel
theorem dX9_weight_1 : decode cX9_weight 1 = .ok (.iload_n 1, 1) := by decide +kernel
theorem dX9_weight_2 : decode cX9_weight 2 = .ok (.invokevirtual 127, 3) := by decide +kernel
theorem dX9_weight_5 : decode cX9_weight 5 = .ok (.astore_n 2, 1) := by decide +kernel
theorem dX9_weight_6 : decode cX9_weight 6 = .ok (.aload_n 2, 1) := by decide +kernel
theorem dX9_weight_7 : decode cX9_weight 7 = .ok (.ifnonnull 5, 3) := by decide +kernel
theorem dX9_weight_10 : decode cX9_weight 10 = .ok (.iconst (-1), 1) := by decide +kernel
theorem dX9_weight_11 : decode cX9_weight 11 = .ok (.ireturn, 1) := by decide +kernel
theorem dX9_weight_12 : decode cX9_weight 12 = .ok (.aload_n 0, 1) := by decide +kernel
theorem dX9_weight_13 : decode cX9_weight 13 = .ok (.aload_n 2, 1) := by decide +kernel
theorem dX9_weight_14 : decode cX9_weight 14 = .ok (.invokevirtual 152, 3) := by decide +kernel
theorem dX9_weight_17 : decode cX9_weight 17 = .ok (.ifCond .eq 16, 3) := by decide +kernel
theorem dX9_weight_20 : decode cX9_weight 20 = .ok (.aload_n 0, 1) := by decide +kernel
theorem dX9_weight_21 : decode cX9_weight 21 = .ok (.getfield 36, 3) := by decide +kernel
theorem dX9_weight_24 : decode cX9_weight 24 = .ok (.getfield 156, 3) := by decide +kernel
theorem dX9_weight_27 : decode cX9_weight 27 = .ok (.invokevirtual 175, 3) := by decide +kernel
theorem dX9_weight_30 : decode cX9_weight 30 = .ok (.goto 5, 3) := by decide +kernel
theorem dX9_weight_33 : decode cX9_weight 33 = .ok (.bipush (-5), 2) := by decide +kernel
theorem dX9_weight_35 : decode cX9_weight 35 = .ok (.ireturn, 1) := by decide +kernel
theorem dX9_heap_0 : decode cX9_heap 0 = .ok (.iload_n 1, 1) := by decide +kernel
theorem dX9_heap_1 : decode cX9_heap 1 = .ok (.ifCond .lt 8, 3) := by decide +kernel
theorem dX9_heap_4 : decode cX9_heap 4 = .ok (.iload_n 1, 1) := by decide +kernel
theorem dX9_heap_5 : decode cX9_heap 5 = .ok (.iconst 2, 1) := by decide +kernel
theorem dX9_heap_6 : decode cX9_heap 6 = .ok (.if_icmp .le 5, 3) := by decide +kernel
theorem dX9_heap_9 : decode cX9_heap 9 = .ok (.iconst (-1), 1) := by decide +kernel
theorem dX9_heap_10 : decode cX9_heap 10 = .ok (.ireturn, 1) := by decide +kernel
theorem dX9_heap_11 : decode cX9_heap 11 = .ok (.aload_n 0, 1) := by decide +kernel
theorem dX9_heap_12 : decode cX9_heap 12 = .ok (.aload_n 0, 1) := by decide +kernel
theorem dX9_heap_13 : decode cX9_heap 13 = .ok (.getfield 16, 3) := by decide +kernel
theorem dX9_heap_16 : decode cX9_heap 16 = .ok (.invokevirtual 178, 3) := by decide +kernel
theorem dX9_heap_19 : decode cX9_heap 19 = .ok (.iload_n 1, 1) := by decide +kernel
theorem dX9_heap_20 : decode cX9_heap 20 = .ok (.ifCond .ne 14, 3) := by decide +kernel
theorem dX9_heap_23 : decode cX9_heap 23 = .ok (.aload_n 0, 1) := by decide +kernel
theorem dX9_heap_24 : decode cX9_heap 24 = .ok (.getfield 36, 3) := by decide +kernel
theorem dX9_heap_27 : decode cX9_heap 27 = .ok (.getfield 182, 3) := by decide +kernel
theorem dX9_heap_30 : decode cX9_heap 30 = .ok (.getfield 186, 3) := by decide +kernel
theorem dX9_heap_33 : decode cX9_heap 33 = .ok (.ireturn, 1) := by decide +kernel
theorem dX9_heap_34 : decode cX9_heap 34 = .ok (.iload_n 1, 1) := by decide +kernel
theorem dX9_heap_35 : decode cX9_heap 35 = .ok (.iconst 1, 1) := by decide +kernel
theorem dX9_heap_36 : decode cX9_heap 36 = .ok (.if_icmp .ne 19, 3) := by decide +kernel
theorem dX9_heap_39 : decode cX9_heap 39 = .ok (.aload_n 0, 1) := by decide +kernel
theorem dX9_heap_40 : decode cX9_heap 40 = .ok (.getfield 36, 3) := by decide +kernel
theorem dX9_heap_43 : decode cX9_heap 43 = .ok (.getfield 182, 3) := by decide +kernel
theorem dX9_heap_46 : decode cX9_heap 46 = .ok (.getfield 186, 3) := by decide +kernel
theorem dX9_heap_49 : decode cX9_heap 49 = .ok (.invokestatic 92, 3) := by decide +kernel
theorem dX9_heap_52 : decode cX9_heap 52 = .ok (.goto 13, 3) := by decide +kernel
theorem dX9_heap_55 : decode cX9_heap 55 = .ok (.aload_n 0, 1) := by decide +kernel
theorem dX9_heap_56 : decode cX9_heap 56 = .ok (.getfield 36, 3) := by decide +kernel
theorem dX9_heap_59 : decode cX9_heap 59 = .ok (.getfield 182, 3) := by decide +kernel
theorem dX9_heap_62 : decode cX9_heap 62 = .ok (.getfield 191, 3) := by decide +kernel
theorem dX9_heap_65 : decode cX9_heap 65 = .ok (.ireturn, 1) := by decide +kernel
theorem dX9_blind_0 : decode cX9_blind 0 = .ok (.aload_n 0, 1) := by decide +kernel
theorem dX9_blind_1 : decode cX9_blind 1 = .ok (.getfield 36, 3) := by decide +kernel
theorem dX9_blind_4 : decode cX9_blind 4 = .ok (.aload_n 0, 1) := by decide +kernel
theorem dX9_blind_5 : decode cX9_blind 5 = .ok (.getfield 16, 3) := by decide +kernel
theorem dX9_blind_8 : decode cX9_blind 8 = .ok (.getstatic 194, 3) := by decide +kernel
theorem dX9_blind_11 : decode cX9_blind 11 = .ok (.aload_n 0, 1) := by decide +kernel
theorem dX9_blind_12 : decode cX9_blind 12 = .ok (.getfield 23, 3) := by decide +kernel
theorem dX9_blind_15 : decode cX9_blind 15 = .ok (.invokevirtual 134, 3) := by decide +kernel
theorem dX9_blind_18 : decode cX9_blind 18 = .ok (.aload_n 0, 1) := by decide +kernel
theorem dX9_blind_19 : decode cX9_blind 19 = .ok (.getfield 36, 3) := by decide +kernel
theorem dX9_blind_22 : decode cX9_blind 22 = .ok (.aload_n 0, 1) := by decide +kernel
theorem dX9_blind_23 : decode cX9_blind 23 = .ok (.getfield 29, 3) := by decide +kernel
theorem dX9_blind_26 : decode cX9_blind 26 = .ok (.invokevirtual 138, 3) := by decide +kernel
theorem dX9_blind_29 : decode cX9_blind 29 = .ok (.aload_n 0, 1) := by decide +kernel
theorem dX9_blind_30 : decode cX9_blind 30 = .ok (.getfield 36, 3) := by decide +kernel
theorem dX9_blind_33 : decode cX9_blind 33 = .ok (.getfield 142, 3) := by decide +kernel
theorem dX9_blind_36 : decode cX9_blind 36 = .ok (.istore_n 1, 1) := by decide +kernel
theorem dX9_blind_37 : decode cX9_blind 37 = .ok (.aload_n 0, 1) := by decide +kernel
theorem dX9_blind_38 : decode cX9_blind 38 = .ok (.getfield 36, 3) := by decide +kernel
theorem dX9_blind_41 : decode cX9_blind 41 = .ok (.aload_n 0, 1) := by decide +kernel
theorem dX9_blind_42 : decode cX9_blind 42 = .ok (.getfield 16, 3) := by decide +kernel
theorem dX9_blind_45 : decode cX9_blind 45 = .ok (.aload_n 0, 1) := by decide +kernel
theorem dX9_blind_46 : decode cX9_blind 46 = .ok (.getfield 20, 3) := by decide +kernel
theorem dX9_blind_49 : decode cX9_blind 49 = .ok (.aload_n 0, 1) := by decide +kernel
theorem dX9_blind_50 : decode cX9_blind 50 = .ok (.getfield 23, 3) := by decide +kernel
theorem dX9_blind_53 : decode cX9_blind 53 = .ok (.invokevirtual 134, 3) := by decide +kernel
theorem dX9_blind_56 : decode cX9_blind 56 = .ok (.aload_n 0, 1) := by decide +kernel
theorem dX9_blind_57 : decode cX9_blind 57 = .ok (.getfield 36, 3) := by decide +kernel
theorem dX9_blind_60 : decode cX9_blind 60 = .ok (.aload_n 0, 1) := by decide +kernel
theorem dX9_blind_61 : decode cX9_blind 61 = .ok (.getfield 29, 3) := by decide +kernel
theorem dX9_blind_64 : decode cX9_blind 64 = .ok (.invokevirtual 138, 3) := by decide +kernel
theorem dX9_blind_67 : decode cX9_blind 67 = .ok (.iload_n 1, 1) := by decide +kernel
theorem dX9_blind_68 : decode cX9_blind 68 = .ok (.aload_n 0, 1) := by decide +kernel
theorem dX9_blind_69 : decode cX9_blind 69 = .ok (.getfield 36, 3) := by decide +kernel
theorem dX9_blind_72 : decode cX9_blind 72 = .ok (.getfield 142, 3) := by decide +kernel
theorem dX9_blind_75 : decode cX9_blind 75 = .ok (.iconst (-1), 1) := by decide +kernel
theorem dX9_blind_76 : decode cX9_blind 76 = .ok (.ixor, 1) := by decide +kernel
theorem dX9_blind_77 : decode cX9_blind 77 = .ok (.iand, 1) := by decide +kernel
theorem dX9_blind_78 : decode cX9_blind 78 = .ok (.ireturn, 1) := by decide +kernel
theorem dX9_feed_0 : decode cX9_feed 0 = .ok (.iload_n 1, 1) := by decide +kernel
theorem dX9_feed_1 : decode cX9_feed 1 = .ok (.invokestatic 197, 3) := by decide +kernel
theorem dX9_feed_4 : decode cX9_feed 4 = .ok (.istore_n 2, 1) := by decide +kernel
theorem dX9_feed_5 : decode cX9_feed 5 = .ok (.aload_n 0, 1) := by decide +kernel
theorem dX9_feed_6 : decode cX9_feed 6 = .ok (.getfield 43, 3) := by decide +kernel
theorem dX9_feed_9 : decode cX9_feed 9 = .ok (.getfield 200, 3) := by decide +kernel
theorem dX9_feed_12 : decode cX9_feed 12 = .ok (.iload_n 2, 1) := by decide +kernel
theorem dX9_feed_13 : decode cX9_feed 13 = .ok (.iadd, 1) := by decide +kernel
theorem dX9_feed_14 : decode cX9_feed 14 = .ok (.bipush 60, 2) := by decide +kernel
theorem dX9_feed_16 : decode cX9_feed 16 = .ok (.if_icmp .le 6, 3) := by decide +kernel
theorem dX9_feed_19 : decode cX9_feed 19 = .ok (.bipush (-2), 2) := by decide +kernel
theorem dX9_feed_21 : decode cX9_feed 21 = .ok (.ireturn, 1) := by decide +kernel
theorem dX9_feed_22 : decode cX9_feed 22 = .ok (.iconst 0, 1) := by decide +kernel
theorem dX9_feed_23 : decode cX9_feed 23 = .ok (.istore_n 3, 1) := by decide +kernel
theorem dX9_feed_24 : decode cX9_feed 24 = .ok (.iload_n 3, 1) := by decide +kernel
theorem dX9_feed_25 : decode cX9_feed 25 = .ok (.iload_n 2, 1) := by decide +kernel
theorem dX9_feed_26 : decode cX9_feed 26 = .ok (.if_icmp .ge 21, 3) := by decide +kernel
theorem dX9_feed_29 : decode cX9_feed 29 = .ok (.aload_n 0, 1) := by decide +kernel
theorem dX9_feed_30 : decode cX9_feed 30 = .ok (.getfield 43, 3) := by decide +kernel
theorem dX9_feed_33 : decode cX9_feed 33 = .ok (.iload_n 1, 1) := by decide +kernel
theorem dX9_feed_34 : decode cX9_feed 34 = .ok (.iload_n 3, 1) := by decide +kernel
theorem dX9_feed_35 : decode cX9_feed 35 = .ok (.invokestatic 203, 3) := by decide +kernel
theorem dX9_feed_38 : decode cX9_feed 38 = .ok (.invokevirtual 207, 3) := by decide +kernel
theorem dX9_feed_41 : decode cX9_feed 41 = .ok (.iinc 3 1, 3) := by decide +kernel
theorem dX9_feed_44 : decode cX9_feed 44 = .ok (.goto (-20), 3) := by decide +kernel
theorem dX9_feed_47 : decode cX9_feed 47 = .ok (.aload_n 0, 1) := by decide +kernel
theorem dX9_feed_48 : decode cX9_feed 48 = .ok (.getfield 43, 3) := by decide +kernel
theorem dX9_feed_51 : decode cX9_feed 51 = .ok (.getfield 200, 3) := by decide +kernel
theorem dX9_feed_54 : decode cX9_feed 54 = .ok (.ireturn, 1) := by decide +kernel
theorem dX9_clear_0 : decode cX9_clear 0 = .ok (.aload_n 0, 1) := by decide +kernel
theorem dX9_clear_1 : decode cX9_clear 1 = .ok (.getfield 43, 3) := by decide +kernel
theorem dX9_clear_4 : decode cX9_clear 4 = .ok (.getfield 200, 3) := by decide +kernel
theorem dX9_clear_7 : decode cX9_clear 7 = .ok (.istore_n 1, 1) := by decide +kernel
theorem dX9_clear_8 : decode cX9_clear 8 = .ok (.aload_n 0, 1) := by decide +kernel
theorem dX9_clear_9 : decode cX9_clear 9 = .ok (.getfield 43, 3) := by decide +kernel
theorem dX9_clear_12 : decode cX9_clear 12 = .ok (.iconst 0, 1) := by decide +kernel
theorem dX9_clear_13 : decode cX9_clear 13 = .ok (.putfield 200, 3) := by decide +kernel
theorem dX9_clear_16 : decode cX9_clear 16 = .ok (.iload_n 1, 1) := by decide +kernel
theorem dX9_clear_17 : decode cX9_clear 17 = .ok (.ireturn, 1) := by decide +kernel
theorem dX9_line_0 : decode cX9_line 0 = .ok (.iload_n 1, 1) := by decide +kernel
theorem dX9_line_1 : decode cX9_line 1 = .ok (.invokestatic 210, 3) := by decide +kernel
theorem dX9_line_4 : decode cX9_line 4 = .ok (.ifCond .ne 5, 3) := by decide +kernel
theorem dX9_line_7 : decode cX9_line 7 = .ok (.iconst (-1), 1) := by decide +kernel
theorem dX9_line_8 : decode cX9_line 8 = .ok (.ireturn, 1) := by decide +kernel
theorem dX9_line_9 : decode cX9_line 9 = .ok (.aload_n 0, 1) := by decide +kernel
theorem dX9_line_10 : decode cX9_line 10 = .ok (.getfield 54, 3) := by decide +kernel
theorem dX9_line_13 : decode cX9_line 13 = .ok (.invokeinterface 109 1, 5) := by decide +kernel
theorem dX9_line_18 : decode cX9_line 18 = .ok (.bipush 8, 2) := by decide +kernel
theorem dX9_line_20 : decode cX9_line 20 = .ok (.if_icmp .lt 6, 3) := by decide +kernel
theorem dX9_line_23 : decode cX9_line 23 = .ok (.bipush (-2), 2) := by decide +kernel
theorem dX9_line_25 : decode cX9_line 25 = .ok (.ireturn, 1) := by decide +kernel
theorem dX9_line_26 : decode cX9_line 26 = .ok (.aload_n 0, 1) := by decide +kernel
theorem dX9_line_27 : decode cX9_line 27 = .ok (.getfield 50, 3) := by decide +kernel
theorem dX9_line_30 : decode cX9_line 30 = .ok (.aload_n 0, 1) := by decide +kernel
theorem dX9_line_31 : decode cX9_line 31 = .ok (.getfield 43, 3) := by decide +kernel
theorem dX9_line_34 : decode cX9_line 34 = .ok (.aload_n 0, 1) := by decide +kernel
theorem dX9_line_35 : decode cX9_line 35 = .ok (.getfield 36, 3) := by decide +kernel
theorem dX9_line_38 : decode cX9_line 38 = .ok (.invokevirtual 213, 3) := by decide +kernel
theorem dX9_line_41 : decode cX9_line 41 = .ok (.pop, 1) := by decide +kernel
theorem dX9_line_42 : decode cX9_line 42 = .ok (.aload_n 0, 1) := by decide +kernel
theorem dX9_line_43 : decode cX9_line 43 = .ok (.getfield 50, 3) := by decide +kernel
theorem dX9_line_46 : decode cX9_line 46 = .ok (.getfield 217, 3) := by decide +kernel
theorem dX9_line_49 : decode cX9_line 49 = .ok (.iconst (-1), 1) := by decide +kernel
theorem dX9_line_50 : decode cX9_line 50 = .ok (.if_icmp .eq 14, 3) := by decide +kernel
theorem dX9_line_53 : decode cX9_line 53 = .ok (.bipush (-100), 2) := by decide +kernel
theorem dX9_line_55 : decode cX9_line 55 = .ok (.aload_n 0, 1) := by decide +kernel
theorem dX9_line_56 : decode cX9_line 56 = .ok (.getfield 50, 3) := by decide +kernel
theorem dX9_line_59 : decode cX9_line 59 = .ok (.getfield 217, 3) := by decide +kernel
theorem dX9_line_62 : decode cX9_line 62 = .ok (.isub, 1) := by decide +kernel
theorem dX9_line_63 : decode cX9_line 63 = .ok (.ireturn, 1) := by decide +kernel
theorem dX9_line_64 : decode cX9_line 64 = .ok (.aload_n 0, 1) := by decide +kernel
theorem dX9_line_65 : decode cX9_line 65 = .ok (.getfield 54, 3) := by decide +kernel
theorem dX9_line_68 : decode cX9_line 68 = .ok (.new 220, 3) := by decide +kernel
theorem dX9_line_71 : decode cX9_line 71 = .ok (.dup, 1) := by decide +kernel
theorem dX9_line_72 : decode cX9_line 72 = .ok (.aload_n 0, 1) := by decide +kernel
theorem dX9_line_73 : decode cX9_line 73 = .ok (.getfield 43, 3) := by decide +kernel
theorem dX9_line_76 : decode cX9_line 76 = .ok (.iload_n 1, 1) := by decide +kernel
theorem dX9_line_77 : decode cX9_line 77 = .ok (.iload_n 2, 1) := by decide +kernel
theorem dX9_line_78 : decode cX9_line 78 = .ok (.invokespecial 222, 3) := by decide +kernel
theorem dX9_line_81 : decode cX9_line 81 = .ok (.invokeinterface 123 2, 5) := by decide +kernel
theorem dX9_line_86 : decode cX9_line 86 = .ok (.pop, 1) := by decide +kernel
theorem dX9_line_87 : decode cX9_line 87 = .ok (.aload_n 0, 1) := by decide +kernel
theorem dX9_line_88 : decode cX9_line 88 = .ok (.getfield 43, 3) := by decide +kernel
theorem dX9_line_91 : decode cX9_line 91 = .ok (.iconst 0, 1) := by decide +kernel
theorem dX9_line_92 : decode cX9_line 92 = .ok (.putfield 200, 3) := by decide +kernel
theorem dX9_line_95 : decode cX9_line 95 = .ok (.aload_n 0, 1) := by decide +kernel
theorem dX9_line_96 : decode cX9_line 96 = .ok (.getfield 54, 3) := by decide +kernel
theorem dX9_line_99 : decode cX9_line 99 = .ok (.invokeinterface 109 1, 5) := by decide +kernel
theorem dX9_line_104 : decode cX9_line 104 = .ok (.iconst 1, 1) := by decide +kernel
theorem dX9_line_105 : decode cX9_line 105 = .ok (.isub, 1) := by decide +kernel
theorem dX9_line_106 : decode cX9_line 106 = .ok (.ireturn, 1) := by decide +kernel
theorem dX9_thin_0 : decode cX9_thin 0 = .ok (.aload_n 0, 1) := by decide +kernel
theorem dX9_thin_1 : decode cX9_thin 1 = .ok (.iload_n 1, 1) := by decide +kernel
theorem dX9_thin_2 : decode cX9_thin 2 = .ok (.invokevirtual 225, 3) := by decide +kernel
theorem dX9_thin_5 : decode cX9_thin 5 = .ok (.astore_n 3, 1) := by decide +kernel
theorem dX9_thin_6 : decode cX9_thin 6 = .ok (.aload_n 3, 1) := by decide +kernel
theorem dX9_thin_7 : decode cX9_thin 7 = .ok (.ifnull 10, 3) := by decide +kernel
theorem dX9_thin_10 : decode cX9_thin 10 = .ok (.iload_n 2, 1) := by decide +kernel
theorem dX9_thin_11 : decode cX9_thin 11 = .ok (.invokestatic 210, 3) := by decide +kernel
theorem dX9_thin_14 : decode cX9_thin 14 = .ok (.ifCond .ne 5, 3) := by decide +kernel
theorem dX9_thin_17 : decode cX9_thin 17 = .ok (.iconst (-1), 1) := by decide +kernel
theorem dX9_thin_18 : decode cX9_thin 18 = .ok (.ireturn, 1) := by decide +kernel
theorem dX9_thin_19 : decode cX9_thin 19 = .ok (.aload_n 3, 1) := by decide +kernel
theorem dX9_thin_20 : decode cX9_thin 20 = .ok (.getfield 229, 3) := by decide +kernel
theorem dX9_thin_23 : decode cX9_thin 23 = .ok (.istore 4, 2) := by decide +kernel
theorem dX9_thin_25 : decode cX9_thin 25 = .ok (.aload_n 3, 1) := by decide +kernel
theorem dX9_thin_26 : decode cX9_thin 26 = .ok (.iload_n 2, 1) := by decide +kernel
theorem dX9_thin_27 : decode cX9_thin 27 = .ok (.putfield 229, 3) := by decide +kernel
theorem dX9_thin_30 : decode cX9_thin 30 = .ok (.iload 4, 2) := by decide +kernel
theorem dX9_thin_32 : decode cX9_thin 32 = .ok (.ireturn, 1) := by decide +kernel
theorem dX9_holds_0 : decode cX9_holds 0 = .ok (.aload_n 0, 1) := by decide +kernel
theorem dX9_holds_1 : decode cX9_holds 1 = .ok (.iload_n 1, 1) := by decide +kernel
theorem dX9_holds_2 : decode cX9_holds 2 = .ok (.invokevirtual 225, 3) := by decide +kernel
theorem dX9_holds_5 : decode cX9_holds 5 = .ok (.astore_n 2, 1) := by decide +kernel
theorem dX9_holds_6 : decode cX9_holds 6 = .ok (.aload_n 2, 1) := by decide +kernel
theorem dX9_holds_7 : decode cX9_holds 7 = .ok (.ifnonnull 5, 3) := by decide +kernel
theorem dX9_holds_10 : decode cX9_holds 10 = .ok (.iconst (-1), 1) := by decide +kernel
theorem dX9_holds_11 : decode cX9_holds 11 = .ok (.ireturn, 1) := by decide +kernel
theorem dX9_holds_12 : decode cX9_holds 12 = .ok (.aload_n 0, 1) := by decide +kernel
theorem dX9_holds_13 : decode cX9_holds 13 = .ok (.aload_n 0, 1) := by decide +kernel
theorem dX9_holds_14 : decode cX9_holds 14 = .ok (.getfield 16, 3) := by decide +kernel
theorem dX9_holds_17 : decode cX9_holds 17 = .ok (.invokevirtual 178, 3) := by decide +kernel
theorem dX9_holds_20 : decode cX9_holds 20 = .ok (.aload_n 0, 1) := by decide +kernel
theorem dX9_holds_21 : decode cX9_holds 21 = .ok (.getfield 50, 3) := by decide +kernel
theorem dX9_holds_24 : decode cX9_holds 24 = .ok (.aload_n 2, 1) := by decide +kernel
theorem dX9_holds_25 : decode cX9_holds 25 = .ok (.getfield 232, 3) := by decide +kernel
theorem dX9_holds_28 : decode cX9_holds 28 = .ok (.aload_n 0, 1) := by decide +kernel
theorem dX9_holds_29 : decode cX9_holds 29 = .ok (.getfield 36, 3) := by decide +kernel
theorem dX9_holds_32 : decode cX9_holds 32 = .ok (.invokevirtual 213, 3) := by decide +kernel
theorem dX9_holds_35 : decode cX9_holds 35 = .ok (.ifCond .eq 7, 3) := by decide +kernel
theorem dX9_holds_38 : decode cX9_holds 38 = .ok (.iconst 1, 1) := by decide +kernel
theorem dX9_holds_39 : decode cX9_holds 39 = .ok (.goto 4, 3) := by decide +kernel
theorem dX9_holds_42 : decode cX9_holds 42 = .ok (.iconst 0, 1) := by decide +kernel
theorem dX9_holds_43 : decode cX9_holds 43 = .ok (.ireturn, 1) := by decide +kernel
theorem dX9_of_0 : decode cX9_of 0 = .ok (.aload_n 0, 1) := by decide +kernel
theorem dX9_of_1 : decode cX9_of 1 = .ok (.iload_n 1, 1) := by decide +kernel
theorem dX9_of_2 : decode cX9_of 2 = .ok (.invokevirtual 225, 3) := by decide +kernel
theorem dX9_of_5 : decode cX9_of 5 = .ok (.astore_n 3, 1) := by decide +kernel
theorem dX9_of_6 : decode cX9_of 6 = .ok (.aload_n 3, 1) := by decide +kernel
theorem dX9_of_7 : decode cX9_of 7 = .ok (.ifnonnull 5, 3) := by decide +kernel
theorem dX9_of_10 : decode cX9_of 10 = .ok (.iconst (-1), 1) := by decide +kernel
theorem dX9_of_11 : decode cX9_of 11 = .ok (.ireturn, 1) := by decide +kernel
theorem dX9_of_12 : decode cX9_of 12 = .ok (.iload_n 2, 1) := by decide +kernel
theorem dX9_of_13 : decode cX9_of 13 = .ok (.tableswitch 89 0 6 #[43, 48, 61, 66, 71, 76, 81], 43) := by decide +kernel
theorem dX9_of_56 : decode cX9_of 56 = .ok (.aload_n 3, 1) := by decide +kernel
theorem dX9_of_57 : decode cX9_of 57 = .ok (.getfield 229, 3) := by decide +kernel
theorem dX9_of_60 : decode cX9_of 60 = .ok (.ireturn, 1) := by decide +kernel
theorem dX9_of_61 : decode cX9_of 61 = .ok (.aload_n 3, 1) := by decide +kernel
theorem dX9_of_62 : decode cX9_of 62 = .ok (.getfield 235, 3) := by decide +kernel
theorem dX9_of_65 : decode cX9_of 65 = .ok (.ifCond .eq 7, 3) := by decide +kernel
theorem dX9_of_68 : decode cX9_of 68 = .ok (.iconst 1, 1) := by decide +kernel
theorem dX9_of_69 : decode cX9_of 69 = .ok (.goto 4, 3) := by decide +kernel
theorem dX9_of_72 : decode cX9_of 72 = .ok (.iconst 0, 1) := by decide +kernel
theorem dX9_of_73 : decode cX9_of 73 = .ok (.ireturn, 1) := by decide +kernel
theorem dX9_of_74 : decode cX9_of 74 = .ok (.aload_n 3, 1) := by decide +kernel
theorem dX9_of_75 : decode cX9_of 75 = .ok (.getfield 238, 3) := by decide +kernel
theorem dX9_of_78 : decode cX9_of 78 = .ok (.ireturn, 1) := by decide +kernel
theorem dX9_of_79 : decode cX9_of 79 = .ok (.aload_n 3, 1) := by decide +kernel
theorem dX9_of_80 : decode cX9_of 80 = .ok (.getfield 241, 3) := by decide +kernel
theorem dX9_of_83 : decode cX9_of 83 = .ok (.ireturn, 1) := by decide +kernel
theorem dX9_of_84 : decode cX9_of 84 = .ok (.aload_n 3, 1) := by decide +kernel
theorem dX9_of_85 : decode cX9_of 85 = .ok (.getfield 244, 3) := by decide +kernel
theorem dX9_of_88 : decode cX9_of 88 = .ok (.ireturn, 1) := by decide +kernel
theorem dX9_of_89 : decode cX9_of 89 = .ok (.aload_n 3, 1) := by decide +kernel
theorem dX9_of_90 : decode cX9_of 90 = .ok (.getfield 247, 3) := by decide +kernel
theorem dX9_of_93 : decode cX9_of 93 = .ok (.ireturn, 1) := by decide +kernel
theorem dX9_of_94 : decode cX9_of 94 = .ok (.aload_n 3, 1) := by decide +kernel
theorem dX9_of_95 : decode cX9_of 95 = .ok (.getfield 232, 3) := by decide +kernel
theorem dX9_of_98 : decode cX9_of 98 = .ok (.getfield 200, 3) := by decide +kernel
theorem dX9_of_101 : decode cX9_of 101 = .ok (.ireturn, 1) := by decide +kernel
theorem dX9_of_102 : decode cX9_of 102 = .ok (.iconst (-1), 1) := by decide +kernel
theorem dX9_of_103 : decode cX9_of 103 = .ok (.ireturn, 1) := by decide +kernel
theorem dX9_fire_0 : decode cX9_fire 0 = .ok (.aload_n 0, 1) := by decide +kernel
theorem dX9_fire_1 : decode cX9_fire 1 = .ok (.getfield 250, 3) := by decide +kernel
theorem dX9_fire_4 : decode cX9_fire 4 = .ok (.istore_n 1, 1) := by decide +kernel
theorem dX9_fire_5 : decode cX9_fire 5 = .ok (.aload_n 0, 1) := by decide +kernel
theorem dX9_fire_6 : decode cX9_fire 6 = .ok (.dup, 1) := by decide +kernel
theorem dX9_fire_7 : decode cX9_fire 7 = .ok (.getfield 250, 3) := by decide +kernel
theorem dX9_fire_10 : decode cX9_fire 10 = .ok (.iconst 1, 1) := by decide +kernel
theorem dX9_fire_11 : decode cX9_fire 11 = .ok (.iadd, 1) := by decide +kernel
theorem dX9_fire_12 : decode cX9_fire 12 = .ok (.putfield 250, 3) := by decide +kernel
theorem dX9_fire_15 : decode cX9_fire 15 = .ok (.aload_n 0, 1) := by decide +kernel
theorem dX9_fire_16 : decode cX9_fire 16 = .ok (.getfield 253, 3) := by decide +kernel
theorem dX9_fire_19 : decode cX9_fire 19 = .ok (.ifCond .le 10, 3) := by decide +kernel
theorem dX9_fire_22 : decode cX9_fire 22 = .ok (.aload_n 0, 1) := by decide +kernel
theorem dX9_fire_23 : decode cX9_fire 23 = .ok (.invokevirtual 256, 3) := by decide +kernel
theorem dX9_fire_26 : decode cX9_fire 26 = .ok (.goto 8, 3) := by decide +kernel
theorem dX9_fire_29 : decode cX9_fire 29 = .ok (.aload_n 0, 1) := by decide +kernel
theorem dX9_fire_30 : decode cX9_fire 30 = .ok (.iload_n 1, 1) := by decide +kernel
theorem dX9_fire_31 : decode cX9_fire 31 = .ok (.invokevirtual 259, 3) := by decide +kernel
theorem dX9_fire_34 : decode cX9_fire 34 = .ok (.istore_n 2, 1) := by decide +kernel
theorem dX9_fire_35 : decode cX9_fire 35 = .ok (.iconst 0, 1) := by decide +kernel
theorem dX9_fire_36 : decode cX9_fire 36 = .ok (.istore_n 3, 1) := by decide +kernel
theorem dX9_fire_37 : decode cX9_fire 37 = .ok (.iload_n 3, 1) := by decide +kernel
theorem dX9_fire_38 : decode cX9_fire 38 = .ok (.iconst 5, 1) := by decide +kernel
theorem dX9_fire_39 : decode cX9_fire 39 = .ok (.if_icmp .ge 16, 3) := by decide +kernel
theorem dX9_fire_42 : decode cX9_fire 42 = .ok (.aload_n 0, 1) := by decide +kernel
theorem dX9_fire_43 : decode cX9_fire 43 = .ok (.getfield 16, 3) := by decide +kernel
theorem dX9_fire_46 : decode cX9_fire 46 = .ok (.iload_n 3, 1) := by decide +kernel
theorem dX9_fire_47 : decode cX9_fire 47 = .ok (.iconst 0, 1) := by decide +kernel
theorem dX9_fire_48 : decode cX9_fire 48 = .ok (.iastore, 1) := by decide +kernel
theorem dX9_fire_49 : decode cX9_fire 49 = .ok (.iinc 3 1, 3) := by decide +kernel
theorem dX9_fire_52 : decode cX9_fire 52 = .ok (.goto (-15), 3) := by decide +kernel
theorem dX9_fire_55 : decode cX9_fire 55 = .ok (.iload_n 2, 1) := by decide +kernel
theorem dX9_fire_56 : decode cX9_fire 56 = .ok (.ireturn, 1) := by decide +kernel
theorem dX9_rest_0 : decode cX9_rest 0 = .ok (.iload_n 1, 1) := by decide +kernel
theorem dX9_rest_1 : decode cX9_rest 1 = .ok (.ifCond .lt 9, 3) := by decide +kernel
theorem dX9_rest_4 : decode cX9_rest 4 = .ok (.iload_n 1, 1) := by decide +kernel
theorem dX9_rest_5 : decode cX9_rest 5 = .ok (.bipush 20, 2) := by decide +kernel
theorem dX9_rest_7 : decode cX9_rest 7 = .ok (.if_icmp .le 5, 3) := by decide +kernel
theorem dX9_rest_10 : decode cX9_rest 10 = .ok (.iconst (-1), 1) := by decide +kernel
theorem dX9_rest_11 : decode cX9_rest 11 = .ok (.ireturn, 1) := by decide +kernel
theorem dX9_rest_12 : decode cX9_rest 12 = .ok (.aload_n 0, 1) := by decide +kernel
theorem dX9_rest_13 : decode cX9_rest 13 = .ok (.getfield 262, 3) := by decide +kernel
theorem dX9_rest_16 : decode cX9_rest 16 = .ok (.istore_n 2, 1) := by decide +kernel
theorem dX9_rest_17 : decode cX9_rest 17 = .ok (.aload_n 0, 1) := by decide +kernel
theorem dX9_rest_18 : decode cX9_rest 18 = .ok (.iload_n 1, 1) := by decide +kernel
theorem dX9_rest_19 : decode cX9_rest 19 = .ok (.putfield 262, 3) := by decide +kernel
theorem dX9_rest_22 : decode cX9_rest 22 = .ok (.iload_n 2, 1) := by decide +kernel
theorem dX9_rest_23 : decode cX9_rest 23 = .ok (.ireturn, 1) := by decide +kernel
theorem dX9_many_0 : decode cX9_many 0 = .ok (.iload_n 1, 1) := by decide +kernel
theorem dX9_many_1 : decode cX9_many 1 = .ok (.tableswitch 103 0 7 #[47, 57, 67, 72, 77, 85, 90, 98], 47) := by decide +kernel
theorem dX9_many_48 : decode cX9_many 48 = .ok (.aload_n 0, 1) := by decide +kernel
theorem dX9_many_49 : decode cX9_many 49 = .ok (.getfield 29, 3) := by decide +kernel
theorem dX9_many_52 : decode cX9_many 52 = .ok (.invokeinterface 109 1, 5) := by decide +kernel
theorem dX9_many_57 : decode cX9_many 57 = .ok (.ireturn, 1) := by decide +kernel
theorem dX9_many_58 : decode cX9_many 58 = .ok (.aload_n 0, 1) := by decide +kernel
theorem dX9_many_59 : decode cX9_many 59 = .ok (.getfield 54, 3) := by decide +kernel
theorem dX9_many_62 : decode cX9_many 62 = .ok (.invokeinterface 109 1, 5) := by decide +kernel
theorem dX9_many_67 : decode cX9_many 67 = .ok (.ireturn, 1) := by decide +kernel
theorem dX9_many_68 : decode cX9_many 68 = .ok (.aload_n 0, 1) := by decide +kernel
theorem dX9_many_69 : decode cX9_many 69 = .ok (.getfield 250, 3) := by decide +kernel
theorem dX9_many_72 : decode cX9_many 72 = .ok (.ireturn, 1) := by decide +kernel
theorem dX9_many_73 : decode cX9_many 73 = .ok (.aload_n 0, 1) := by decide +kernel
theorem dX9_many_74 : decode cX9_many 74 = .ok (.getfield 265, 3) := by decide +kernel
theorem dX9_many_77 : decode cX9_many 77 = .ok (.ireturn, 1) := by decide +kernel
theorem dX9_many_78 : decode cX9_many 78 = .ok (.aload_n 0, 1) := by decide +kernel
theorem dX9_many_79 : decode cX9_many 79 = .ok (.getfield 60, 3) := by decide +kernel
theorem dX9_many_82 : decode cX9_many 82 = .ok (.getfield 268, 3) := by decide +kernel
theorem dX9_many_85 : decode cX9_many 85 = .ok (.ireturn, 1) := by decide +kernel
theorem dX9_many_86 : decode cX9_many 86 = .ok (.aload_n 0, 1) := by decide +kernel
theorem dX9_many_87 : decode cX9_many 87 = .ok (.getfield 269, 3) := by decide +kernel
theorem dX9_many_90 : decode cX9_many 90 = .ok (.ireturn, 1) := by decide +kernel
theorem dX9_many_91 : decode cX9_many 91 = .ok (.aload_n 0, 1) := by decide +kernel
theorem dX9_many_92 : decode cX9_many 92 = .ok (.getfield 60, 3) := by decide +kernel
theorem dX9_many_95 : decode cX9_many 95 = .ok (.invokevirtual 272, 3) := by decide +kernel
theorem dX9_many_98 : decode cX9_many 98 = .ok (.ireturn, 1) := by decide +kernel
theorem dX9_many_99 : decode cX9_many 99 = .ok (.aload_n 0, 1) := by decide +kernel
theorem dX9_many_100 : decode cX9_many 100 = .ok (.getfield 253, 3) := by decide +kernel
theorem dX9_many_103 : decode cX9_many 103 = .ok (.ireturn, 1) := by decide +kernel
theorem dX9_many_104 : decode cX9_many 104 = .ok (.iconst (-1), 1) := by decide +kernel
theorem dX9_many_105 : decode cX9_many 105 = .ok (.ireturn, 1) := by decide +kernel
theorem dX9_raw_0 : decode cX9_raw 0 = .ok (.aload_n 0, 1) := by decide +kernel
theorem dX9_raw_1 : decode cX9_raw 1 = .ok (.getfield 60, 3) := by decide +kernel
theorem dX9_raw_4 : decode cX9_raw 4 = .ok (.iload_n 1, 1) := by decide +kernel
theorem dX9_raw_5 : decode cX9_raw 5 = .ok (.invokevirtual 273, 3) := by decide +kernel
theorem dX9_raw_8 : decode cX9_raw 8 = .ok (.ifCond .eq 13, 3) := by decide +kernel
theorem dX9_raw_11 : decode cX9_raw 11 = .ok (.iload_n 2, 1) := by decide +kernel
theorem dX9_raw_12 : decode cX9_raw 12 = .ok (.ifCond .lt 9, 3) := by decide +kernel
theorem dX9_raw_15 : decode cX9_raw 15 = .ok (.iload_n 2, 1) := by decide +kernel
theorem dX9_raw_16 : decode cX9_raw 16 = .ok (.bipush 7, 2) := by decide +kernel
theorem dX9_raw_18 : decode cX9_raw 18 = .ok (.if_icmp .le 5, 3) := by decide +kernel
theorem dX9_raw_21 : decode cX9_raw 21 = .ok (.iconst (-1), 1) := by decide +kernel
theorem dX9_raw_22 : decode cX9_raw 22 = .ok (.ireturn, 1) := by decide +kernel
theorem dX9_raw_23 : decode cX9_raw 23 = .ok (.iload_n 2, 1) := by decide +kernel
theorem dX9_raw_24 : decode cX9_raw 24 = .ok (.ifCond .ne 12, 3) := by decide +kernel
theorem dX9_raw_27 : decode cX9_raw 27 = .ok (.aload_n 0, 1) := by decide +kernel
theorem dX9_raw_28 : decode cX9_raw 28 = .ok (.getfield 60, 3) := by decide +kernel
theorem dX9_raw_31 : decode cX9_raw 31 = .ok (.iload_n 1, 1) := by decide +kernel
theorem dX9_raw_32 : decode cX9_raw 32 = .ok (.invokevirtual 274, 3) := by decide +kernel
theorem dX9_raw_35 : decode cX9_raw 35 = .ok (.ireturn, 1) := by decide +kernel
theorem dX9_raw_36 : decode cX9_raw 36 = .ok (.iload_n 2, 1) := by decide +kernel
theorem dX9_raw_37 : decode cX9_raw 37 = .ok (.iconst 1, 1) := by decide +kernel
theorem dX9_raw_38 : decode cX9_raw 38 = .ok (.if_icmp .ne 12, 3) := by decide +kernel
theorem dX9_raw_41 : decode cX9_raw 41 = .ok (.aload_n 0, 1) := by decide +kernel
theorem dX9_raw_42 : decode cX9_raw 42 = .ok (.getfield 60, 3) := by decide +kernel
theorem dX9_raw_45 : decode cX9_raw 45 = .ok (.iload_n 1, 1) := by decide +kernel
theorem dX9_raw_46 : decode cX9_raw 46 = .ok (.invokevirtual 277, 3) := by decide +kernel
theorem dX9_raw_49 : decode cX9_raw 49 = .ok (.ireturn, 1) := by decide +kernel
theorem dX9_raw_50 : decode cX9_raw 50 = .ok (.aload_n 0, 1) := by decide +kernel
theorem dX9_raw_51 : decode cX9_raw 51 = .ok (.getfield 60, 3) := by decide +kernel
theorem dX9_raw_54 : decode cX9_raw 54 = .ok (.iload_n 1, 1) := by decide +kernel
theorem dX9_raw_55 : decode cX9_raw 55 = .ok (.aload_n 0, 1) := by decide +kernel
theorem dX9_raw_56 : decode cX9_raw 56 = .ok (.getfield 64, 3) := by decide +kernel
theorem dX9_raw_59 : decode cX9_raw 59 = .ok (.invokevirtual 280, 3) := by decide +kernel
theorem dX9_raw_62 : decode cX9_raw 62 = .ok (.iload_n 2, 1) := by decide +kernel
theorem dX9_raw_63 : decode cX9_raw 63 = .ok (.bipush 7, 2) := by decide +kernel
theorem dX9_raw_65 : decode cX9_raw 65 = .ok (.if_icmp .ge 12, 3) := by decide +kernel
theorem dX9_raw_68 : decode cX9_raw 68 = .ok (.aload_n 0, 1) := by decide +kernel
theorem dX9_raw_69 : decode cX9_raw 69 = .ok (.getfield 64, 3) := by decide +kernel
theorem dX9_raw_72 : decode cX9_raw 72 = .ok (.iload_n 2, 1) := by decide +kernel
theorem dX9_raw_73 : decode cX9_raw 73 = .ok (.iconst 2, 1) := by decide +kernel
theorem dX9_raw_74 : decode cX9_raw 74 = .ok (.isub, 1) := by decide +kernel
theorem dX9_raw_75 : decode cX9_raw 75 = .ok (.iaload, 1) := by decide +kernel
theorem dX9_raw_76 : decode cX9_raw 76 = .ok (.ireturn, 1) := by decide +kernel
theorem dX9_raw_77 : decode cX9_raw 77 = .ok (.aload_n 0, 1) := by decide +kernel
theorem dX9_raw_78 : decode cX9_raw 78 = .ok (.aload_n 0, 1) := by decide +kernel
theorem dX9_raw_79 : decode cX9_raw 79 = .ok (.getfield 64, 3) := by decide +kernel
theorem dX9_raw_82 : decode cX9_raw 82 = .ok (.invokevirtual 178, 3) := by decide +kernel
theorem dX9_raw_85 : decode cX9_raw 85 = .ok (.aload_n 0, 1) := by decide +kernel
theorem dX9_raw_86 : decode cX9_raw 86 = .ok (.invokevirtual 284, 3) := by decide +kernel
theorem dX9_raw_89 : decode cX9_raw 89 = .ok (.ireturn, 1) := by decide +kernel
theorem dX9_again_0 : decode cX9_again 0 = .ok (.aload_n 0, 1) := by decide +kernel
theorem dX9_again_1 : decode cX9_again 1 = .ok (.getfield 60, 3) := by decide +kernel
theorem dX9_again_4 : decode cX9_again 4 = .ok (.iload_n 1, 1) := by decide +kernel
theorem dX9_again_5 : decode cX9_again 5 = .ok (.invokevirtual 273, 3) := by decide +kernel
theorem dX9_again_8 : decode cX9_again 8 = .ok (.ifCond .ne 5, 3) := by decide +kernel
theorem dX9_again_11 : decode cX9_again 11 = .ok (.iconst (-1), 1) := by decide +kernel
theorem dX9_again_12 : decode cX9_again 12 = .ok (.ireturn, 1) := by decide +kernel
theorem dX9_again_13 : decode cX9_again 13 = .ok (.aload_n 0, 1) := by decide +kernel
theorem dX9_again_14 : decode cX9_again 14 = .ok (.getfield 60, 3) := by decide +kernel
theorem dX9_again_17 : decode cX9_again 17 = .ok (.iload_n 1, 1) := by decide +kernel
theorem dX9_again_18 : decode cX9_again 18 = .ok (.aload_n 0, 1) := by decide +kernel
theorem dX9_again_19 : decode cX9_again 19 = .ok (.getfield 16, 3) := by decide +kernel
theorem dX9_again_22 : decode cX9_again 22 = .ok (.invokevirtual 280, 3) := by decide +kernel
theorem dX9_again_25 : decode cX9_again 25 = .ok (.aload_n 0, 1) := by decide +kernel
theorem dX9_again_26 : decode cX9_again 26 = .ok (.getfield 16, 3) := by decide +kernel
theorem dX9_again_29 : decode cX9_again 29 = .ok (.invokestatic 102, 3) := by decide +kernel
theorem dX9_again_32 : decode cX9_again 32 = .ok (.ireturn, 1) := by decide +kernel
theorem dX9_anew_0 : decode cX9_anew 0 = .ok (.aload_n 0, 1) := by decide +kernel
theorem dX9_anew_1 : decode cX9_anew 1 = .ok (.getfield 250, 3) := by decide +kernel
theorem dX9_anew_4 : decode cX9_anew 4 = .ok (.istore_n 1, 1) := by decide +kernel
theorem dX9_anew_5 : decode cX9_anew 5 = .ok (.aload_n 0, 1) := by decide +kernel
theorem dX9_anew_6 : decode cX9_anew 6 = .ok (.iconst 0, 1) := by decide +kernel
theorem dX9_anew_7 : decode cX9_anew 7 = .ok (.putfield 250, 3) := by decide +kernel
theorem dX9_anew_10 : decode cX9_anew 10 = .ok (.aload_n 0, 1) := by decide +kernel
theorem dX9_anew_11 : decode cX9_anew 11 = .ok (.iconst 0, 1) := by decide +kernel
theorem dX9_anew_12 : decode cX9_anew 12 = .ok (.putfield 265, 3) := by decide +kernel
theorem dX9_anew_15 : decode cX9_anew 15 = .ok (.aload_n 0, 1) := by decide +kernel
theorem dX9_anew_16 : decode cX9_anew 16 = .ok (.iconst 0, 1) := by decide +kernel
theorem dX9_anew_17 : decode cX9_anew 17 = .ok (.putfield 269, 3) := by decide +kernel
theorem dX9_anew_20 : decode cX9_anew 20 = .ok (.aload_n 0, 1) := by decide +kernel
theorem dX9_anew_21 : decode cX9_anew 21 = .ok (.iconst 0, 1) := by decide +kernel
theorem dX9_anew_22 : decode cX9_anew 22 = .ok (.putfield 253, 3) := by decide +kernel
theorem dX9_anew_25 : decode cX9_anew 25 = .ok (.aload_n 0, 1) := by decide +kernel
theorem dX9_anew_26 : decode cX9_anew 26 = .ok (.getfield 60, 3) := by decide +kernel
theorem dX9_anew_29 : decode cX9_anew 29 = .ok (.iconst 0, 1) := by decide +kernel
theorem dX9_anew_30 : decode cX9_anew 30 = .ok (.putfield 268, 3) := by decide +kernel
theorem dX9_anew_33 : decode cX9_anew 33 = .ok (.iconst 0, 1) := by decide +kernel
theorem dX9_anew_34 : decode cX9_anew 34 = .ok (.istore_n 2, 1) := by decide +kernel
theorem dX9_anew_35 : decode cX9_anew 35 = .ok (.iload_n 2, 1) := by decide +kernel
theorem dX9_anew_36 : decode cX9_anew 36 = .ok (.aload_n 0, 1) := by decide +kernel
theorem dX9_anew_37 : decode cX9_anew 37 = .ok (.getfield 54, 3) := by decide +kernel
theorem dX9_anew_40 : decode cX9_anew 40 = .ok (.invokeinterface 109 1, 5) := by decide +kernel
theorem dX9_anew_45 : decode cX9_anew 45 = .ok (.if_icmp .ge 25, 3) := by decide +kernel
theorem dX9_anew_48 : decode cX9_anew 48 = .ok (.aload_n 0, 1) := by decide +kernel
theorem dX9_anew_49 : decode cX9_anew 49 = .ok (.getfield 54, 3) := by decide +kernel
theorem dX9_anew_52 : decode cX9_anew 52 = .ok (.iload_n 2, 1) := by decide +kernel
theorem dX9_anew_53 : decode cX9_anew 53 = .ok (.invokeinterface 287 2, 5) := by decide +kernel
theorem dX9_anew_58 : decode cX9_anew 58 = .ok (.checkcast 220, 3) := by decide +kernel
theorem dX9_anew_61 : decode cX9_anew 61 = .ok (.invokevirtual 291, 3) := by decide +kernel
theorem dX9_anew_64 : decode cX9_anew 64 = .ok (.iinc 2 1, 3) := by decide +kernel
theorem dX9_anew_67 : decode cX9_anew 67 = .ok (.goto (-32), 3) := by decide +kernel
theorem dX9_anew_70 : decode cX9_anew 70 = .ok (.iload_n 1, 1) := by decide +kernel
theorem dX9_anew_71 : decode cX9_anew 71 = .ok (.ireturn, 1) := by decide +kernel
theorem dX9_isLayer_0 : decode cX9_isLayer 0 = .ok (.iload_n 0, 1) := by decide +kernel
theorem dX9_isLayer_1 : decode cX9_isLayer 1 = .ok (.ifCond .lt 12, 3) := by decide +kernel
theorem dX9_isLayer_4 : decode cX9_isLayer 4 = .ok (.iload_n 0, 1) := by decide +kernel
theorem dX9_isLayer_5 : decode cX9_isLayer 5 = .ok (.iconst 5, 1) := by decide +kernel
theorem dX9_isLayer_6 : decode cX9_isLayer 6 = .ok (.if_icmp .ge 7, 3) := by decide +kernel
theorem dX9_isLayer_9 : decode cX9_isLayer 9 = .ok (.iconst 1, 1) := by decide +kernel
theorem dX9_isLayer_10 : decode cX9_isLayer 10 = .ok (.goto 4, 3) := by decide +kernel
theorem dX9_isLayer_13 : decode cX9_isLayer 13 = .ok (.iconst 0, 1) := by decide +kernel
theorem dX9_isLayer_14 : decode cX9_isLayer 14 = .ok (.ireturn, 1) := by decide +kernel
theorem dX9_areCells_0 : decode cX9_areCells 0 = .ok (.iload_n 0, 1) := by decide +kernel
theorem dX9_areCells_1 : decode cX9_areCells 1 = .ok (.ifCond .lt 13, 3) := by decide +kernel
theorem dX9_areCells_4 : decode cX9_areCells 4 = .ok (.iload_n 0, 1) := by decide +kernel
theorem dX9_areCells_5 : decode cX9_areCells 5 = .ok (.ldc 101, 2) := by decide +kernel
theorem dX9_areCells_7 : decode cX9_areCells 7 = .ok (.if_icmp .gt 7, 3) := by decide +kernel
theorem dX9_areCells_10 : decode cX9_areCells 10 = .ok (.iconst 1, 1) := by decide +kernel
theorem dX9_areCells_11 : decode cX9_areCells 11 = .ok (.goto 4, 3) := by decide +kernel
theorem dX9_areCells_14 : decode cX9_areCells 14 = .ok (.iconst 0, 1) := by decide +kernel
theorem dX9_areCells_15 : decode cX9_areCells 15 = .ok (.ireturn, 1) := by decide +kernel
theorem dX9_isShare_0 : decode cX9_isShare 0 = .ok (.iload_n 0, 1) := by decide +kernel
theorem dX9_isShare_1 : decode cX9_isShare 1 = .ok (.iconst 1, 1) := by decide +kernel
theorem dX9_isShare_2 : decode cX9_isShare 2 = .ok (.if_icmp .lt 13, 3) := by decide +kernel
theorem dX9_isShare_5 : decode cX9_isShare 5 = .ok (.iload_n 0, 1) := by decide +kernel
theorem dX9_isShare_6 : decode cX9_isShare 6 = .ok (.bipush 100, 2) := by decide +kernel
theorem dX9_isShare_8 : decode cX9_isShare 8 = .ok (.if_icmp .gt 7, 3) := by decide +kernel
theorem dX9_isShare_11 : decode cX9_isShare 11 = .ok (.iconst 1, 1) := by decide +kernel
theorem dX9_isShare_12 : decode cX9_isShare 12 = .ok (.goto 4, 3) := by decide +kernel
theorem dX9_isShare_15 : decode cX9_isShare 15 = .ok (.iconst 0, 1) := by decide +kernel
theorem dX9_isShare_16 : decode cX9_isShare 16 = .ok (.ireturn, 1) := by decide +kernel
theorem dX9_isSpan_0 : decode cX9_isSpan 0 = .ok (.iload_n 0, 1) := by decide +kernel
theorem dX9_isSpan_1 : decode cX9_isSpan 1 = .ok (.ifCond .ge 5, 3) := by decide +kernel
theorem dX9_isSpan_4 : decode cX9_isSpan 4 = .ok (.iconst 0, 1) := by decide +kernel
theorem dX9_isSpan_5 : decode cX9_isSpan 5 = .ok (.ireturn, 1) := by decide +kernel
theorem dX9_isSpan_6 : decode cX9_isSpan 6 = .ok (.iload_n 0, 1) := by decide +kernel
theorem dX9_isSpan_7 : decode cX9_isSpan 7 = .ok (.bipush 100, 2) := by decide +kernel
theorem dX9_isSpan_9 : decode cX9_isSpan 9 = .ok (.idiv, 1) := by decide +kernel
theorem dX9_isSpan_10 : decode cX9_isSpan 10 = .ok (.istore_n 1, 1) := by decide +kernel
theorem dX9_isSpan_11 : decode cX9_isSpan 11 = .ok (.iload_n 0, 1) := by decide +kernel
theorem dX9_isSpan_12 : decode cX9_isSpan 12 = .ok (.bipush 100, 2) := by decide +kernel
theorem dX9_isSpan_14 : decode cX9_isSpan 14 = .ok (.irem, 1) := by decide +kernel
theorem dX9_isSpan_15 : decode cX9_isSpan 15 = .ok (.istore_n 2, 1) := by decide +kernel
theorem dX9_isSpan_16 : decode cX9_isSpan 16 = .ok (.iload_n 1, 1) := by decide +kernel
theorem dX9_isSpan_17 : decode cX9_isSpan 17 = .ok (.iload_n 2, 1) := by decide +kernel
theorem dX9_isSpan_18 : decode cX9_isSpan 18 = .ok (.if_icmp .gt 20, 3) := by decide +kernel
theorem dX9_isSpan_21 : decode cX9_isSpan 21 = .ok (.iload_n 2, 1) := by decide +kernel
theorem dX9_isSpan_22 : decode cX9_isSpan 22 = .ok (.bipush 16, 2) := by decide +kernel
theorem dX9_isSpan_24 : decode cX9_isSpan 24 = .ok (.if_icmp .ge 14, 3) := by decide +kernel
theorem dX9_isSpan_27 : decode cX9_isSpan 27 = .ok (.iload_n 2, 1) := by decide +kernel
theorem dX9_isSpan_28 : decode cX9_isSpan 28 = .ok (.iload_n 1, 1) := by decide +kernel
theorem dX9_isSpan_29 : decode cX9_isSpan 29 = .ok (.isub, 1) := by decide +kernel
theorem dX9_isSpan_30 : decode cX9_isSpan 30 = .ok (.iconst 3, 1) := by decide +kernel
theorem dX9_isSpan_31 : decode cX9_isSpan 31 = .ok (.if_icmp .gt 7, 3) := by decide +kernel
theorem dX9_isSpan_34 : decode cX9_isSpan 34 = .ok (.iconst 1, 1) := by decide +kernel
theorem dX9_isSpan_35 : decode cX9_isSpan 35 = .ok (.goto 4, 3) := by decide +kernel
theorem dX9_isSpan_38 : decode cX9_isSpan 38 = .ok (.iconst 0, 1) := by decide +kernel
theorem dX9_isSpan_39 : decode cX9_isSpan 39 = .ok (.ireturn, 1) := by decide +kernel
theorem dX9_cellsIn_0 : decode cX9_cellsIn 0 = .ok (.iconst 0, 1) := by decide +kernel
theorem dX9_cellsIn_1 : decode cX9_cellsIn 1 = .ok (.istore_n 1, 1) := by decide +kernel
theorem dX9_cellsIn_2 : decode cX9_cellsIn 2 = .ok (.aload_n 0, 1) := by decide +kernel
theorem dX9_cellsIn_3 : decode cX9_cellsIn 3 = .ok (.astore_n 2, 1) := by decide +kernel
theorem dX9_cellsIn_4 : decode cX9_cellsIn 4 = .ok (.aload_n 2, 1) := by decide +kernel
theorem dX9_cellsIn_5 : decode cX9_cellsIn 5 = .ok (.arraylength, 1) := by decide +kernel
theorem dX9_cellsIn_6 : decode cX9_cellsIn 6 = .ok (.istore_n 3, 1) := by decide +kernel
theorem dX9_cellsIn_7 : decode cX9_cellsIn 7 = .ok (.iconst 0, 1) := by decide +kernel
theorem dX9_cellsIn_8 : decode cX9_cellsIn 8 = .ok (.istore 4, 2) := by decide +kernel
theorem dX9_cellsIn_10 : decode cX9_cellsIn 10 = .ok (.iload 4, 2) := by decide +kernel
theorem dX9_cellsIn_12 : decode cX9_cellsIn 12 = .ok (.iload_n 3, 1) := by decide +kernel
theorem dX9_cellsIn_13 : decode cX9_cellsIn 13 = .ok (.if_icmp .ge 23, 3) := by decide +kernel
theorem dX9_cellsIn_16 : decode cX9_cellsIn 16 = .ok (.aload_n 2, 1) := by decide +kernel
theorem dX9_cellsIn_17 : decode cX9_cellsIn 17 = .ok (.iload 4, 2) := by decide +kernel
theorem dX9_cellsIn_19 : decode cX9_cellsIn 19 = .ok (.iaload, 1) := by decide +kernel
theorem dX9_cellsIn_20 : decode cX9_cellsIn 20 = .ok (.istore 5, 2) := by decide +kernel
theorem dX9_cellsIn_22 : decode cX9_cellsIn 22 = .ok (.iload_n 1, 1) := by decide +kernel
theorem dX9_cellsIn_23 : decode cX9_cellsIn 23 = .ok (.iload 5, 2) := by decide +kernel
theorem dX9_cellsIn_25 : decode cX9_cellsIn 25 = .ok (.invokestatic 92, 3) := by decide +kernel
theorem dX9_cellsIn_28 : decode cX9_cellsIn 28 = .ok (.iadd, 1) := by decide +kernel
theorem dX9_cellsIn_29 : decode cX9_cellsIn 29 = .ok (.istore_n 1, 1) := by decide +kernel
theorem dX9_cellsIn_30 : decode cX9_cellsIn 30 = .ok (.iinc 4 1, 3) := by decide +kernel
theorem dX9_cellsIn_33 : decode cX9_cellsIn 33 = .ok (.goto (-23), 3) := by decide +kernel
theorem dX9_cellsIn_36 : decode cX9_cellsIn 36 = .ok (.iload_n 1, 1) := by decide +kernel
theorem dX9_cellsIn_37 : decode cX9_cellsIn 37 = .ok (.ireturn, 1) := by decide +kernel
theorem dX9_letterIn_0 : decode cX9_letterIn 0 = .ok (.iload_n 0, 1) := by decide +kernel
theorem dX9_letterIn_1 : decode cX9_letterIn 1 = .ok (.bipush 8, 2) := by decide +kernel
theorem dX9_letterIn_3 : decode cX9_letterIn 3 = .ok (.iload_n 1, 1) := by decide +kernel
theorem dX9_letterIn_4 : decode cX9_letterIn 4 = .ok (.imul, 1) := by decide +kernel
theorem dX9_letterIn_5 : decode cX9_letterIn 5 = .ok (.iushr, 1) := by decide +kernel
theorem dX9_letterIn_6 : decode cX9_letterIn 6 = .ok (.sipush 255, 3) := by decide +kernel
theorem dX9_letterIn_9 : decode cX9_letterIn 9 = .ok (.iand, 1) := by decide +kernel
theorem dX9_letterIn_10 : decode cX9_letterIn 10 = .ok (.i2c, 1) := by decide +kernel
theorem dX9_letterIn_11 : decode cX9_letterIn 11 = .ok (.ireturn, 1) := by decide +kernel
theorem dX9_lettersIn_0 : decode cX9_lettersIn 0 = .ok (.iconst 0, 1) := by decide +kernel
theorem dX9_lettersIn_1 : decode cX9_lettersIn 1 = .ok (.istore_n 1, 1) := by decide +kernel
theorem dX9_lettersIn_2 : decode cX9_lettersIn 2 = .ok (.iload_n 1, 1) := by decide +kernel
theorem dX9_lettersIn_3 : decode cX9_lettersIn 3 = .ok (.iconst 4, 1) := by decide +kernel
theorem dX9_lettersIn_4 : decode cX9_lettersIn 4 = .ok (.if_icmp .ge 19, 3) := by decide +kernel
theorem dX9_lettersIn_7 : decode cX9_lettersIn 7 = .ok (.iload_n 0, 1) := by decide +kernel
theorem dX9_lettersIn_8 : decode cX9_lettersIn 8 = .ok (.iload_n 1, 1) := by decide +kernel
theorem dX9_lettersIn_9 : decode cX9_lettersIn 9 = .ok (.invokestatic 203, 3) := by decide +kernel
theorem dX9_lettersIn_12 : decode cX9_lettersIn 12 = .ok (.ifCond .ne 5, 3) := by decide +kernel
theorem dX9_lettersIn_15 : decode cX9_lettersIn 15 = .ok (.iload_n 1, 1) := by decide +kernel
theorem dX9_lettersIn_16 : decode cX9_lettersIn 16 = .ok (.ireturn, 1) := by decide +kernel
theorem dX9_lettersIn_17 : decode cX9_lettersIn 17 = .ok (.iinc 1 1, 3) := by decide +kernel
theorem dX9_lettersIn_20 : decode cX9_lettersIn 20 = .ok (.goto (-18), 3) := by decide +kernel
theorem dX9_lettersIn_23 : decode cX9_lettersIn 23 = .ok (.iconst 4, 1) := by decide +kernel
theorem dX9_lettersIn_24 : decode cX9_lettersIn 24 = .ok (.ireturn, 1) := by decide +kernel
theorem dX9_greatestDivisor_0 : decode cX9_greatestDivisor 0 = .ok (.iload_n 0, 1) := by decide +kernel
theorem dX9_greatestDivisor_1 : decode cX9_greatestDivisor 1 = .ok (.istore_n 2, 1) := by decide +kernel
theorem dX9_greatestDivisor_2 : decode cX9_greatestDivisor 2 = .ok (.iload_n 1, 1) := by decide +kernel
theorem dX9_greatestDivisor_3 : decode cX9_greatestDivisor 3 = .ok (.istore_n 3, 1) := by decide +kernel
theorem dX9_greatestDivisor_4 : decode cX9_greatestDivisor 4 = .ok (.iconst 0, 1) := by decide +kernel
theorem dX9_greatestDivisor_5 : decode cX9_greatestDivisor 5 = .ok (.istore 4, 2) := by decide +kernel
theorem dX9_greatestDivisor_7 : decode cX9_greatestDivisor 7 = .ok (.iload 4, 2) := by decide +kernel
theorem dX9_greatestDivisor_9 : decode cX9_greatestDivisor 9 = .ok (.bipush 64, 2) := by decide +kernel
theorem dX9_greatestDivisor_11 : decode cX9_greatestDivisor 11 = .ok (.if_icmp .ge 23, 3) := by decide +kernel
theorem dX9_greatestDivisor_14 : decode cX9_greatestDivisor 14 = .ok (.iload_n 3, 1) := by decide +kernel
theorem dX9_greatestDivisor_15 : decode cX9_greatestDivisor 15 = .ok (.ifCond .eq 19, 3) := by decide +kernel
theorem dX9_greatestDivisor_18 : decode cX9_greatestDivisor 18 = .ok (.iload_n 2, 1) := by decide +kernel
theorem dX9_greatestDivisor_19 : decode cX9_greatestDivisor 19 = .ok (.iload_n 3, 1) := by decide +kernel
theorem dX9_greatestDivisor_20 : decode cX9_greatestDivisor 20 = .ok (.irem, 1) := by decide +kernel
theorem dX9_greatestDivisor_21 : decode cX9_greatestDivisor 21 = .ok (.istore 5, 2) := by decide +kernel
theorem dX9_greatestDivisor_23 : decode cX9_greatestDivisor 23 = .ok (.iload_n 3, 1) := by decide +kernel
theorem dX9_greatestDivisor_24 : decode cX9_greatestDivisor 24 = .ok (.istore_n 2, 1) := by decide +kernel
theorem dX9_greatestDivisor_25 : decode cX9_greatestDivisor 25 = .ok (.iload 5, 2) := by decide +kernel
theorem dX9_greatestDivisor_27 : decode cX9_greatestDivisor 27 = .ok (.istore_n 3, 1) := by decide +kernel
theorem dX9_greatestDivisor_28 : decode cX9_greatestDivisor 28 = .ok (.iinc 4 1, 3) := by decide +kernel
theorem dX9_greatestDivisor_31 : decode cX9_greatestDivisor 31 = .ok (.goto (-24), 3) := by decide +kernel
theorem dX9_greatestDivisor_34 : decode cX9_greatestDivisor 34 = .ok (.iload_n 2, 1) := by decide +kernel
theorem dX9_greatestDivisor_35 : decode cX9_greatestDivisor 35 = .ok (.iconst 1, 1) := by decide +kernel
theorem dX9_greatestDivisor_36 : decode cX9_greatestDivisor 36 = .ok (.invokestatic 294, 3) := by decide +kernel
theorem dX9_greatestDivisor_39 : decode cX9_greatestDivisor 39 = .ok (.ireturn, 1) := by decide +kernel
theorem dX9_sheetAt_0 : decode cX9_sheetAt 0 = .ok (.iload_n 1, 1) := by decide +kernel
theorem dX9_sheetAt_1 : decode cX9_sheetAt 1 = .ok (.ifCond .lt 8, 3) := by decide +kernel
theorem dX9_sheetAt_4 : decode cX9_sheetAt 4 = .ok (.iload_n 1, 1) := by decide +kernel
theorem dX9_sheetAt_5 : decode cX9_sheetAt 5 = .ok (.iconst 3, 1) := by decide +kernel
theorem dX9_sheetAt_6 : decode cX9_sheetAt 6 = .ok (.if_icmp .lt 7, 3) := by decide +kernel
theorem dX9_sheetAt_9 : decode cX9_sheetAt 9 = .ok (.aconst_null, 1) := by decide +kernel
theorem dX9_sheetAt_10 : decode cX9_sheetAt 10 = .ok (.goto 9, 3) := by decide +kernel
theorem dX9_sheetAt_13 : decode cX9_sheetAt 13 = .ok (.aload_n 0, 1) := by decide +kernel
theorem dX9_sheetAt_14 : decode cX9_sheetAt 14 = .ok (.getfield 10, 3) := by decide +kernel
theorem dX9_sheetAt_17 : decode cX9_sheetAt 17 = .ok (.iload_n 1, 1) := by decide +kernel
theorem dX9_sheetAt_18 : decode cX9_sheetAt 18 = .ok (.aaload, 1) := by decide +kernel
theorem dX9_sheetAt_19 : decode cX9_sheetAt 19 = .ok (.areturn, 1) := by decide +kernel
theorem dX9_roadAt_0 : decode cX9_roadAt 0 = .ok (.iload_n 1, 1) := by decide +kernel
theorem dX9_roadAt_1 : decode cX9_roadAt 1 = .ok (.ifCond .lt 16, 3) := by decide +kernel
theorem dX9_roadAt_4 : decode cX9_roadAt 4 = .ok (.iload_n 1, 1) := by decide +kernel
theorem dX9_roadAt_5 : decode cX9_roadAt 5 = .ok (.aload_n 0, 1) := by decide +kernel
theorem dX9_roadAt_6 : decode cX9_roadAt 6 = .ok (.getfield 29, 3) := by decide +kernel
theorem dX9_roadAt_9 : decode cX9_roadAt 9 = .ok (.invokeinterface 109 1, 5) := by decide +kernel
theorem dX9_roadAt_14 : decode cX9_roadAt 14 = .ok (.if_icmp .lt 7, 3) := by decide +kernel
theorem dX9_roadAt_17 : decode cX9_roadAt 17 = .ok (.aconst_null, 1) := by decide +kernel
theorem dX9_roadAt_18 : decode cX9_roadAt 18 = .ok (.goto 16, 3) := by decide +kernel
theorem dX9_roadAt_21 : decode cX9_roadAt 21 = .ok (.aload_n 0, 1) := by decide +kernel
theorem dX9_roadAt_22 : decode cX9_roadAt 22 = .ok (.getfield 29, 3) := by decide +kernel
theorem dX9_roadAt_25 : decode cX9_roadAt 25 = .ok (.iload_n 1, 1) := by decide +kernel
theorem dX9_roadAt_26 : decode cX9_roadAt 26 = .ok (.invokeinterface 287 2, 5) := by decide +kernel
theorem dX9_roadAt_31 : decode cX9_roadAt 31 = .ok (.checkcast 115, 3) := by decide +kernel
theorem dX9_roadAt_34 : decode cX9_roadAt 34 = .ok (.areturn, 1) := by decide +kernel
theorem dX9_lineAt_0 : decode cX9_lineAt 0 = .ok (.iload_n 1, 1) := by decide +kernel
theorem dX9_lineAt_1 : decode cX9_lineAt 1 = .ok (.ifCond .lt 16, 3) := by decide +kernel
theorem dX9_lineAt_4 : decode cX9_lineAt 4 = .ok (.iload_n 1, 1) := by decide +kernel
theorem dX9_lineAt_5 : decode cX9_lineAt 5 = .ok (.aload_n 0, 1) := by decide +kernel
theorem dX9_lineAt_6 : decode cX9_lineAt 6 = .ok (.getfield 54, 3) := by decide +kernel
theorem dX9_lineAt_9 : decode cX9_lineAt 9 = .ok (.invokeinterface 109 1, 5) := by decide +kernel
theorem dX9_lineAt_14 : decode cX9_lineAt 14 = .ok (.if_icmp .lt 7, 3) := by decide +kernel
theorem dX9_lineAt_17 : decode cX9_lineAt 17 = .ok (.aconst_null, 1) := by decide +kernel
theorem dX9_lineAt_18 : decode cX9_lineAt 18 = .ok (.goto 16, 3) := by decide +kernel
theorem dX9_lineAt_21 : decode cX9_lineAt 21 = .ok (.aload_n 0, 1) := by decide +kernel
theorem dX9_lineAt_22 : decode cX9_lineAt 22 = .ok (.getfield 54, 3) := by decide +kernel
theorem dX9_lineAt_25 : decode cX9_lineAt 25 = .ok (.iload_n 1, 1) := by decide +kernel
theorem dX9_lineAt_26 : decode cX9_lineAt 26 = .ok (.invokeinterface 287 2, 5) := by decide +kernel
theorem dX9_lineAt_31 : decode cX9_lineAt 31 = .ok (.checkcast 220, 3) := by decide +kernel
theorem dX9_lineAt_34 : decode cX9_lineAt 34 = .ok (.areturn, 1) := by decide +kernel
theorem dX9_fitInHand_0 : decode cX9_fitInHand 0 = .ok (.aload_n 0, 1) := by decide +kernel
theorem dX9_fitInHand_1 : decode cX9_fitInHand 1 = .ok (.getfield 36, 3) := by decide +kernel
theorem dX9_fitInHand_4 : decode cX9_fitInHand 4 = .ok (.aload_n 0, 1) := by decide +kernel
theorem dX9_fitInHand_5 : decode cX9_fitInHand 5 = .ok (.getfield 16, 3) := by decide +kernel
theorem dX9_fitInHand_8 : decode cX9_fitInHand 8 = .ok (.aload_n 0, 1) := by decide +kernel
theorem dX9_fitInHand_9 : decode cX9_fitInHand 9 = .ok (.getfield 20, 3) := by decide +kernel
theorem dX9_fitInHand_12 : decode cX9_fitInHand 12 = .ok (.aload_n 0, 1) := by decide +kernel
theorem dX9_fitInHand_13 : decode cX9_fitInHand 13 = .ok (.getfield 23, 3) := by decide +kernel
theorem dX9_fitInHand_16 : decode cX9_fitInHand 16 = .ok (.invokevirtual 134, 3) := by decide +kernel
theorem dX9_fitInHand_19 : decode cX9_fitInHand 19 = .ok (.aload_n 0, 1) := by decide +kernel
theorem dX9_fitInHand_20 : decode cX9_fitInHand 20 = .ok (.getfield 36, 3) := by decide +kernel
theorem dX9_fitInHand_23 : decode cX9_fitInHand 23 = .ok (.aload_n 1, 1) := by decide +kernel
theorem dX9_fitInHand_24 : decode cX9_fitInHand 24 = .ok (.invokevirtual 299, 3) := by decide +kernel
theorem dX9_fitInHand_27 : decode cX9_fitInHand 27 = .ok (.ireturn, 1) := by decide +kernel
theorem dX9_lookAt_0 : decode cX9_lookAt 0 = .ok (.aload_n 0, 1) := by decide +kernel
theorem dX9_lookAt_1 : decode cX9_lookAt 1 = .ok (.getfield 36, 3) := by decide +kernel
theorem dX9_lookAt_4 : decode cX9_lookAt 4 = .ok (.aload_n 1, 1) := by decide +kernel
theorem dX9_lookAt_5 : decode cX9_lookAt 5 = .ok (.aload_n 0, 1) := by decide +kernel
theorem dX9_lookAt_6 : decode cX9_lookAt 6 = .ok (.getfield 20, 3) := by decide +kernel
theorem dX9_lookAt_9 : decode cX9_lookAt 9 = .ok (.aload_n 0, 1) := by decide +kernel
theorem dX9_lookAt_10 : decode cX9_lookAt 10 = .ok (.getfield 23, 3) := by decide +kernel
theorem dX9_lookAt_13 : decode cX9_lookAt 13 = .ok (.invokevirtual 134, 3) := by decide +kernel
theorem dX9_lookAt_16 : decode cX9_lookAt 16 = .ok (.aload_n 0, 1) := by decide +kernel
theorem dX9_lookAt_17 : decode cX9_lookAt 17 = .ok (.getfield 36, 3) := by decide +kernel
theorem dX9_lookAt_20 : decode cX9_lookAt 20 = .ok (.aload_n 0, 1) := by decide +kernel
theorem dX9_lookAt_21 : decode cX9_lookAt 21 = .ok (.getfield 29, 3) := by decide +kernel
theorem dX9_lookAt_24 : decode cX9_lookAt 24 = .ok (.invokevirtual 138, 3) := by decide +kernel
theorem dX9_lookAt_27 : decode cX9_lookAt 27 = .ok (.aload_n 0, 1) := by decide +kernel
theorem dX9_lookAt_28 : decode cX9_lookAt 28 = .ok (.getfield 36, 3) := by decide +kernel
theorem dX9_lookAt_31 : decode cX9_lookAt 31 = .ok (.aload_n 0, 1) := by decide +kernel
theorem dX9_lookAt_32 : decode cX9_lookAt 32 = .ok (.getfield 29, 3) := by decide +kernel
theorem dX9_lookAt_35 : decode cX9_lookAt 35 = .ok (.invokevirtual 302, 3) := by decide +kernel
theorem dX9_lookAt_38 : decode cX9_lookAt 38 = .ok (.return_, 1) := by decide +kernel
theorem dX9_holdingLines_0 : decode cX9_holdingLines 0 = .ok (.iconst 0, 1) := by decide +kernel
theorem dX9_holdingLines_1 : decode cX9_holdingLines 1 = .ok (.istore_n 1, 1) := by decide +kernel
theorem dX9_holdingLines_2 : decode cX9_holdingLines 2 = .ok (.iconst 0, 1) := by decide +kernel
theorem dX9_holdingLines_3 : decode cX9_holdingLines 3 = .ok (.istore_n 2, 1) := by decide +kernel
theorem dX9_holdingLines_4 : decode cX9_holdingLines 4 = .ok (.iload_n 2, 1) := by decide +kernel
theorem dX9_holdingLines_5 : decode cX9_holdingLines 5 = .ok (.aload_n 0, 1) := by decide +kernel
theorem dX9_holdingLines_6 : decode cX9_holdingLines 6 = .ok (.getfield 54, 3) := by decide +kernel
theorem dX9_holdingLines_9 : decode cX9_holdingLines 9 = .ok (.invokeinterface 109 1, 5) := by decide +kernel
theorem dX9_holdingLines_14 : decode cX9_holdingLines 14 = .ok (.if_icmp .ge 45, 3) := by decide +kernel
theorem dX9_holdingLines_17 : decode cX9_holdingLines 17 = .ok (.aload_n 0, 1) := by decide +kernel
theorem dX9_holdingLines_18 : decode cX9_holdingLines 18 = .ok (.getfield 50, 3) := by decide +kernel
theorem dX9_holdingLines_21 : decode cX9_holdingLines 21 = .ok (.aload_n 0, 1) := by decide +kernel
theorem dX9_holdingLines_22 : decode cX9_holdingLines 22 = .ok (.getfield 54, 3) := by decide +kernel
theorem dX9_holdingLines_25 : decode cX9_holdingLines 25 = .ok (.iload_n 2, 1) := by decide +kernel
theorem dX9_holdingLines_26 : decode cX9_holdingLines 26 = .ok (.invokeinterface 287 2, 5) := by decide +kernel
theorem dX9_holdingLines_31 : decode cX9_holdingLines 31 = .ok (.checkcast 220, 3) := by decide +kernel
theorem dX9_holdingLines_34 : decode cX9_holdingLines 34 = .ok (.getfield 232, 3) := by decide +kernel
theorem dX9_holdingLines_37 : decode cX9_holdingLines 37 = .ok (.aload_n 0, 1) := by decide +kernel
theorem dX9_holdingLines_38 : decode cX9_holdingLines 38 = .ok (.getfield 36, 3) := by decide +kernel
theorem dX9_holdingLines_41 : decode cX9_holdingLines 41 = .ok (.invokevirtual 213, 3) := by decide +kernel
theorem dX9_holdingLines_44 : decode cX9_holdingLines 44 = .ok (.ifCond .eq 9, 3) := by decide +kernel
theorem dX9_holdingLines_47 : decode cX9_holdingLines 47 = .ok (.iload_n 1, 1) := by decide +kernel
theorem dX9_holdingLines_48 : decode cX9_holdingLines 48 = .ok (.iconst 1, 1) := by decide +kernel
theorem dX9_holdingLines_49 : decode cX9_holdingLines 49 = .ok (.iload_n 2, 1) := by decide +kernel
theorem dX9_holdingLines_50 : decode cX9_holdingLines 50 = .ok (.ishl, 1) := by decide +kernel
theorem dX9_holdingLines_51 : decode cX9_holdingLines 51 = .ok (.ior, 1) := by decide +kernel
theorem dX9_holdingLines_52 : decode cX9_holdingLines 52 = .ok (.istore_n 1, 1) := by decide +kernel
theorem dX9_holdingLines_53 : decode cX9_holdingLines 53 = .ok (.iinc 2 1, 3) := by decide +kernel
theorem dX9_holdingLines_56 : decode cX9_holdingLines 56 = .ok (.goto (-52), 3) := by decide +kernel
theorem dX9_holdingLines_59 : decode cX9_holdingLines 59 = .ok (.iload_n 1, 1) := by decide +kernel
theorem dX9_holdingLines_60 : decode cX9_holdingLines 60 = .ok (.ireturn, 1) := by decide +kernel
theorem dX9_loseCrossing_0 : decode cX9_loseCrossing 0 = .ok (.aload_n 0, 1) := by decide +kernel
theorem dX9_loseCrossing_1 : decode cX9_loseCrossing 1 = .ok (.dup, 1) := by decide +kernel
theorem dX9_loseCrossing_2 : decode cX9_loseCrossing 2 = .ok (.getfield 253, 3) := by decide +kernel
theorem dX9_loseCrossing_5 : decode cX9_loseCrossing 5 = .ok (.iconst 1, 1) := by decide +kernel
theorem dX9_loseCrossing_6 : decode cX9_loseCrossing 6 = .ok (.isub, 1) := by decide +kernel
theorem dX9_loseCrossing_7 : decode cX9_loseCrossing 7 = .ok (.putfield 253, 3) := by decide +kernel
theorem dX9_loseCrossing_10 : decode cX9_loseCrossing 10 = .ok (.aload_n 0, 1) := by decide +kernel
theorem dX9_loseCrossing_11 : decode cX9_loseCrossing 11 = .ok (.dup, 1) := by decide +kernel
theorem dX9_loseCrossing_12 : decode cX9_loseCrossing 12 = .ok (.getfield 265, 3) := by decide +kernel
theorem dX9_loseCrossing_15 : decode cX9_loseCrossing 15 = .ok (.iconst 1, 1) := by decide +kernel
theorem dX9_loseCrossing_16 : decode cX9_loseCrossing 16 = .ok (.iadd, 1) := by decide +kernel
theorem dX9_loseCrossing_17 : decode cX9_loseCrossing 17 = .ok (.putfield 265, 3) := by decide +kernel
theorem dX9_loseCrossing_20 : decode cX9_loseCrossing 20 = .ok (.iconst (-1), 1) := by decide +kernel
theorem dX9_loseCrossing_21 : decode cX9_loseCrossing 21 = .ok (.ireturn, 1) := by decide +kernel
theorem dX9_judgeCrossing_0 : decode cX9_judgeCrossing 0 = .ok (.aload_n 0, 1) := by decide +kernel
theorem dX9_judgeCrossing_1 : decode cX9_judgeCrossing 1 = .ok (.aload_n 0, 1) := by decide +kernel
theorem dX9_judgeCrossing_2 : decode cX9_judgeCrossing 2 = .ok (.getfield 16, 3) := by decide +kernel
theorem dX9_judgeCrossing_5 : decode cX9_judgeCrossing 5 = .ok (.invokevirtual 178, 3) := by decide +kernel
theorem dX9_judgeCrossing_8 : decode cX9_judgeCrossing 8 = .ok (.aload_n 0, 1) := by decide +kernel
theorem dX9_judgeCrossing_9 : decode cX9_judgeCrossing 9 = .ok (.aload_n 0, 1) := by decide +kernel
theorem dX9_judgeCrossing_10 : decode cX9_judgeCrossing 10 = .ok (.invokevirtual 284, 3) := by decide +kernel
theorem dX9_judgeCrossing_13 : decode cX9_judgeCrossing 13 = .ok (.invokevirtual 305, 3) := by decide +kernel
theorem dX9_judgeCrossing_16 : decode cX9_judgeCrossing 16 = .ok (.istore_n 2, 1) := by decide +kernel
theorem dX9_judgeCrossing_17 : decode cX9_judgeCrossing 17 = .ok (.iload_n 2, 1) := by decide +kernel
theorem dX9_judgeCrossing_18 : decode cX9_judgeCrossing 18 = .ok (.aload_n 0, 1) := by decide +kernel
theorem dX9_judgeCrossing_19 : decode cX9_judgeCrossing 19 = .ok (.invokevirtual 308, 3) := by decide +kernel
theorem dX9_judgeCrossing_22 : decode cX9_judgeCrossing 22 = .ok (.iand, 1) := by decide +kernel
theorem dX9_judgeCrossing_23 : decode cX9_judgeCrossing 23 = .ok (.istore_n 3, 1) := by decide +kernel
theorem dX9_judgeCrossing_24 : decode cX9_judgeCrossing 24 = .ok (.iload_n 2, 1) := by decide +kernel
theorem dX9_judgeCrossing_25 : decode cX9_judgeCrossing 25 = .ok (.iload_n 3, 1) := by decide +kernel
theorem dX9_judgeCrossing_26 : decode cX9_judgeCrossing 26 = .ok (.iconst (-1), 1) := by decide +kernel
theorem dX9_judgeCrossing_27 : decode cX9_judgeCrossing 27 = .ok (.ixor, 1) := by decide +kernel
theorem dX9_judgeCrossing_28 : decode cX9_judgeCrossing 28 = .ok (.iand, 1) := by decide +kernel
theorem dX9_judgeCrossing_29 : decode cX9_judgeCrossing 29 = .ok (.istore 4, 2) := by decide +kernel
theorem dX9_judgeCrossing_31 : decode cX9_judgeCrossing 31 = .ok (.iload 4, 2) := by decide +kernel
theorem dX9_judgeCrossing_33 : decode cX9_judgeCrossing 33 = .ok (.ifCond .ne 5, 3) := by decide +kernel
theorem dX9_judgeCrossing_36 : decode cX9_judgeCrossing 36 = .ok (.iconst 0, 1) := by decide +kernel
theorem dX9_judgeCrossing_37 : decode cX9_judgeCrossing 37 = .ok (.ireturn, 1) := by decide +kernel
theorem dX9_judgeCrossing_38 : decode cX9_judgeCrossing 38 = .ok (.iload_n 3, 1) := by decide +kernel
theorem dX9_judgeCrossing_39 : decode cX9_judgeCrossing 39 = .ok (.ifCond .eq 15, 3) := by decide +kernel
theorem dX9_judgeCrossing_42 : decode cX9_judgeCrossing 42 = .ok (.aload_n 0, 1) := by decide +kernel
theorem dX9_judgeCrossing_43 : decode cX9_judgeCrossing 43 = .ok (.dup, 1) := by decide +kernel
theorem dX9_judgeCrossing_44 : decode cX9_judgeCrossing 44 = .ok (.getfield 269, 3) := by decide +kernel
theorem dX9_judgeCrossing_47 : decode cX9_judgeCrossing 47 = .ok (.iconst 1, 1) := by decide +kernel
theorem dX9_judgeCrossing_48 : decode cX9_judgeCrossing 48 = .ok (.iadd, 1) := by decide +kernel
theorem dX9_judgeCrossing_49 : decode cX9_judgeCrossing 49 = .ok (.putfield 269, 3) := by decide +kernel
theorem dX9_judgeCrossing_52 : decode cX9_judgeCrossing 52 = .ok (.iconst 0, 1) := by decide +kernel
theorem dX9_judgeCrossing_53 : decode cX9_judgeCrossing 53 = .ok (.ireturn, 1) := by decide +kernel
theorem dX9_judgeCrossing_54 : decode cX9_judgeCrossing 54 = .ok (.aload_n 0, 1) := by decide +kernel
theorem dX9_judgeCrossing_55 : decode cX9_judgeCrossing 55 = .ok (.iload 4, 2) := by decide +kernel
theorem dX9_judgeCrossing_57 : decode cX9_judgeCrossing 57 = .ok (.invokevirtual 311, 3) := by decide +kernel
theorem dX9_judgeCrossing_60 : decode cX9_judgeCrossing 60 = .ok (.aload_n 0, 1) := by decide +kernel
theorem dX9_judgeCrossing_61 : decode cX9_judgeCrossing 61 = .ok (.getfield 60, 3) := by decide +kernel
theorem dX9_judgeCrossing_64 : decode cX9_judgeCrossing 64 = .ok (.iload_n 1, 1) := by decide +kernel
theorem dX9_judgeCrossing_65 : decode cX9_judgeCrossing 65 = .ok (.iload 4, 2) := by decide +kernel
theorem dX9_judgeCrossing_67 : decode cX9_judgeCrossing 67 = .ok (.aload_n 0, 1) := by decide +kernel
theorem dX9_judgeCrossing_68 : decode cX9_judgeCrossing 68 = .ok (.getfield 16, 3) := by decide +kernel
theorem dX9_judgeCrossing_71 : decode cX9_judgeCrossing 71 = .ok (.invokevirtual 314, 3) := by decide +kernel
theorem dX9_judgeCrossing_74 : decode cX9_judgeCrossing 74 = .ok (.aload_n 0, 1) := by decide +kernel
theorem dX9_judgeCrossing_75 : decode cX9_judgeCrossing 75 = .ok (.aload_n 0, 1) := by decide +kernel
theorem dX9_judgeCrossing_76 : decode cX9_judgeCrossing 76 = .ok (.getfield 262, 3) := by decide +kernel
theorem dX9_judgeCrossing_79 : decode cX9_judgeCrossing 79 = .ok (.putfield 253, 3) := by decide +kernel
theorem dX9_judgeCrossing_82 : decode cX9_judgeCrossing 82 = .ok (.iload 4, 2) := by decide +kernel
theorem dX9_judgeCrossing_84 : decode cX9_judgeCrossing 84 = .ok (.ireturn, 1) := by decide +kernel
theorem dX9_passLines_0 : decode cX9_passLines 0 = .ok (.iconst 0, 1) := by decide +kernel
theorem dX9_passLines_1 : decode cX9_passLines 1 = .ok (.istore_n 2, 1) := by decide +kernel
theorem dX9_passLines_2 : decode cX9_passLines 2 = .ok (.iconst 0, 1) := by decide +kernel
theorem dX9_passLines_3 : decode cX9_passLines 3 = .ok (.istore_n 3, 1) := by decide +kernel
theorem dX9_passLines_4 : decode cX9_passLines 4 = .ok (.iload_n 3, 1) := by decide +kernel
theorem dX9_passLines_5 : decode cX9_passLines 5 = .ok (.aload_n 0, 1) := by decide +kernel
theorem dX9_passLines_6 : decode cX9_passLines 6 = .ok (.getfield 54, 3) := by decide +kernel
theorem dX9_passLines_9 : decode cX9_passLines 9 = .ok (.invokeinterface 109 1, 5) := by decide +kernel
theorem dX9_passLines_14 : decode cX9_passLines 14 = .ok (.if_icmp .ge 43, 3) := by decide +kernel
theorem dX9_passLines_17 : decode cX9_passLines 17 = .ok (.iload_n 1, 1) := by decide +kernel
theorem dX9_passLines_18 : decode cX9_passLines 18 = .ok (.iload_n 3, 1) := by decide +kernel
theorem dX9_passLines_19 : decode cX9_passLines 19 = .ok (.ishr, 1) := by decide +kernel
theorem dX9_passLines_20 : decode cX9_passLines 20 = .ok (.iconst 1, 1) := by decide +kernel
theorem dX9_passLines_21 : decode cX9_passLines 21 = .ok (.iand, 1) := by decide +kernel
theorem dX9_passLines_22 : decode cX9_passLines 22 = .ok (.iconst 1, 1) := by decide +kernel
theorem dX9_passLines_23 : decode cX9_passLines 23 = .ok (.if_icmp .ne 28, 3) := by decide +kernel
theorem dX9_passLines_26 : decode cX9_passLines 26 = .ok (.aload_n 0, 1) := by decide +kernel
theorem dX9_passLines_27 : decode cX9_passLines 27 = .ok (.getfield 54, 3) := by decide +kernel
theorem dX9_passLines_30 : decode cX9_passLines 30 = .ok (.iload_n 3, 1) := by decide +kernel
theorem dX9_passLines_31 : decode cX9_passLines 31 = .ok (.invokeinterface 287 2, 5) := by decide +kernel
theorem dX9_passLines_36 : decode cX9_passLines 36 = .ok (.checkcast 220, 3) := by decide +kernel
theorem dX9_passLines_39 : decode cX9_passLines 39 = .ok (.invokevirtual 318, 3) := by decide +kernel
theorem dX9_passLines_42 : decode cX9_passLines 42 = .ok (.ifCond .eq 9, 3) := by decide +kernel
theorem dX9_passLines_45 : decode cX9_passLines 45 = .ok (.iload_n 2, 1) := by decide +kernel
theorem dX9_passLines_46 : decode cX9_passLines 46 = .ok (.iconst 1, 1) := by decide +kernel
theorem dX9_passLines_47 : decode cX9_passLines 47 = .ok (.iload_n 3, 1) := by decide +kernel
theorem dX9_passLines_48 : decode cX9_passLines 48 = .ok (.ishl, 1) := by decide +kernel
theorem dX9_passLines_49 : decode cX9_passLines 49 = .ok (.ior, 1) := by decide +kernel
theorem dX9_passLines_50 : decode cX9_passLines 50 = .ok (.istore_n 2, 1) := by decide +kernel
theorem dX9_passLines_51 : decode cX9_passLines 51 = .ok (.iinc 3 1, 3) := by decide +kernel
theorem dX9_passLines_54 : decode cX9_passLines 54 = .ok (.goto (-50), 3) := by decide +kernel
theorem dX9_passLines_57 : decode cX9_passLines 57 = .ok (.iload_n 2, 1) := by decide +kernel
theorem dX9_passLines_58 : decode cX9_passLines 58 = .ok (.ireturn, 1) := by decide +kernel
theorem dX9_barLines_0 : decode cX9_barLines 0 = .ok (.iconst 0, 1) := by decide +kernel
theorem dX9_barLines_1 : decode cX9_barLines 1 = .ok (.istore_n 1, 1) := by decide +kernel
theorem dX9_barLines_2 : decode cX9_barLines 2 = .ok (.iconst 0, 1) := by decide +kernel
theorem dX9_barLines_3 : decode cX9_barLines 3 = .ok (.istore_n 2, 1) := by decide +kernel
theorem dX9_barLines_4 : decode cX9_barLines 4 = .ok (.iload_n 2, 1) := by decide +kernel
theorem dX9_barLines_5 : decode cX9_barLines 5 = .ok (.aload_n 0, 1) := by decide +kernel
theorem dX9_barLines_6 : decode cX9_barLines 6 = .ok (.getfield 54, 3) := by decide +kernel
theorem dX9_barLines_9 : decode cX9_barLines 9 = .ok (.invokeinterface 109 1, 5) := by decide +kernel
theorem dX9_barLines_14 : decode cX9_barLines 14 = .ok (.if_icmp .ge 34, 3) := by decide +kernel
theorem dX9_barLines_17 : decode cX9_barLines 17 = .ok (.aload_n 0, 1) := by decide +kernel
theorem dX9_barLines_18 : decode cX9_barLines 18 = .ok (.getfield 54, 3) := by decide +kernel
theorem dX9_barLines_21 : decode cX9_barLines 21 = .ok (.iload_n 2, 1) := by decide +kernel
theorem dX9_barLines_22 : decode cX9_barLines 22 = .ok (.invokeinterface 287 2, 5) := by decide +kernel
theorem dX9_barLines_27 : decode cX9_barLines 27 = .ok (.checkcast 220, 3) := by decide +kernel
theorem dX9_barLines_30 : decode cX9_barLines 30 = .ok (.getfield 235, 3) := by decide +kernel
theorem dX9_barLines_33 : decode cX9_barLines 33 = .ok (.ifCond .eq 9, 3) := by decide +kernel
theorem dX9_barLines_36 : decode cX9_barLines 36 = .ok (.iload_n 1, 1) := by decide +kernel
theorem dX9_barLines_37 : decode cX9_barLines 37 = .ok (.iconst 1, 1) := by decide +kernel
theorem dX9_barLines_38 : decode cX9_barLines 38 = .ok (.iload_n 2, 1) := by decide +kernel
theorem dX9_barLines_39 : decode cX9_barLines 39 = .ok (.ishl, 1) := by decide +kernel
theorem dX9_barLines_40 : decode cX9_barLines 40 = .ok (.ior, 1) := by decide +kernel
theorem dX9_barLines_41 : decode cX9_barLines 41 = .ok (.istore_n 1, 1) := by decide +kernel
theorem dX9_barLines_42 : decode cX9_barLines 42 = .ok (.iinc 2 1, 3) := by decide +kernel
theorem dX9_barLines_45 : decode cX9_barLines 45 = .ok (.goto (-41), 3) := by decide +kernel
theorem dX9_barLines_48 : decode cX9_barLines 48 = .ok (.iload_n 1, 1) := by decide +kernel
theorem dX9_barLines_49 : decode cX9_barLines 49 = .ok (.ireturn, 1) := by decide +kernel
theorem dX9_creditLines_0 : decode cX9_creditLines 0 = .ok (.iload_n 1, 1) := by decide +kernel
theorem dX9_creditLines_1 : decode cX9_creditLines 1 = .ok (.invokestatic 92, 3) := by decide +kernel
theorem dX9_creditLines_4 : decode cX9_creditLines 4 = .ok (.iconst 1, 1) := by decide +kernel
theorem dX9_creditLines_5 : decode cX9_creditLines 5 = .ok (.if_icmp .ne 7, 3) := by decide +kernel
theorem dX9_creditLines_8 : decode cX9_creditLines 8 = .ok (.iconst 1, 1) := by decide +kernel
theorem dX9_creditLines_9 : decode cX9_creditLines 9 = .ok (.goto 4, 3) := by decide +kernel
theorem dX9_creditLines_12 : decode cX9_creditLines 12 = .ok (.iconst 0, 1) := by decide +kernel
theorem dX9_creditLines_13 : decode cX9_creditLines 13 = .ok (.istore_n 2, 1) := by decide +kernel
theorem dX9_creditLines_14 : decode cX9_creditLines 14 = .ok (.iconst 0, 1) := by decide +kernel
theorem dX9_creditLines_15 : decode cX9_creditLines 15 = .ok (.istore_n 3, 1) := by decide +kernel
theorem dX9_creditLines_16 : decode cX9_creditLines 16 = .ok (.iload_n 3, 1) := by decide +kernel
theorem dX9_creditLines_17 : decode cX9_creditLines 17 = .ok (.aload_n 0, 1) := by decide +kernel
theorem dX9_creditLines_18 : decode cX9_creditLines 18 = .ok (.getfield 54, 3) := by decide +kernel
theorem dX9_creditLines_21 : decode cX9_creditLines 21 = .ok (.invokeinterface 109 1, 5) := by decide +kernel
theorem dX9_creditLines_26 : decode cX9_creditLines 26 = .ok (.if_icmp .ge 35, 3) := by decide +kernel
theorem dX9_creditLines_29 : decode cX9_creditLines 29 = .ok (.iload_n 1, 1) := by decide +kernel
theorem dX9_creditLines_30 : decode cX9_creditLines 30 = .ok (.iload_n 3, 1) := by decide +kernel
theorem dX9_creditLines_31 : decode cX9_creditLines 31 = .ok (.ishr, 1) := by decide +kernel
theorem dX9_creditLines_32 : decode cX9_creditLines 32 = .ok (.iconst 1, 1) := by decide +kernel
theorem dX9_creditLines_33 : decode cX9_creditLines 33 = .ok (.iand, 1) := by decide +kernel
theorem dX9_creditLines_34 : decode cX9_creditLines 34 = .ok (.iconst 1, 1) := by decide +kernel
theorem dX9_creditLines_35 : decode cX9_creditLines 35 = .ok (.if_icmp .ne 20, 3) := by decide +kernel
theorem dX9_creditLines_38 : decode cX9_creditLines 38 = .ok (.aload_n 0, 1) := by decide +kernel
theorem dX9_creditLines_39 : decode cX9_creditLines 39 = .ok (.getfield 54, 3) := by decide +kernel
theorem dX9_creditLines_42 : decode cX9_creditLines 42 = .ok (.iload_n 3, 1) := by decide +kernel
theorem dX9_creditLines_43 : decode cX9_creditLines 43 = .ok (.invokeinterface 287 2, 5) := by decide +kernel
theorem dX9_creditLines_48 : decode cX9_creditLines 48 = .ok (.checkcast 220, 3) := by decide +kernel
theorem dX9_creditLines_51 : decode cX9_creditLines 51 = .ok (.iload_n 2, 1) := by decide +kernel
theorem dX9_creditLines_52 : decode cX9_creditLines 52 = .ok (.invokevirtual 322, 3) := by decide +kernel
theorem dX9_creditLines_55 : decode cX9_creditLines 55 = .ok (.iinc 3 1, 3) := by decide +kernel
theorem dX9_creditLines_58 : decode cX9_creditLines 58 = .ok (.goto (-42), 3) := by decide +kernel
theorem dX9_creditLines_61 : decode cX9_creditLines 61 = .ok (.return_, 1) := by decide +kernel
end
section
theorem dX10_init_0 : decode cX10_init 0 = .ok (.aload_n 0, 1) := by decide +kernel
theorem dX10_init_1 : decode cX10_init 1 = .ok (.invokespecial 1, 3) := by decide +kernel
theorem dX10_init_4 : decode cX10_init 4 = .ok (.aload_n 0, 1) := by decide +kernel
theorem dX10_init_5 : decode cX10_init 5 = .ok (.iconst 3, 1) := by decide +kernel
theorem dX10_init_6 : decode cX10_init 6 = .ok (.newarray .int, 2) := by decide +kernel
theorem dX10_init_8 : decode cX10_init 8 = .ok (.putfield 9, 3) := by decide +kernel
theorem dX10_init_11 : decode cX10_init 11 = .ok (.aload_n 0, 1) := by decide +kernel
theorem dX10_init_12 : decode cX10_init 12 = .ok (.iconst 3, 1) := by decide +kernel
theorem dX10_init_13 : decode cX10_init 13 = .ok (.newarray .int, 2) := by decide +kernel
theorem dX10_init_15 : decode cX10_init 15 = .ok (.putfield 13, 3) := by decide +kernel
theorem dX10_init_18 : decode cX10_init 18 = .ok (.aload_n 0, 1) := by decide +kernel
theorem dX10_init_19 : decode cX10_init 19 = .ok (.bipush 60, 2) := by decide +kernel
theorem dX10_init_21 : decode cX10_init 21 = .ok (.newarray .int, 2) := by decide +kernel
theorem dX10_init_23 : decode cX10_init 23 = .ok (.putfield 16, 3) := by decide +kernel
theorem dX10_init_26 : decode cX10_init 26 = .ok (.aload_n 0, 1) := by decide +kernel
theorem dX10_init_27 : decode cX10_init 27 = .ok (.iconst 5, 1) := by decide +kernel
theorem dX10_init_28 : decode cX10_init 28 = .ok (.newarray .int, 2) := by decide +kernel
theorem dX10_init_30 : decode cX10_init 30 = .ok (.putfield 19, 3) := by decide +kernel
theorem dX10_init_33 : decode cX10_init 33 = .ok (.aload_n 0, 1) := by decide +kernel
theorem dX10_init_34 : decode cX10_init 34 = .ok (.iconst 5, 1) := by decide +kernel
theorem dX10_init_35 : decode cX10_init 35 = .ok (.newarray .int, 2) := by decide +kernel
theorem dX10_init_37 : decode cX10_init 37 = .ok (.putfield 22, 3) := by decide +kernel
theorem dX10_init_40 : decode cX10_init 40 = .ok (.aload_n 0, 1) := by decide +kernel
theorem dX10_init_41 : decode cX10_init 41 = .ok (.iconst 5, 1) := by decide +kernel
theorem dX10_init_42 : decode cX10_init 42 = .ok (.newarray .int, 2) := by decide +kernel
theorem dX10_init_44 : decode cX10_init 44 = .ok (.putfield 25, 3) := by decide +kernel
theorem dX10_init_47 : decode cX10_init 47 = .ok (.aload_n 0, 1) := by decide +kernel
theorem dX10_init_48 : decode cX10_init 48 = .ok (.bipush 60, 2) := by decide +kernel
theorem dX10_init_50 : decode cX10_init 50 = .ok (.newarray .int, 2) := by decide +kernel
theorem dX10_init_52 : decode cX10_init 52 = .ok (.putfield 28, 3) := by decide +kernel
theorem dX10_init_55 : decode cX10_init 55 = .ok (.aload_n 0, 1) := by decide +kernel
theorem dX10_init_56 : decode cX10_init 56 = .ok (.bipush 12, 2) := by decide +kernel
theorem dX10_init_58 : decode cX10_init 58 = .ok (.newarray .int, 2) := by decide +kernel
theorem dX10_init_60 : decode cX10_init 60 = .ok (.putfield 31, 3) := by decide +kernel
theorem dX10_init_63 : decode cX10_init 63 = .ok (.aload_n 0, 1) := by decide +kernel
theorem dX10_init_64 : decode cX10_init 64 = .ok (.bipush 60, 2) := by decide +kernel
theorem dX10_init_66 : decode cX10_init 66 = .ok (.newarray .byte, 2) := by decide +kernel
theorem dX10_init_68 : decode cX10_init 68 = .ok (.putfield 34, 3) := by decide +kernel
theorem dX10_init_71 : decode cX10_init 71 = .ok (.aload_n 0, 1) := by decide +kernel
theorem dX10_init_72 : decode cX10_init 72 = .ok (.sipush 480, 3) := by decide +kernel
theorem dX10_init_75 : decode cX10_init 75 = .ok (.newarray .byte, 2) := by decide +kernel
theorem dX10_init_77 : decode cX10_init 77 = .ok (.putfield 38, 3) := by decide +kernel
theorem dX10_init_80 : decode cX10_init 80 = .ok (.aload_n 0, 1) := by decide +kernel
theorem dX10_init_81 : decode cX10_init 81 = .ok (.bipush 8, 2) := by decide +kernel
theorem dX10_init_83 : decode cX10_init 83 = .ok (.newarray .int, 2) := by decide +kernel
theorem dX10_init_85 : decode cX10_init 85 = .ok (.putfield 41, 3) := by decide +kernel
theorem dX10_init_88 : decode cX10_init 88 = .ok (.aload_n 0, 1) := by decide +kernel
theorem dX10_init_89 : decode cX10_init 89 = .ok (.bipush 8, 2) := by decide +kernel
theorem dX10_init_91 : decode cX10_init 91 = .ok (.newarray .int, 2) := by decide +kernel
theorem dX10_init_93 : decode cX10_init 93 = .ok (.putfield 44, 3) := by decide +kernel
theorem dX10_init_96 : decode cX10_init 96 = .ok (.aload_n 0, 1) := by decide +kernel
theorem dX10_init_97 : decode cX10_init 97 = .ok (.bipush 8, 2) := by decide +kernel
theorem dX10_init_99 : decode cX10_init 99 = .ok (.newarray .boolean, 2) := by decide +kernel
theorem dX10_init_101 : decode cX10_init 101 = .ok (.putfield 47, 3) := by decide +kernel
theorem dX10_init_104 : decode cX10_init 104 = .ok (.aload_n 0, 1) := by decide +kernel
theorem dX10_init_105 : decode cX10_init 105 = .ok (.bipush 8, 2) := by decide +kernel
theorem dX10_init_107 : decode cX10_init 107 = .ok (.newarray .int, 2) := by decide +kernel
theorem dX10_init_109 : decode cX10_init 109 = .ok (.putfield 51, 3) := by decide +kernel
theorem dX10_init_112 : decode cX10_init 112 = .ok (.aload_n 0, 1) := by decide +kernel
theorem dX10_init_113 : decode cX10_init 113 = .ok (.bipush 8, 2) := by decide +kernel
theorem dX10_init_115 : decode cX10_init 115 = .ok (.newarray .int, 2) := by decide +kernel
theorem dX10_init_117 : decode cX10_init 117 = .ok (.putfield 54, 3) := by decide +kernel
theorem dX10_init_120 : decode cX10_init 120 = .ok (.aload_n 0, 1) := by decide +kernel
theorem dX10_init_121 : decode cX10_init 121 = .ok (.bipush 8, 2) := by decide +kernel
theorem dX10_init_123 : decode cX10_init 123 = .ok (.newarray .int, 2) := by decide +kernel
theorem dX10_init_125 : decode cX10_init 125 = .ok (.putfield 57, 3) := by decide +kernel
theorem dX10_init_128 : decode cX10_init 128 = .ok (.aload_n 0, 1) := by decide +kernel
theorem dX10_init_129 : decode cX10_init 129 = .ok (.bipush 8, 2) := by decide +kernel
theorem dX10_init_131 : decode cX10_init 131 = .ok (.newarray .int, 2) := by decide +kernel
theorem dX10_init_133 : decode cX10_init 133 = .ok (.putfield 60, 3) := by decide +kernel
theorem dX10_init_136 : decode cX10_init 136 = .ok (.aload_n 0, 1) := by decide +kernel
theorem dX10_init_137 : decode cX10_init 137 = .ok (.bipush 30, 2) := by decide +kernel
theorem dX10_init_139 : decode cX10_init 139 = .ok (.newarray .int, 2) := by decide +kernel
theorem dX10_init_141 : decode cX10_init 141 = .ok (.putfield 63, 3) := by decide +kernel
theorem dX10_init_144 : decode cX10_init 144 = .ok (.aload_n 0, 1) := by decide +kernel
theorem dX10_init_145 : decode cX10_init 145 = .ok (.bipush 30, 2) := by decide +kernel
theorem dX10_init_147 : decode cX10_init 147 = .ok (.newarray .int, 2) := by decide +kernel
theorem dX10_init_149 : decode cX10_init 149 = .ok (.putfield 66, 3) := by decide +kernel
theorem dX10_init_152 : decode cX10_init 152 = .ok (.aload_n 0, 1) := by decide +kernel
theorem dX10_init_153 : decode cX10_init 153 = .ok (.sipush 150, 3) := by decide +kernel
theorem dX10_init_156 : decode cX10_init 156 = .ok (.newarray .int, 2) := by decide +kernel
theorem dX10_init_158 : decode cX10_init 158 = .ok (.putfield 69, 3) := by decide +kernel
theorem dX10_init_161 : decode cX10_init 161 = .ok (.aload_n 0, 1) := by decide +kernel
theorem dX10_init_162 : decode cX10_init 162 = .ok (.iconst 5, 1) := by decide +kernel
theorem dX10_init_163 : decode cX10_init 163 = .ok (.newarray .int, 2) := by decide +kernel
theorem dX10_init_165 : decode cX10_init 165 = .ok (.putfield 72, 3) := by decide +kernel
theorem dX10_init_168 : decode cX10_init 168 = .ok (.aload_n 0, 1) := by decide +kernel
theorem dX10_init_169 : decode cX10_init 169 = .ok (.iconst 5, 1) := by decide +kernel
theorem dX10_init_170 : decode cX10_init 170 = .ok (.newarray .int, 2) := by decide +kernel
theorem dX10_init_172 : decode cX10_init 172 = .ok (.putfield 75, 3) := by decide +kernel
theorem dX10_init_175 : decode cX10_init 175 = .ok (.aload_n 0, 1) := by decide +kernel
theorem dX10_init_176 : decode cX10_init 176 = .ok (.bipush 60, 2) := by decide +kernel
theorem dX10_init_178 : decode cX10_init 178 = .ok (.newarray .int, 2) := by decide +kernel
theorem dX10_init_180 : decode cX10_init 180 = .ok (.putfield 78, 3) := by decide +kernel
theorem dX10_init_183 : decode cX10_init 183 = .ok (.aload_n 0, 1) := by decide +kernel
theorem dX10_init_184 : decode cX10_init 184 = .ok (.bipush 12, 2) := by decide +kernel
theorem dX10_init_186 : decode cX10_init 186 = .ok (.newarray .int, 2) := by decide +kernel
theorem dX10_init_188 : decode cX10_init 188 = .ok (.putfield 81, 3) := by decide +kernel
theorem dX10_init_191 : decode cX10_init 191 = .ok (.aload_n 0, 1) := by decide +kernel
theorem dX10_init_192 : decode cX10_init 192 = .ok (.bipush 12, 2) := by decide +kernel
theorem dX10_init_194 : decode cX10_init 194 = .ok (.newarray .int, 2) := by decide +kernel
theorem dX10_init_196 : decode cX10_init 196 = .ok (.putfield 84, 3) := by decide +kernel
theorem dX10_init_199 : decode cX10_init 199 = .ok (.aload_n 0, 1) := by decide +kernel
theorem dX10_init_200 : decode cX10_init 200 = .ok (.bipush 20, 2) := by decide +kernel
theorem dX10_init_202 : decode cX10_init 202 = .ok (.newarray .int, 2) := by decide +kernel
theorem dX10_init_204 : decode cX10_init 204 = .ok (.putfield 87, 3) := by decide +kernel
theorem dX10_init_207 : decode cX10_init 207 = .ok (.aload_n 0, 1) := by decide +kernel
theorem dX10_init_208 : decode cX10_init 208 = .ok (.iconst 5, 1) := by decide +kernel
theorem dX10_init_209 : decode cX10_init 209 = .ok (.newarray .int, 2) := by decide +kernel
theorem dX10_init_211 : decode cX10_init 211 = .ok (.putfield 90, 3) := by decide +kernel
theorem dX10_init_214 : decode cX10_init 214 = .ok (.iconst 0, 1) := by decide +kernel
theorem dX10_init_215 : decode cX10_init 215 = .ok (.istore_n 1, 1) := by decide +kernel
theorem dX10_init_216 : decode cX10_init 216 = .ok (.iload_n 1, 1) := by decide +kernel
theorem dX10_init_217 : decode cX10_init 217 = .ok (.iconst 3, 1) := by decide +kernel
theorem dX10_init_218 : decode cX10_init 218 = .ok (.if_icmp .ge 16, 3) := by decide +kernel
theorem dX10_init_221 : decode cX10_init 221 = .ok (.aload_n 0, 1) := by decide +kernel
theorem dX10_init_222 : decode cX10_init 222 = .ok (.getfield 13, 3) := by decide +kernel
theorem dX10_init_225 : decode cX10_init 225 = .ok (.iload_n 1, 1) := by decide +kernel
theorem dX10_init_226 : decode cX10_init 226 = .ok (.iconst (-1), 1) := by decide +kernel
theorem dX10_init_227 : decode cX10_init 227 = .ok (.iastore, 1) := by decide +kernel
theorem dX10_init_228 : decode cX10_init 228 = .ok (.iinc 1 1, 3) := by decide +kernel
theorem dX10_init_231 : decode cX10_init 231 = .ok (.goto (-15), 3) := by decide +kernel
theorem dX10_init_234 : decode cX10_init 234 = .ok (.return_, 1) := by decide +kernel
theorem dX10_in_0 : decode cX10_in 0 = .ok (.lload_n 0, 1) := by decide +kernel
theorem dX10_in_1 : decode cX10_in 1 = .ok (.lload_n 2, 1) := by decide +kernel
theorem dX10_in_2 : decode cX10_in 2 = .ok (.lcmp, 1) := by decide +kernel
theorem dX10_in_3 : decode cX10_in 3 = .ok (.ifCond .lt 14, 3) := by decide +kernel
theorem dX10_in_6 : decode cX10_in 6 = .ok (.lload_n 0, 1) := by decide +kernel
theorem dX10_in_7 : decode cX10_in 7 = .ok (.lload 4, 2) := by decide +kernel
theorem dX10_in_9 : decode cX10_in 9 = .ok (.lcmp, 1) := by decide +kernel
theorem dX10_in_10 : decode cX10_in 10 = .ok (.ifCond .gt 7, 3) := by decide +kernel
theorem dX10_in_13 : decode cX10_in 13 = .ok (.iconst 1, 1) := by decide +kernel
theorem dX10_in_14 : decode cX10_in 14 = .ok (.goto 4, 3) := by decide +kernel
theorem dX10_in_17 : decode cX10_in 17 = .ok (.iconst 0, 1) := by decide +kernel
theorem dX10_in_18 : decode cX10_in 18 = .ok (.ireturn, 1) := by decide +kernel
theorem dX10_bitsOf_0 : decode cX10_bitsOf 0 = .ok (.iconst 0, 1) := by decide +kernel
theorem dX10_bitsOf_1 : decode cX10_bitsOf 1 = .ok (.istore_n 1, 1) := by decide +kernel
theorem dX10_bitsOf_2 : decode cX10_bitsOf 2 = .ok (.iconst 0, 1) := by decide +kernel
theorem dX10_bitsOf_3 : decode cX10_bitsOf 3 = .ok (.istore_n 2, 1) := by decide +kernel
theorem dX10_bitsOf_4 : decode cX10_bitsOf 4 = .ok (.iload_n 2, 1) := by decide +kernel
theorem dX10_bitsOf_5 : decode cX10_bitsOf 5 = .ok (.bipush 16, 2) := by decide +kernel
theorem dX10_bitsOf_7 : decode cX10_bitsOf 7 = .ok (.if_icmp .ge 17, 3) := by decide +kernel
theorem dX10_bitsOf_10 : decode cX10_bitsOf 10 = .ok (.iload_n 1, 1) := by decide +kernel
theorem dX10_bitsOf_11 : decode cX10_bitsOf 11 = .ok (.iload_n 0, 1) := by decide +kernel
theorem dX10_bitsOf_12 : decode cX10_bitsOf 12 = .ok (.iload_n 2, 1) := by decide +kernel
theorem dX10_bitsOf_13 : decode cX10_bitsOf 13 = .ok (.ishr, 1) := by decide +kernel
theorem dX10_bitsOf_14 : decode cX10_bitsOf 14 = .ok (.iconst 1, 1) := by decide +kernel
theorem dX10_bitsOf_15 : decode cX10_bitsOf 15 = .ok (.iand, 1) := by decide +kernel
theorem dX10_bitsOf_16 : decode cX10_bitsOf 16 = .ok (.iadd, 1) := by decide +kernel
theorem dX10_bitsOf_17 : decode cX10_bitsOf 17 = .ok (.istore_n 1, 1) := by decide +kernel
theorem dX10_bitsOf_18 : decode cX10_bitsOf 18 = .ok (.iinc 2 1, 3) := by decide +kernel
theorem dX10_bitsOf_21 : decode cX10_bitsOf 21 = .ok (.goto (-17), 3) := by decide +kernel
theorem dX10_bitsOf_24 : decode cX10_bitsOf 24 = .ok (.iload_n 1, 1) := by decide +kernel
theorem dX10_bitsOf_25 : decode cX10_bitsOf 25 = .ok (.ireturn, 1) := by decide +kernel
theorem dX10_isLayer_0 : decode cX10_isLayer 0 = .ok (.iload_n 0, 1) := by decide +kernel
theorem dX10_isLayer_1 : decode cX10_isLayer 1 = .ok (.i2l, 1) := by decide +kernel
theorem dX10_isLayer_2 : decode cX10_isLayer 2 = .ok (.lconst 0, 1) := by decide +kernel
theorem dX10_isLayer_3 : decode cX10_isLayer 3 = .ok (.ldc2_w 93, 3) := by decide +kernel
theorem dX10_isLayer_6 : decode cX10_isLayer 6 = .ok (.invokestatic 95, 3) := by decide +kernel
theorem dX10_isLayer_9 : decode cX10_isLayer 9 = .ok (.ireturn, 1) := by decide +kernel
theorem dX10_sheet_0 : decode cX10_sheet 0 = .ok (.iload_n 1, 1) := by decide +kernel
theorem dX10_sheet_1 : decode cX10_sheet 1 = .ok (.i2l, 1) := by decide +kernel
theorem dX10_sheet_2 : decode cX10_sheet 2 = .ok (.lconst 0, 1) := by decide +kernel
theorem dX10_sheet_3 : decode cX10_sheet 3 = .ok (.ldc2_w 99, 3) := by decide +kernel
theorem dX10_sheet_6 : decode cX10_sheet 6 = .ok (.invokestatic 95, 3) := by decide +kernel
theorem dX10_sheet_9 : decode cX10_sheet 9 = .ok (.ifCond .eq 15, 3) := by decide +kernel
theorem dX10_sheet_12 : decode cX10_sheet 12 = .ok (.iload_n 2, 1) := by decide +kernel
theorem dX10_sheet_13 : decode cX10_sheet 13 = .ok (.i2l, 1) := by decide +kernel
theorem dX10_sheet_14 : decode cX10_sheet 14 = .ok (.lconst 0, 1) := by decide +kernel
theorem dX10_sheet_15 : decode cX10_sheet 15 = .ok (.ldc2_w 99, 3) := by decide +kernel
theorem dX10_sheet_18 : decode cX10_sheet 18 = .ok (.invokestatic 95, 3) := by decide +kernel
theorem dX10_sheet_21 : decode cX10_sheet 21 = .ok (.ifCond .ne 5, 3) := by decide +kernel
theorem dX10_sheet_24 : decode cX10_sheet 24 = .ok (.iconst (-1), 1) := by decide +kernel
theorem dX10_sheet_25 : decode cX10_sheet 25 = .ok (.ireturn, 1) := by decide +kernel
theorem dX10_sheet_26 : decode cX10_sheet 26 = .ok (.iload_n 3, 1) := by decide +kernel
theorem dX10_sheet_27 : decode cX10_sheet 27 = .ok (.ifCond .ge 6, 3) := by decide +kernel
theorem dX10_sheet_30 : decode cX10_sheet 30 = .ok (.bipush (-4), 2) := by decide +kernel
theorem dX10_sheet_32 : decode cX10_sheet 32 = .ok (.ireturn, 1) := by decide +kernel
theorem dX10_sheet_33 : decode cX10_sheet 33 = .ok (.iload_n 3, 1) := by decide +kernel
theorem dX10_sheet_34 : decode cX10_sheet 34 = .ok (.bipush 20, 2) := by decide +kernel
theorem dX10_sheet_36 : decode cX10_sheet 36 = .ok (.if_icmp .le 5, 3) := by decide +kernel
theorem dX10_sheet_39 : decode cX10_sheet 39 = .ok (.iconst (-1), 1) := by decide +kernel
theorem dX10_sheet_40 : decode cX10_sheet 40 = .ok (.ireturn, 1) := by decide +kernel
theorem dX10_sheet_41 : decode cX10_sheet 41 = .ok (.aload_n 0, 1) := by decide +kernel
theorem dX10_sheet_42 : decode cX10_sheet 42 = .ok (.getfield 9, 3) := by decide +kernel
theorem dX10_sheet_45 : decode cX10_sheet 45 = .ok (.iload_n 1, 1) := by decide +kernel
theorem dX10_sheet_46 : decode cX10_sheet 46 = .ok (.iload_n 2, 1) := by decide +kernel
theorem dX10_sheet_47 : decode cX10_sheet 47 = .ok (.iastore, 1) := by decide +kernel
theorem dX10_sheet_48 : decode cX10_sheet 48 = .ok (.aload_n 0, 1) := by decide +kernel
theorem dX10_sheet_49 : decode cX10_sheet 49 = .ok (.getfield 13, 3) := by decide +kernel
theorem dX10_sheet_52 : decode cX10_sheet 52 = .ok (.iload_n 1, 1) := by decide +kernel
theorem dX10_sheet_53 : decode cX10_sheet 53 = .ok (.iload_n 3, 1) := by decide +kernel
theorem dX10_sheet_54 : decode cX10_sheet 54 = .ok (.iastore, 1) := by decide +kernel
theorem dX10_sheet_55 : decode cX10_sheet 55 = .ok (.iconst 0, 1) := by decide +kernel
theorem dX10_sheet_56 : decode cX10_sheet 56 = .ok (.istore 4, 2) := by decide +kernel
theorem dX10_sheet_58 : decode cX10_sheet 58 = .ok (.iload 4, 2) := by decide +kernel
theorem dX10_sheet_60 : decode cX10_sheet 60 = .ok (.iload_n 3, 1) := by decide +kernel
theorem dX10_sheet_61 : decode cX10_sheet 61 = .ok (.if_icmp .ge 22, 3) := by decide +kernel
theorem dX10_sheet_64 : decode cX10_sheet 64 = .ok (.aload_n 0, 1) := by decide +kernel
theorem dX10_sheet_65 : decode cX10_sheet 65 = .ok (.getfield 16, 3) := by decide +kernel
theorem dX10_sheet_68 : decode cX10_sheet 68 = .ok (.bipush 20, 2) := by decide +kernel
theorem dX10_sheet_70 : decode cX10_sheet 70 = .ok (.iload_n 1, 1) := by decide +kernel
theorem dX10_sheet_71 : decode cX10_sheet 71 = .ok (.imul, 1) := by decide +kernel
theorem dX10_sheet_72 : decode cX10_sheet 72 = .ok (.iload 4, 2) := by decide +kernel
theorem dX10_sheet_74 : decode cX10_sheet 74 = .ok (.iadd, 1) := by decide +kernel
theorem dX10_sheet_75 : decode cX10_sheet 75 = .ok (.iconst 0, 1) := by decide +kernel
theorem dX10_sheet_76 : decode cX10_sheet 76 = .ok (.iastore, 1) := by decide +kernel
theorem dX10_sheet_77 : decode cX10_sheet 77 = .ok (.iinc 4 1, 3) := by decide +kernel
theorem dX10_sheet_80 : decode cX10_sheet 80 = .ok (.goto (-22), 3) := by decide +kernel
theorem dX10_sheet_83 : decode cX10_sheet 83 = .ok (.iconst 1, 1) := by decide +kernel
theorem dX10_sheet_84 : decode cX10_sheet 84 = .ok (.ireturn, 1) := by decide +kernel
theorem dX10_cell_0 : decode cX10_cell 0 = .ok (.iload_n 1, 1) := by decide +kernel
theorem dX10_cell_1 : decode cX10_cell 1 = .ok (.i2l, 1) := by decide +kernel
theorem dX10_cell_2 : decode cX10_cell 2 = .ok (.lconst 0, 1) := by decide +kernel
theorem dX10_cell_3 : decode cX10_cell 3 = .ok (.ldc2_w 99, 3) := by decide +kernel
theorem dX10_cell_6 : decode cX10_cell 6 = .ok (.invokestatic 95, 3) := by decide +kernel
theorem dX10_cell_9 : decode cX10_cell 9 = .ok (.ifCond .ne 5, 3) := by decide +kernel
theorem dX10_cell_12 : decode cX10_cell 12 = .ok (.iconst (-1), 1) := by decide +kernel
theorem dX10_cell_13 : decode cX10_cell 13 = .ok (.ireturn, 1) := by decide +kernel
theorem dX10_cell_14 : decode cX10_cell 14 = .ok (.aload_n 0, 1) := by decide +kernel
theorem dX10_cell_15 : decode cX10_cell 15 = .ok (.getfield 13, 3) := by decide +kernel
theorem dX10_cell_18 : decode cX10_cell 18 = .ok (.iload_n 1, 1) := by decide +kernel
theorem dX10_cell_19 : decode cX10_cell 19 = .ok (.iaload, 1) := by decide +kernel
theorem dX10_cell_20 : decode cX10_cell 20 = .ok (.ifCond .ge 6, 3) := by decide +kernel
theorem dX10_cell_23 : decode cX10_cell 23 = .ok (.bipush (-3), 2) := by decide +kernel
theorem dX10_cell_25 : decode cX10_cell 25 = .ok (.ireturn, 1) := by decide +kernel
theorem dX10_cell_26 : decode cX10_cell 26 = .ok (.iload_n 2, 1) := by decide +kernel
theorem dX10_cell_27 : decode cX10_cell 27 = .ok (.i2l, 1) := by decide +kernel
theorem dX10_cell_28 : decode cX10_cell 28 = .ok (.lconst 0, 1) := by decide +kernel
theorem dX10_cell_29 : decode cX10_cell 29 = .ok (.aload_n 0, 1) := by decide +kernel
theorem dX10_cell_30 : decode cX10_cell 30 = .ok (.getfield 13, 3) := by decide +kernel
theorem dX10_cell_33 : decode cX10_cell 33 = .ok (.iload_n 1, 1) := by decide +kernel
theorem dX10_cell_34 : decode cX10_cell 34 = .ok (.iaload, 1) := by decide +kernel
theorem dX10_cell_35 : decode cX10_cell 35 = .ok (.iconst 1, 1) := by decide +kernel
theorem dX10_cell_36 : decode cX10_cell 36 = .ok (.isub, 1) := by decide +kernel
theorem dX10_cell_37 : decode cX10_cell 37 = .ok (.i2l, 1) := by decide +kernel
theorem dX10_cell_38 : decode cX10_cell 38 = .ok (.invokestatic 95, 3) := by decide +kernel
theorem dX10_cell_41 : decode cX10_cell 41 = .ok (.ifCond .ne 5, 3) := by decide +kernel
theorem dX10_cell_44 : decode cX10_cell 44 = .ok (.iconst (-1), 1) := by decide +kernel
theorem dX10_cell_45 : decode cX10_cell 45 = .ok (.ireturn, 1) := by decide +kernel
theorem dX10_cell_46 : decode cX10_cell 46 = .ok (.aload_n 0, 1) := by decide +kernel
theorem dX10_cell_47 : decode cX10_cell 47 = .ok (.getfield 16, 3) := by decide +kernel
theorem dX10_cell_50 : decode cX10_cell 50 = .ok (.bipush 20, 2) := by decide +kernel
theorem dX10_cell_52 : decode cX10_cell 52 = .ok (.iload_n 1, 1) := by decide +kernel
theorem dX10_cell_53 : decode cX10_cell 53 = .ok (.imul, 1) := by decide +kernel
theorem dX10_cell_54 : decode cX10_cell 54 = .ok (.iload_n 2, 1) := by decide +kernel
theorem dX10_cell_55 : decode cX10_cell 55 = .ok (.iadd, 1) := by decide +kernel
theorem dX10_cell_56 : decode cX10_cell 56 = .ok (.aload_n 0, 1) := by decide +kernel
theorem dX10_cell_57 : decode cX10_cell 57 = .ok (.getfield 9, 3) := by decide +kernel
theorem dX10_cell_60 : decode cX10_cell 60 = .ok (.iload_n 1, 1) := by decide +kernel
theorem dX10_cell_61 : decode cX10_cell 61 = .ok (.iaload, 1) := by decide +kernel
theorem dX10_cell_62 : decode cX10_cell 62 = .ok (.ifCond .ne 8, 3) := by decide +kernel
theorem dX10_cell_65 : decode cX10_cell 65 = .ok (.iload_n 3, 1) := by decide +kernel
theorem dX10_cell_66 : decode cX10_cell 66 = .ok (.i2b, 1) := by decide +kernel
theorem dX10_cell_67 : decode cX10_cell 67 = .ok (.goto 19, 3) := by decide +kernel
theorem dX10_cell_70 : decode cX10_cell 70 = .ok (.aload_n 0, 1) := by decide +kernel
theorem dX10_cell_71 : decode cX10_cell 71 = .ok (.getfield 9, 3) := by decide +kernel
theorem dX10_cell_74 : decode cX10_cell 74 = .ok (.iload_n 1, 1) := by decide +kernel
theorem dX10_cell_75 : decode cX10_cell 75 = .ok (.iaload, 1) := by decide +kernel
theorem dX10_cell_76 : decode cX10_cell 76 = .ok (.iconst 1, 1) := by decide +kernel
theorem dX10_cell_77 : decode cX10_cell 77 = .ok (.if_icmp .ne 8, 3) := by decide +kernel
theorem dX10_cell_80 : decode cX10_cell 80 = .ok (.iload_n 3, 1) := by decide +kernel
theorem dX10_cell_81 : decode cX10_cell 81 = .ok (.i2s, 1) := by decide +kernel
theorem dX10_cell_82 : decode cX10_cell 82 = .ok (.goto 4, 3) := by decide +kernel
theorem dX10_cell_85 : decode cX10_cell 85 = .ok (.iload_n 3, 1) := by decide +kernel
theorem dX10_cell_86 : decode cX10_cell 86 = .ok (.iastore, 1) := by decide +kernel
theorem dX10_cell_87 : decode cX10_cell 87 = .ok (.iconst 1, 1) := by decide +kernel
theorem dX10_cell_88 : decode cX10_cell 88 = .ok (.ireturn, 1) := by decide +kernel
theorem dX10_lose_0 : decode cX10_lose 0 = .ok (.iload_n 1, 1) := by decide +kernel
theorem dX10_lose_1 : decode cX10_lose 1 = .ok (.i2l, 1) := by decide +kernel
theorem dX10_lose_2 : decode cX10_lose 2 = .ok (.lconst 0, 1) := by decide +kernel
theorem dX10_lose_3 : decode cX10_lose 3 = .ok (.ldc2_w 99, 3) := by decide +kernel
theorem dX10_lose_6 : decode cX10_lose 6 = .ok (.invokestatic 95, 3) := by decide +kernel
theorem dX10_lose_9 : decode cX10_lose 9 = .ok (.ifCond .ne 5, 3) := by decide +kernel
theorem dX10_lose_12 : decode cX10_lose 12 = .ok (.iconst (-1), 1) := by decide +kernel
theorem dX10_lose_13 : decode cX10_lose 13 = .ok (.ireturn, 1) := by decide +kernel
theorem dX10_lose_14 : decode cX10_lose 14 = .ok (.aload_n 0, 1) := by decide +kernel
theorem dX10_lose_15 : decode cX10_lose 15 = .ok (.getfield 13, 3) := by decide +kernel
theorem dX10_lose_18 : decode cX10_lose 18 = .ok (.iload_n 1, 1) := by decide +kernel
theorem dX10_lose_19 : decode cX10_lose 19 = .ok (.iaload, 1) := by decide +kernel
theorem dX10_lose_20 : decode cX10_lose 20 = .ok (.ifCond .ge 6, 3) := by decide +kernel
theorem dX10_lose_23 : decode cX10_lose 23 = .ok (.bipush (-3), 2) := by decide +kernel
theorem dX10_lose_25 : decode cX10_lose 25 = .ok (.ireturn, 1) := by decide +kernel
theorem dX10_lose_26 : decode cX10_lose 26 = .ok (.aload_n 0, 1) := by decide +kernel
theorem dX10_lose_27 : decode cX10_lose 27 = .ok (.getfield 13, 3) := by decide +kernel
theorem dX10_lose_30 : decode cX10_lose 30 = .ok (.iload_n 1, 1) := by decide +kernel
theorem dX10_lose_31 : decode cX10_lose 31 = .ok (.iconst (-1), 1) := by decide +kernel
theorem dX10_lose_32 : decode cX10_lose 32 = .ok (.iastore, 1) := by decide +kernel
theorem dX10_lose_33 : decode cX10_lose 33 = .ok (.iconst 1, 1) := by decide +kernel
theorem dX10_lose_34 : decode cX10_lose 34 = .ok (.ireturn, 1) := by decide +kernel
theorem dX10_allHits_0 : decode cX10_allHits 0 = .ok (.iconst 0, 1) := by decide +kernel
theorem dX10_allHits_1 : decode cX10_allHits 1 = .ok (.istore_n 1, 1) := by decide +kernel
theorem dX10_allHits_2 : decode cX10_allHits 2 = .ok (.iconst 0, 1) := by decide +kernel
theorem dX10_allHits_3 : decode cX10_allHits 3 = .ok (.istore_n 2, 1) := by decide +kernel
theorem dX10_allHits_4 : decode cX10_allHits 4 = .ok (.iload_n 2, 1) := by decide +kernel
theorem dX10_allHits_5 : decode cX10_allHits 5 = .ok (.iconst 5, 1) := by decide +kernel
theorem dX10_allHits_6 : decode cX10_allHits 6 = .ok (.if_icmp .ge 21, 3) := by decide +kernel
theorem dX10_allHits_9 : decode cX10_allHits 9 = .ok (.iload_n 1, 1) := by decide +kernel
theorem dX10_allHits_10 : decode cX10_allHits 10 = .ok (.aload_n 0, 1) := by decide +kernel
theorem dX10_allHits_11 : decode cX10_allHits 11 = .ok (.getfield 19, 3) := by decide +kernel
theorem dX10_allHits_14 : decode cX10_allHits 14 = .ok (.iload_n 2, 1) := by decide +kernel
theorem dX10_allHits_15 : decode cX10_allHits 15 = .ok (.iaload, 1) := by decide +kernel
theorem dX10_allHits_16 : decode cX10_allHits 16 = .ok (.invokestatic 101, 3) := by decide +kernel
theorem dX10_allHits_19 : decode cX10_allHits 19 = .ok (.iadd, 1) := by decide +kernel
theorem dX10_allHits_20 : decode cX10_allHits 20 = .ok (.istore_n 1, 1) := by decide +kernel
theorem dX10_allHits_21 : decode cX10_allHits 21 = .ok (.iinc 2 1, 3) := by decide +kernel
theorem dX10_allHits_24 : decode cX10_allHits 24 = .ok (.goto (-20), 3) := by decide +kernel
theorem dX10_allHits_27 : decode cX10_allHits 27 = .ok (.iload_n 1, 1) := by decide +kernel
theorem dX10_allHits_28 : decode cX10_allHits 28 = .ok (.ireturn, 1) := by decide +kernel
theorem dX10_hits_0 : decode cX10_hits 0 = .ok (.iload_n 1, 1) := by decide +kernel
theorem dX10_hits_1 : decode cX10_hits 1 = .ok (.invokestatic 105, 3) := by decide +kernel
theorem dX10_hits_4 : decode cX10_hits 4 = .ok (.ifCond .eq 15, 3) := by decide +kernel
theorem dX10_hits_7 : decode cX10_hits 7 = .ok (.iload_n 2, 1) := by decide +kernel
theorem dX10_hits_8 : decode cX10_hits 8 = .ok (.i2l, 1) := by decide +kernel
theorem dX10_hits_9 : decode cX10_hits 9 = .ok (.lconst 0, 1) := by decide +kernel
theorem dX10_hits_10 : decode cX10_hits 10 = .ok (.ldc2_w 109, 3) := by decide +kernel
theorem dX10_hits_13 : decode cX10_hits 13 = .ok (.invokestatic 95, 3) := by decide +kernel
theorem dX10_hits_16 : decode cX10_hits 16 = .ok (.ifCond .ne 5, 3) := by decide +kernel
theorem dX10_hits_19 : decode cX10_hits 19 = .ok (.iconst (-1), 1) := by decide +kernel
theorem dX10_hits_20 : decode cX10_hits 20 = .ok (.ireturn, 1) := by decide +kernel
theorem dX10_hits_21 : decode cX10_hits 21 = .ok (.aload_n 0, 1) := by decide +kernel
theorem dX10_hits_22 : decode cX10_hits 22 = .ok (.getfield 19, 3) := by decide +kernel
theorem dX10_hits_25 : decode cX10_hits 25 = .ok (.iload_n 1, 1) := by decide +kernel
theorem dX10_hits_26 : decode cX10_hits 26 = .ok (.iload_n 2, 1) := by decide +kernel
theorem dX10_hits_27 : decode cX10_hits 27 = .ok (.iastore, 1) := by decide +kernel
theorem dX10_hits_28 : decode cX10_hits 28 = .ok (.iload_n 2, 1) := by decide +kernel
theorem dX10_hits_29 : decode cX10_hits 29 = .ok (.invokestatic 101, 3) := by decide +kernel
theorem dX10_hits_32 : decode cX10_hits 32 = .ok (.ireturn, 1) := by decide +kernel
theorem dX10_load_0 : decode cX10_load 0 = .ok (.iload_n 1, 1) := by decide +kernel
theorem dX10_load_1 : decode cX10_load 1 = .ok (.i2l, 1) := by decide +kernel
theorem dX10_load_2 : decode cX10_load 2 = .ok (.lconst 0, 1) := by decide +kernel
theorem dX10_load_3 : decode cX10_load 3 = .ok (.ldc2_w 99, 3) := by decide +kernel
theorem dX10_load_6 : decode cX10_load 6 = .ok (.invokestatic 95, 3) := by decide +kernel
theorem dX10_load_9 : decode cX10_load 9 = .ok (.ifCond .eq 7, 3) := by decide +kernel
theorem dX10_load_12 : decode cX10_load 12 = .ok (.iload_n 2, 1) := by decide +kernel
theorem dX10_load_13 : decode cX10_load 13 = .ok (.ifCond .ge 5, 3) := by decide +kernel
theorem dX10_load_16 : decode cX10_load 16 = .ok (.iconst (-1), 1) := by decide +kernel
theorem dX10_load_17 : decode cX10_load 17 = .ok (.ireturn, 1) := by decide +kernel
theorem dX10_load_18 : decode cX10_load 18 = .ok (.aload_n 0, 1) := by decide +kernel
theorem dX10_load_19 : decode cX10_load 19 = .ok (.getfield 13, 3) := by decide +kernel
theorem dX10_load_22 : decode cX10_load 22 = .ok (.iload_n 1, 1) := by decide +kernel
theorem dX10_load_23 : decode cX10_load 23 = .ok (.iaload, 1) := by decide +kernel
theorem dX10_load_24 : decode cX10_load 24 = .ok (.ifCond .ge 6, 3) := by decide +kernel
theorem dX10_load_27 : decode cX10_load 27 = .ok (.bipush (-3), 2) := by decide +kernel
theorem dX10_load_29 : decode cX10_load 29 = .ok (.ireturn, 1) := by decide +kernel
theorem dX10_load_30 : decode cX10_load 30 = .ok (.iconst 0, 1) := by decide +kernel
theorem dX10_load_31 : decode cX10_load 31 = .ok (.istore_n 3, 1) := by decide +kernel
theorem dX10_load_32 : decode cX10_load 32 = .ok (.iload_n 3, 1) := by decide +kernel
theorem dX10_load_33 : decode cX10_load 33 = .ok (.iconst 5, 1) := by decide +kernel
theorem dX10_load_34 : decode cX10_load 34 = .ok (.if_icmp .ge 51, 3) := by decide +kernel
theorem dX10_load_37 : decode cX10_load 37 = .ok (.aload_n 0, 1) := by decide +kernel
theorem dX10_load_38 : decode cX10_load 38 = .ok (.getfield 19, 3) := by decide +kernel
theorem dX10_load_41 : decode cX10_load 41 = .ok (.iload_n 3, 1) := by decide +kernel
theorem dX10_load_42 : decode cX10_load 42 = .ok (.iload_n 2, 1) := by decide +kernel
theorem dX10_load_43 : decode cX10_load 43 = .ok (.i2l, 1) := by decide +kernel
theorem dX10_load_44 : decode cX10_load 44 = .ok (.iload_n 3, 1) := by decide +kernel
theorem dX10_load_45 : decode cX10_load 45 = .ok (.i2l, 1) := by decide +kernel
theorem dX10_load_46 : decode cX10_load 46 = .ok (.ladd, 1) := by decide +kernel
theorem dX10_load_47 : decode cX10_load 47 = .ok (.aload_n 0, 1) := by decide +kernel
theorem dX10_load_48 : decode cX10_load 48 = .ok (.getfield 13, 3) := by decide +kernel
theorem dX10_load_51 : decode cX10_load 51 = .ok (.iload_n 1, 1) := by decide +kernel
theorem dX10_load_52 : decode cX10_load 52 = .ok (.iaload, 1) := by decide +kernel
theorem dX10_load_53 : decode cX10_load 53 = .ok (.i2l, 1) := by decide +kernel
theorem dX10_load_54 : decode cX10_load 54 = .ok (.lcmp, 1) := by decide +kernel
theorem dX10_load_55 : decode cX10_load 55 = .ok (.ifCond .ge 22, 3) := by decide +kernel
theorem dX10_load_58 : decode cX10_load 58 = .ok (.aload_n 0, 1) := by decide +kernel
theorem dX10_load_59 : decode cX10_load 59 = .ok (.getfield 16, 3) := by decide +kernel
theorem dX10_load_62 : decode cX10_load 62 = .ok (.bipush 20, 2) := by decide +kernel
theorem dX10_load_64 : decode cX10_load 64 = .ok (.iload_n 1, 1) := by decide +kernel
theorem dX10_load_65 : decode cX10_load 65 = .ok (.imul, 1) := by decide +kernel
theorem dX10_load_66 : decode cX10_load 66 = .ok (.iload_n 2, 1) := by decide +kernel
theorem dX10_load_67 : decode cX10_load 67 = .ok (.iadd, 1) := by decide +kernel
theorem dX10_load_68 : decode cX10_load 68 = .ok (.iload_n 3, 1) := by decide +kernel
theorem dX10_load_69 : decode cX10_load 69 = .ok (.iadd, 1) := by decide +kernel
theorem dX10_load_70 : decode cX10_load 70 = .ok (.iaload, 1) := by decide +kernel
theorem dX10_load_71 : decode cX10_load 71 = .ok (.ldc 111, 2) := by decide +kernel
theorem dX10_load_73 : decode cX10_load 73 = .ok (.iand, 1) := by decide +kernel
theorem dX10_load_74 : decode cX10_load 74 = .ok (.goto 4, 3) := by decide +kernel
theorem dX10_load_77 : decode cX10_load 77 = .ok (.iconst 0, 1) := by decide +kernel
theorem dX10_load_78 : decode cX10_load 78 = .ok (.iastore, 1) := by decide +kernel
theorem dX10_load_79 : decode cX10_load 79 = .ok (.iinc 3 1, 3) := by decide +kernel
theorem dX10_load_82 : decode cX10_load 82 = .ok (.goto (-50), 3) := by decide +kernel
theorem dX10_load_85 : decode cX10_load 85 = .ok (.aload_n 0, 1) := by decide +kernel
theorem dX10_load_86 : decode cX10_load 86 = .ok (.invokevirtual 112, 3) := by decide +kernel
theorem dX10_load_89 : decode cX10_load 89 = .ok (.ireturn, 1) := by decide +kernel
theorem dX10_mask_0 : decode cX10_mask 0 = .ok (.iload_n 1, 1) := by decide +kernel
theorem dX10_mask_1 : decode cX10_mask 1 = .ok (.invokestatic 105, 3) := by decide +kernel
theorem dX10_mask_4 : decode cX10_mask 4 = .ok (.ifCond .eq 25, 3) := by decide +kernel
theorem dX10_mask_7 : decode cX10_mask 7 = .ok (.iload_n 2, 1) := by decide +kernel
theorem dX10_mask_8 : decode cX10_mask 8 = .ok (.i2l, 1) := by decide +kernel
theorem dX10_mask_9 : decode cX10_mask 9 = .ok (.lconst 0, 1) := by decide +kernel
theorem dX10_mask_10 : decode cX10_mask 10 = .ok (.lconst 1, 1) := by decide +kernel
theorem dX10_mask_11 : decode cX10_mask 11 = .ok (.invokestatic 95, 3) := by decide +kernel
theorem dX10_mask_14 : decode cX10_mask 14 = .ok (.ifCond .eq 15, 3) := by decide +kernel
theorem dX10_mask_17 : decode cX10_mask 17 = .ok (.iload_n 3, 1) := by decide +kernel
theorem dX10_mask_18 : decode cX10_mask 18 = .ok (.i2l, 1) := by decide +kernel
theorem dX10_mask_19 : decode cX10_mask 19 = .ok (.lconst 0, 1) := by decide +kernel
theorem dX10_mask_20 : decode cX10_mask 20 = .ok (.ldc2_w 109, 3) := by decide +kernel
theorem dX10_mask_23 : decode cX10_mask 23 = .ok (.invokestatic 95, 3) := by decide +kernel
theorem dX10_mask_26 : decode cX10_mask 26 = .ok (.ifCond .ne 5, 3) := by decide +kernel
theorem dX10_mask_29 : decode cX10_mask 29 = .ok (.iconst (-1), 1) := by decide +kernel
theorem dX10_mask_30 : decode cX10_mask 30 = .ok (.ireturn, 1) := by decide +kernel
theorem dX10_mask_31 : decode cX10_mask 31 = .ok (.iload_n 2, 1) := by decide +kernel
theorem dX10_mask_32 : decode cX10_mask 32 = .ok (.ifCond .ne 12, 3) := by decide +kernel
theorem dX10_mask_35 : decode cX10_mask 35 = .ok (.aload_n 0, 1) := by decide +kernel
theorem dX10_mask_36 : decode cX10_mask 36 = .ok (.getfield 22, 3) := by decide +kernel
theorem dX10_mask_39 : decode cX10_mask 39 = .ok (.iload_n 1, 1) := by decide +kernel
theorem dX10_mask_40 : decode cX10_mask 40 = .ok (.iaload, 1) := by decide +kernel
theorem dX10_mask_41 : decode cX10_mask 41 = .ok (.goto 9, 3) := by decide +kernel
theorem dX10_mask_44 : decode cX10_mask 44 = .ok (.aload_n 0, 1) := by decide +kernel
theorem dX10_mask_45 : decode cX10_mask 45 = .ok (.getfield 25, 3) := by decide +kernel
theorem dX10_mask_48 : decode cX10_mask 48 = .ok (.iload_n 1, 1) := by decide +kernel
theorem dX10_mask_49 : decode cX10_mask 49 = .ok (.iaload, 1) := by decide +kernel
theorem dX10_mask_50 : decode cX10_mask 50 = .ok (.istore 4, 2) := by decide +kernel
theorem dX10_mask_52 : decode cX10_mask 52 = .ok (.iload_n 2, 1) := by decide +kernel
theorem dX10_mask_53 : decode cX10_mask 53 = .ok (.ifCond .ne 13, 3) := by decide +kernel
theorem dX10_mask_56 : decode cX10_mask 56 = .ok (.aload_n 0, 1) := by decide +kernel
theorem dX10_mask_57 : decode cX10_mask 57 = .ok (.getfield 22, 3) := by decide +kernel
theorem dX10_mask_60 : decode cX10_mask 60 = .ok (.iload_n 1, 1) := by decide +kernel
theorem dX10_mask_61 : decode cX10_mask 61 = .ok (.iload_n 3, 1) := by decide +kernel
theorem dX10_mask_62 : decode cX10_mask 62 = .ok (.iastore, 1) := by decide +kernel
theorem dX10_mask_63 : decode cX10_mask 63 = .ok (.goto 10, 3) := by decide +kernel
theorem dX10_mask_66 : decode cX10_mask 66 = .ok (.aload_n 0, 1) := by decide +kernel
theorem dX10_mask_67 : decode cX10_mask 67 = .ok (.getfield 25, 3) := by decide +kernel
theorem dX10_mask_70 : decode cX10_mask 70 = .ok (.iload_n 1, 1) := by decide +kernel
theorem dX10_mask_71 : decode cX10_mask 71 = .ok (.iload_n 3, 1) := by decide +kernel
theorem dX10_mask_72 : decode cX10_mask 72 = .ok (.iastore, 1) := by decide +kernel
theorem dX10_mask_73 : decode cX10_mask 73 = .ok (.iload 4, 2) := by decide +kernel
theorem dX10_mask_75 : decode cX10_mask 75 = .ok (.ireturn, 1) := by decide +kernel
theorem dX10_seen_0 : decode cX10_seen 0 = .ok (.aload_n 0, 1) := by decide +kernel
theorem dX10_seen_1 : decode cX10_seen 1 = .ok (.getfield 19, 3) := by decide +kernel
theorem dX10_seen_4 : decode cX10_seen 4 = .ok (.iload_n 1, 1) := by decide +kernel
theorem dX10_seen_5 : decode cX10_seen 5 = .ok (.iaload, 1) := by decide +kernel
theorem dX10_seen_6 : decode cX10_seen 6 = .ok (.aload_n 0, 1) := by decide +kernel
theorem dX10_seen_7 : decode cX10_seen 7 = .ok (.getfield 22, 3) := by decide +kernel
theorem dX10_seen_10 : decode cX10_seen 10 = .ok (.iload_n 1, 1) := by decide +kernel
theorem dX10_seen_11 : decode cX10_seen 11 = .ok (.iaload, 1) := by decide +kernel
theorem dX10_seen_12 : decode cX10_seen 12 = .ok (.iconst (-1), 1) := by decide +kernel
theorem dX10_seen_13 : decode cX10_seen 13 = .ok (.ixor, 1) := by decide +kernel
theorem dX10_seen_14 : decode cX10_seen 14 = .ok (.iand, 1) := by decide +kernel
theorem dX10_seen_15 : decode cX10_seen 15 = .ok (.aload_n 0, 1) := by decide +kernel
theorem dX10_seen_16 : decode cX10_seen 16 = .ok (.getfield 25, 3) := by decide +kernel
theorem dX10_seen_19 : decode cX10_seen 19 = .ok (.iload_n 1, 1) := by decide +kernel
theorem dX10_seen_20 : decode cX10_seen 20 = .ok (.iaload, 1) := by decide +kernel
theorem dX10_seen_21 : decode cX10_seen 21 = .ok (.iconst (-1), 1) := by decide +kernel
theorem dX10_seen_22 : decode cX10_seen 22 = .ok (.ixor, 1) := by decide +kernel
theorem dX10_seen_23 : decode cX10_seen 23 = .ok (.iand, 1) := by decide +kernel
theorem dX10_seen_24 : decode cX10_seen 24 = .ok (.ireturn, 1) := by decide +kernel
theorem dX10_layer_0 : decode cX10_layer 0 = .ok (.iload_n 1, 1) := by decide +kernel
theorem dX10_layer_1 : decode cX10_layer 1 = .ok (.invokestatic 105, 3) := by decide +kernel
theorem dX10_layer_4 : decode cX10_layer 4 = .ok (.ifCond .ne 5, 3) := by decide +kernel
theorem dX10_layer_7 : decode cX10_layer 7 = .ok (.iconst (-1), 1) := by decide +kernel
theorem dX10_layer_8 : decode cX10_layer 8 = .ok (.ireturn, 1) := by decide +kernel
theorem dX10_layer_9 : decode cX10_layer 9 = .ok (.iload_n 2, 1) := by decide +kernel
theorem dX10_layer_10 : decode cX10_layer 10 = .ok (.tableswitch 57 0 3 #[30, 37, 43, 50], 30) := by decide +kernel
theorem dX10_layer_40 : decode cX10_layer 40 = .ok (.aload_n 0, 1) := by decide +kernel
theorem dX10_layer_41 : decode cX10_layer 41 = .ok (.getfield 19, 3) := by decide +kernel
theorem dX10_layer_44 : decode cX10_layer 44 = .ok (.iload_n 1, 1) := by decide +kernel
theorem dX10_layer_45 : decode cX10_layer 45 = .ok (.iaload, 1) := by decide +kernel
theorem dX10_layer_46 : decode cX10_layer 46 = .ok (.ireturn, 1) := by decide +kernel
theorem dX10_layer_47 : decode cX10_layer 47 = .ok (.aload_n 0, 1) := by decide +kernel
theorem dX10_layer_48 : decode cX10_layer 48 = .ok (.iload_n 1, 1) := by decide +kernel
theorem dX10_layer_49 : decode cX10_layer 49 = .ok (.invokevirtual 116, 3) := by decide +kernel
theorem dX10_layer_52 : decode cX10_layer 52 = .ok (.ireturn, 1) := by decide +kernel
theorem dX10_layer_53 : decode cX10_layer 53 = .ok (.aload_n 0, 1) := by decide +kernel
theorem dX10_layer_54 : decode cX10_layer 54 = .ok (.getfield 22, 3) := by decide +kernel
theorem dX10_layer_57 : decode cX10_layer 57 = .ok (.iload_n 1, 1) := by decide +kernel
theorem dX10_layer_58 : decode cX10_layer 58 = .ok (.iaload, 1) := by decide +kernel
theorem dX10_layer_59 : decode cX10_layer 59 = .ok (.ireturn, 1) := by decide +kernel
theorem dX10_layer_60 : decode cX10_layer 60 = .ok (.aload_n 0, 1) := by decide +kernel
theorem dX10_layer_61 : decode cX10_layer 61 = .ok (.getfield 25, 3) := by decide +kernel
theorem dX10_layer_64 : decode cX10_layer 64 = .ok (.iload_n 1, 1) := by decide +kernel
theorem dX10_layer_65 : decode cX10_layer 65 = .ok (.iaload, 1) := by decide +kernel
theorem dX10_layer_66 : decode cX10_layer 66 = .ok (.ireturn, 1) := by decide +kernel
theorem dX10_layer_67 : decode cX10_layer 67 = .ok (.iconst (-1), 1) := by decide +kernel
theorem dX10_layer_68 : decode cX10_layer 68 = .ok (.ireturn, 1) := by decide +kernel
theorem dX10_isSpan_0 : decode cX10_isSpan 0 = .ok (.iload_n 0, 1) := by decide +kernel
theorem dX10_isSpan_1 : decode cX10_isSpan 1 = .ok (.ifCond .lt 40, 3) := by decide +kernel
theorem dX10_isSpan_4 : decode cX10_isSpan 4 = .ok (.iload_n 0, 1) := by decide +kernel
theorem dX10_isSpan_5 : decode cX10_isSpan 5 = .ok (.bipush 100, 2) := by decide +kernel
theorem dX10_isSpan_7 : decode cX10_isSpan 7 = .ok (.idiv, 1) := by decide +kernel
theorem dX10_isSpan_8 : decode cX10_isSpan 8 = .ok (.iload_n 0, 1) := by decide +kernel
theorem dX10_isSpan_9 : decode cX10_isSpan 9 = .ok (.bipush 100, 2) := by decide +kernel
theorem dX10_isSpan_11 : decode cX10_isSpan 11 = .ok (.irem, 1) := by decide +kernel
theorem dX10_isSpan_12 : decode cX10_isSpan 12 = .ok (.if_icmp .gt 29, 3) := by decide +kernel
theorem dX10_isSpan_15 : decode cX10_isSpan 15 = .ok (.iload_n 0, 1) := by decide +kernel
theorem dX10_isSpan_16 : decode cX10_isSpan 16 = .ok (.bipush 100, 2) := by decide +kernel
theorem dX10_isSpan_18 : decode cX10_isSpan 18 = .ok (.irem, 1) := by decide +kernel
theorem dX10_isSpan_19 : decode cX10_isSpan 19 = .ok (.bipush 16, 2) := by decide +kernel
theorem dX10_isSpan_21 : decode cX10_isSpan 21 = .ok (.if_icmp .ge 20, 3) := by decide +kernel
theorem dX10_isSpan_24 : decode cX10_isSpan 24 = .ok (.iload_n 0, 1) := by decide +kernel
theorem dX10_isSpan_25 : decode cX10_isSpan 25 = .ok (.bipush 100, 2) := by decide +kernel
theorem dX10_isSpan_27 : decode cX10_isSpan 27 = .ok (.irem, 1) := by decide +kernel
theorem dX10_isSpan_28 : decode cX10_isSpan 28 = .ok (.iload_n 0, 1) := by decide +kernel
theorem dX10_isSpan_29 : decode cX10_isSpan 29 = .ok (.bipush 100, 2) := by decide +kernel
theorem dX10_isSpan_31 : decode cX10_isSpan 31 = .ok (.idiv, 1) := by decide +kernel
theorem dX10_isSpan_32 : decode cX10_isSpan 32 = .ok (.isub, 1) := by decide +kernel
theorem dX10_isSpan_33 : decode cX10_isSpan 33 = .ok (.iconst 3, 1) := by decide +kernel
theorem dX10_isSpan_34 : decode cX10_isSpan 34 = .ok (.if_icmp .gt 7, 3) := by decide +kernel
theorem dX10_isSpan_37 : decode cX10_isSpan 37 = .ok (.iconst 1, 1) := by decide +kernel
theorem dX10_isSpan_38 : decode cX10_isSpan 38 = .ok (.goto 4, 3) := by decide +kernel
theorem dX10_isSpan_41 : decode cX10_isSpan 41 = .ok (.iconst 0, 1) := by decide +kernel
theorem dX10_isSpan_42 : decode cX10_isSpan 42 = .ok (.ireturn, 1) := by decide +kernel
theorem dX10_road_0 : decode cX10_road 0 = .ok (.aload_n 0, 1) := by decide +kernel
theorem dX10_road_1 : decode cX10_road 1 = .ok (.getfield 72, 3) := by decide +kernel
theorem dX10_road_4 : decode cX10_road 4 = .ok (.iconst 0, 1) := by decide +kernel
theorem dX10_road_5 : decode cX10_road 5 = .ok (.iload_n 1, 1) := by decide +kernel
theorem dX10_road_6 : decode cX10_road 6 = .ok (.iastore, 1) := by decide +kernel
theorem dX10_road_7 : decode cX10_road 7 = .ok (.aload_n 0, 1) := by decide +kernel
theorem dX10_road_8 : decode cX10_road 8 = .ok (.getfield 72, 3) := by decide +kernel
theorem dX10_road_11 : decode cX10_road 11 = .ok (.iconst 1, 1) := by decide +kernel
theorem dX10_road_12 : decode cX10_road 12 = .ok (.iload_n 2, 1) := by decide +kernel
theorem dX10_road_13 : decode cX10_road 13 = .ok (.iastore, 1) := by decide +kernel
theorem dX10_road_14 : decode cX10_road 14 = .ok (.aload_n 0, 1) := by decide +kernel
theorem dX10_road_15 : decode cX10_road 15 = .ok (.getfield 72, 3) := by decide +kernel
theorem dX10_road_18 : decode cX10_road 18 = .ok (.iconst 2, 1) := by decide +kernel
theorem dX10_road_19 : decode cX10_road 19 = .ok (.iload_n 3, 1) := by decide +kernel
theorem dX10_road_20 : decode cX10_road 20 = .ok (.iastore, 1) := by decide +kernel
theorem dX10_road_21 : decode cX10_road 21 = .ok (.aload_n 0, 1) := by decide +kernel
theorem dX10_road_22 : decode cX10_road 22 = .ok (.getfield 72, 3) := by decide +kernel
theorem dX10_road_25 : decode cX10_road 25 = .ok (.iconst 3, 1) := by decide +kernel
theorem dX10_road_26 : decode cX10_road 26 = .ok (.iload 4, 2) := by decide +kernel
theorem dX10_road_28 : decode cX10_road 28 = .ok (.iastore, 1) := by decide +kernel
theorem dX10_road_29 : decode cX10_road 29 = .ok (.aload_n 0, 1) := by decide +kernel
theorem dX10_road_30 : decode cX10_road 30 = .ok (.getfield 72, 3) := by decide +kernel
theorem dX10_road_33 : decode cX10_road 33 = .ok (.iconst 4, 1) := by decide +kernel
theorem dX10_road_34 : decode cX10_road 34 = .ok (.iload 5, 2) := by decide +kernel
theorem dX10_road_36 : decode cX10_road 36 = .ok (.iastore, 1) := by decide +kernel
theorem dX10_road_37 : decode cX10_road 37 = .ok (.iconst 0, 1) := by decide +kernel
theorem dX10_road_38 : decode cX10_road 38 = .ok (.istore 7, 2) := by decide +kernel
theorem dX10_road_40 : decode cX10_road 40 = .ok (.iload 7, 2) := by decide +kernel
theorem dX10_road_42 : decode cX10_road 42 = .ok (.iconst 5, 1) := by decide +kernel
theorem dX10_road_43 : decode cX10_road 43 = .ok (.if_icmp .ge 24, 3) := by decide +kernel
theorem dX10_road_46 : decode cX10_road 46 = .ok (.aload_n 0, 1) := by decide +kernel
theorem dX10_road_47 : decode cX10_road 47 = .ok (.getfield 72, 3) := by decide +kernel
theorem dX10_road_50 : decode cX10_road 50 = .ok (.iload 7, 2) := by decide +kernel
theorem dX10_road_52 : decode cX10_road 52 = .ok (.iaload, 1) := by decide +kernel
theorem dX10_road_53 : decode cX10_road 53 = .ok (.invokestatic 119, 3) := by decide +kernel
theorem dX10_road_56 : decode cX10_road 56 = .ok (.ifCond .ne 5, 3) := by decide +kernel
theorem dX10_road_59 : decode cX10_road 59 = .ok (.iconst (-1), 1) := by decide +kernel
theorem dX10_road_60 : decode cX10_road 60 = .ok (.ireturn, 1) := by decide +kernel
theorem dX10_road_61 : decode cX10_road 61 = .ok (.iinc 7 1, 3) := by decide +kernel
theorem dX10_road_64 : decode cX10_road 64 = .ok (.goto (-24), 3) := by decide +kernel
theorem dX10_road_67 : decode cX10_road 67 = .ok (.iload 6, 2) := by decide +kernel
theorem dX10_road_69 : decode cX10_road 69 = .ok (.i2l, 1) := by decide +kernel
theorem dX10_road_70 : decode cX10_road 70 = .ok (.lconst 1, 1) := by decide +kernel
theorem dX10_road_71 : decode cX10_road 71 = .ok (.ldc2_w 122, 3) := by decide +kernel
theorem dX10_road_74 : decode cX10_road 74 = .ok (.invokestatic 95, 3) := by decide +kernel
theorem dX10_road_77 : decode cX10_road 77 = .ok (.ifCond .ne 5, 3) := by decide +kernel
theorem dX10_road_80 : decode cX10_road 80 = .ok (.iconst (-1), 1) := by decide +kernel
theorem dX10_road_81 : decode cX10_road 81 = .ok (.ireturn, 1) := by decide +kernel
theorem dX10_road_82 : decode cX10_road 82 = .ok (.aload_n 0, 1) := by decide +kernel
theorem dX10_road_83 : decode cX10_road 83 = .ok (.getfield 124, 3) := by decide +kernel
theorem dX10_road_86 : decode cX10_road 86 = .ok (.bipush 12, 2) := by decide +kernel
theorem dX10_road_88 : decode cX10_road 88 = .ok (.if_icmp .ne 6, 3) := by decide +kernel
theorem dX10_road_91 : decode cX10_road 91 = .ok (.bipush (-2), 2) := by decide +kernel
theorem dX10_road_93 : decode cX10_road 93 = .ok (.ireturn, 1) := by decide +kernel
theorem dX10_road_94 : decode cX10_road 94 = .ok (.iconst 0, 1) := by decide +kernel
theorem dX10_road_95 : decode cX10_road 95 = .ok (.istore 7, 2) := by decide +kernel
theorem dX10_road_97 : decode cX10_road 97 = .ok (.iload 7, 2) := by decide +kernel
theorem dX10_road_99 : decode cX10_road 99 = .ok (.iconst 5, 1) := by decide +kernel
theorem dX10_road_100 : decode cX10_road 100 = .ok (.if_icmp .ge 30, 3) := by decide +kernel
theorem dX10_road_103 : decode cX10_road 103 = .ok (.aload_n 0, 1) := by decide +kernel
theorem dX10_road_104 : decode cX10_road 104 = .ok (.getfield 28, 3) := by decide +kernel
theorem dX10_road_107 : decode cX10_road 107 = .ok (.iconst 5, 1) := by decide +kernel
theorem dX10_road_108 : decode cX10_road 108 = .ok (.aload_n 0, 1) := by decide +kernel
theorem dX10_road_109 : decode cX10_road 109 = .ok (.getfield 124, 3) := by decide +kernel
theorem dX10_road_112 : decode cX10_road 112 = .ok (.imul, 1) := by decide +kernel
theorem dX10_road_113 : decode cX10_road 113 = .ok (.iload 7, 2) := by decide +kernel
theorem dX10_road_115 : decode cX10_road 115 = .ok (.iadd, 1) := by decide +kernel
theorem dX10_road_116 : decode cX10_road 116 = .ok (.aload_n 0, 1) := by decide +kernel
theorem dX10_road_117 : decode cX10_road 117 = .ok (.getfield 72, 3) := by decide +kernel
theorem dX10_road_120 : decode cX10_road 120 = .ok (.iload 7, 2) := by decide +kernel
theorem dX10_road_122 : decode cX10_road 122 = .ok (.iaload, 1) := by decide +kernel
theorem dX10_road_123 : decode cX10_road 123 = .ok (.iastore, 1) := by decide +kernel
theorem dX10_road_124 : decode cX10_road 124 = .ok (.iinc 7 1, 3) := by decide +kernel
theorem dX10_road_127 : decode cX10_road 127 = .ok (.goto (-30), 3) := by decide +kernel
theorem dX10_road_130 : decode cX10_road 130 = .ok (.aload_n 0, 1) := by decide +kernel
theorem dX10_road_131 : decode cX10_road 131 = .ok (.getfield 31, 3) := by decide +kernel
theorem dX10_road_134 : decode cX10_road 134 = .ok (.aload_n 0, 1) := by decide +kernel
theorem dX10_road_135 : decode cX10_road 135 = .ok (.getfield 124, 3) := by decide +kernel
theorem dX10_road_138 : decode cX10_road 138 = .ok (.iload 6, 2) := by decide +kernel
theorem dX10_road_140 : decode cX10_road 140 = .ok (.iastore, 1) := by decide +kernel
theorem dX10_road_141 : decode cX10_road 141 = .ok (.aload_n 0, 1) := by decide +kernel
theorem dX10_road_142 : decode cX10_road 142 = .ok (.dup, 1) := by decide +kernel
theorem dX10_road_143 : decode cX10_road 143 = .ok (.getfield 124, 3) := by decide +kernel
theorem dX10_road_146 : decode cX10_road 146 = .ok (.iconst 1, 1) := by decide +kernel
theorem dX10_road_147 : decode cX10_road 147 = .ok (.iadd, 1) := by decide +kernel
theorem dX10_road_148 : decode cX10_road 148 = .ok (.putfield 124, 3) := by decide +kernel
theorem dX10_road_151 : decode cX10_road 151 = .ok (.aload_n 0, 1) := by decide +kernel
theorem dX10_road_152 : decode cX10_road 152 = .ok (.getfield 124, 3) := by decide +kernel
theorem dX10_road_155 : decode cX10_road 155 = .ok (.iconst 1, 1) := by decide +kernel
theorem dX10_road_156 : decode cX10_road 156 = .ok (.isub, 1) := by decide +kernel
theorem dX10_road_157 : decode cX10_road 157 = .ok (.ireturn, 1) := by decide +kernel
theorem dX10_isRoad_0 : decode cX10_isRoad 0 = .ok (.iload_n 1, 1) := by decide +kernel
theorem dX10_isRoad_1 : decode cX10_isRoad 1 = .ok (.i2l, 1) := by decide +kernel
theorem dX10_isRoad_2 : decode cX10_isRoad 2 = .ok (.lconst 0, 1) := by decide +kernel
theorem dX10_isRoad_3 : decode cX10_isRoad 3 = .ok (.aload_n 0, 1) := by decide +kernel
theorem dX10_isRoad_4 : decode cX10_isRoad 4 = .ok (.getfield 124, 3) := by decide +kernel
theorem dX10_isRoad_7 : decode cX10_isRoad 7 = .ok (.iconst 1, 1) := by decide +kernel
theorem dX10_isRoad_8 : decode cX10_isRoad 8 = .ok (.isub, 1) := by decide +kernel
theorem dX10_isRoad_9 : decode cX10_isRoad 9 = .ok (.i2l, 1) := by decide +kernel
theorem dX10_isRoad_10 : decode cX10_isRoad 10 = .ok (.invokestatic 95, 3) := by decide +kernel
theorem dX10_isRoad_13 : decode cX10_isRoad 13 = .ok (.ireturn, 1) := by decide +kernel
theorem dX10_span_0 : decode cX10_span 0 = .ok (.aload_n 0, 1) := by decide +kernel
theorem dX10_span_1 : decode cX10_span 1 = .ok (.iload_n 1, 1) := by decide +kernel
theorem dX10_span_2 : decode cX10_span 2 = .ok (.invokevirtual 128, 3) := by decide +kernel
theorem dX10_span_5 : decode cX10_span 5 = .ok (.ifCond .eq 17, 3) := by decide +kernel
theorem dX10_span_8 : decode cX10_span 8 = .ok (.iload_n 2, 1) := by decide +kernel
theorem dX10_span_9 : decode cX10_span 9 = .ok (.invokestatic 105, 3) := by decide +kernel
theorem dX10_span_12 : decode cX10_span 12 = .ok (.ifCond .eq 10, 3) := by decide +kernel
theorem dX10_span_15 : decode cX10_span 15 = .ok (.iload_n 3, 1) := by decide +kernel
theorem dX10_span_16 : decode cX10_span 16 = .ok (.invokestatic 119, 3) := by decide +kernel
theorem dX10_span_19 : decode cX10_span 19 = .ok (.ifCond .ne 5, 3) := by decide +kernel
theorem dX10_span_22 : decode cX10_span 22 = .ok (.iconst (-1), 1) := by decide +kernel
theorem dX10_span_23 : decode cX10_span 23 = .ok (.ireturn, 1) := by decide +kernel
theorem dX10_span_24 : decode cX10_span 24 = .ok (.aload_n 0, 1) := by decide +kernel
theorem dX10_span_25 : decode cX10_span 25 = .ok (.getfield 28, 3) := by decide +kernel
theorem dX10_span_28 : decode cX10_span 28 = .ok (.iconst 5, 1) := by decide +kernel
theorem dX10_span_29 : decode cX10_span 29 = .ok (.iload_n 1, 1) := by decide +kernel
theorem dX10_span_30 : decode cX10_span 30 = .ok (.imul, 1) := by decide +kernel
theorem dX10_span_31 : decode cX10_span 31 = .ok (.iload_n 2, 1) := by decide +kernel
theorem dX10_span_32 : decode cX10_span 32 = .ok (.iadd, 1) := by decide +kernel
theorem dX10_span_33 : decode cX10_span 33 = .ok (.iaload, 1) := by decide +kernel
theorem dX10_span_34 : decode cX10_span 34 = .ok (.istore 4, 2) := by decide +kernel
theorem dX10_span_36 : decode cX10_span 36 = .ok (.aload_n 0, 1) := by decide +kernel
theorem dX10_span_37 : decode cX10_span 37 = .ok (.getfield 28, 3) := by decide +kernel
theorem dX10_span_40 : decode cX10_span 40 = .ok (.iconst 5, 1) := by decide +kernel
theorem dX10_span_41 : decode cX10_span 41 = .ok (.iload_n 1, 1) := by decide +kernel
theorem dX10_span_42 : decode cX10_span 42 = .ok (.imul, 1) := by decide +kernel
theorem dX10_span_43 : decode cX10_span 43 = .ok (.iload_n 2, 1) := by decide +kernel
theorem dX10_span_44 : decode cX10_span 44 = .ok (.iadd, 1) := by decide +kernel
theorem dX10_span_45 : decode cX10_span 45 = .ok (.iload_n 3, 1) := by decide +kernel
theorem dX10_span_46 : decode cX10_span 46 = .ok (.iastore, 1) := by decide +kernel
theorem dX10_span_47 : decode cX10_span 47 = .ok (.iload 4, 2) := by decide +kernel
theorem dX10_span_49 : decode cX10_span 49 = .ok (.ireturn, 1) := by decide +kernel
theorem dX10_isIn_0 : decode cX10_isIn 0 = .ok (.aload_n 0, 1) := by decide +kernel
theorem dX10_isIn_1 : decode cX10_isIn 1 = .ok (.getfield 28, 3) := by decide +kernel
theorem dX10_isIn_4 : decode cX10_isIn 4 = .ok (.iconst 5, 1) := by decide +kernel
theorem dX10_isIn_5 : decode cX10_isIn 5 = .ok (.iload_n 1, 1) := by decide +kernel
theorem dX10_isIn_6 : decode cX10_isIn 6 = .ok (.imul, 1) := by decide +kernel
theorem dX10_isIn_7 : decode cX10_isIn 7 = .ok (.iload_n 2, 1) := by decide +kernel
theorem dX10_isIn_8 : decode cX10_isIn 8 = .ok (.iadd, 1) := by decide +kernel
theorem dX10_isIn_9 : decode cX10_isIn 9 = .ok (.iaload, 1) := by decide +kernel
theorem dX10_isIn_10 : decode cX10_isIn 10 = .ok (.istore 4, 2) := by decide +kernel
theorem dX10_isIn_12 : decode cX10_isIn 12 = .ok (.iload_n 3, 1) := by decide +kernel
theorem dX10_isIn_13 : decode cX10_isIn 13 = .ok (.i2l, 1) := by decide +kernel
theorem dX10_isIn_14 : decode cX10_isIn 14 = .ok (.iload 4, 2) := by decide +kernel
theorem dX10_isIn_16 : decode cX10_isIn 16 = .ok (.bipush 100, 2) := by decide +kernel
theorem dX10_isIn_18 : decode cX10_isIn 18 = .ok (.idiv, 1) := by decide +kernel
theorem dX10_isIn_19 : decode cX10_isIn 19 = .ok (.i2l, 1) := by decide +kernel
theorem dX10_isIn_20 : decode cX10_isIn 20 = .ok (.iload 4, 2) := by decide +kernel
theorem dX10_isIn_22 : decode cX10_isIn 22 = .ok (.bipush 100, 2) := by decide +kernel
theorem dX10_isIn_24 : decode cX10_isIn 24 = .ok (.irem, 1) := by decide +kernel
theorem dX10_isIn_25 : decode cX10_isIn 25 = .ok (.i2l, 1) := by decide +kernel
theorem dX10_isIn_26 : decode cX10_isIn 26 = .ok (.invokestatic 95, 3) := by decide +kernel
theorem dX10_isIn_29 : decode cX10_isIn 29 = .ok (.ireturn, 1) := by decide +kernel
theorem dX10_heldBy_0 : decode cX10_heldBy 0 = .ok (.iconst 0, 1) := by decide +kernel
theorem dX10_heldBy_1 : decode cX10_heldBy 1 = .ok (.istore_n 3, 1) := by decide +kernel
theorem dX10_heldBy_2 : decode cX10_heldBy 2 = .ok (.iconst 0, 1) := by decide +kernel
theorem dX10_heldBy_3 : decode cX10_heldBy 3 = .ok (.istore 4, 2) := by decide +kernel
theorem dX10_heldBy_5 : decode cX10_heldBy 5 = .ok (.iload 4, 2) := by decide +kernel
theorem dX10_heldBy_7 : decode cX10_heldBy 7 = .ok (.iconst 5, 1) := by decide +kernel
theorem dX10_heldBy_8 : decode cX10_heldBy 8 = .ok (.if_icmp .ge 87, 3) := by decide +kernel
theorem dX10_heldBy_11 : decode cX10_heldBy 11 = .ok (.iload_n 2, 1) := by decide +kernel
theorem dX10_heldBy_12 : decode cX10_heldBy 12 = .ok (.ifCond .eq 23, 3) := by decide +kernel
theorem dX10_heldBy_15 : decode cX10_heldBy 15 = .ok (.aload_n 0, 1) := by decide +kernel
theorem dX10_heldBy_16 : decode cX10_heldBy 16 = .ok (.getfield 19, 3) := by decide +kernel
theorem dX10_heldBy_19 : decode cX10_heldBy 19 = .ok (.iload 4, 2) := by decide +kernel
theorem dX10_heldBy_21 : decode cX10_heldBy 21 = .ok (.iaload, 1) := by decide +kernel
theorem dX10_heldBy_22 : decode cX10_heldBy 22 = .ok (.aload_n 0, 1) := by decide +kernel
theorem dX10_heldBy_23 : decode cX10_heldBy 23 = .ok (.getfield 25, 3) := by decide +kernel
theorem dX10_heldBy_26 : decode cX10_heldBy 26 = .ok (.iload 4, 2) := by decide +kernel
theorem dX10_heldBy_28 : decode cX10_heldBy 28 = .ok (.iaload, 1) := by decide +kernel
theorem dX10_heldBy_29 : decode cX10_heldBy 29 = .ok (.iconst (-1), 1) := by decide +kernel
theorem dX10_heldBy_30 : decode cX10_heldBy 30 = .ok (.ixor, 1) := by decide +kernel
theorem dX10_heldBy_31 : decode cX10_heldBy 31 = .ok (.iand, 1) := by decide +kernel
theorem dX10_heldBy_32 : decode cX10_heldBy 32 = .ok (.goto 9, 3) := by decide +kernel
theorem dX10_heldBy_35 : decode cX10_heldBy 35 = .ok (.aload_n 0, 1) := by decide +kernel
theorem dX10_heldBy_36 : decode cX10_heldBy 36 = .ok (.iload 4, 2) := by decide +kernel
theorem dX10_heldBy_38 : decode cX10_heldBy 38 = .ok (.invokevirtual 116, 3) := by decide +kernel
theorem dX10_heldBy_41 : decode cX10_heldBy 41 = .ok (.istore 5, 2) := by decide +kernel
theorem dX10_heldBy_43 : decode cX10_heldBy 43 = .ok (.iconst 0, 1) := by decide +kernel
theorem dX10_heldBy_44 : decode cX10_heldBy 44 = .ok (.istore 6, 2) := by decide +kernel
theorem dX10_heldBy_46 : decode cX10_heldBy 46 = .ok (.iload 6, 2) := by decide +kernel
theorem dX10_heldBy_48 : decode cX10_heldBy 48 = .ok (.bipush 16, 2) := by decide +kernel
theorem dX10_heldBy_50 : decode cX10_heldBy 50 = .ok (.if_icmp .ge 39, 3) := by decide +kernel
theorem dX10_heldBy_53 : decode cX10_heldBy 53 = .ok (.iload 5, 2) := by decide +kernel
theorem dX10_heldBy_55 : decode cX10_heldBy 55 = .ok (.iload 6, 2) := by decide +kernel
theorem dX10_heldBy_57 : decode cX10_heldBy 57 = .ok (.ishr, 1) := by decide +kernel
theorem dX10_heldBy_58 : decode cX10_heldBy 58 = .ok (.iconst 1, 1) := by decide +kernel
theorem dX10_heldBy_59 : decode cX10_heldBy 59 = .ok (.iand, 1) := by decide +kernel
theorem dX10_heldBy_60 : decode cX10_heldBy 60 = .ok (.iconst 1, 1) := by decide +kernel
theorem dX10_heldBy_61 : decode cX10_heldBy 61 = .ok (.if_icmp .ne 22, 3) := by decide +kernel
theorem dX10_heldBy_64 : decode cX10_heldBy 64 = .ok (.aload_n 0, 1) := by decide +kernel
theorem dX10_heldBy_65 : decode cX10_heldBy 65 = .ok (.iload_n 1, 1) := by decide +kernel
theorem dX10_heldBy_66 : decode cX10_heldBy 66 = .ok (.iload 4, 2) := by decide +kernel
theorem dX10_heldBy_68 : decode cX10_heldBy 68 = .ok (.iload 6, 2) := by decide +kernel
theorem dX10_heldBy_70 : decode cX10_heldBy 70 = .ok (.invokevirtual 131, 3) := by decide +kernel
theorem dX10_heldBy_73 : decode cX10_heldBy 73 = .ok (.ifCond .eq 10, 3) := by decide +kernel
theorem dX10_heldBy_76 : decode cX10_heldBy 76 = .ok (.iload_n 3, 1) := by decide +kernel
theorem dX10_heldBy_77 : decode cX10_heldBy 77 = .ok (.iconst 1, 1) := by decide +kernel
theorem dX10_heldBy_78 : decode cX10_heldBy 78 = .ok (.iload 4, 2) := by decide +kernel
theorem dX10_heldBy_80 : decode cX10_heldBy 80 = .ok (.ishl, 1) := by decide +kernel
theorem dX10_heldBy_81 : decode cX10_heldBy 81 = .ok (.ior, 1) := by decide +kernel
theorem dX10_heldBy_82 : decode cX10_heldBy 82 = .ok (.istore_n 3, 1) := by decide +kernel
theorem dX10_heldBy_83 : decode cX10_heldBy 83 = .ok (.iinc 6 1, 3) := by decide +kernel
theorem dX10_heldBy_86 : decode cX10_heldBy 86 = .ok (.goto (-40), 3) := by decide +kernel
theorem dX10_heldBy_89 : decode cX10_heldBy 89 = .ok (.iinc 4 1, 3) := by decide +kernel
theorem dX10_heldBy_92 : decode cX10_heldBy 92 = .ok (.goto (-87), 3) := by decide +kernel
theorem dX10_heldBy_95 : decode cX10_heldBy 95 = .ok (.iload_n 3, 1) := by decide +kernel
theorem dX10_heldBy_96 : decode cX10_heldBy 96 = .ok (.ireturn, 1) := by decide +kernel
theorem dX10_isLit_0 : decode cX10_isLit 0 = .ok (.aload_n 0, 1) := by decide +kernel
theorem dX10_isLit_1 : decode cX10_isLit 1 = .ok (.iload_n 1, 1) := by decide +kernel
theorem dX10_isLit_2 : decode cX10_isLit 2 = .ok (.iconst 0, 1) := by decide +kernel
theorem dX10_isLit_3 : decode cX10_isLit 3 = .ok (.invokevirtual 135, 3) := by decide +kernel
theorem dX10_isLit_6 : decode cX10_isLit 6 = .ok (.invokestatic 101, 3) := by decide +kernel
theorem dX10_isLit_9 : decode cX10_isLit 9 = .ok (.aload_n 0, 1) := by decide +kernel
theorem dX10_isLit_10 : decode cX10_isLit 10 = .ok (.getfield 31, 3) := by decide +kernel
theorem dX10_isLit_13 : decode cX10_isLit 13 = .ok (.iload_n 1, 1) := by decide +kernel
theorem dX10_isLit_14 : decode cX10_isLit 14 = .ok (.iaload, 1) := by decide +kernel
theorem dX10_isLit_15 : decode cX10_isLit 15 = .ok (.if_icmp .lt 7, 3) := by decide +kernel
theorem dX10_isLit_18 : decode cX10_isLit 18 = .ok (.iconst 1, 1) := by decide +kernel
theorem dX10_isLit_19 : decode cX10_isLit 19 = .ok (.goto 4, 3) := by decide +kernel
theorem dX10_isLit_22 : decode cX10_isLit 22 = .ok (.iconst 0, 1) := by decide +kernel
theorem dX10_isLit_23 : decode cX10_isLit 23 = .ok (.ireturn, 1) := by decide +kernel
theorem dX10_lit_0 : decode cX10_lit 0 = .ok (.iconst 0, 1) := by decide +kernel
theorem dX10_lit_1 : decode cX10_lit 1 = .ok (.istore_n 1, 1) := by decide +kernel
theorem dX10_lit_2 : decode cX10_lit 2 = .ok (.iconst 0, 1) := by decide +kernel
theorem dX10_lit_3 : decode cX10_lit 3 = .ok (.istore_n 2, 1) := by decide +kernel
theorem dX10_lit_4 : decode cX10_lit 4 = .ok (.iload_n 2, 1) := by decide +kernel
theorem dX10_lit_5 : decode cX10_lit 5 = .ok (.aload_n 0, 1) := by decide +kernel
theorem dX10_lit_6 : decode cX10_lit 6 = .ok (.getfield 124, 3) := by decide +kernel
theorem dX10_lit_9 : decode cX10_lit 9 = .ok (.if_icmp .ge 23, 3) := by decide +kernel
theorem dX10_lit_12 : decode cX10_lit 12 = .ok (.aload_n 0, 1) := by decide +kernel
theorem dX10_lit_13 : decode cX10_lit 13 = .ok (.iload_n 2, 1) := by decide +kernel
theorem dX10_lit_14 : decode cX10_lit 14 = .ok (.invokevirtual 139, 3) := by decide +kernel
theorem dX10_lit_17 : decode cX10_lit 17 = .ok (.ifCond .eq 9, 3) := by decide +kernel
theorem dX10_lit_20 : decode cX10_lit 20 = .ok (.iload_n 1, 1) := by decide +kernel
theorem dX10_lit_21 : decode cX10_lit 21 = .ok (.iconst 1, 1) := by decide +kernel
theorem dX10_lit_22 : decode cX10_lit 22 = .ok (.iload_n 2, 1) := by decide +kernel
theorem dX10_lit_23 : decode cX10_lit 23 = .ok (.ishl, 1) := by decide +kernel
theorem dX10_lit_24 : decode cX10_lit 24 = .ok (.ior, 1) := by decide +kernel
theorem dX10_lit_25 : decode cX10_lit 25 = .ok (.istore_n 1, 1) := by decide +kernel
theorem dX10_lit_26 : decode cX10_lit 26 = .ok (.iinc 2 1, 3) := by decide +kernel
theorem dX10_lit_29 : decode cX10_lit 29 = .ok (.goto (-25), 3) := by decide +kernel
theorem dX10_lit_32 : decode cX10_lit 32 = .ok (.iload_n 1, 1) := by decide +kernel
theorem dX10_lit_33 : decode cX10_lit 33 = .ok (.ireturn, 1) := by decide +kernel
theorem dX10_held_0 : decode cX10_held 0 = .ok (.aload_n 0, 1) := by decide +kernel
theorem dX10_held_1 : decode cX10_held 1 = .ok (.iload_n 1, 1) := by decide +kernel
theorem dX10_held_2 : decode cX10_held 2 = .ok (.invokevirtual 128, 3) := by decide +kernel
theorem dX10_held_5 : decode cX10_held 5 = .ok (.ifCond .eq 12, 3) := by decide +kernel
theorem dX10_held_8 : decode cX10_held 8 = .ok (.aload_n 0, 1) := by decide +kernel
theorem dX10_held_9 : decode cX10_held 9 = .ok (.iload_n 1, 1) := by decide +kernel
theorem dX10_held_10 : decode cX10_held 10 = .ok (.iconst 0, 1) := by decide +kernel
theorem dX10_held_11 : decode cX10_held 11 = .ok (.invokevirtual 135, 3) := by decide +kernel
theorem dX10_held_14 : decode cX10_held 14 = .ok (.goto 4, 3) := by decide +kernel
theorem dX10_held_17 : decode cX10_held 17 = .ok (.iconst (-1), 1) := by decide +kernel
theorem dX10_held_18 : decode cX10_held 18 = .ok (.ireturn, 1) := by decide +kernel
theorem dX10_miss_0 : decode cX10_miss 0 = .ok (.iconst 0, 1) := by decide +kernel
theorem dX10_miss_1 : decode cX10_miss 1 = .ok (.istore_n 2, 1) := by decide +kernel
theorem dX10_miss_2 : decode cX10_miss 2 = .ok (.iconst 0, 1) := by decide +kernel
theorem dX10_miss_3 : decode cX10_miss 3 = .ok (.istore_n 3, 1) := by decide +kernel
theorem dX10_miss_4 : decode cX10_miss 4 = .ok (.iconst 0, 1) := by decide +kernel
theorem dX10_miss_5 : decode cX10_miss 5 = .ok (.istore 4, 2) := by decide +kernel
theorem dX10_miss_7 : decode cX10_miss 7 = .ok (.iconst 0, 1) := by decide +kernel
theorem dX10_miss_8 : decode cX10_miss 8 = .ok (.istore 5, 2) := by decide +kernel
theorem dX10_miss_10 : decode cX10_miss 10 = .ok (.iconst 0, 1) := by decide +kernel
theorem dX10_miss_11 : decode cX10_miss 11 = .ok (.istore 6, 2) := by decide +kernel
theorem dX10_miss_13 : decode cX10_miss 13 = .ok (.iconst 0, 1) := by decide +kernel
theorem dX10_miss_14 : decode cX10_miss 14 = .ok (.istore 7, 2) := by decide +kernel
theorem dX10_miss_16 : decode cX10_miss 16 = .ok (.iconst 0, 1) := by decide +kernel
theorem dX10_miss_17 : decode cX10_miss 17 = .ok (.istore 8, 2) := by decide +kernel
theorem dX10_miss_19 : decode cX10_miss 19 = .ok (.iload 8, 2) := by decide +kernel
theorem dX10_miss_21 : decode cX10_miss 21 = .ok (.iconst 5, 1) := by decide +kernel
theorem dX10_miss_22 : decode cX10_miss 22 = .ok (.if_icmp .ge 86, 3) := by decide +kernel
theorem dX10_miss_25 : decode cX10_miss 25 = .ok (.iload_n 1, 1) := by decide +kernel
theorem dX10_miss_26 : decode cX10_miss 26 = .ok (.iload 8, 2) := by decide +kernel
theorem dX10_miss_28 : decode cX10_miss 28 = .ok (.ishr, 1) := by decide +kernel
theorem dX10_miss_29 : decode cX10_miss 29 = .ok (.iconst 1, 1) := by decide +kernel
theorem dX10_miss_30 : decode cX10_miss 30 = .ok (.iand, 1) := by decide +kernel
theorem dX10_miss_31 : decode cX10_miss 31 = .ok (.ifCond .ne 6, 3) := by decide +kernel
theorem dX10_miss_34 : decode cX10_miss 34 = .ok (.goto 68, 3) := by decide +kernel
theorem dX10_miss_37 : decode cX10_miss 37 = .ok (.iinc 2 1, 3) := by decide +kernel
theorem dX10_miss_40 : decode cX10_miss 40 = .ok (.iload_n 3, 1) := by decide +kernel
theorem dX10_miss_41 : decode cX10_miss 41 = .ok (.iload 8, 2) := by decide +kernel
theorem dX10_miss_43 : decode cX10_miss 43 = .ok (.iadd, 1) := by decide +kernel
theorem dX10_miss_44 : decode cX10_miss 44 = .ok (.istore_n 3, 1) := by decide +kernel
theorem dX10_miss_45 : decode cX10_miss 45 = .ok (.iload 4, 2) := by decide +kernel
theorem dX10_miss_47 : decode cX10_miss 47 = .ok (.aload_n 0, 1) := by decide +kernel
theorem dX10_miss_48 : decode cX10_miss 48 = .ok (.getfield 75, 3) := by decide +kernel
theorem dX10_miss_51 : decode cX10_miss 51 = .ok (.iload 8, 2) := by decide +kernel
theorem dX10_miss_53 : decode cX10_miss 53 = .ok (.iaload, 1) := by decide +kernel
theorem dX10_miss_54 : decode cX10_miss 54 = .ok (.iadd, 1) := by decide +kernel
theorem dX10_miss_55 : decode cX10_miss 55 = .ok (.istore 4, 2) := by decide +kernel
theorem dX10_miss_57 : decode cX10_miss 57 = .ok (.iload 5, 2) := by decide +kernel
theorem dX10_miss_59 : decode cX10_miss 59 = .ok (.iload 8, 2) := by decide +kernel
theorem dX10_miss_61 : decode cX10_miss 61 = .ok (.iload 8, 2) := by decide +kernel
theorem dX10_miss_63 : decode cX10_miss 63 = .ok (.imul, 1) := by decide +kernel
theorem dX10_miss_64 : decode cX10_miss 64 = .ok (.iadd, 1) := by decide +kernel
theorem dX10_miss_65 : decode cX10_miss 65 = .ok (.istore 5, 2) := by decide +kernel
theorem dX10_miss_67 : decode cX10_miss 67 = .ok (.iload 6, 2) := by decide +kernel
theorem dX10_miss_69 : decode cX10_miss 69 = .ok (.iload 8, 2) := by decide +kernel
theorem dX10_miss_71 : decode cX10_miss 71 = .ok (.aload_n 0, 1) := by decide +kernel
theorem dX10_miss_72 : decode cX10_miss 72 = .ok (.getfield 75, 3) := by decide +kernel
theorem dX10_miss_75 : decode cX10_miss 75 = .ok (.iload 8, 2) := by decide +kernel
theorem dX10_miss_77 : decode cX10_miss 77 = .ok (.iaload, 1) := by decide +kernel
theorem dX10_miss_78 : decode cX10_miss 78 = .ok (.imul, 1) := by decide +kernel
theorem dX10_miss_79 : decode cX10_miss 79 = .ok (.iadd, 1) := by decide +kernel
theorem dX10_miss_80 : decode cX10_miss 80 = .ok (.istore 6, 2) := by decide +kernel
theorem dX10_miss_82 : decode cX10_miss 82 = .ok (.iload 7, 2) := by decide +kernel
theorem dX10_miss_84 : decode cX10_miss 84 = .ok (.aload_n 0, 1) := by decide +kernel
theorem dX10_miss_85 : decode cX10_miss 85 = .ok (.getfield 75, 3) := by decide +kernel
theorem dX10_miss_88 : decode cX10_miss 88 = .ok (.iload 8, 2) := by decide +kernel
theorem dX10_miss_90 : decode cX10_miss 90 = .ok (.iaload, 1) := by decide +kernel
theorem dX10_miss_91 : decode cX10_miss 91 = .ok (.aload_n 0, 1) := by decide +kernel
theorem dX10_miss_92 : decode cX10_miss 92 = .ok (.getfield 75, 3) := by decide +kernel
theorem dX10_miss_95 : decode cX10_miss 95 = .ok (.iload 8, 2) := by decide +kernel
theorem dX10_miss_97 : decode cX10_miss 97 = .ok (.iaload, 1) := by decide +kernel
theorem dX10_miss_98 : decode cX10_miss 98 = .ok (.imul, 1) := by decide +kernel
theorem dX10_miss_99 : decode cX10_miss 99 = .ok (.iadd, 1) := by decide +kernel
theorem dX10_miss_100 : decode cX10_miss 100 = .ok (.istore 7, 2) := by decide +kernel
theorem dX10_miss_102 : decode cX10_miss 102 = .ok (.iinc 8 1, 3) := by decide +kernel
theorem dX10_miss_105 : decode cX10_miss 105 = .ok (.goto (-86), 3) := by decide +kernel
theorem dX10_miss_108 : decode cX10_miss 108 = .ok (.iload_n 2, 1) := by decide +kernel
theorem dX10_miss_109 : decode cX10_miss 109 = .ok (.iload 5, 2) := by decide +kernel
theorem dX10_miss_111 : decode cX10_miss 111 = .ok (.imul, 1) := by decide +kernel
theorem dX10_miss_112 : decode cX10_miss 112 = .ok (.iload_n 3, 1) := by decide +kernel
theorem dX10_miss_113 : decode cX10_miss 113 = .ok (.iload_n 3, 1) := by decide +kernel
theorem dX10_miss_114 : decode cX10_miss 114 = .ok (.imul, 1) := by decide +kernel
theorem dX10_miss_115 : decode cX10_miss 115 = .ok (.isub, 1) := by decide +kernel
theorem dX10_miss_116 : decode cX10_miss 116 = .ok (.istore 8, 2) := by decide +kernel
theorem dX10_miss_118 : decode cX10_miss 118 = .ok (.iload_n 2, 1) := by decide +kernel
theorem dX10_miss_119 : decode cX10_miss 119 = .ok (.iload 6, 2) := by decide +kernel
theorem dX10_miss_121 : decode cX10_miss 121 = .ok (.imul, 1) := by decide +kernel
theorem dX10_miss_122 : decode cX10_miss 122 = .ok (.iload_n 3, 1) := by decide +kernel
theorem dX10_miss_123 : decode cX10_miss 123 = .ok (.iload 4, 2) := by decide +kernel
theorem dX10_miss_125 : decode cX10_miss 125 = .ok (.imul, 1) := by decide +kernel
theorem dX10_miss_126 : decode cX10_miss 126 = .ok (.isub, 1) := by decide +kernel
theorem dX10_miss_127 : decode cX10_miss 127 = .ok (.istore 9, 2) := by decide +kernel
theorem dX10_miss_129 : decode cX10_miss 129 = .ok (.iload_n 2, 1) := by decide +kernel
theorem dX10_miss_130 : decode cX10_miss 130 = .ok (.iload 7, 2) := by decide +kernel
theorem dX10_miss_132 : decode cX10_miss 132 = .ok (.imul, 1) := by decide +kernel
theorem dX10_miss_133 : decode cX10_miss 133 = .ok (.iload 4, 2) := by decide +kernel
theorem dX10_miss_135 : decode cX10_miss 135 = .ok (.iload 4, 2) := by decide +kernel
theorem dX10_miss_137 : decode cX10_miss 137 = .ok (.imul, 1) := by decide +kernel
theorem dX10_miss_138 : decode cX10_miss 138 = .ok (.isub, 1) := by decide +kernel
theorem dX10_miss_139 : decode cX10_miss 139 = .ok (.istore 10, 2) := by decide +kernel
theorem dX10_miss_141 : decode cX10_miss 141 = .ok (.aload_n 0, 1) := by decide +kernel
theorem dX10_miss_142 : decode cX10_miss 142 = .ok (.iload_n 2, 1) := by decide +kernel
theorem dX10_miss_143 : decode cX10_miss 143 = .ok (.iload 8, 2) := by decide +kernel
theorem dX10_miss_145 : decode cX10_miss 145 = .ok (.imul, 1) := by decide +kernel
theorem dX10_miss_146 : decode cX10_miss 146 = .ok (.putfield 142, 3) := by decide +kernel
theorem dX10_miss_149 : decode cX10_miss 149 = .ok (.iload_n 2, 1) := by decide +kernel
theorem dX10_miss_150 : decode cX10_miss 150 = .ok (.iconst 1, 1) := by decide +kernel
theorem dX10_miss_151 : decode cX10_miss 151 = .ok (.if_icmp .le 15, 3) := by decide +kernel
theorem dX10_miss_154 : decode cX10_miss 154 = .ok (.iload 8, 2) := by decide +kernel
theorem dX10_miss_156 : decode cX10_miss 156 = .ok (.iload 10, 2) := by decide +kernel
theorem dX10_miss_158 : decode cX10_miss 158 = .ok (.imul, 1) := by decide +kernel
theorem dX10_miss_159 : decode cX10_miss 159 = .ok (.iload 9, 2) := by decide +kernel
theorem dX10_miss_161 : decode cX10_miss 161 = .ok (.iload 9, 2) := by decide +kernel
theorem dX10_miss_163 : decode cX10_miss 163 = .ok (.imul, 1) := by decide +kernel
theorem dX10_miss_164 : decode cX10_miss 164 = .ok (.isub, 1) := by decide +kernel
theorem dX10_miss_165 : decode cX10_miss 165 = .ok (.ireturn, 1) := by decide +kernel
theorem dX10_miss_166 : decode cX10_miss 166 = .ok (.aload_n 0, 1) := by decide +kernel
theorem dX10_miss_167 : decode cX10_miss 167 = .ok (.iconst 1, 1) := by decide +kernel
theorem dX10_miss_168 : decode cX10_miss 168 = .ok (.putfield 142, 3) := by decide +kernel
theorem dX10_miss_171 : decode cX10_miss 171 = .ok (.iconst 0, 1) := by decide +kernel
theorem dX10_miss_172 : decode cX10_miss 172 = .ok (.ireturn, 1) := by decide +kernel
theorem dX10_findFrom_0 : decode cX10_findFrom 0 = .ok (.iload_n 3, 1) := by decide +kernel
theorem dX10_findFrom_1 : decode cX10_findFrom 1 = .ok (.iconst 5, 1) := by decide +kernel
theorem dX10_findFrom_2 : decode cX10_findFrom 2 = .ok (.if_icmp .ne 83, 3) := by decide +kernel
theorem dX10_findFrom_5 : decode cX10_findFrom 5 = .ok (.aload_n 0, 1) := by decide +kernel
theorem dX10_findFrom_6 : decode cX10_findFrom 6 = .ok (.iload_n 2, 1) := by decide +kernel
theorem dX10_findFrom_7 : decode cX10_findFrom 7 = .ok (.invokevirtual 145, 3) := by decide +kernel
theorem dX10_findFrom_10 : decode cX10_findFrom 10 = .ok (.istore 4, 2) := by decide +kernel
theorem dX10_findFrom_12 : decode cX10_findFrom 12 = .ok (.aload_n 0, 1) := by decide +kernel
theorem dX10_findFrom_13 : decode cX10_findFrom 13 = .ok (.getfield 84, 3) := by decide +kernel
theorem dX10_findFrom_16 : decode cX10_findFrom 16 = .ok (.iload_n 1, 1) := by decide +kernel
theorem dX10_findFrom_17 : decode cX10_findFrom 17 = .ok (.iaload, 1) := by decide +kernel
theorem dX10_findFrom_18 : decode cX10_findFrom 18 = .ok (.ifCond .le 15, 3) := by decide +kernel
theorem dX10_findFrom_21 : decode cX10_findFrom 21 = .ok (.iload 4, 2) := by decide +kernel
theorem dX10_findFrom_23 : decode cX10_findFrom 23 = .ok (.aload_n 0, 1) := by decide +kernel
theorem dX10_findFrom_24 : decode cX10_findFrom 24 = .ok (.getfield 81, 3) := by decide +kernel
theorem dX10_findFrom_27 : decode cX10_findFrom 27 = .ok (.iload_n 1, 1) := by decide +kernel
theorem dX10_findFrom_28 : decode cX10_findFrom 28 = .ok (.iaload, 1) := by decide +kernel
theorem dX10_findFrom_29 : decode cX10_findFrom 29 = .ok (.if_icmp .lt 4, 3) := by decide +kernel
theorem dX10_findFrom_32 : decode cX10_findFrom 32 = .ok (.return_, 1) := by decide +kernel
theorem dX10_findFrom_33 : decode cX10_findFrom 33 = .ok (.aload_n 0, 1) := by decide +kernel
theorem dX10_findFrom_34 : decode cX10_findFrom 34 = .ok (.getfield 81, 3) := by decide +kernel
theorem dX10_findFrom_37 : decode cX10_findFrom 37 = .ok (.iload_n 1, 1) := by decide +kernel
theorem dX10_findFrom_38 : decode cX10_findFrom 38 = .ok (.iload 4, 2) := by decide +kernel
theorem dX10_findFrom_40 : decode cX10_findFrom 40 = .ok (.iastore, 1) := by decide +kernel
theorem dX10_findFrom_41 : decode cX10_findFrom 41 = .ok (.aload_n 0, 1) := by decide +kernel
theorem dX10_findFrom_42 : decode cX10_findFrom 42 = .ok (.getfield 84, 3) := by decide +kernel
theorem dX10_findFrom_45 : decode cX10_findFrom 45 = .ok (.iload_n 1, 1) := by decide +kernel
theorem dX10_findFrom_46 : decode cX10_findFrom 46 = .ok (.aload_n 0, 1) := by decide +kernel
theorem dX10_findFrom_47 : decode cX10_findFrom 47 = .ok (.getfield 142, 3) := by decide +kernel
theorem dX10_findFrom_50 : decode cX10_findFrom 50 = .ok (.iastore, 1) := by decide +kernel
theorem dX10_findFrom_51 : decode cX10_findFrom 51 = .ok (.iconst 0, 1) := by decide +kernel
theorem dX10_findFrom_52 : decode cX10_findFrom 52 = .ok (.istore 5, 2) := by decide +kernel
theorem dX10_findFrom_54 : decode cX10_findFrom 54 = .ok (.iload 5, 2) := by decide +kernel
theorem dX10_findFrom_56 : decode cX10_findFrom 56 = .ok (.iconst 5, 1) := by decide +kernel
theorem dX10_findFrom_57 : decode cX10_findFrom 57 = .ok (.if_icmp .ge 27, 3) := by decide +kernel
theorem dX10_findFrom_60 : decode cX10_findFrom 60 = .ok (.aload_n 0, 1) := by decide +kernel
theorem dX10_findFrom_61 : decode cX10_findFrom 61 = .ok (.getfield 78, 3) := by decide +kernel
theorem dX10_findFrom_64 : decode cX10_findFrom 64 = .ok (.iconst 5, 1) := by decide +kernel
theorem dX10_findFrom_65 : decode cX10_findFrom 65 = .ok (.iload_n 1, 1) := by decide +kernel
theorem dX10_findFrom_66 : decode cX10_findFrom 66 = .ok (.imul, 1) := by decide +kernel
theorem dX10_findFrom_67 : decode cX10_findFrom 67 = .ok (.iload 5, 2) := by decide +kernel
theorem dX10_findFrom_69 : decode cX10_findFrom 69 = .ok (.iadd, 1) := by decide +kernel
theorem dX10_findFrom_70 : decode cX10_findFrom 70 = .ok (.aload_n 0, 1) := by decide +kernel
theorem dX10_findFrom_71 : decode cX10_findFrom 71 = .ok (.getfield 75, 3) := by decide +kernel
theorem dX10_findFrom_74 : decode cX10_findFrom 74 = .ok (.iload 5, 2) := by decide +kernel
theorem dX10_findFrom_76 : decode cX10_findFrom 76 = .ok (.iaload, 1) := by decide +kernel
theorem dX10_findFrom_77 : decode cX10_findFrom 77 = .ok (.iastore, 1) := by decide +kernel
theorem dX10_findFrom_78 : decode cX10_findFrom 78 = .ok (.iinc 5 1, 3) := by decide +kernel
theorem dX10_findFrom_81 : decode cX10_findFrom 81 = .ok (.goto (-27), 3) := by decide +kernel
theorem dX10_findFrom_84 : decode cX10_findFrom 84 = .ok (.return_, 1) := by decide +kernel
theorem dX10_findFrom_85 : decode cX10_findFrom 85 = .ok (.aload_n 0, 1) := by decide +kernel
theorem dX10_findFrom_86 : decode cX10_findFrom 86 = .ok (.getfield 75, 3) := by decide +kernel
theorem dX10_findFrom_89 : decode cX10_findFrom 89 = .ok (.iload_n 3, 1) := by decide +kernel
theorem dX10_findFrom_90 : decode cX10_findFrom 90 = .ok (.iconst (-1), 1) := by decide +kernel
theorem dX10_findFrom_91 : decode cX10_findFrom 91 = .ok (.iastore, 1) := by decide +kernel
theorem dX10_findFrom_92 : decode cX10_findFrom 92 = .ok (.iload_n 2, 1) := by decide +kernel
theorem dX10_findFrom_93 : decode cX10_findFrom 93 = .ok (.iload_n 3, 1) := by decide +kernel
theorem dX10_findFrom_94 : decode cX10_findFrom 94 = .ok (.ishr, 1) := by decide +kernel
theorem dX10_findFrom_95 : decode cX10_findFrom 95 = .ok (.iconst 1, 1) := by decide +kernel
theorem dX10_findFrom_96 : decode cX10_findFrom 96 = .ok (.iand, 1) := by decide +kernel
theorem dX10_findFrom_97 : decode cX10_findFrom 97 = .ok (.ifCond .ne 13, 3) := by decide +kernel
theorem dX10_findFrom_100 : decode cX10_findFrom 100 = .ok (.aload_n 0, 1) := by decide +kernel
theorem dX10_findFrom_101 : decode cX10_findFrom 101 = .ok (.iload_n 1, 1) := by decide +kernel
theorem dX10_findFrom_102 : decode cX10_findFrom 102 = .ok (.iload_n 2, 1) := by decide +kernel
theorem dX10_findFrom_103 : decode cX10_findFrom 103 = .ok (.iload_n 3, 1) := by decide +kernel
theorem dX10_findFrom_104 : decode cX10_findFrom 104 = .ok (.iconst 1, 1) := by decide +kernel
theorem dX10_findFrom_105 : decode cX10_findFrom 105 = .ok (.iadd, 1) := by decide +kernel
theorem dX10_findFrom_106 : decode cX10_findFrom 106 = .ok (.invokevirtual 148, 3) := by decide +kernel
theorem dX10_findFrom_109 : decode cX10_findFrom 109 = .ok (.return_, 1) := by decide +kernel
theorem dX10_findFrom_110 : decode cX10_findFrom 110 = .ok (.iconst 0, 1) := by decide +kernel
theorem dX10_findFrom_111 : decode cX10_findFrom 111 = .ok (.istore 4, 2) := by decide +kernel
theorem dX10_findFrom_113 : decode cX10_findFrom 113 = .ok (.iload 4, 2) := by decide +kernel
theorem dX10_findFrom_115 : decode cX10_findFrom 115 = .ok (.bipush 16, 2) := by decide +kernel
theorem dX10_findFrom_117 : decode cX10_findFrom 117 = .ok (.if_icmp .ge 53, 3) := by decide +kernel
theorem dX10_findFrom_120 : decode cX10_findFrom 120 = .ok (.aload_n 0, 1) := by decide +kernel
theorem dX10_findFrom_121 : decode cX10_findFrom 121 = .ok (.iload_n 3, 1) := by decide +kernel
theorem dX10_findFrom_122 : decode cX10_findFrom 122 = .ok (.invokevirtual 116, 3) := by decide +kernel
theorem dX10_findFrom_125 : decode cX10_findFrom 125 = .ok (.iload 4, 2) := by decide +kernel
theorem dX10_findFrom_127 : decode cX10_findFrom 127 = .ok (.ishr, 1) := by decide +kernel
theorem dX10_findFrom_128 : decode cX10_findFrom 128 = .ok (.iconst 1, 1) := by decide +kernel
theorem dX10_findFrom_129 : decode cX10_findFrom 129 = .ok (.iand, 1) := by decide +kernel
theorem dX10_findFrom_130 : decode cX10_findFrom 130 = .ok (.ifCond .eq 34, 3) := by decide +kernel
theorem dX10_findFrom_133 : decode cX10_findFrom 133 = .ok (.aload_n 0, 1) := by decide +kernel
theorem dX10_findFrom_134 : decode cX10_findFrom 134 = .ok (.iload_n 1, 1) := by decide +kernel
theorem dX10_findFrom_135 : decode cX10_findFrom 135 = .ok (.iload_n 3, 1) := by decide +kernel
theorem dX10_findFrom_136 : decode cX10_findFrom 136 = .ok (.iload 4, 2) := by decide +kernel
theorem dX10_findFrom_138 : decode cX10_findFrom 138 = .ok (.invokevirtual 131, 3) := by decide +kernel
theorem dX10_findFrom_141 : decode cX10_findFrom 141 = .ok (.ifCond .ne 6, 3) := by decide +kernel
theorem dX10_findFrom_144 : decode cX10_findFrom 144 = .ok (.goto 20, 3) := by decide +kernel
theorem dX10_findFrom_147 : decode cX10_findFrom 147 = .ok (.aload_n 0, 1) := by decide +kernel
theorem dX10_findFrom_148 : decode cX10_findFrom 148 = .ok (.getfield 75, 3) := by decide +kernel
theorem dX10_findFrom_151 : decode cX10_findFrom 151 = .ok (.iload_n 3, 1) := by decide +kernel
theorem dX10_findFrom_152 : decode cX10_findFrom 152 = .ok (.iload 4, 2) := by decide +kernel
theorem dX10_findFrom_154 : decode cX10_findFrom 154 = .ok (.iastore, 1) := by decide +kernel
theorem dX10_findFrom_155 : decode cX10_findFrom 155 = .ok (.aload_n 0, 1) := by decide +kernel
theorem dX10_findFrom_156 : decode cX10_findFrom 156 = .ok (.iload_n 1, 1) := by decide +kernel
theorem dX10_findFrom_157 : decode cX10_findFrom 157 = .ok (.iload_n 2, 1) := by decide +kernel
theorem dX10_findFrom_158 : decode cX10_findFrom 158 = .ok (.iload_n 3, 1) := by decide +kernel
theorem dX10_findFrom_159 : decode cX10_findFrom 159 = .ok (.iconst 1, 1) := by decide +kernel
theorem dX10_findFrom_160 : decode cX10_findFrom 160 = .ok (.iadd, 1) := by decide +kernel
theorem dX10_findFrom_161 : decode cX10_findFrom 161 = .ok (.invokevirtual 148, 3) := by decide +kernel
theorem dX10_findFrom_164 : decode cX10_findFrom 164 = .ok (.iinc 4 1, 3) := by decide +kernel
theorem dX10_findFrom_167 : decode cX10_findFrom 167 = .ok (.goto (-54), 3) := by decide +kernel
theorem dX10_findFrom_170 : decode cX10_findFrom 170 = .ok (.return_, 1) := by decide +kernel
theorem dX10_findTrack_0 : decode cX10_findTrack 0 = .ok (.aload_n 0, 1) := by decide +kernel
theorem dX10_findTrack_1 : decode cX10_findTrack 1 = .ok (.iload_n 1, 1) := by decide +kernel
theorem dX10_findTrack_2 : decode cX10_findTrack 2 = .ok (.invokevirtual 139, 3) := by decide +kernel
theorem dX10_findTrack_5 : decode cX10_findTrack 5 = .ok (.ifCond .ne 5, 3) := by decide +kernel
theorem dX10_findTrack_8 : decode cX10_findTrack 8 = .ok (.iconst 0, 1) := by decide +kernel
theorem dX10_findTrack_9 : decode cX10_findTrack 9 = .ok (.ireturn, 1) := by decide +kernel
theorem dX10_findTrack_10 : decode cX10_findTrack 10 = .ok (.aload_n 0, 1) := by decide +kernel
theorem dX10_findTrack_11 : decode cX10_findTrack 11 = .ok (.getfield 84, 3) := by decide +kernel
theorem dX10_findTrack_14 : decode cX10_findTrack 14 = .ok (.iload_n 1, 1) := by decide +kernel
theorem dX10_findTrack_15 : decode cX10_findTrack 15 = .ok (.iconst 0, 1) := by decide +kernel
theorem dX10_findTrack_16 : decode cX10_findTrack 16 = .ok (.iastore, 1) := by decide +kernel
theorem dX10_findTrack_17 : decode cX10_findTrack 17 = .ok (.aload_n 0, 1) := by decide +kernel
theorem dX10_findTrack_18 : decode cX10_findTrack 18 = .ok (.iload_n 1, 1) := by decide +kernel
theorem dX10_findTrack_19 : decode cX10_findTrack 19 = .ok (.aload_n 0, 1) := by decide +kernel
theorem dX10_findTrack_20 : decode cX10_findTrack 20 = .ok (.iload_n 1, 1) := by decide +kernel
theorem dX10_findTrack_21 : decode cX10_findTrack 21 = .ok (.iconst 0, 1) := by decide +kernel
theorem dX10_findTrack_22 : decode cX10_findTrack 22 = .ok (.invokevirtual 135, 3) := by decide +kernel
theorem dX10_findTrack_25 : decode cX10_findTrack 25 = .ok (.iconst 0, 1) := by decide +kernel
theorem dX10_findTrack_26 : decode cX10_findTrack 26 = .ok (.invokevirtual 148, 3) := by decide +kernel
theorem dX10_findTrack_29 : decode cX10_findTrack 29 = .ok (.iconst 1, 1) := by decide +kernel
theorem dX10_findTrack_30 : decode cX10_findTrack 30 = .ok (.ireturn, 1) := by decide +kernel
theorem dX10_track_0 : decode cX10_track 0 = .ok (.aload_n 0, 1) := by decide +kernel
theorem dX10_track_1 : decode cX10_track 1 = .ok (.iload_n 1, 1) := by decide +kernel
theorem dX10_track_2 : decode cX10_track 2 = .ok (.invokevirtual 128, 3) := by decide +kernel
theorem dX10_track_5 : decode cX10_track 5 = .ok (.ifCond .eq 10, 3) := by decide +kernel
theorem dX10_track_8 : decode cX10_track 8 = .ok (.iload_n 2, 1) := by decide +kernel
theorem dX10_track_9 : decode cX10_track 9 = .ok (.invokestatic 105, 3) := by decide +kernel
theorem dX10_track_12 : decode cX10_track 12 = .ok (.ifCond .ne 5, 3) := by decide +kernel
theorem dX10_track_15 : decode cX10_track 15 = .ok (.iconst (-1), 1) := by decide +kernel
theorem dX10_track_16 : decode cX10_track 16 = .ok (.ireturn, 1) := by decide +kernel
theorem dX10_track_17 : decode cX10_track 17 = .ok (.aload_n 0, 1) := by decide +kernel
theorem dX10_track_18 : decode cX10_track 18 = .ok (.iload_n 1, 1) := by decide +kernel
theorem dX10_track_19 : decode cX10_track 19 = .ok (.invokevirtual 152, 3) := by decide +kernel
theorem dX10_track_22 : decode cX10_track 22 = .ok (.ifCond .eq 16, 3) := by decide +kernel
theorem dX10_track_25 : decode cX10_track 25 = .ok (.aload_n 0, 1) := by decide +kernel
theorem dX10_track_26 : decode cX10_track 26 = .ok (.getfield 78, 3) := by decide +kernel
theorem dX10_track_29 : decode cX10_track 29 = .ok (.iconst 5, 1) := by decide +kernel
theorem dX10_track_30 : decode cX10_track 30 = .ok (.iload_n 1, 1) := by decide +kernel
theorem dX10_track_31 : decode cX10_track 31 = .ok (.imul, 1) := by decide +kernel
theorem dX10_track_32 : decode cX10_track 32 = .ok (.iload_n 2, 1) := by decide +kernel
theorem dX10_track_33 : decode cX10_track 33 = .ok (.iadd, 1) := by decide +kernel
theorem dX10_track_34 : decode cX10_track 34 = .ok (.iaload, 1) := by decide +kernel
theorem dX10_track_35 : decode cX10_track 35 = .ok (.ifCond .ge 6, 3) := by decide +kernel
theorem dX10_track_38 : decode cX10_track 38 = .ok (.bipush (-5), 2) := by decide +kernel
theorem dX10_track_40 : decode cX10_track 40 = .ok (.ireturn, 1) := by decide +kernel
theorem dX10_track_41 : decode cX10_track 41 = .ok (.aload_n 0, 1) := by decide +kernel
theorem dX10_track_42 : decode cX10_track 42 = .ok (.getfield 78, 3) := by decide +kernel
theorem dX10_track_45 : decode cX10_track 45 = .ok (.iconst 5, 1) := by decide +kernel
theorem dX10_track_46 : decode cX10_track 46 = .ok (.iload_n 1, 1) := by decide +kernel
theorem dX10_track_47 : decode cX10_track 47 = .ok (.imul, 1) := by decide +kernel
theorem dX10_track_48 : decode cX10_track 48 = .ok (.iload_n 2, 1) := by decide +kernel
theorem dX10_track_49 : decode cX10_track 49 = .ok (.iadd, 1) := by decide +kernel
theorem dX10_track_50 : decode cX10_track 50 = .ok (.iaload, 1) := by decide +kernel
theorem dX10_track_51 : decode cX10_track 51 = .ok (.ireturn, 1) := by decide +kernel
theorem dX10_common_0 : decode cX10_common 0 = .ok (.iload_n 0, 1) := by decide +kernel
theorem dX10_common_1 : decode cX10_common 1 = .ok (.istore_n 2, 1) := by decide +kernel
theorem dX10_common_2 : decode cX10_common 2 = .ok (.iload_n 1, 1) := by decide +kernel
theorem dX10_common_3 : decode cX10_common 3 = .ok (.istore_n 3, 1) := by decide +kernel
theorem dX10_common_4 : decode cX10_common 4 = .ok (.iload_n 3, 1) := by decide +kernel
theorem dX10_common_5 : decode cX10_common 5 = .ok (.ifCond .le 16, 3) := by decide +kernel
theorem dX10_common_8 : decode cX10_common 8 = .ok (.iload_n 2, 1) := by decide +kernel
theorem dX10_common_9 : decode cX10_common 9 = .ok (.iload_n 3, 1) := by decide +kernel
theorem dX10_common_10 : decode cX10_common 10 = .ok (.irem, 1) := by decide +kernel
theorem dX10_common_11 : decode cX10_common 11 = .ok (.istore 4, 2) := by decide +kernel
theorem dX10_common_13 : decode cX10_common 13 = .ok (.iload_n 3, 1) := by decide +kernel
theorem dX10_common_14 : decode cX10_common 14 = .ok (.istore_n 2, 1) := by decide +kernel
theorem dX10_common_15 : decode cX10_common 15 = .ok (.iload 4, 2) := by decide +kernel
theorem dX10_common_17 : decode cX10_common 17 = .ok (.istore_n 3, 1) := by decide +kernel
theorem dX10_common_18 : decode cX10_common 18 = .ok (.goto (-14), 3) := by decide +kernel
theorem dX10_common_21 : decode cX10_common 21 = .ok (.iload_n 2, 1) := by decide +kernel
theorem dX10_common_22 : decode cX10_common 22 = .ok (.ireturn, 1) := by decide +kernel
theorem dX10_miss__0 : decode cX10_miss_ 0 = .ok (.aload_n 0, 1) := by decide +kernel
theorem dX10_miss__1 : decode cX10_miss_ 1 = .ok (.iload_n 1, 1) := by decide +kernel
theorem dX10_miss__2 : decode cX10_miss_ 2 = .ok (.invokevirtual 128, 3) := by decide +kernel
theorem dX10_miss__5 : decode cX10_miss_ 5 = .ok (.ifCond .eq 13, 3) := by decide +kernel
theorem dX10_miss__8 : decode cX10_miss_ 8 = .ok (.iload_n 2, 1) := by decide +kernel
theorem dX10_miss__9 : decode cX10_miss_ 9 = .ok (.i2l, 1) := by decide +kernel
theorem dX10_miss__10 : decode cX10_miss_ 10 = .ok (.lconst 0, 1) := by decide +kernel
theorem dX10_miss__11 : decode cX10_miss_ 11 = .ok (.lconst 1, 1) := by decide +kernel
theorem dX10_miss__12 : decode cX10_miss_ 12 = .ok (.invokestatic 95, 3) := by decide +kernel
theorem dX10_miss__15 : decode cX10_miss_ 15 = .ok (.ifCond .ne 5, 3) := by decide +kernel
theorem dX10_miss__18 : decode cX10_miss_ 18 = .ok (.iconst (-1), 1) := by decide +kernel
theorem dX10_miss__19 : decode cX10_miss_ 19 = .ok (.ireturn, 1) := by decide +kernel
theorem dX10_miss__20 : decode cX10_miss_ 20 = .ok (.aload_n 0, 1) := by decide +kernel
theorem dX10_miss__21 : decode cX10_miss_ 21 = .ok (.iload_n 1, 1) := by decide +kernel
theorem dX10_miss__22 : decode cX10_miss_ 22 = .ok (.invokevirtual 152, 3) := by decide +kernel
theorem dX10_miss__25 : decode cX10_miss_ 25 = .ok (.ifCond .ne 6, 3) := by decide +kernel
theorem dX10_miss__28 : decode cX10_miss_ 28 = .ok (.bipush (-5), 2) := by decide +kernel
theorem dX10_miss__30 : decode cX10_miss_ 30 = .ok (.ireturn, 1) := by decide +kernel
theorem dX10_miss__31 : decode cX10_miss_ 31 = .ok (.aload_n 0, 1) := by decide +kernel
theorem dX10_miss__32 : decode cX10_miss_ 32 = .ok (.getfield 81, 3) := by decide +kernel
theorem dX10_miss__35 : decode cX10_miss_ 35 = .ok (.iload_n 1, 1) := by decide +kernel
theorem dX10_miss__36 : decode cX10_miss_ 36 = .ok (.iaload, 1) := by decide +kernel
theorem dX10_miss__37 : decode cX10_miss_ 37 = .ok (.aload_n 0, 1) := by decide +kernel
theorem dX10_miss__38 : decode cX10_miss_ 38 = .ok (.getfield 84, 3) := by decide +kernel
theorem dX10_miss__41 : decode cX10_miss_ 41 = .ok (.iload_n 1, 1) := by decide +kernel
theorem dX10_miss__42 : decode cX10_miss_ 42 = .ok (.iaload, 1) := by decide +kernel
theorem dX10_miss__43 : decode cX10_miss_ 43 = .ok (.invokestatic 155, 3) := by decide +kernel
theorem dX10_miss__46 : decode cX10_miss_ 46 = .ok (.istore_n 3, 1) := by decide +kernel
theorem dX10_miss__47 : decode cX10_miss_ 47 = .ok (.iload_n 2, 1) := by decide +kernel
theorem dX10_miss__48 : decode cX10_miss_ 48 = .ok (.ifCond .ne 14, 3) := by decide +kernel
theorem dX10_miss__51 : decode cX10_miss_ 51 = .ok (.aload_n 0, 1) := by decide +kernel
theorem dX10_miss__52 : decode cX10_miss_ 52 = .ok (.getfield 81, 3) := by decide +kernel
theorem dX10_miss__55 : decode cX10_miss_ 55 = .ok (.iload_n 1, 1) := by decide +kernel
theorem dX10_miss__56 : decode cX10_miss_ 56 = .ok (.iaload, 1) := by decide +kernel
theorem dX10_miss__57 : decode cX10_miss_ 57 = .ok (.iload_n 3, 1) := by decide +kernel
theorem dX10_miss__58 : decode cX10_miss_ 58 = .ok (.idiv, 1) := by decide +kernel
theorem dX10_miss__59 : decode cX10_miss_ 59 = .ok (.goto 11, 3) := by decide +kernel
theorem dX10_miss__62 : decode cX10_miss_ 62 = .ok (.aload_n 0, 1) := by decide +kernel
theorem dX10_miss__63 : decode cX10_miss_ 63 = .ok (.getfield 84, 3) := by decide +kernel
theorem dX10_miss__66 : decode cX10_miss_ 66 = .ok (.iload_n 1, 1) := by decide +kernel
theorem dX10_miss__67 : decode cX10_miss_ 67 = .ok (.iaload, 1) := by decide +kernel
theorem dX10_miss__68 : decode cX10_miss_ 68 = .ok (.iload_n 3, 1) := by decide +kernel
theorem dX10_miss__69 : decode cX10_miss_ 69 = .ok (.idiv, 1) := by decide +kernel
theorem dX10_miss__70 : decode cX10_miss_ 70 = .ok (.ireturn, 1) := by decide +kernel
theorem dX10_weightOf_0 : decode cX10_weightOf 0 = .ok (.bipush 100, 2) := by decide +kernel
theorem dX10_weightOf_2 : decode cX10_weightOf 2 = .ok (.aload_n 0, 1) := by decide +kernel
theorem dX10_weightOf_3 : decode cX10_weightOf 3 = .ok (.iload_n 1, 1) := by decide +kernel
theorem dX10_weightOf_4 : decode cX10_weightOf 4 = .ok (.iconst 0, 1) := by decide +kernel
theorem dX10_weightOf_5 : decode cX10_weightOf 5 = .ok (.invokevirtual 135, 3) := by decide +kernel
theorem dX10_weightOf_8 : decode cX10_weightOf 8 = .ok (.invokestatic 101, 3) := by decide +kernel
theorem dX10_weightOf_11 : decode cX10_weightOf 11 = .ok (.imul, 1) := by decide +kernel
theorem dX10_weightOf_12 : decode cX10_weightOf 12 = .ok (.bipush 10, 2) := by decide +kernel
theorem dX10_weightOf_14 : decode cX10_weightOf 14 = .ok (.aload_n 0, 1) := by decide +kernel
theorem dX10_weightOf_15 : decode cX10_weightOf 15 = .ok (.getfield 81, 3) := by decide +kernel
theorem dX10_weightOf_18 : decode cX10_weightOf 18 = .ok (.iload_n 1, 1) := by decide +kernel
theorem dX10_weightOf_19 : decode cX10_weightOf 19 = .ok (.iaload, 1) := by decide +kernel
theorem dX10_weightOf_20 : decode cX10_weightOf 20 = .ok (.imul, 1) := by decide +kernel
theorem dX10_weightOf_21 : decode cX10_weightOf 21 = .ok (.aload_n 0, 1) := by decide +kernel
theorem dX10_weightOf_22 : decode cX10_weightOf 22 = .ok (.getfield 84, 3) := by decide +kernel
theorem dX10_weightOf_25 : decode cX10_weightOf 25 = .ok (.iload_n 1, 1) := by decide +kernel
theorem dX10_weightOf_26 : decode cX10_weightOf 26 = .ok (.iaload, 1) := by decide +kernel
theorem dX10_weightOf_27 : decode cX10_weightOf 27 = .ok (.idiv, 1) := by decide +kernel
theorem dX10_weightOf_28 : decode cX10_weightOf 28 = .ok (.isub, 1) := by decide +kernel
theorem dX10_weightOf_29 : decode cX10_weightOf 29 = .ok (.istore_n 2, 1) := by decide +kernel
theorem dX10_weightOf_30 : decode cX10_weightOf 30 = .ok (.iload_n 2, 1) := by decide +kernel
theorem dX10_weightOf_31 : decode cX10_weightOf 31 = .ok (.ifCond .ge 7, 3) := by decide +kernel
theorem dX10_weightOf_34 : decode cX10_weightOf 34 = .ok (.iconst 0, 1) := by decide +kernel
theorem dX10_weightOf_35 : decode cX10_weightOf 35 = .ok (.goto 4, 3) := by decide +kernel
theorem dX10_weightOf_38 : decode cX10_weightOf 38 = .ok (.iload_n 2, 1) := by decide +kernel
theorem dX10_weightOf_39 : decode cX10_weightOf 39 = .ok (.ireturn, 1) := by decide +kernel
theorem dX10_weight_0 : decode cX10_weight 0 = .ok (.aload_n 0, 1) := by decide +kernel
theorem dX10_weight_1 : decode cX10_weight 1 = .ok (.iload_n 1, 1) := by decide +kernel
theorem dX10_weight_2 : decode cX10_weight 2 = .ok (.invokevirtual 128, 3) := by decide +kernel
theorem dX10_weight_5 : decode cX10_weight 5 = .ok (.ifCond .ne 5, 3) := by decide +kernel
theorem dX10_weight_8 : decode cX10_weight 8 = .ok (.iconst (-1), 1) := by decide +kernel
theorem dX10_weight_9 : decode cX10_weight 9 = .ok (.ireturn, 1) := by decide +kernel
theorem dX10_weight_10 : decode cX10_weight 10 = .ok (.aload_n 0, 1) := by decide +kernel
theorem dX10_weight_11 : decode cX10_weight 11 = .ok (.iload_n 1, 1) := by decide +kernel
theorem dX10_weight_12 : decode cX10_weight 12 = .ok (.invokevirtual 152, 3) := by decide +kernel
theorem dX10_weight_15 : decode cX10_weight 15 = .ok (.ifCond .eq 11, 3) := by decide +kernel
theorem dX10_weight_18 : decode cX10_weight 18 = .ok (.aload_n 0, 1) := by decide +kernel
theorem dX10_weight_19 : decode cX10_weight 19 = .ok (.iload_n 1, 1) := by decide +kernel
theorem dX10_weight_20 : decode cX10_weight 20 = .ok (.invokevirtual 159, 3) := by decide +kernel
theorem dX10_weight_23 : decode cX10_weight 23 = .ok (.goto 5, 3) := by decide +kernel
theorem dX10_weight_26 : decode cX10_weight 26 = .ok (.bipush (-5), 2) := by decide +kernel
theorem dX10_weight_28 : decode cX10_weight 28 = .ok (.ireturn, 1) := by decide +kernel
theorem dX10_areApart_0 : decode cX10_areApart 0 = .ok (.iconst 1, 1) := by decide +kernel
theorem dX10_areApart_1 : decode cX10_areApart 1 = .ok (.istore_n 3, 1) := by decide +kernel
theorem dX10_areApart_2 : decode cX10_areApart 2 = .ok (.iconst 0, 1) := by decide +kernel
theorem dX10_areApart_3 : decode cX10_areApart 3 = .ok (.istore 4, 2) := by decide +kernel
theorem dX10_areApart_5 : decode cX10_areApart 5 = .ok (.iload 4, 2) := by decide +kernel
theorem dX10_areApart_7 : decode cX10_areApart 7 = .ok (.iconst 5, 1) := by decide +kernel
theorem dX10_areApart_8 : decode cX10_areApart 8 = .ok (.if_icmp .ge 58, 3) := by decide +kernel
theorem dX10_areApart_11 : decode cX10_areApart 11 = .ok (.iload_n 3, 1) := by decide +kernel
theorem dX10_areApart_12 : decode cX10_areApart 12 = .ok (.ifCond .eq 46, 3) := by decide +kernel
theorem dX10_areApart_15 : decode cX10_areApart 15 = .ok (.aload_n 0, 1) := by decide +kernel
theorem dX10_areApart_16 : decode cX10_areApart 16 = .ok (.getfield 78, 3) := by decide +kernel
theorem dX10_areApart_19 : decode cX10_areApart 19 = .ok (.iconst 5, 1) := by decide +kernel
theorem dX10_areApart_20 : decode cX10_areApart 20 = .ok (.iload_n 1, 1) := by decide +kernel
theorem dX10_areApart_21 : decode cX10_areApart 21 = .ok (.imul, 1) := by decide +kernel
theorem dX10_areApart_22 : decode cX10_areApart 22 = .ok (.iload 4, 2) := by decide +kernel
theorem dX10_areApart_24 : decode cX10_areApart 24 = .ok (.iadd, 1) := by decide +kernel
theorem dX10_areApart_25 : decode cX10_areApart 25 = .ok (.iaload, 1) := by decide +kernel
theorem dX10_areApart_26 : decode cX10_areApart 26 = .ok (.ifCond .lt 28, 3) := by decide +kernel
theorem dX10_areApart_29 : decode cX10_areApart 29 = .ok (.aload_n 0, 1) := by decide +kernel
theorem dX10_areApart_30 : decode cX10_areApart 30 = .ok (.getfield 78, 3) := by decide +kernel
theorem dX10_areApart_33 : decode cX10_areApart 33 = .ok (.iconst 5, 1) := by decide +kernel
theorem dX10_areApart_34 : decode cX10_areApart 34 = .ok (.iload_n 1, 1) := by decide +kernel
theorem dX10_areApart_35 : decode cX10_areApart 35 = .ok (.imul, 1) := by decide +kernel
theorem dX10_areApart_36 : decode cX10_areApart 36 = .ok (.iload 4, 2) := by decide +kernel
theorem dX10_areApart_38 : decode cX10_areApart 38 = .ok (.iadd, 1) := by decide +kernel
theorem dX10_areApart_39 : decode cX10_areApart 39 = .ok (.iaload, 1) := by decide +kernel
theorem dX10_areApart_40 : decode cX10_areApart 40 = .ok (.aload_n 0, 1) := by decide +kernel
theorem dX10_areApart_41 : decode cX10_areApart 41 = .ok (.getfield 78, 3) := by decide +kernel
theorem dX10_areApart_44 : decode cX10_areApart 44 = .ok (.iconst 5, 1) := by decide +kernel
theorem dX10_areApart_45 : decode cX10_areApart 45 = .ok (.iload_n 2, 1) := by decide +kernel
theorem dX10_areApart_46 : decode cX10_areApart 46 = .ok (.imul, 1) := by decide +kernel
theorem dX10_areApart_47 : decode cX10_areApart 47 = .ok (.iload 4, 2) := by decide +kernel
theorem dX10_areApart_49 : decode cX10_areApart 49 = .ok (.iadd, 1) := by decide +kernel
theorem dX10_areApart_50 : decode cX10_areApart 50 = .ok (.iaload, 1) := by decide +kernel
theorem dX10_areApart_51 : decode cX10_areApart 51 = .ok (.if_icmp .eq 7, 3) := by decide +kernel
theorem dX10_areApart_54 : decode cX10_areApart 54 = .ok (.iconst 1, 1) := by decide +kernel
theorem dX10_areApart_55 : decode cX10_areApart 55 = .ok (.goto 4, 3) := by decide +kernel
theorem dX10_areApart_58 : decode cX10_areApart 58 = .ok (.iconst 0, 1) := by decide +kernel
theorem dX10_areApart_59 : decode cX10_areApart 59 = .ok (.istore_n 3, 1) := by decide +kernel
theorem dX10_areApart_60 : decode cX10_areApart 60 = .ok (.iinc 4 1, 3) := by decide +kernel
theorem dX10_areApart_63 : decode cX10_areApart 63 = .ok (.goto (-58), 3) := by decide +kernel
theorem dX10_areApart_66 : decode cX10_areApart 66 = .ok (.iload_n 3, 1) := by decide +kernel
theorem dX10_areApart_67 : decode cX10_areApart 67 = .ok (.ireturn, 1) := by decide +kernel
theorem dX10_findHeap_0 : decode cX10_findHeap 0 = .ok (.iconst 0, 1) := by decide +kernel
theorem dX10_findHeap_1 : decode cX10_findHeap 1 = .ok (.istore_n 1, 1) := by decide +kernel
theorem dX10_findHeap_2 : decode cX10_findHeap 2 = .ok (.iconst 0, 1) := by decide +kernel
theorem dX10_findHeap_3 : decode cX10_findHeap 3 = .ok (.istore_n 2, 1) := by decide +kernel
theorem dX10_findHeap_4 : decode cX10_findHeap 4 = .ok (.iload_n 2, 1) := by decide +kernel
theorem dX10_findHeap_5 : decode cX10_findHeap 5 = .ok (.aload_n 0, 1) := by decide +kernel
theorem dX10_findHeap_6 : decode cX10_findHeap 6 = .ok (.getfield 124, 3) := by decide +kernel
theorem dX10_findHeap_9 : decode cX10_findHeap 9 = .ok (.if_icmp .ge 23, 3) := by decide +kernel
theorem dX10_findHeap_12 : decode cX10_findHeap 12 = .ok (.aload_n 0, 1) := by decide +kernel
theorem dX10_findHeap_13 : decode cX10_findHeap 13 = .ok (.iload_n 2, 1) := by decide +kernel
theorem dX10_findHeap_14 : decode cX10_findHeap 14 = .ok (.invokevirtual 152, 3) := by decide +kernel
theorem dX10_findHeap_17 : decode cX10_findHeap 17 = .ok (.ifCond .eq 9, 3) := by decide +kernel
theorem dX10_findHeap_20 : decode cX10_findHeap 20 = .ok (.iload_n 1, 1) := by decide +kernel
theorem dX10_findHeap_21 : decode cX10_findHeap 21 = .ok (.iconst 1, 1) := by decide +kernel
theorem dX10_findHeap_22 : decode cX10_findHeap 22 = .ok (.iload_n 2, 1) := by decide +kernel
theorem dX10_findHeap_23 : decode cX10_findHeap 23 = .ok (.ishl, 1) := by decide +kernel
theorem dX10_findHeap_24 : decode cX10_findHeap 24 = .ok (.ior, 1) := by decide +kernel
theorem dX10_findHeap_25 : decode cX10_findHeap 25 = .ok (.istore_n 1, 1) := by decide +kernel
theorem dX10_findHeap_26 : decode cX10_findHeap 26 = .ok (.iinc 2 1, 3) := by decide +kernel
theorem dX10_findHeap_29 : decode cX10_findHeap 29 = .ok (.goto (-25), 3) := by decide +kernel
theorem dX10_findHeap_32 : decode cX10_findHeap 32 = .ok (.aload_n 0, 1) := by decide +kernel
theorem dX10_findHeap_33 : decode cX10_findHeap 33 = .ok (.iconst 0, 1) := by decide +kernel
theorem dX10_findHeap_34 : decode cX10_findHeap 34 = .ok (.putfield 162, 3) := by decide +kernel
theorem dX10_findHeap_37 : decode cX10_findHeap 37 = .ok (.aload_n 0, 1) := by decide +kernel
theorem dX10_findHeap_38 : decode cX10_findHeap 38 = .ok (.iconst 0, 1) := by decide +kernel
theorem dX10_findHeap_39 : decode cX10_findHeap 39 = .ok (.putfield 165, 3) := by decide +kernel
theorem dX10_findHeap_42 : decode cX10_findHeap 42 = .ok (.iconst 1, 1) := by decide +kernel
theorem dX10_findHeap_43 : decode cX10_findHeap 43 = .ok (.istore_n 2, 1) := by decide +kernel
theorem dX10_findHeap_44 : decode cX10_findHeap 44 = .ok (.iload_n 2, 1) := by decide +kernel
theorem dX10_findHeap_45 : decode cX10_findHeap 45 = .ok (.iconst 1, 1) := by decide +kernel
theorem dX10_findHeap_46 : decode cX10_findHeap 46 = .ok (.aload_n 0, 1) := by decide +kernel
theorem dX10_findHeap_47 : decode cX10_findHeap 47 = .ok (.getfield 124, 3) := by decide +kernel
theorem dX10_findHeap_50 : decode cX10_findHeap 50 = .ok (.ishl, 1) := by decide +kernel
theorem dX10_findHeap_51 : decode cX10_findHeap 51 = .ok (.if_icmp .ge 140, 3) := by decide +kernel
theorem dX10_findHeap_54 : decode cX10_findHeap 54 = .ok (.iload_n 2, 1) := by decide +kernel
theorem dX10_findHeap_55 : decode cX10_findHeap 55 = .ok (.iload_n 1, 1) := by decide +kernel
theorem dX10_findHeap_56 : decode cX10_findHeap 56 = .ok (.iconst (-1), 1) := by decide +kernel
theorem dX10_findHeap_57 : decode cX10_findHeap 57 = .ok (.ixor, 1) := by decide +kernel
theorem dX10_findHeap_58 : decode cX10_findHeap 58 = .ok (.iand, 1) := by decide +kernel
theorem dX10_findHeap_59 : decode cX10_findHeap 59 = .ok (.ifCond .eq 6, 3) := by decide +kernel
theorem dX10_findHeap_62 : decode cX10_findHeap 62 = .ok (.goto 123, 3) := by decide +kernel
theorem dX10_findHeap_65 : decode cX10_findHeap 65 = .ok (.iconst 1, 1) := by decide +kernel
theorem dX10_findHeap_66 : decode cX10_findHeap 66 = .ok (.istore_n 3, 1) := by decide +kernel
theorem dX10_findHeap_67 : decode cX10_findHeap 67 = .ok (.iconst 0, 1) := by decide +kernel
theorem dX10_findHeap_68 : decode cX10_findHeap 68 = .ok (.istore 4, 2) := by decide +kernel
theorem dX10_findHeap_70 : decode cX10_findHeap 70 = .ok (.iconst 0, 1) := by decide +kernel
theorem dX10_findHeap_71 : decode cX10_findHeap 71 = .ok (.istore 5, 2) := by decide +kernel
theorem dX10_findHeap_73 : decode cX10_findHeap 73 = .ok (.iload 5, 2) := by decide +kernel
theorem dX10_findHeap_75 : decode cX10_findHeap 75 = .ok (.aload_n 0, 1) := by decide +kernel
theorem dX10_findHeap_76 : decode cX10_findHeap 76 = .ok (.getfield 124, 3) := by decide +kernel
theorem dX10_findHeap_79 : decode cX10_findHeap 79 = .ok (.if_icmp .ge 79, 3) := by decide +kernel
theorem dX10_findHeap_82 : decode cX10_findHeap 82 = .ok (.iload_n 2, 1) := by decide +kernel
theorem dX10_findHeap_83 : decode cX10_findHeap 83 = .ok (.iload 5, 2) := by decide +kernel
theorem dX10_findHeap_85 : decode cX10_findHeap 85 = .ok (.ishr, 1) := by decide +kernel
theorem dX10_findHeap_86 : decode cX10_findHeap 86 = .ok (.iconst 1, 1) := by decide +kernel
theorem dX10_findHeap_87 : decode cX10_findHeap 87 = .ok (.iand, 1) := by decide +kernel
theorem dX10_findHeap_88 : decode cX10_findHeap 88 = .ok (.ifCond .ne 6, 3) := by decide +kernel
theorem dX10_findHeap_91 : decode cX10_findHeap 91 = .ok (.goto 61, 3) := by decide +kernel
theorem dX10_findHeap_94 : decode cX10_findHeap 94 = .ok (.iload 4, 2) := by decide +kernel
theorem dX10_findHeap_96 : decode cX10_findHeap 96 = .ok (.aload_n 0, 1) := by decide +kernel
theorem dX10_findHeap_97 : decode cX10_findHeap 97 = .ok (.iload 5, 2) := by decide +kernel
theorem dX10_findHeap_99 : decode cX10_findHeap 99 = .ok (.invokevirtual 159, 3) := by decide +kernel
theorem dX10_findHeap_102 : decode cX10_findHeap 102 = .ok (.iadd, 1) := by decide +kernel
theorem dX10_findHeap_103 : decode cX10_findHeap 103 = .ok (.istore 4, 2) := by decide +kernel
theorem dX10_findHeap_105 : decode cX10_findHeap 105 = .ok (.iconst 0, 1) := by decide +kernel
theorem dX10_findHeap_106 : decode cX10_findHeap 106 = .ok (.istore 6, 2) := by decide +kernel
theorem dX10_findHeap_108 : decode cX10_findHeap 108 = .ok (.iload 6, 2) := by decide +kernel
theorem dX10_findHeap_110 : decode cX10_findHeap 110 = .ok (.iload 5, 2) := by decide +kernel
theorem dX10_findHeap_112 : decode cX10_findHeap 112 = .ok (.if_icmp .ge 40, 3) := by decide +kernel
theorem dX10_findHeap_115 : decode cX10_findHeap 115 = .ok (.iload_n 2, 1) := by decide +kernel
theorem dX10_findHeap_116 : decode cX10_findHeap 116 = .ok (.iload 6, 2) := by decide +kernel
theorem dX10_findHeap_118 : decode cX10_findHeap 118 = .ok (.ishr, 1) := by decide +kernel
theorem dX10_findHeap_119 : decode cX10_findHeap 119 = .ok (.iconst 1, 1) := by decide +kernel
theorem dX10_findHeap_120 : decode cX10_findHeap 120 = .ok (.iand, 1) := by decide +kernel
theorem dX10_findHeap_121 : decode cX10_findHeap 121 = .ok (.iconst 1, 1) := by decide +kernel
theorem dX10_findHeap_122 : decode cX10_findHeap 122 = .ok (.if_icmp .ne 24, 3) := by decide +kernel
theorem dX10_findHeap_125 : decode cX10_findHeap 125 = .ok (.iload_n 3, 1) := by decide +kernel
end
section
theorem dX10_findHeap_126 : decode cX10_findHeap 126 = .ok (.ifCond .eq 18, 3) := by decide +kernel
theorem dX10_findHeap_129 : decode cX10_findHeap 129 = .ok (.aload_n 0, 1) := by decide +kernel
theorem dX10_findHeap_130 : decode cX10_findHeap 130 = .ok (.iload 5, 2) := by decide +kernel
theorem dX10_findHeap_132 : decode cX10_findHeap 132 = .ok (.iload 6, 2) := by decide +kernel
theorem dX10_findHeap_134 : decode cX10_findHeap 134 = .ok (.invokevirtual 168, 3) := by decide +kernel
theorem dX10_findHeap_137 : decode cX10_findHeap 137 = .ok (.ifCond .eq 7, 3) := by decide +kernel
theorem dX10_findHeap_140 : decode cX10_findHeap 140 = .ok (.iconst 1, 1) := by decide +kernel
theorem dX10_findHeap_141 : decode cX10_findHeap 141 = .ok (.goto 4, 3) := by decide +kernel
theorem dX10_findHeap_144 : decode cX10_findHeap 144 = .ok (.iconst 0, 1) := by decide +kernel
theorem dX10_findHeap_145 : decode cX10_findHeap 145 = .ok (.istore_n 3, 1) := by decide +kernel
theorem dX10_findHeap_146 : decode cX10_findHeap 146 = .ok (.iinc 6 1, 3) := by decide +kernel
theorem dX10_findHeap_149 : decode cX10_findHeap 149 = .ok (.goto (-41), 3) := by decide +kernel
theorem dX10_findHeap_152 : decode cX10_findHeap 152 = .ok (.iinc 5 1, 3) := by decide +kernel
theorem dX10_findHeap_155 : decode cX10_findHeap 155 = .ok (.goto (-82), 3) := by decide +kernel
theorem dX10_findHeap_158 : decode cX10_findHeap 158 = .ok (.iload_n 3, 1) := by decide +kernel
theorem dX10_findHeap_159 : decode cX10_findHeap 159 = .ok (.ifCond .eq 26, 3) := by decide +kernel
theorem dX10_findHeap_162 : decode cX10_findHeap 162 = .ok (.iload 4, 2) := by decide +kernel
theorem dX10_findHeap_164 : decode cX10_findHeap 164 = .ok (.aload_n 0, 1) := by decide +kernel
theorem dX10_findHeap_165 : decode cX10_findHeap 165 = .ok (.getfield 165, 3) := by decide +kernel
theorem dX10_findHeap_168 : decode cX10_findHeap 168 = .ok (.if_icmp .gt 6, 3) := by decide +kernel
theorem dX10_findHeap_171 : decode cX10_findHeap 171 = .ok (.goto 14, 3) := by decide +kernel
theorem dX10_findHeap_174 : decode cX10_findHeap 174 = .ok (.aload_n 0, 1) := by decide +kernel
theorem dX10_findHeap_175 : decode cX10_findHeap 175 = .ok (.iload 4, 2) := by decide +kernel
theorem dX10_findHeap_177 : decode cX10_findHeap 177 = .ok (.putfield 165, 3) := by decide +kernel
theorem dX10_findHeap_180 : decode cX10_findHeap 180 = .ok (.aload_n 0, 1) := by decide +kernel
theorem dX10_findHeap_181 : decode cX10_findHeap 181 = .ok (.iload_n 2, 1) := by decide +kernel
theorem dX10_findHeap_182 : decode cX10_findHeap 182 = .ok (.putfield 162, 3) := by decide +kernel
theorem dX10_findHeap_185 : decode cX10_findHeap 185 = .ok (.iinc 2 1, 3) := by decide +kernel
theorem dX10_findHeap_188 : decode cX10_findHeap 188 = .ok (.goto (-144), 3) := by decide +kernel
theorem dX10_findHeap_191 : decode cX10_findHeap 191 = .ok (.return_, 1) := by decide +kernel
theorem dX10_heap_0 : decode cX10_heap 0 = .ok (.iload_n 1, 1) := by decide +kernel
theorem dX10_heap_1 : decode cX10_heap 1 = .ok (.i2l, 1) := by decide +kernel
theorem dX10_heap_2 : decode cX10_heap 2 = .ok (.lconst 0, 1) := by decide +kernel
theorem dX10_heap_3 : decode cX10_heap 3 = .ok (.ldc2_w 99, 3) := by decide +kernel
theorem dX10_heap_6 : decode cX10_heap 6 = .ok (.invokestatic 95, 3) := by decide +kernel
theorem dX10_heap_9 : decode cX10_heap 9 = .ok (.ifCond .ne 5, 3) := by decide +kernel
theorem dX10_heap_12 : decode cX10_heap 12 = .ok (.iconst (-1), 1) := by decide +kernel
theorem dX10_heap_13 : decode cX10_heap 13 = .ok (.ireturn, 1) := by decide +kernel
theorem dX10_heap_14 : decode cX10_heap 14 = .ok (.aload_n 0, 1) := by decide +kernel
theorem dX10_heap_15 : decode cX10_heap 15 = .ok (.invokevirtual 172, 3) := by decide +kernel
theorem dX10_heap_18 : decode cX10_heap 18 = .ok (.iload_n 1, 1) := by decide +kernel
theorem dX10_heap_19 : decode cX10_heap 19 = .ok (.ifCond .ne 10, 3) := by decide +kernel
theorem dX10_heap_22 : decode cX10_heap 22 = .ok (.aload_n 0, 1) := by decide +kernel
theorem dX10_heap_23 : decode cX10_heap 23 = .ok (.getfield 162, 3) := by decide +kernel
theorem dX10_heap_26 : decode cX10_heap 26 = .ok (.goto 22, 3) := by decide +kernel
theorem dX10_heap_29 : decode cX10_heap 29 = .ok (.iload_n 1, 1) := by decide +kernel
theorem dX10_heap_30 : decode cX10_heap 30 = .ok (.iconst 1, 1) := by decide +kernel
theorem dX10_heap_31 : decode cX10_heap 31 = .ok (.if_icmp .ne 13, 3) := by decide +kernel
theorem dX10_heap_34 : decode cX10_heap 34 = .ok (.aload_n 0, 1) := by decide +kernel
theorem dX10_heap_35 : decode cX10_heap 35 = .ok (.getfield 162, 3) := by decide +kernel
theorem dX10_heap_38 : decode cX10_heap 38 = .ok (.invokestatic 101, 3) := by decide +kernel
theorem dX10_heap_41 : decode cX10_heap 41 = .ok (.goto 7, 3) := by decide +kernel
theorem dX10_heap_44 : decode cX10_heap 44 = .ok (.aload_n 0, 1) := by decide +kernel
theorem dX10_heap_45 : decode cX10_heap 45 = .ok (.getfield 165, 3) := by decide +kernel
theorem dX10_heap_48 : decode cX10_heap 48 = .ok (.ireturn, 1) := by decide +kernel
theorem dX10_blind_0 : decode cX10_blind 0 = .ok (.iconst 0, 1) := by decide +kernel
theorem dX10_blind_1 : decode cX10_blind 1 = .ok (.istore_n 1, 1) := by decide +kernel
theorem dX10_blind_2 : decode cX10_blind 2 = .ok (.iconst 0, 1) := by decide +kernel
theorem dX10_blind_3 : decode cX10_blind 3 = .ok (.istore_n 2, 1) := by decide +kernel
theorem dX10_blind_4 : decode cX10_blind 4 = .ok (.iload_n 2, 1) := by decide +kernel
theorem dX10_blind_5 : decode cX10_blind 5 = .ok (.aload_n 0, 1) := by decide +kernel
theorem dX10_blind_6 : decode cX10_blind 6 = .ok (.getfield 124, 3) := by decide +kernel
theorem dX10_blind_9 : decode cX10_blind 9 = .ok (.if_icmp .ge 41, 3) := by decide +kernel
theorem dX10_blind_12 : decode cX10_blind 12 = .ok (.aload_n 0, 1) := by decide +kernel
theorem dX10_blind_13 : decode cX10_blind 13 = .ok (.iload_n 2, 1) := by decide +kernel
theorem dX10_blind_14 : decode cX10_blind 14 = .ok (.invokevirtual 139, 3) := by decide +kernel
theorem dX10_blind_17 : decode cX10_blind 17 = .ok (.ifCond .ne 27, 3) := by decide +kernel
theorem dX10_blind_20 : decode cX10_blind 20 = .ok (.aload_n 0, 1) := by decide +kernel
theorem dX10_blind_21 : decode cX10_blind 21 = .ok (.iload_n 2, 1) := by decide +kernel
theorem dX10_blind_22 : decode cX10_blind 22 = .ok (.iconst 1, 1) := by decide +kernel
theorem dX10_blind_23 : decode cX10_blind 23 = .ok (.invokevirtual 135, 3) := by decide +kernel
theorem dX10_blind_26 : decode cX10_blind 26 = .ok (.invokestatic 101, 3) := by decide +kernel
theorem dX10_blind_29 : decode cX10_blind 29 = .ok (.aload_n 0, 1) := by decide +kernel
theorem dX10_blind_30 : decode cX10_blind 30 = .ok (.getfield 31, 3) := by decide +kernel
theorem dX10_blind_33 : decode cX10_blind 33 = .ok (.iload_n 2, 1) := by decide +kernel
theorem dX10_blind_34 : decode cX10_blind 34 = .ok (.iaload, 1) := by decide +kernel
theorem dX10_blind_35 : decode cX10_blind 35 = .ok (.if_icmp .lt 9, 3) := by decide +kernel
theorem dX10_blind_38 : decode cX10_blind 38 = .ok (.iload_n 1, 1) := by decide +kernel
theorem dX10_blind_39 : decode cX10_blind 39 = .ok (.iconst 1, 1) := by decide +kernel
theorem dX10_blind_40 : decode cX10_blind 40 = .ok (.iload_n 2, 1) := by decide +kernel
theorem dX10_blind_41 : decode cX10_blind 41 = .ok (.ishl, 1) := by decide +kernel
theorem dX10_blind_42 : decode cX10_blind 42 = .ok (.ior, 1) := by decide +kernel
theorem dX10_blind_43 : decode cX10_blind 43 = .ok (.istore_n 1, 1) := by decide +kernel
theorem dX10_blind_44 : decode cX10_blind 44 = .ok (.iinc 2 1, 3) := by decide +kernel
theorem dX10_blind_47 : decode cX10_blind 47 = .ok (.goto (-43), 3) := by decide +kernel
theorem dX10_blind_50 : decode cX10_blind 50 = .ok (.iload_n 1, 1) := by decide +kernel
theorem dX10_blind_51 : decode cX10_blind 51 = .ok (.ireturn, 1) := by decide +kernel
theorem dX10_feed_0 : decode cX10_feed 0 = .ok (.iconst 0, 1) := by decide +kernel
theorem dX10_feed_1 : decode cX10_feed 1 = .ok (.istore_n 2, 1) := by decide +kernel
theorem dX10_feed_2 : decode cX10_feed 2 = .ok (.iload_n 2, 1) := by decide +kernel
theorem dX10_feed_3 : decode cX10_feed 3 = .ok (.iconst 4, 1) := by decide +kernel
theorem dX10_feed_4 : decode cX10_feed 4 = .ok (.if_icmp .ge 22, 3) := by decide +kernel
theorem dX10_feed_7 : decode cX10_feed 7 = .ok (.iload_n 1, 1) := by decide +kernel
theorem dX10_feed_8 : decode cX10_feed 8 = .ok (.bipush 8, 2) := by decide +kernel
theorem dX10_feed_10 : decode cX10_feed 10 = .ok (.iload_n 2, 1) := by decide +kernel
theorem dX10_feed_11 : decode cX10_feed 11 = .ok (.imul, 1) := by decide +kernel
theorem dX10_feed_12 : decode cX10_feed 12 = .ok (.iushr, 1) := by decide +kernel
theorem dX10_feed_13 : decode cX10_feed 13 = .ok (.sipush 255, 3) := by decide +kernel
theorem dX10_feed_16 : decode cX10_feed 16 = .ok (.iand, 1) := by decide +kernel
theorem dX10_feed_17 : decode cX10_feed 17 = .ok (.ifCond .eq 9, 3) := by decide +kernel
theorem dX10_feed_20 : decode cX10_feed 20 = .ok (.iinc 2 1, 3) := by decide +kernel
theorem dX10_feed_23 : decode cX10_feed 23 = .ok (.goto (-21), 3) := by decide +kernel
theorem dX10_feed_26 : decode cX10_feed 26 = .ok (.aload_n 0, 1) := by decide +kernel
theorem dX10_feed_27 : decode cX10_feed 27 = .ok (.getfield 175, 3) := by decide +kernel
theorem dX10_feed_30 : decode cX10_feed 30 = .ok (.iload_n 2, 1) := by decide +kernel
theorem dX10_feed_31 : decode cX10_feed 31 = .ok (.iadd, 1) := by decide +kernel
theorem dX10_feed_32 : decode cX10_feed 32 = .ok (.bipush 60, 2) := by decide +kernel
theorem dX10_feed_34 : decode cX10_feed 34 = .ok (.if_icmp .le 6, 3) := by decide +kernel
theorem dX10_feed_37 : decode cX10_feed 37 = .ok (.bipush (-2), 2) := by decide +kernel
theorem dX10_feed_39 : decode cX10_feed 39 = .ok (.ireturn, 1) := by decide +kernel
theorem dX10_feed_40 : decode cX10_feed 40 = .ok (.iconst 0, 1) := by decide +kernel
theorem dX10_feed_41 : decode cX10_feed 41 = .ok (.istore_n 3, 1) := by decide +kernel
theorem dX10_feed_42 : decode cX10_feed 42 = .ok (.iload_n 3, 1) := by decide +kernel
theorem dX10_feed_43 : decode cX10_feed 43 = .ok (.iload_n 2, 1) := by decide +kernel
theorem dX10_feed_44 : decode cX10_feed 44 = .ok (.if_icmp .ge 27, 3) := by decide +kernel
theorem dX10_feed_47 : decode cX10_feed 47 = .ok (.aload_n 0, 1) := by decide +kernel
theorem dX10_feed_48 : decode cX10_feed 48 = .ok (.getfield 34, 3) := by decide +kernel
theorem dX10_feed_51 : decode cX10_feed 51 = .ok (.aload_n 0, 1) := by decide +kernel
theorem dX10_feed_52 : decode cX10_feed 52 = .ok (.getfield 175, 3) := by decide +kernel
theorem dX10_feed_55 : decode cX10_feed 55 = .ok (.iload_n 3, 1) := by decide +kernel
theorem dX10_feed_56 : decode cX10_feed 56 = .ok (.iadd, 1) := by decide +kernel
theorem dX10_feed_57 : decode cX10_feed 57 = .ok (.iload_n 1, 1) := by decide +kernel
theorem dX10_feed_58 : decode cX10_feed 58 = .ok (.bipush 8, 2) := by decide +kernel
theorem dX10_feed_60 : decode cX10_feed 60 = .ok (.iload_n 3, 1) := by decide +kernel
theorem dX10_feed_61 : decode cX10_feed 61 = .ok (.imul, 1) := by decide +kernel
theorem dX10_feed_62 : decode cX10_feed 62 = .ok (.iushr, 1) := by decide +kernel
theorem dX10_feed_63 : decode cX10_feed 63 = .ok (.i2b, 1) := by decide +kernel
theorem dX10_feed_64 : decode cX10_feed 64 = .ok (.bastore, 1) := by decide +kernel
theorem dX10_feed_65 : decode cX10_feed 65 = .ok (.iinc 3 1, 3) := by decide +kernel
theorem dX10_feed_68 : decode cX10_feed 68 = .ok (.goto (-26), 3) := by decide +kernel
theorem dX10_feed_71 : decode cX10_feed 71 = .ok (.aload_n 0, 1) := by decide +kernel
theorem dX10_feed_72 : decode cX10_feed 72 = .ok (.dup, 1) := by decide +kernel
theorem dX10_feed_73 : decode cX10_feed 73 = .ok (.getfield 175, 3) := by decide +kernel
theorem dX10_feed_76 : decode cX10_feed 76 = .ok (.iload_n 2, 1) := by decide +kernel
theorem dX10_feed_77 : decode cX10_feed 77 = .ok (.iadd, 1) := by decide +kernel
theorem dX10_feed_78 : decode cX10_feed 78 = .ok (.putfield 175, 3) := by decide +kernel
theorem dX10_feed_81 : decode cX10_feed 81 = .ok (.aload_n 0, 1) := by decide +kernel
theorem dX10_feed_82 : decode cX10_feed 82 = .ok (.getfield 175, 3) := by decide +kernel
theorem dX10_feed_85 : decode cX10_feed 85 = .ok (.ireturn, 1) := by decide +kernel
theorem dX10_clear_0 : decode cX10_clear 0 = .ok (.aload_n 0, 1) := by decide +kernel
theorem dX10_clear_1 : decode cX10_clear 1 = .ok (.getfield 175, 3) := by decide +kernel
theorem dX10_clear_4 : decode cX10_clear 4 = .ok (.istore_n 1, 1) := by decide +kernel
theorem dX10_clear_5 : decode cX10_clear 5 = .ok (.aload_n 0, 1) := by decide +kernel
theorem dX10_clear_6 : decode cX10_clear 6 = .ok (.iconst 0, 1) := by decide +kernel
theorem dX10_clear_7 : decode cX10_clear 7 = .ok (.putfield 175, 3) := by decide +kernel
theorem dX10_clear_10 : decode cX10_clear 10 = .ok (.iload_n 1, 1) := by decide +kernel
theorem dX10_clear_11 : decode cX10_clear 11 = .ok (.ireturn, 1) := by decide +kernel
theorem dX10_isFigure_0 : decode cX10_isFigure 0 = .ok (.iload_n 0, 1) := by decide +kernel
theorem dX10_isFigure_1 : decode cX10_isFigure 1 = .ok (.bipush 48, 2) := by decide +kernel
theorem dX10_isFigure_3 : decode cX10_isFigure 3 = .ok (.if_icmp .lt 13, 3) := by decide +kernel
theorem dX10_isFigure_6 : decode cX10_isFigure 6 = .ok (.iload_n 0, 1) := by decide +kernel
theorem dX10_isFigure_7 : decode cX10_isFigure 7 = .ok (.bipush 57, 2) := by decide +kernel
theorem dX10_isFigure_9 : decode cX10_isFigure 9 = .ok (.if_icmp .gt 7, 3) := by decide +kernel
theorem dX10_isFigure_12 : decode cX10_isFigure 12 = .ok (.iconst 1, 1) := by decide +kernel
theorem dX10_isFigure_13 : decode cX10_isFigure 13 = .ok (.goto 4, 3) := by decide +kernel
theorem dX10_isFigure_16 : decode cX10_isFigure 16 = .ok (.iconst 0, 1) := by decide +kernel
theorem dX10_isFigure_17 : decode cX10_isFigure 17 = .ok (.ireturn, 1) := by decide +kernel
theorem dX10_isName_0 : decode cX10_isName 0 = .ok (.iload_n 0, 1) := by decide +kernel
theorem dX10_isName_1 : decode cX10_isName 1 = .ok (.bipush 116, 2) := by decide +kernel
theorem dX10_isName_3 : decode cX10_isName 3 = .ok (.if_icmp .eq 27, 3) := by decide +kernel
theorem dX10_isName_6 : decode cX10_isName 6 = .ok (.iload_n 0, 1) := by decide +kernel
theorem dX10_isName_7 : decode cX10_isName 7 = .ok (.bipush 104, 2) := by decide +kernel
theorem dX10_isName_9 : decode cX10_isName 9 = .ok (.if_icmp .eq 21, 3) := by decide +kernel
theorem dX10_isName_12 : decode cX10_isName 12 = .ok (.iload_n 0, 1) := by decide +kernel
theorem dX10_isName_13 : decode cX10_isName 13 = .ok (.bipush 119, 2) := by decide +kernel
theorem dX10_isName_15 : decode cX10_isName 15 = .ok (.if_icmp .eq 15, 3) := by decide +kernel
theorem dX10_isName_18 : decode cX10_isName 18 = .ok (.iload_n 0, 1) := by decide +kernel
theorem dX10_isName_19 : decode cX10_isName 19 = .ok (.bipush 108, 2) := by decide +kernel
theorem dX10_isName_21 : decode cX10_isName 21 = .ok (.if_icmp .eq 9, 3) := by decide +kernel
theorem dX10_isName_24 : decode cX10_isName 24 = .ok (.iload_n 0, 1) := by decide +kernel
theorem dX10_isName_25 : decode cX10_isName 25 = .ok (.bipush 114, 2) := by decide +kernel
theorem dX10_isName_27 : decode cX10_isName 27 = .ok (.if_icmp .ne 7, 3) := by decide +kernel
theorem dX10_isName_30 : decode cX10_isName 30 = .ok (.iconst 1, 1) := by decide +kernel
theorem dX10_isName_31 : decode cX10_isName 31 = .ok (.goto 4, 3) := by decide +kernel
theorem dX10_isName_34 : decode cX10_isName 34 = .ok (.iconst 0, 1) := by decide +kernel
theorem dX10_isName_35 : decode cX10_isName 35 = .ok (.ireturn, 1) := by decide +kernel
theorem dX10_faultOf_0 : decode cX10_faultOf 0 = .ok (.iconst 0, 1) := by decide +kernel
theorem dX10_faultOf_1 : decode cX10_faultOf 1 = .ok (.istore_n 1, 1) := by decide +kernel
theorem dX10_faultOf_2 : decode cX10_faultOf 2 = .ok (.iconst 1, 1) := by decide +kernel
theorem dX10_faultOf_3 : decode cX10_faultOf 3 = .ok (.istore_n 2, 1) := by decide +kernel
theorem dX10_faultOf_4 : decode cX10_faultOf 4 = .ok (.iconst 0, 1) := by decide +kernel
theorem dX10_faultOf_5 : decode cX10_faultOf 5 = .ok (.istore_n 3, 1) := by decide +kernel
theorem dX10_faultOf_6 : decode cX10_faultOf 6 = .ok (.iload_n 3, 1) := by decide +kernel
theorem dX10_faultOf_7 : decode cX10_faultOf 7 = .ok (.aload_n 0, 1) := by decide +kernel
theorem dX10_faultOf_8 : decode cX10_faultOf 8 = .ok (.getfield 175, 3) := by decide +kernel
theorem dX10_faultOf_11 : decode cX10_faultOf 11 = .ok (.if_icmp .ge 195, 3) := by decide +kernel
theorem dX10_faultOf_14 : decode cX10_faultOf 14 = .ok (.aload_n 0, 1) := by decide +kernel
theorem dX10_faultOf_15 : decode cX10_faultOf 15 = .ok (.getfield 34, 3) := by decide +kernel
theorem dX10_faultOf_18 : decode cX10_faultOf 18 = .ok (.iload_n 3, 1) := by decide +kernel
theorem dX10_faultOf_19 : decode cX10_faultOf 19 = .ok (.baload, 1) := by decide +kernel
theorem dX10_faultOf_20 : decode cX10_faultOf 20 = .ok (.istore 4, 2) := by decide +kernel
theorem dX10_faultOf_22 : decode cX10_faultOf 22 = .ok (.iload_n 2, 1) := by decide +kernel
theorem dX10_faultOf_23 : decode cX10_faultOf 23 = .ok (.ifCond .eq 42, 3) := by decide +kernel
theorem dX10_faultOf_26 : decode cX10_faultOf 26 = .ok (.iload 4, 2) := by decide +kernel
theorem dX10_faultOf_28 : decode cX10_faultOf 28 = .ok (.bipush 33, 2) := by decide +kernel
theorem dX10_faultOf_30 : decode cX10_faultOf 30 = .ok (.if_icmp .eq 10, 3) := by decide +kernel
theorem dX10_faultOf_33 : decode cX10_faultOf 33 = .ok (.iload 4, 2) := by decide +kernel
theorem dX10_faultOf_35 : decode cX10_faultOf 35 = .ok (.bipush 40, 2) := by decide +kernel
theorem dX10_faultOf_37 : decode cX10_faultOf 37 = .ok (.if_icmp .ne 28, 3) := by decide +kernel
theorem dX10_faultOf_40 : decode cX10_faultOf 40 = .ok (.iload_n 1, 1) := by decide +kernel
theorem dX10_faultOf_41 : decode cX10_faultOf 41 = .ok (.bipush 20, 2) := by decide +kernel
theorem dX10_faultOf_43 : decode cX10_faultOf 43 = .ok (.if_icmp .ne 5, 3) := by decide +kernel
theorem dX10_faultOf_46 : decode cX10_faultOf 46 = .ok (.iload_n 3, 1) := by decide +kernel
theorem dX10_faultOf_47 : decode cX10_faultOf 47 = .ok (.ireturn, 1) := by decide +kernel
theorem dX10_faultOf_48 : decode cX10_faultOf 48 = .ok (.aload_n 0, 1) := by decide +kernel
theorem dX10_faultOf_49 : decode cX10_faultOf 49 = .ok (.getfield 87, 3) := by decide +kernel
theorem dX10_faultOf_52 : decode cX10_faultOf 52 = .ok (.iload_n 1, 1) := by decide +kernel
theorem dX10_faultOf_53 : decode cX10_faultOf 53 = .ok (.iload 4, 2) := by decide +kernel
theorem dX10_faultOf_55 : decode cX10_faultOf 55 = .ok (.iastore, 1) := by decide +kernel
theorem dX10_faultOf_56 : decode cX10_faultOf 56 = .ok (.iinc 1 1, 3) := by decide +kernel
theorem dX10_faultOf_59 : decode cX10_faultOf 59 = .ok (.iinc 3 1, 3) := by decide +kernel
theorem dX10_faultOf_62 : decode cX10_faultOf 62 = .ok (.goto (-56), 3) := by decide +kernel
theorem dX10_faultOf_65 : decode cX10_faultOf 65 = .ok (.iload_n 2, 1) := by decide +kernel
theorem dX10_faultOf_66 : decode cX10_faultOf 66 = .ok (.ifCond .eq 66, 3) := by decide +kernel
theorem dX10_faultOf_69 : decode cX10_faultOf 69 = .ok (.iload 4, 2) := by decide +kernel
theorem dX10_faultOf_71 : decode cX10_faultOf 71 = .ok (.invokestatic 178, 3) := by decide +kernel
theorem dX10_faultOf_74 : decode cX10_faultOf 74 = .ok (.ifCond .ne 5, 3) := by decide +kernel
theorem dX10_faultOf_77 : decode cX10_faultOf 77 = .ok (.iload_n 3, 1) := by decide +kernel
theorem dX10_faultOf_78 : decode cX10_faultOf 78 = .ok (.ireturn, 1) := by decide +kernel
theorem dX10_faultOf_79 : decode cX10_faultOf 79 = .ok (.iinc 3 1, 3) := by decide +kernel
theorem dX10_faultOf_82 : decode cX10_faultOf 82 = .ok (.iconst 0, 1) := by decide +kernel
theorem dX10_faultOf_83 : decode cX10_faultOf 83 = .ok (.istore 5, 2) := by decide +kernel
theorem dX10_faultOf_85 : decode cX10_faultOf 85 = .ok (.iload_n 3, 1) := by decide +kernel
theorem dX10_faultOf_86 : decode cX10_faultOf 86 = .ok (.aload_n 0, 1) := by decide +kernel
theorem dX10_faultOf_87 : decode cX10_faultOf 87 = .ok (.getfield 175, 3) := by decide +kernel
theorem dX10_faultOf_90 : decode cX10_faultOf 90 = .ok (.if_icmp .ge 30, 3) := by decide +kernel
theorem dX10_faultOf_93 : decode cX10_faultOf 93 = .ok (.iload 5, 2) := by decide +kernel
theorem dX10_faultOf_95 : decode cX10_faultOf 95 = .ok (.iconst 3, 1) := by decide +kernel
theorem dX10_faultOf_96 : decode cX10_faultOf 96 = .ok (.if_icmp .ge 24, 3) := by decide +kernel
theorem dX10_faultOf_99 : decode cX10_faultOf 99 = .ok (.aload_n 0, 1) := by decide +kernel
theorem dX10_faultOf_100 : decode cX10_faultOf 100 = .ok (.getfield 34, 3) := by decide +kernel
theorem dX10_faultOf_103 : decode cX10_faultOf 103 = .ok (.iload_n 3, 1) := by decide +kernel
theorem dX10_faultOf_104 : decode cX10_faultOf 104 = .ok (.baload, 1) := by decide +kernel
theorem dX10_faultOf_105 : decode cX10_faultOf 105 = .ok (.invokestatic 181, 3) := by decide +kernel
theorem dX10_faultOf_108 : decode cX10_faultOf 108 = .ok (.ifCond .eq 12, 3) := by decide +kernel
theorem dX10_faultOf_111 : decode cX10_faultOf 111 = .ok (.iinc 5 1, 3) := by decide +kernel
theorem dX10_faultOf_114 : decode cX10_faultOf 114 = .ok (.iinc 3 1, 3) := by decide +kernel
theorem dX10_faultOf_117 : decode cX10_faultOf 117 = .ok (.goto (-32), 3) := by decide +kernel
theorem dX10_faultOf_120 : decode cX10_faultOf 120 = .ok (.iload 5, 2) := by decide +kernel
theorem dX10_faultOf_122 : decode cX10_faultOf 122 = .ok (.ifCond .ne 5, 3) := by decide +kernel
theorem dX10_faultOf_125 : decode cX10_faultOf 125 = .ok (.iload_n 3, 1) := by decide +kernel
theorem dX10_faultOf_126 : decode cX10_faultOf 126 = .ok (.ireturn, 1) := by decide +kernel
theorem dX10_faultOf_127 : decode cX10_faultOf 127 = .ok (.iconst 0, 1) := by decide +kernel
theorem dX10_faultOf_128 : decode cX10_faultOf 128 = .ok (.istore_n 2, 1) := by decide +kernel
theorem dX10_faultOf_129 : decode cX10_faultOf 129 = .ok (.goto 47, 3) := by decide +kernel
theorem dX10_faultOf_132 : decode cX10_faultOf 132 = .ok (.iload 4, 2) := by decide +kernel
theorem dX10_faultOf_134 : decode cX10_faultOf 134 = .ok (.bipush 124, 2) := by decide +kernel
theorem dX10_faultOf_136 : decode cX10_faultOf 136 = .ok (.if_icmp .eq 10, 3) := by decide +kernel
theorem dX10_faultOf_139 : decode cX10_faultOf 139 = .ok (.iload 4, 2) := by decide +kernel
theorem dX10_faultOf_141 : decode cX10_faultOf 141 = .ok (.bipush 38, 2) := by decide +kernel
theorem dX10_faultOf_143 : decode cX10_faultOf 143 = .ok (.if_icmp .ne 11, 3) := by decide +kernel
theorem dX10_faultOf_146 : decode cX10_faultOf 146 = .ok (.iconst 1, 1) := by decide +kernel
theorem dX10_faultOf_147 : decode cX10_faultOf 147 = .ok (.istore_n 2, 1) := by decide +kernel
theorem dX10_faultOf_148 : decode cX10_faultOf 148 = .ok (.iinc 3 1, 3) := by decide +kernel
theorem dX10_faultOf_151 : decode cX10_faultOf 151 = .ok (.goto 25, 3) := by decide +kernel
theorem dX10_faultOf_154 : decode cX10_faultOf 154 = .ok (.iload 4, 2) := by decide +kernel
theorem dX10_faultOf_156 : decode cX10_faultOf 156 = .ok (.bipush 41, 2) := by decide +kernel
theorem dX10_faultOf_158 : decode cX10_faultOf 158 = .ok (.if_icmp .ne 16, 3) := by decide +kernel
theorem dX10_faultOf_161 : decode cX10_faultOf 161 = .ok (.iload_n 1, 1) := by decide +kernel
theorem dX10_faultOf_162 : decode cX10_faultOf 162 = .ok (.ifCond .le 12, 3) := by decide +kernel
theorem dX10_faultOf_165 : decode cX10_faultOf 165 = .ok (.iinc 1 (-1), 3) := by decide +kernel
theorem dX10_faultOf_168 : decode cX10_faultOf 168 = .ok (.iinc 3 1, 3) := by decide +kernel
theorem dX10_faultOf_171 : decode cX10_faultOf 171 = .ok (.goto 5, 3) := by decide +kernel
theorem dX10_faultOf_174 : decode cX10_faultOf 174 = .ok (.iload_n 3, 1) := by decide +kernel
theorem dX10_faultOf_175 : decode cX10_faultOf 175 = .ok (.ireturn, 1) := by decide +kernel
theorem dX10_faultOf_176 : decode cX10_faultOf 176 = .ok (.iload_n 2, 1) := by decide +kernel
theorem dX10_faultOf_177 : decode cX10_faultOf 177 = .ok (.ifCond .ne 26, 3) := by decide +kernel
theorem dX10_faultOf_180 : decode cX10_faultOf 180 = .ok (.iload_n 1, 1) := by decide +kernel
theorem dX10_faultOf_181 : decode cX10_faultOf 181 = .ok (.ifCond .le 22, 3) := by decide +kernel
theorem dX10_faultOf_184 : decode cX10_faultOf 184 = .ok (.aload_n 0, 1) := by decide +kernel
theorem dX10_faultOf_185 : decode cX10_faultOf 185 = .ok (.getfield 87, 3) := by decide +kernel
theorem dX10_faultOf_188 : decode cX10_faultOf 188 = .ok (.iload_n 1, 1) := by decide +kernel
theorem dX10_faultOf_189 : decode cX10_faultOf 189 = .ok (.iconst 1, 1) := by decide +kernel
theorem dX10_faultOf_190 : decode cX10_faultOf 190 = .ok (.isub, 1) := by decide +kernel
theorem dX10_faultOf_191 : decode cX10_faultOf 191 = .ok (.iaload, 1) := by decide +kernel
theorem dX10_faultOf_192 : decode cX10_faultOf 192 = .ok (.bipush 33, 2) := by decide +kernel
theorem dX10_faultOf_194 : decode cX10_faultOf 194 = .ok (.if_icmp .ne 9, 3) := by decide +kernel
theorem dX10_faultOf_197 : decode cX10_faultOf 197 = .ok (.iinc 1 (-1), 3) := by decide +kernel
theorem dX10_faultOf_200 : decode cX10_faultOf 200 = .ok (.goto (-24), 3) := by decide +kernel
theorem dX10_faultOf_203 : decode cX10_faultOf 203 = .ok (.goto (-197), 3) := by decide +kernel
theorem dX10_faultOf_206 : decode cX10_faultOf 206 = .ok (.iload_n 2, 1) := by decide +kernel
theorem dX10_faultOf_207 : decode cX10_faultOf 207 = .ok (.ifCond .ne 7, 3) := by decide +kernel
theorem dX10_faultOf_210 : decode cX10_faultOf 210 = .ok (.iload_n 1, 1) := by decide +kernel
theorem dX10_faultOf_211 : decode cX10_faultOf 211 = .ok (.ifCond .le 10, 3) := by decide +kernel
theorem dX10_faultOf_214 : decode cX10_faultOf 214 = .ok (.aload_n 0, 1) := by decide +kernel
theorem dX10_faultOf_215 : decode cX10_faultOf 215 = .ok (.getfield 175, 3) := by decide +kernel
theorem dX10_faultOf_218 : decode cX10_faultOf 218 = .ok (.goto 4, 3) := by decide +kernel
theorem dX10_faultOf_221 : decode cX10_faultOf 221 = .ok (.iconst (-1), 1) := by decide +kernel
theorem dX10_faultOf_222 : decode cX10_faultOf 222 = .ok (.ireturn, 1) := by decide +kernel
theorem dX10_line_0 : decode cX10_line 0 = .ok (.iload_n 1, 1) := by decide +kernel
theorem dX10_line_1 : decode cX10_line 1 = .ok (.i2l, 1) := by decide +kernel
theorem dX10_line_2 : decode cX10_line 2 = .ok (.lconst 1, 1) := by decide +kernel
theorem dX10_line_3 : decode cX10_line 3 = .ok (.ldc2_w 184, 3) := by decide +kernel
theorem dX10_line_6 : decode cX10_line 6 = .ok (.invokestatic 95, 3) := by decide +kernel
theorem dX10_line_9 : decode cX10_line 9 = .ok (.ifCond .ne 5, 3) := by decide +kernel
theorem dX10_line_12 : decode cX10_line 12 = .ok (.iconst (-1), 1) := by decide +kernel
theorem dX10_line_13 : decode cX10_line 13 = .ok (.ireturn, 1) := by decide +kernel
theorem dX10_line_14 : decode cX10_line 14 = .ok (.aload_n 0, 1) := by decide +kernel
theorem dX10_line_15 : decode cX10_line 15 = .ok (.getfield 186, 3) := by decide +kernel
theorem dX10_line_18 : decode cX10_line 18 = .ok (.bipush 8, 2) := by decide +kernel
theorem dX10_line_20 : decode cX10_line 20 = .ok (.if_icmp .ne 6, 3) := by decide +kernel
theorem dX10_line_23 : decode cX10_line 23 = .ok (.bipush (-2), 2) := by decide +kernel
theorem dX10_line_25 : decode cX10_line 25 = .ok (.ireturn, 1) := by decide +kernel
theorem dX10_line_26 : decode cX10_line 26 = .ok (.aload_n 0, 1) := by decide +kernel
theorem dX10_line_27 : decode cX10_line 27 = .ok (.invokevirtual 189, 3) := by decide +kernel
theorem dX10_line_30 : decode cX10_line 30 = .ok (.istore_n 3, 1) := by decide +kernel
theorem dX10_line_31 : decode cX10_line 31 = .ok (.iload_n 3, 1) := by decide +kernel
theorem dX10_line_32 : decode cX10_line 32 = .ok (.ifCond .lt 8, 3) := by decide +kernel
theorem dX10_line_35 : decode cX10_line 35 = .ok (.bipush (-100), 2) := by decide +kernel
theorem dX10_line_37 : decode cX10_line 37 = .ok (.iload_n 3, 1) := by decide +kernel
theorem dX10_line_38 : decode cX10_line 38 = .ok (.isub, 1) := by decide +kernel
theorem dX10_line_39 : decode cX10_line 39 = .ok (.ireturn, 1) := by decide +kernel
theorem dX10_line_40 : decode cX10_line 40 = .ok (.iconst 0, 1) := by decide +kernel
theorem dX10_line_41 : decode cX10_line 41 = .ok (.istore 4, 2) := by decide +kernel
theorem dX10_line_43 : decode cX10_line 43 = .ok (.iload 4, 2) := by decide +kernel
theorem dX10_line_45 : decode cX10_line 45 = .ok (.aload_n 0, 1) := by decide +kernel
theorem dX10_line_46 : decode cX10_line 46 = .ok (.getfield 175, 3) := by decide +kernel
theorem dX10_line_49 : decode cX10_line 49 = .ok (.if_icmp .ge 31, 3) := by decide +kernel
theorem dX10_line_52 : decode cX10_line 52 = .ok (.aload_n 0, 1) := by decide +kernel
theorem dX10_line_53 : decode cX10_line 53 = .ok (.getfield 38, 3) := by decide +kernel
theorem dX10_line_56 : decode cX10_line 56 = .ok (.bipush 60, 2) := by decide +kernel
theorem dX10_line_58 : decode cX10_line 58 = .ok (.aload_n 0, 1) := by decide +kernel
theorem dX10_line_59 : decode cX10_line 59 = .ok (.getfield 186, 3) := by decide +kernel
theorem dX10_line_62 : decode cX10_line 62 = .ok (.imul, 1) := by decide +kernel
theorem dX10_line_63 : decode cX10_line 63 = .ok (.iload 4, 2) := by decide +kernel
theorem dX10_line_65 : decode cX10_line 65 = .ok (.iadd, 1) := by decide +kernel
theorem dX10_line_66 : decode cX10_line 66 = .ok (.aload_n 0, 1) := by decide +kernel
theorem dX10_line_67 : decode cX10_line 67 = .ok (.getfield 34, 3) := by decide +kernel
theorem dX10_line_70 : decode cX10_line 70 = .ok (.iload 4, 2) := by decide +kernel
theorem dX10_line_72 : decode cX10_line 72 = .ok (.baload, 1) := by decide +kernel
theorem dX10_line_73 : decode cX10_line 73 = .ok (.bastore, 1) := by decide +kernel
theorem dX10_line_74 : decode cX10_line 74 = .ok (.iinc 4 1, 3) := by decide +kernel
theorem dX10_line_77 : decode cX10_line 77 = .ok (.goto (-34), 3) := by decide +kernel
theorem dX10_line_80 : decode cX10_line 80 = .ok (.aload_n 0, 1) := by decide +kernel
theorem dX10_line_81 : decode cX10_line 81 = .ok (.getfield 41, 3) := by decide +kernel
theorem dX10_line_84 : decode cX10_line 84 = .ok (.aload_n 0, 1) := by decide +kernel
theorem dX10_line_85 : decode cX10_line 85 = .ok (.getfield 186, 3) := by decide +kernel
theorem dX10_line_88 : decode cX10_line 88 = .ok (.aload_n 0, 1) := by decide +kernel
theorem dX10_line_89 : decode cX10_line 89 = .ok (.getfield 175, 3) := by decide +kernel
theorem dX10_line_92 : decode cX10_line 92 = .ok (.iastore, 1) := by decide +kernel
theorem dX10_line_93 : decode cX10_line 93 = .ok (.aload_n 0, 1) := by decide +kernel
theorem dX10_line_94 : decode cX10_line 94 = .ok (.getfield 44, 3) := by decide +kernel
theorem dX10_line_97 : decode cX10_line 97 = .ok (.aload_n 0, 1) := by decide +kernel
theorem dX10_line_98 : decode cX10_line 98 = .ok (.getfield 186, 3) := by decide +kernel
theorem dX10_line_101 : decode cX10_line 101 = .ok (.iload_n 1, 1) := by decide +kernel
theorem dX10_line_102 : decode cX10_line 102 = .ok (.iastore, 1) := by decide +kernel
theorem dX10_line_103 : decode cX10_line 103 = .ok (.aload_n 0, 1) := by decide +kernel
theorem dX10_line_104 : decode cX10_line 104 = .ok (.getfield 47, 3) := by decide +kernel
theorem dX10_line_107 : decode cX10_line 107 = .ok (.aload_n 0, 1) := by decide +kernel
theorem dX10_line_108 : decode cX10_line 108 = .ok (.getfield 186, 3) := by decide +kernel
theorem dX10_line_111 : decode cX10_line 111 = .ok (.iload_n 2, 1) := by decide +kernel
theorem dX10_line_112 : decode cX10_line 112 = .ok (.bastore, 1) := by decide +kernel
theorem dX10_line_113 : decode cX10_line 113 = .ok (.aload_n 0, 1) := by decide +kernel
theorem dX10_line_114 : decode cX10_line 114 = .ok (.getfield 51, 3) := by decide +kernel
theorem dX10_line_117 : decode cX10_line 117 = .ok (.aload_n 0, 1) := by decide +kernel
theorem dX10_line_118 : decode cX10_line 118 = .ok (.getfield 186, 3) := by decide +kernel
theorem dX10_line_121 : decode cX10_line 121 = .ok (.iconst 0, 1) := by decide +kernel
theorem dX10_line_122 : decode cX10_line 122 = .ok (.iastore, 1) := by decide +kernel
theorem dX10_line_123 : decode cX10_line 123 = .ok (.aload_n 0, 1) := by decide +kernel
theorem dX10_line_124 : decode cX10_line 124 = .ok (.getfield 54, 3) := by decide +kernel
theorem dX10_line_127 : decode cX10_line 127 = .ok (.aload_n 0, 1) := by decide +kernel
theorem dX10_line_128 : decode cX10_line 128 = .ok (.getfield 186, 3) := by decide +kernel
theorem dX10_line_131 : decode cX10_line 131 = .ok (.iconst 0, 1) := by decide +kernel
theorem dX10_line_132 : decode cX10_line 132 = .ok (.iastore, 1) := by decide +kernel
theorem dX10_line_133 : decode cX10_line 133 = .ok (.aload_n 0, 1) := by decide +kernel
theorem dX10_line_134 : decode cX10_line 134 = .ok (.getfield 57, 3) := by decide +kernel
theorem dX10_line_137 : decode cX10_line 137 = .ok (.aload_n 0, 1) := by decide +kernel
theorem dX10_line_138 : decode cX10_line 138 = .ok (.getfield 186, 3) := by decide +kernel
theorem dX10_line_141 : decode cX10_line 141 = .ok (.iconst 0, 1) := by decide +kernel
theorem dX10_line_142 : decode cX10_line 142 = .ok (.iastore, 1) := by decide +kernel
theorem dX10_line_143 : decode cX10_line 143 = .ok (.aload_n 0, 1) := by decide +kernel
theorem dX10_line_144 : decode cX10_line 144 = .ok (.getfield 60, 3) := by decide +kernel
theorem dX10_line_147 : decode cX10_line 147 = .ok (.aload_n 0, 1) := by decide +kernel
theorem dX10_line_148 : decode cX10_line 148 = .ok (.getfield 186, 3) := by decide +kernel
theorem dX10_line_151 : decode cX10_line 151 = .ok (.iconst 0, 1) := by decide +kernel
theorem dX10_line_152 : decode cX10_line 152 = .ok (.iastore, 1) := by decide +kernel
theorem dX10_line_153 : decode cX10_line 153 = .ok (.aload_n 0, 1) := by decide +kernel
theorem dX10_line_154 : decode cX10_line 154 = .ok (.iconst 0, 1) := by decide +kernel
theorem dX10_line_155 : decode cX10_line 155 = .ok (.putfield 175, 3) := by decide +kernel
theorem dX10_line_158 : decode cX10_line 158 = .ok (.aload_n 0, 1) := by decide +kernel
theorem dX10_line_159 : decode cX10_line 159 = .ok (.dup, 1) := by decide +kernel
theorem dX10_line_160 : decode cX10_line 160 = .ok (.getfield 186, 3) := by decide +kernel
theorem dX10_line_163 : decode cX10_line 163 = .ok (.iconst 1, 1) := by decide +kernel
theorem dX10_line_164 : decode cX10_line 164 = .ok (.iadd, 1) := by decide +kernel
theorem dX10_line_165 : decode cX10_line 165 = .ok (.putfield 186, 3) := by decide +kernel
theorem dX10_line_168 : decode cX10_line 168 = .ok (.aload_n 0, 1) := by decide +kernel
theorem dX10_line_169 : decode cX10_line 169 = .ok (.getfield 186, 3) := by decide +kernel
theorem dX10_line_172 : decode cX10_line 172 = .ok (.iconst 1, 1) := by decide +kernel
theorem dX10_line_173 : decode cX10_line 173 = .ok (.isub, 1) := by decide +kernel
theorem dX10_line_174 : decode cX10_line 174 = .ok (.ireturn, 1) := by decide +kernel
theorem dX10_isLine_0 : decode cX10_isLine 0 = .ok (.iload_n 1, 1) := by decide +kernel
theorem dX10_isLine_1 : decode cX10_isLine 1 = .ok (.i2l, 1) := by decide +kernel
theorem dX10_isLine_2 : decode cX10_isLine 2 = .ok (.lconst 0, 1) := by decide +kernel
theorem dX10_isLine_3 : decode cX10_isLine 3 = .ok (.aload_n 0, 1) := by decide +kernel
theorem dX10_isLine_4 : decode cX10_isLine 4 = .ok (.getfield 186, 3) := by decide +kernel
theorem dX10_isLine_7 : decode cX10_isLine 7 = .ok (.iconst 1, 1) := by decide +kernel
theorem dX10_isLine_8 : decode cX10_isLine 8 = .ok (.isub, 1) := by decide +kernel
theorem dX10_isLine_9 : decode cX10_isLine 9 = .ok (.i2l, 1) := by decide +kernel
theorem dX10_isLine_10 : decode cX10_isLine 10 = .ok (.invokestatic 95, 3) := by decide +kernel
theorem dX10_isLine_13 : decode cX10_isLine 13 = .ok (.ireturn, 1) := by decide +kernel
theorem dX10_thin_0 : decode cX10_thin 0 = .ok (.aload_n 0, 1) := by decide +kernel
theorem dX10_thin_1 : decode cX10_thin 1 = .ok (.iload_n 1, 1) := by decide +kernel
theorem dX10_thin_2 : decode cX10_thin 2 = .ok (.invokevirtual 192, 3) := by decide +kernel
theorem dX10_thin_5 : decode cX10_thin 5 = .ok (.ifCond .eq 15, 3) := by decide +kernel
theorem dX10_thin_8 : decode cX10_thin 8 = .ok (.iload_n 2, 1) := by decide +kernel
theorem dX10_thin_9 : decode cX10_thin 9 = .ok (.i2l, 1) := by decide +kernel
theorem dX10_thin_10 : decode cX10_thin 10 = .ok (.lconst 1, 1) := by decide +kernel
theorem dX10_thin_11 : decode cX10_thin 11 = .ok (.ldc2_w 184, 3) := by decide +kernel
theorem dX10_thin_14 : decode cX10_thin 14 = .ok (.invokestatic 95, 3) := by decide +kernel
theorem dX10_thin_17 : decode cX10_thin 17 = .ok (.ifCond .ne 5, 3) := by decide +kernel
theorem dX10_thin_20 : decode cX10_thin 20 = .ok (.iconst (-1), 1) := by decide +kernel
theorem dX10_thin_21 : decode cX10_thin 21 = .ok (.ireturn, 1) := by decide +kernel
theorem dX10_thin_22 : decode cX10_thin 22 = .ok (.aload_n 0, 1) := by decide +kernel
theorem dX10_thin_23 : decode cX10_thin 23 = .ok (.getfield 44, 3) := by decide +kernel
theorem dX10_thin_26 : decode cX10_thin 26 = .ok (.iload_n 1, 1) := by decide +kernel
theorem dX10_thin_27 : decode cX10_thin 27 = .ok (.iaload, 1) := by decide +kernel
theorem dX10_thin_28 : decode cX10_thin 28 = .ok (.istore_n 3, 1) := by decide +kernel
theorem dX10_thin_29 : decode cX10_thin 29 = .ok (.aload_n 0, 1) := by decide +kernel
theorem dX10_thin_30 : decode cX10_thin 30 = .ok (.getfield 44, 3) := by decide +kernel
theorem dX10_thin_33 : decode cX10_thin 33 = .ok (.iload_n 1, 1) := by decide +kernel
theorem dX10_thin_34 : decode cX10_thin 34 = .ok (.iload_n 2, 1) := by decide +kernel
theorem dX10_thin_35 : decode cX10_thin 35 = .ok (.iastore, 1) := by decide +kernel
theorem dX10_thin_36 : decode cX10_thin 36 = .ok (.iload_n 3, 1) := by decide +kernel
theorem dX10_thin_37 : decode cX10_thin 37 = .ok (.ireturn, 1) := by decide +kernel
theorem dX10_letter_0 : decode cX10_letter 0 = .ok (.aload_n 0, 1) := by decide +kernel
theorem dX10_letter_1 : decode cX10_letter 1 = .ok (.getfield 195, 3) := by decide +kernel
theorem dX10_letter_4 : decode cX10_letter 4 = .ok (.aload_n 0, 1) := by decide +kernel
theorem dX10_letter_5 : decode cX10_letter 5 = .ok (.getfield 41, 3) := by decide +kernel
theorem dX10_letter_8 : decode cX10_letter 8 = .ok (.aload_n 0, 1) := by decide +kernel
theorem dX10_letter_9 : decode cX10_letter 9 = .ok (.getfield 198, 3) := by decide +kernel
theorem dX10_letter_12 : decode cX10_letter 12 = .ok (.iaload, 1) := by decide +kernel
theorem dX10_letter_13 : decode cX10_letter 13 = .ok (.if_icmp .ge 23, 3) := by decide +kernel
theorem dX10_letter_16 : decode cX10_letter 16 = .ok (.aload_n 0, 1) := by decide +kernel
theorem dX10_letter_17 : decode cX10_letter 17 = .ok (.getfield 38, 3) := by decide +kernel
theorem dX10_letter_20 : decode cX10_letter 20 = .ok (.bipush 60, 2) := by decide +kernel
theorem dX10_letter_22 : decode cX10_letter 22 = .ok (.aload_n 0, 1) := by decide +kernel
theorem dX10_letter_23 : decode cX10_letter 23 = .ok (.getfield 198, 3) := by decide +kernel
theorem dX10_letter_26 : decode cX10_letter 26 = .ok (.imul, 1) := by decide +kernel
theorem dX10_letter_27 : decode cX10_letter 27 = .ok (.aload_n 0, 1) := by decide +kernel
theorem dX10_letter_28 : decode cX10_letter 28 = .ok (.getfield 195, 3) := by decide +kernel
theorem dX10_letter_31 : decode cX10_letter 31 = .ok (.iadd, 1) := by decide +kernel
theorem dX10_letter_32 : decode cX10_letter 32 = .ok (.baload, 1) := by decide +kernel
theorem dX10_letter_33 : decode cX10_letter 33 = .ok (.goto 4, 3) := by decide +kernel
theorem dX10_letter_36 : decode cX10_letter 36 = .ok (.iconst 0, 1) := by decide +kernel
theorem dX10_letter_37 : decode cX10_letter 37 = .ok (.ireturn, 1) := by decide +kernel
theorem dX10_any_0 : decode cX10_any 0 = .ok (.aload_n 0, 1) := by decide +kernel
theorem dX10_any_1 : decode cX10_any 1 = .ok (.invokevirtual 201, 3) := by decide +kernel
theorem dX10_any_4 : decode cX10_any 4 = .ok (.istore_n 1, 1) := by decide +kernel
theorem dX10_any_5 : decode cX10_any 5 = .ok (.aload_n 0, 1) := by decide +kernel
theorem dX10_any_6 : decode cX10_any 6 = .ok (.invokevirtual 205, 3) := by decide +kernel
theorem dX10_any_9 : decode cX10_any 9 = .ok (.bipush 124, 2) := by decide +kernel
theorem dX10_any_11 : decode cX10_any 11 = .ok (.if_icmp .ne 35, 3) := by decide +kernel
theorem dX10_any_14 : decode cX10_any 14 = .ok (.aload_n 0, 1) := by decide +kernel
theorem dX10_any_15 : decode cX10_any 15 = .ok (.dup, 1) := by decide +kernel
theorem dX10_any_16 : decode cX10_any 16 = .ok (.getfield 195, 3) := by decide +kernel
theorem dX10_any_19 : decode cX10_any 19 = .ok (.iconst 1, 1) := by decide +kernel
theorem dX10_any_20 : decode cX10_any 20 = .ok (.iadd, 1) := by decide +kernel
theorem dX10_any_21 : decode cX10_any 21 = .ok (.putfield 195, 3) := by decide +kernel
theorem dX10_any_24 : decode cX10_any 24 = .ok (.aload_n 0, 1) := by decide +kernel
theorem dX10_any_25 : decode cX10_any 25 = .ok (.invokevirtual 201, 3) := by decide +kernel
theorem dX10_any_28 : decode cX10_any 28 = .ok (.istore_n 2, 1) := by decide +kernel
theorem dX10_any_29 : decode cX10_any 29 = .ok (.iload_n 1, 1) := by decide +kernel
theorem dX10_any_30 : decode cX10_any 30 = .ok (.ifCond .ne 7, 3) := by decide +kernel
theorem dX10_any_33 : decode cX10_any 33 = .ok (.iload_n 2, 1) := by decide +kernel
theorem dX10_any_34 : decode cX10_any 34 = .ok (.ifCond .eq 7, 3) := by decide +kernel
theorem dX10_any_37 : decode cX10_any 37 = .ok (.iconst 1, 1) := by decide +kernel
theorem dX10_any_38 : decode cX10_any 38 = .ok (.goto 4, 3) := by decide +kernel
theorem dX10_any_41 : decode cX10_any 41 = .ok (.iconst 0, 1) := by decide +kernel
theorem dX10_any_42 : decode cX10_any 42 = .ok (.istore_n 1, 1) := by decide +kernel
theorem dX10_any_43 : decode cX10_any 43 = .ok (.goto (-38), 3) := by decide +kernel
theorem dX10_any_46 : decode cX10_any 46 = .ok (.iload_n 1, 1) := by decide +kernel
theorem dX10_any_47 : decode cX10_any 47 = .ok (.ireturn, 1) := by decide +kernel
theorem dX10_both_0 : decode cX10_both 0 = .ok (.aload_n 0, 1) := by decide +kernel
theorem dX10_both_1 : decode cX10_both 1 = .ok (.invokevirtual 208, 3) := by decide +kernel
theorem dX10_both_4 : decode cX10_both 4 = .ok (.istore_n 1, 1) := by decide +kernel
theorem dX10_both_5 : decode cX10_both 5 = .ok (.aload_n 0, 1) := by decide +kernel
theorem dX10_both_6 : decode cX10_both 6 = .ok (.invokevirtual 205, 3) := by decide +kernel
theorem dX10_both_9 : decode cX10_both 9 = .ok (.bipush 38, 2) := by decide +kernel
theorem dX10_both_11 : decode cX10_both 11 = .ok (.if_icmp .ne 35, 3) := by decide +kernel
theorem dX10_both_14 : decode cX10_both 14 = .ok (.aload_n 0, 1) := by decide +kernel
theorem dX10_both_15 : decode cX10_both 15 = .ok (.dup, 1) := by decide +kernel
theorem dX10_both_16 : decode cX10_both 16 = .ok (.getfield 195, 3) := by decide +kernel
theorem dX10_both_19 : decode cX10_both 19 = .ok (.iconst 1, 1) := by decide +kernel
theorem dX10_both_20 : decode cX10_both 20 = .ok (.iadd, 1) := by decide +kernel
theorem dX10_both_21 : decode cX10_both 21 = .ok (.putfield 195, 3) := by decide +kernel
theorem dX10_both_24 : decode cX10_both 24 = .ok (.aload_n 0, 1) := by decide +kernel
theorem dX10_both_25 : decode cX10_both 25 = .ok (.invokevirtual 208, 3) := by decide +kernel
theorem dX10_both_28 : decode cX10_both 28 = .ok (.istore_n 2, 1) := by decide +kernel
theorem dX10_both_29 : decode cX10_both 29 = .ok (.iload_n 1, 1) := by decide +kernel
theorem dX10_both_30 : decode cX10_both 30 = .ok (.ifCond .eq 11, 3) := by decide +kernel
theorem dX10_both_33 : decode cX10_both 33 = .ok (.iload_n 2, 1) := by decide +kernel
theorem dX10_both_34 : decode cX10_both 34 = .ok (.ifCond .eq 7, 3) := by decide +kernel
theorem dX10_both_37 : decode cX10_both 37 = .ok (.iconst 1, 1) := by decide +kernel
theorem dX10_both_38 : decode cX10_both 38 = .ok (.goto 4, 3) := by decide +kernel
theorem dX10_both_41 : decode cX10_both 41 = .ok (.iconst 0, 1) := by decide +kernel
theorem dX10_both_42 : decode cX10_both 42 = .ok (.istore_n 1, 1) := by decide +kernel
theorem dX10_both_43 : decode cX10_both 43 = .ok (.goto (-38), 3) := by decide +kernel
theorem dX10_both_46 : decode cX10_both 46 = .ok (.iload_n 1, 1) := by decide +kernel
theorem dX10_both_47 : decode cX10_both 47 = .ok (.ireturn, 1) := by decide +kernel
theorem dX10_one_0 : decode cX10_one 0 = .ok (.aload_n 0, 1) := by decide +kernel
theorem dX10_one_1 : decode cX10_one 1 = .ok (.invokevirtual 205, 3) := by decide +kernel
theorem dX10_one_4 : decode cX10_one 4 = .ok (.istore_n 1, 1) := by decide +kernel
theorem dX10_one_5 : decode cX10_one 5 = .ok (.aload_n 0, 1) := by decide +kernel
theorem dX10_one_6 : decode cX10_one 6 = .ok (.dup, 1) := by decide +kernel
theorem dX10_one_7 : decode cX10_one 7 = .ok (.getfield 195, 3) := by decide +kernel
theorem dX10_one_10 : decode cX10_one 10 = .ok (.iconst 1, 1) := by decide +kernel
theorem dX10_one_11 : decode cX10_one 11 = .ok (.iadd, 1) := by decide +kernel
theorem dX10_one_12 : decode cX10_one 12 = .ok (.putfield 195, 3) := by decide +kernel
theorem dX10_one_15 : decode cX10_one 15 = .ok (.iload_n 1, 1) := by decide +kernel
theorem dX10_one_16 : decode cX10_one 16 = .ok (.bipush 33, 2) := by decide +kernel
theorem dX10_one_18 : decode cX10_one 18 = .ok (.if_icmp .ne 16, 3) := by decide +kernel
theorem dX10_one_21 : decode cX10_one 21 = .ok (.aload_n 0, 1) := by decide +kernel
theorem dX10_one_22 : decode cX10_one 22 = .ok (.invokevirtual 208, 3) := by decide +kernel
theorem dX10_one_25 : decode cX10_one 25 = .ok (.ifCond .ne 7, 3) := by decide +kernel
theorem dX10_one_28 : decode cX10_one 28 = .ok (.iconst 1, 1) := by decide +kernel
theorem dX10_one_29 : decode cX10_one 29 = .ok (.goto 4, 3) := by decide +kernel
theorem dX10_one_32 : decode cX10_one 32 = .ok (.iconst 0, 1) := by decide +kernel
theorem dX10_one_33 : decode cX10_one 33 = .ok (.ireturn, 1) := by decide +kernel
theorem dX10_one_34 : decode cX10_one 34 = .ok (.iload_n 1, 1) := by decide +kernel
theorem dX10_one_35 : decode cX10_one 35 = .ok (.bipush 40, 2) := by decide +kernel
theorem dX10_one_37 : decode cX10_one 37 = .ok (.if_icmp .ne 20, 3) := by decide +kernel
theorem dX10_one_40 : decode cX10_one 40 = .ok (.aload_n 0, 1) := by decide +kernel
theorem dX10_one_41 : decode cX10_one 41 = .ok (.invokevirtual 211, 3) := by decide +kernel
theorem dX10_one_44 : decode cX10_one 44 = .ok (.istore_n 2, 1) := by decide +kernel
theorem dX10_one_45 : decode cX10_one 45 = .ok (.aload_n 0, 1) := by decide +kernel
theorem dX10_one_46 : decode cX10_one 46 = .ok (.dup, 1) := by decide +kernel
theorem dX10_one_47 : decode cX10_one 47 = .ok (.getfield 195, 3) := by decide +kernel
theorem dX10_one_50 : decode cX10_one 50 = .ok (.iconst 1, 1) := by decide +kernel
theorem dX10_one_51 : decode cX10_one 51 = .ok (.iadd, 1) := by decide +kernel
theorem dX10_one_52 : decode cX10_one 52 = .ok (.putfield 195, 3) := by decide +kernel
theorem dX10_one_55 : decode cX10_one 55 = .ok (.iload_n 2, 1) := by decide +kernel
theorem dX10_one_56 : decode cX10_one 56 = .ok (.ireturn, 1) := by decide +kernel
theorem dX10_one_57 : decode cX10_one 57 = .ok (.iconst 0, 1) := by decide +kernel
theorem dX10_one_58 : decode cX10_one 58 = .ok (.istore_n 2, 1) := by decide +kernel
theorem dX10_one_59 : decode cX10_one 59 = .ok (.aload_n 0, 1) := by decide +kernel
theorem dX10_one_60 : decode cX10_one 60 = .ok (.invokevirtual 205, 3) := by decide +kernel
theorem dX10_one_63 : decode cX10_one 63 = .ok (.invokestatic 181, 3) := by decide +kernel
theorem dX10_one_66 : decode cX10_one 66 = .ok (.ifCond .eq 29, 3) := by decide +kernel
theorem dX10_one_69 : decode cX10_one 69 = .ok (.bipush 10, 2) := by decide +kernel
theorem dX10_one_71 : decode cX10_one 71 = .ok (.iload_n 2, 1) := by decide +kernel
theorem dX10_one_72 : decode cX10_one 72 = .ok (.imul, 1) := by decide +kernel
theorem dX10_one_73 : decode cX10_one 73 = .ok (.aload_n 0, 1) := by decide +kernel
theorem dX10_one_74 : decode cX10_one 74 = .ok (.invokevirtual 205, 3) := by decide +kernel
theorem dX10_one_77 : decode cX10_one 77 = .ok (.iadd, 1) := by decide +kernel
theorem dX10_one_78 : decode cX10_one 78 = .ok (.bipush 48, 2) := by decide +kernel
theorem dX10_one_80 : decode cX10_one 80 = .ok (.isub, 1) := by decide +kernel
theorem dX10_one_81 : decode cX10_one 81 = .ok (.istore_n 2, 1) := by decide +kernel
theorem dX10_one_82 : decode cX10_one 82 = .ok (.aload_n 0, 1) := by decide +kernel
theorem dX10_one_83 : decode cX10_one 83 = .ok (.dup, 1) := by decide +kernel
theorem dX10_one_84 : decode cX10_one 84 = .ok (.getfield 195, 3) := by decide +kernel
theorem dX10_one_87 : decode cX10_one 87 = .ok (.iconst 1, 1) := by decide +kernel
theorem dX10_one_88 : decode cX10_one 88 = .ok (.iadd, 1) := by decide +kernel
theorem dX10_one_89 : decode cX10_one 89 = .ok (.putfield 195, 3) := by decide +kernel
theorem dX10_one_92 : decode cX10_one 92 = .ok (.goto (-33), 3) := by decide +kernel
theorem dX10_one_95 : decode cX10_one 95 = .ok (.aload_n 0, 1) := by decide +kernel
theorem dX10_one_96 : decode cX10_one 96 = .ok (.iload_n 1, 1) := by decide +kernel
theorem dX10_one_97 : decode cX10_one 97 = .ok (.iload_n 2, 1) := by decide +kernel
theorem dX10_one_98 : decode cX10_one 98 = .ok (.invokevirtual 214, 3) := by decide +kernel
theorem dX10_one_101 : decode cX10_one 101 = .ok (.ireturn, 1) := by decide +kernel
theorem dX10_is_0 : decode cX10_is 0 = .ok (.iload_n 1, 1) := by decide +kernel
theorem dX10_is_1 : decode cX10_is 1 = .ok (.bipush 114, 2) := by decide +kernel
theorem dX10_is_3 : decode cX10_is 3 = .ok (.if_icmp .ne 25, 3) := by decide +kernel
theorem dX10_is_6 : decode cX10_is 6 = .ok (.aload_n 0, 1) := by decide +kernel
theorem dX10_is_7 : decode cX10_is 7 = .ok (.iload_n 2, 1) := by decide +kernel
theorem dX10_is_8 : decode cX10_is 8 = .ok (.invokevirtual 128, 3) := by decide +kernel
theorem dX10_is_11 : decode cX10_is 11 = .ok (.ifCond .eq 15, 3) := by decide +kernel
theorem dX10_is_14 : decode cX10_is 14 = .ok (.aload_n 0, 1) := by decide +kernel
theorem dX10_is_15 : decode cX10_is 15 = .ok (.iload_n 2, 1) := by decide +kernel
theorem dX10_is_16 : decode cX10_is 16 = .ok (.invokevirtual 139, 3) := by decide +kernel
theorem dX10_is_19 : decode cX10_is 19 = .ok (.ifCond .eq 7, 3) := by decide +kernel
theorem dX10_is_22 : decode cX10_is 22 = .ok (.iconst 1, 1) := by decide +kernel
theorem dX10_is_23 : decode cX10_is 23 = .ok (.goto 4, 3) := by decide +kernel
theorem dX10_is_26 : decode cX10_is 26 = .ok (.iconst 0, 1) := by decide +kernel
theorem dX10_is_27 : decode cX10_is 27 = .ok (.ireturn, 1) := by decide +kernel
theorem dX10_is_28 : decode cX10_is 28 = .ok (.iconst 0, 1) := by decide +kernel
theorem dX10_is_29 : decode cX10_is 29 = .ok (.istore_n 3, 1) := by decide +kernel
theorem dX10_is_30 : decode cX10_is 30 = .ok (.iload_n 1, 1) := by decide +kernel
theorem dX10_is_31 : decode cX10_is 31 = .ok (.bipush 116, 2) := by decide +kernel
theorem dX10_is_33 : decode cX10_is 33 = .ok (.if_icmp .ne 11, 3) := by decide +kernel
theorem dX10_is_36 : decode cX10_is 36 = .ok (.aload_n 0, 1) := by decide +kernel
theorem dX10_is_37 : decode cX10_is 37 = .ok (.getfield 162, 3) := by decide +kernel
theorem dX10_is_40 : decode cX10_is 40 = .ok (.invokestatic 101, 3) := by decide +kernel
theorem dX10_is_43 : decode cX10_is 43 = .ok (.istore_n 3, 1) := by decide +kernel
theorem dX10_is_44 : decode cX10_is 44 = .ok (.iload_n 1, 1) := by decide +kernel
theorem dX10_is_45 : decode cX10_is 45 = .ok (.bipush 119, 2) := by decide +kernel
theorem dX10_is_47 : decode cX10_is 47 = .ok (.if_icmp .ne 8, 3) := by decide +kernel
theorem dX10_is_50 : decode cX10_is 50 = .ok (.aload_n 0, 1) := by decide +kernel
theorem dX10_is_51 : decode cX10_is 51 = .ok (.getfield 165, 3) := by decide +kernel
theorem dX10_is_54 : decode cX10_is 54 = .ok (.istore_n 3, 1) := by decide +kernel
theorem dX10_is_55 : decode cX10_is 55 = .ok (.iconst 0, 1) := by decide +kernel
theorem dX10_is_56 : decode cX10_is 56 = .ok (.istore 4, 2) := by decide +kernel
theorem dX10_is_58 : decode cX10_is 58 = .ok (.iload 4, 2) := by decide +kernel
theorem dX10_is_60 : decode cX10_is 60 = .ok (.iconst 5, 1) := by decide +kernel
theorem dX10_is_61 : decode cX10_is 61 = .ok (.if_icmp .ge 50, 3) := by decide +kernel
theorem dX10_is_64 : decode cX10_is 64 = .ok (.iload_n 1, 1) := by decide +kernel
theorem dX10_is_65 : decode cX10_is 65 = .ok (.bipush 104, 2) := by decide +kernel
theorem dX10_is_67 : decode cX10_is 67 = .ok (.if_icmp .ne 15, 3) := by decide +kernel
theorem dX10_is_70 : decode cX10_is 70 = .ok (.iload_n 3, 1) := by decide +kernel
theorem dX10_is_71 : decode cX10_is 71 = .ok (.aload_n 0, 1) := by decide +kernel
theorem dX10_is_72 : decode cX10_is 72 = .ok (.iload 4, 2) := by decide +kernel
theorem dX10_is_74 : decode cX10_is 74 = .ok (.invokevirtual 116, 3) := by decide +kernel
theorem dX10_is_77 : decode cX10_is 77 = .ok (.invokestatic 101, 3) := by decide +kernel
theorem dX10_is_80 : decode cX10_is 80 = .ok (.iadd, 1) := by decide +kernel
theorem dX10_is_81 : decode cX10_is 81 = .ok (.istore_n 3, 1) := by decide +kernel
theorem dX10_is_82 : decode cX10_is 82 = .ok (.iload_n 1, 1) := by decide +kernel
theorem dX10_is_83 : decode cX10_is 83 = .ok (.bipush 108, 2) := by decide +kernel
theorem dX10_is_85 : decode cX10_is 85 = .ok (.if_icmp .ne 20, 3) := by decide +kernel
theorem dX10_is_88 : decode cX10_is 88 = .ok (.iload_n 3, 1) := by decide +kernel
theorem dX10_is_89 : decode cX10_is 89 = .ok (.aload_n 0, 1) := by decide +kernel
theorem dX10_is_90 : decode cX10_is 90 = .ok (.iload 4, 2) := by decide +kernel
theorem dX10_is_92 : decode cX10_is 92 = .ok (.invokevirtual 116, 3) := by decide +kernel
theorem dX10_is_95 : decode cX10_is 95 = .ok (.ifCond .eq 7, 3) := by decide +kernel
theorem dX10_is_98 : decode cX10_is 98 = .ok (.iconst 1, 1) := by decide +kernel
theorem dX10_is_99 : decode cX10_is 99 = .ok (.goto 4, 3) := by decide +kernel
theorem dX10_is_102 : decode cX10_is 102 = .ok (.iconst 0, 1) := by decide +kernel
theorem dX10_is_103 : decode cX10_is 103 = .ok (.iadd, 1) := by decide +kernel
theorem dX10_is_104 : decode cX10_is 104 = .ok (.istore_n 3, 1) := by decide +kernel
theorem dX10_is_105 : decode cX10_is 105 = .ok (.iinc 4 1, 3) := by decide +kernel
theorem dX10_is_108 : decode cX10_is 108 = .ok (.goto (-50), 3) := by decide +kernel
theorem dX10_is_111 : decode cX10_is 111 = .ok (.iload_n 3, 1) := by decide +kernel
theorem dX10_is_112 : decode cX10_is 112 = .ok (.iload_n 2, 1) := by decide +kernel
theorem dX10_is_113 : decode cX10_is 113 = .ok (.if_icmp .lt 7, 3) := by decide +kernel
theorem dX10_is_116 : decode cX10_is 116 = .ok (.iconst 1, 1) := by decide +kernel
theorem dX10_is_117 : decode cX10_is 117 = .ok (.goto 4, 3) := by decide +kernel
theorem dX10_is_120 : decode cX10_is 120 = .ok (.iconst 0, 1) := by decide +kernel
theorem dX10_is_121 : decode cX10_is 121 = .ok (.ireturn, 1) := by decide +kernel
theorem dX10_holding_0 : decode cX10_holding 0 = .ok (.aload_n 0, 1) := by decide +kernel
theorem dX10_holding_1 : decode cX10_holding 1 = .ok (.invokevirtual 172, 3) := by decide +kernel
theorem dX10_holding_4 : decode cX10_holding 4 = .ok (.iconst 0, 1) := by decide +kernel
theorem dX10_holding_5 : decode cX10_holding 5 = .ok (.istore_n 1, 1) := by decide +kernel
theorem dX10_holding_6 : decode cX10_holding 6 = .ok (.aload_n 0, 1) := by decide +kernel
theorem dX10_holding_7 : decode cX10_holding 7 = .ok (.iconst 0, 1) := by decide +kernel
theorem dX10_holding_8 : decode cX10_holding 8 = .ok (.putfield 198, 3) := by decide +kernel
theorem dX10_holding_11 : decode cX10_holding 11 = .ok (.aload_n 0, 1) := by decide +kernel
theorem dX10_holding_12 : decode cX10_holding 12 = .ok (.getfield 198, 3) := by decide +kernel
theorem dX10_holding_15 : decode cX10_holding 15 = .ok (.aload_n 0, 1) := by decide +kernel
theorem dX10_holding_16 : decode cX10_holding 16 = .ok (.getfield 186, 3) := by decide +kernel
theorem dX10_holding_19 : decode cX10_holding 19 = .ok (.if_icmp .ge 37, 3) := by decide +kernel
theorem dX10_holding_22 : decode cX10_holding 22 = .ok (.aload_n 0, 1) := by decide +kernel
theorem dX10_holding_23 : decode cX10_holding 23 = .ok (.iconst 0, 1) := by decide +kernel
theorem dX10_holding_24 : decode cX10_holding 24 = .ok (.putfield 195, 3) := by decide +kernel
theorem dX10_holding_27 : decode cX10_holding 27 = .ok (.aload_n 0, 1) := by decide +kernel
theorem dX10_holding_28 : decode cX10_holding 28 = .ok (.invokevirtual 211, 3) := by decide +kernel
theorem dX10_holding_31 : decode cX10_holding 31 = .ok (.ifCond .eq 12, 3) := by decide +kernel
theorem dX10_holding_34 : decode cX10_holding 34 = .ok (.iload_n 1, 1) := by decide +kernel
theorem dX10_holding_35 : decode cX10_holding 35 = .ok (.iconst 1, 1) := by decide +kernel
theorem dX10_holding_36 : decode cX10_holding 36 = .ok (.aload_n 0, 1) := by decide +kernel
theorem dX10_holding_37 : decode cX10_holding 37 = .ok (.getfield 198, 3) := by decide +kernel
theorem dX10_holding_40 : decode cX10_holding 40 = .ok (.ishl, 1) := by decide +kernel
theorem dX10_holding_41 : decode cX10_holding 41 = .ok (.ior, 1) := by decide +kernel
theorem dX10_holding_42 : decode cX10_holding 42 = .ok (.istore_n 1, 1) := by decide +kernel
theorem dX10_holding_43 : decode cX10_holding 43 = .ok (.aload_n 0, 1) := by decide +kernel
theorem dX10_holding_44 : decode cX10_holding 44 = .ok (.dup, 1) := by decide +kernel
theorem dX10_holding_45 : decode cX10_holding 45 = .ok (.getfield 198, 3) := by decide +kernel
theorem dX10_holding_48 : decode cX10_holding 48 = .ok (.iconst 1, 1) := by decide +kernel
theorem dX10_holding_49 : decode cX10_holding 49 = .ok (.iadd, 1) := by decide +kernel
theorem dX10_holding_50 : decode cX10_holding 50 = .ok (.putfield 198, 3) := by decide +kernel
theorem dX10_holding_53 : decode cX10_holding 53 = .ok (.goto (-42), 3) := by decide +kernel
theorem dX10_holding_56 : decode cX10_holding 56 = .ok (.iload_n 1, 1) := by decide +kernel
theorem dX10_holding_57 : decode cX10_holding 57 = .ok (.ireturn, 1) := by decide +kernel
theorem dX10_holds_0 : decode cX10_holds 0 = .ok (.aload_n 0, 1) := by decide +kernel
theorem dX10_holds_1 : decode cX10_holds 1 = .ok (.iload_n 1, 1) := by decide +kernel
theorem dX10_holds_2 : decode cX10_holds 2 = .ok (.invokevirtual 192, 3) := by decide +kernel
theorem dX10_holds_5 : decode cX10_holds 5 = .ok (.ifCond .eq 14, 3) := by decide +kernel
theorem dX10_holds_8 : decode cX10_holds 8 = .ok (.aload_n 0, 1) := by decide +kernel
theorem dX10_holds_9 : decode cX10_holds 9 = .ok (.invokevirtual 217, 3) := by decide +kernel
theorem dX10_holds_12 : decode cX10_holds 12 = .ok (.iload_n 1, 1) := by decide +kernel
theorem dX10_holds_13 : decode cX10_holds 13 = .ok (.ishr, 1) := by decide +kernel
theorem dX10_holds_14 : decode cX10_holds 14 = .ok (.iconst 1, 1) := by decide +kernel
theorem dX10_holds_15 : decode cX10_holds 15 = .ok (.iand, 1) := by decide +kernel
theorem dX10_holds_16 : decode cX10_holds 16 = .ok (.goto 4, 3) := by decide +kernel
theorem dX10_holds_19 : decode cX10_holds 19 = .ok (.iconst (-1), 1) := by decide +kernel
theorem dX10_holds_20 : decode cX10_holds 20 = .ok (.ireturn, 1) := by decide +kernel
theorem dX10_of_0 : decode cX10_of 0 = .ok (.aload_n 0, 1) := by decide +kernel
theorem dX10_of_1 : decode cX10_of 1 = .ok (.iload_n 1, 1) := by decide +kernel
theorem dX10_of_2 : decode cX10_of 2 = .ok (.invokevirtual 192, 3) := by decide +kernel
theorem dX10_of_5 : decode cX10_of 5 = .ok (.ifCond .ne 5, 3) := by decide +kernel
theorem dX10_of_8 : decode cX10_of 8 = .ok (.iconst (-1), 1) := by decide +kernel
theorem dX10_of_9 : decode cX10_of 9 = .ok (.ireturn, 1) := by decide +kernel
theorem dX10_of_10 : decode cX10_of 10 = .ok (.iload_n 2, 1) := by decide +kernel
theorem dX10_of_11 : decode cX10_of 11 = .ok (.tableswitch 98 0 6 #[41, 48, 63, 70, 77, 84, 91], 41) := by decide +kernel
theorem dX10_of_52 : decode cX10_of 52 = .ok (.aload_n 0, 1) := by decide +kernel
theorem dX10_of_53 : decode cX10_of 53 = .ok (.getfield 44, 3) := by decide +kernel
theorem dX10_of_56 : decode cX10_of 56 = .ok (.iload_n 1, 1) := by decide +kernel
theorem dX10_of_57 : decode cX10_of 57 = .ok (.iaload, 1) := by decide +kernel
theorem dX10_of_58 : decode cX10_of 58 = .ok (.ireturn, 1) := by decide +kernel
theorem dX10_of_59 : decode cX10_of 59 = .ok (.aload_n 0, 1) := by decide +kernel
theorem dX10_of_60 : decode cX10_of 60 = .ok (.getfield 47, 3) := by decide +kernel
theorem dX10_of_63 : decode cX10_of 63 = .ok (.iload_n 1, 1) := by decide +kernel
theorem dX10_of_64 : decode cX10_of 64 = .ok (.baload, 1) := by decide +kernel
theorem dX10_of_65 : decode cX10_of 65 = .ok (.ifCond .eq 7, 3) := by decide +kernel
theorem dX10_of_68 : decode cX10_of 68 = .ok (.iconst 1, 1) := by decide +kernel
theorem dX10_of_69 : decode cX10_of 69 = .ok (.goto 4, 3) := by decide +kernel
theorem dX10_of_72 : decode cX10_of 72 = .ok (.iconst 0, 1) := by decide +kernel
theorem dX10_of_73 : decode cX10_of 73 = .ok (.ireturn, 1) := by decide +kernel
theorem dX10_of_74 : decode cX10_of 74 = .ok (.aload_n 0, 1) := by decide +kernel
theorem dX10_of_75 : decode cX10_of 75 = .ok (.getfield 51, 3) := by decide +kernel
theorem dX10_of_78 : decode cX10_of 78 = .ok (.iload_n 1, 1) := by decide +kernel
theorem dX10_of_79 : decode cX10_of 79 = .ok (.iaload, 1) := by decide +kernel
theorem dX10_of_80 : decode cX10_of 80 = .ok (.ireturn, 1) := by decide +kernel
theorem dX10_of_81 : decode cX10_of 81 = .ok (.aload_n 0, 1) := by decide +kernel
theorem dX10_of_82 : decode cX10_of 82 = .ok (.getfield 54, 3) := by decide +kernel
theorem dX10_of_85 : decode cX10_of 85 = .ok (.iload_n 1, 1) := by decide +kernel
theorem dX10_of_86 : decode cX10_of 86 = .ok (.iaload, 1) := by decide +kernel
theorem dX10_of_87 : decode cX10_of 87 = .ok (.ireturn, 1) := by decide +kernel
theorem dX10_of_88 : decode cX10_of 88 = .ok (.aload_n 0, 1) := by decide +kernel
theorem dX10_of_89 : decode cX10_of 89 = .ok (.getfield 57, 3) := by decide +kernel
theorem dX10_of_92 : decode cX10_of 92 = .ok (.iload_n 1, 1) := by decide +kernel
theorem dX10_of_93 : decode cX10_of 93 = .ok (.iaload, 1) := by decide +kernel
theorem dX10_of_94 : decode cX10_of 94 = .ok (.ireturn, 1) := by decide +kernel
theorem dX10_of_95 : decode cX10_of 95 = .ok (.aload_n 0, 1) := by decide +kernel
theorem dX10_of_96 : decode cX10_of 96 = .ok (.getfield 60, 3) := by decide +kernel
theorem dX10_of_99 : decode cX10_of 99 = .ok (.iload_n 1, 1) := by decide +kernel
theorem dX10_of_100 : decode cX10_of 100 = .ok (.iaload, 1) := by decide +kernel
theorem dX10_of_101 : decode cX10_of 101 = .ok (.ireturn, 1) := by decide +kernel
theorem dX10_of_102 : decode cX10_of 102 = .ok (.aload_n 0, 1) := by decide +kernel
theorem dX10_of_103 : decode cX10_of 103 = .ok (.getfield 41, 3) := by decide +kernel
theorem dX10_of_106 : decode cX10_of 106 = .ok (.iload_n 1, 1) := by decide +kernel
theorem dX10_of_107 : decode cX10_of 107 = .ok (.iaload, 1) := by decide +kernel
theorem dX10_of_108 : decode cX10_of 108 = .ok (.ireturn, 1) := by decide +kernel
theorem dX10_of_109 : decode cX10_of 109 = .ok (.iconst (-1), 1) := by decide +kernel
theorem dX10_of_110 : decode cX10_of 110 = .ok (.ireturn, 1) := by decide +kernel
theorem dX10_noHits_0 : decode cX10_noHits 0 = .ok (.iconst 0, 1) := by decide +kernel
theorem dX10_noHits_1 : decode cX10_noHits 1 = .ok (.istore_n 1, 1) := by decide +kernel
theorem dX10_noHits_2 : decode cX10_noHits 2 = .ok (.iload_n 1, 1) := by decide +kernel
theorem dX10_noHits_3 : decode cX10_noHits 3 = .ok (.iconst 5, 1) := by decide +kernel
theorem dX10_noHits_4 : decode cX10_noHits 4 = .ok (.if_icmp .ge 16, 3) := by decide +kernel
theorem dX10_noHits_7 : decode cX10_noHits 7 = .ok (.aload_n 0, 1) := by decide +kernel
theorem dX10_noHits_8 : decode cX10_noHits 8 = .ok (.getfield 19, 3) := by decide +kernel
theorem dX10_noHits_11 : decode cX10_noHits 11 = .ok (.iload_n 1, 1) := by decide +kernel
theorem dX10_noHits_12 : decode cX10_noHits 12 = .ok (.iconst 0, 1) := by decide +kernel
theorem dX10_noHits_13 : decode cX10_noHits 13 = .ok (.iastore, 1) := by decide +kernel
theorem dX10_noHits_14 : decode cX10_noHits 14 = .ok (.iinc 1 1, 3) := by decide +kernel
theorem dX10_noHits_17 : decode cX10_noHits 17 = .ok (.goto (-15), 3) := by decide +kernel
theorem dX10_noHits_20 : decode cX10_noHits 20 = .ok (.return_, 1) := by decide +kernel
theorem dX10_look_0 : decode cX10_look 0 = .ok (.aload_n 0, 1) := by decide +kernel
theorem dX10_look_1 : decode cX10_look 1 = .ok (.invokevirtual 217, 3) := by decide +kernel
theorem dX10_look_4 : decode cX10_look 4 = .ok (.istore_n 1, 1) := by decide +kernel
theorem dX10_look_5 : decode cX10_look 5 = .ok (.iconst 0, 1) := by decide +kernel
theorem dX10_look_6 : decode cX10_look 6 = .ok (.istore_n 2, 1) := by decide +kernel
theorem dX10_look_7 : decode cX10_look 7 = .ok (.iconst 0, 1) := by decide +kernel
theorem dX10_look_8 : decode cX10_look 8 = .ok (.istore_n 3, 1) := by decide +kernel
theorem dX10_look_9 : decode cX10_look 9 = .ok (.iconst 0, 1) := by decide +kernel
theorem dX10_look_10 : decode cX10_look 10 = .ok (.istore 4, 2) := by decide +kernel
theorem dX10_look_12 : decode cX10_look 12 = .ok (.iconst 0, 1) := by decide +kernel
theorem dX10_look_13 : decode cX10_look 13 = .ok (.istore 5, 2) := by decide +kernel
theorem dX10_look_15 : decode cX10_look 15 = .ok (.iload 5, 2) := by decide +kernel
theorem dX10_look_17 : decode cX10_look 17 = .ok (.aload_n 0, 1) := by decide +kernel
theorem dX10_look_18 : decode cX10_look 18 = .ok (.getfield 186, 3) := by decide +kernel
theorem dX10_look_21 : decode cX10_look 21 = .ok (.if_icmp .ge 90, 3) := by decide +kernel
theorem dX10_look_24 : decode cX10_look 24 = .ok (.iload_n 1, 1) := by decide +kernel
theorem dX10_look_25 : decode cX10_look 25 = .ok (.iload 5, 2) := by decide +kernel
theorem dX10_look_27 : decode cX10_look 27 = .ok (.ishr, 1) := by decide +kernel
theorem dX10_look_28 : decode cX10_look 28 = .ok (.iconst 1, 1) := by decide +kernel
theorem dX10_look_29 : decode cX10_look 29 = .ok (.iand, 1) := by decide +kernel
theorem dX10_look_30 : decode cX10_look 30 = .ok (.ifCond .ne 6, 3) := by decide +kernel
theorem dX10_look_33 : decode cX10_look 33 = .ok (.goto 72, 3) := by decide +kernel
theorem dX10_look_36 : decode cX10_look 36 = .ok (.aload_n 0, 1) := by decide +kernel
theorem dX10_look_37 : decode cX10_look 37 = .ok (.getfield 51, 3) := by decide +kernel
theorem dX10_look_40 : decode cX10_look 40 = .ok (.iload 5, 2) := by decide +kernel
theorem dX10_look_42 : decode cX10_look 42 = .ok (.dup2, 1) := by decide +kernel
theorem dX10_look_43 : decode cX10_look 43 = .ok (.iaload, 1) := by decide +kernel
theorem dX10_look_44 : decode cX10_look 44 = .ok (.iconst 1, 1) := by decide +kernel
theorem dX10_look_45 : decode cX10_look 45 = .ok (.iadd, 1) := by decide +kernel
theorem dX10_look_46 : decode cX10_look 46 = .ok (.iastore, 1) := by decide +kernel
theorem dX10_look_47 : decode cX10_look 47 = .ok (.aload_n 0, 1) := by decide +kernel
theorem dX10_look_48 : decode cX10_look 48 = .ok (.getfield 51, 3) := by decide +kernel
theorem dX10_look_51 : decode cX10_look 51 = .ok (.iload 5, 2) := by decide +kernel
theorem dX10_look_53 : decode cX10_look 53 = .ok (.iaload, 1) := by decide +kernel
theorem dX10_look_54 : decode cX10_look 54 = .ok (.aload_n 0, 1) := by decide +kernel
theorem dX10_look_55 : decode cX10_look 55 = .ok (.getfield 44, 3) := by decide +kernel
theorem dX10_look_58 : decode cX10_look 58 = .ok (.iload 5, 2) := by decide +kernel
theorem dX10_look_60 : decode cX10_look 60 = .ok (.iaload, 1) := by decide +kernel
theorem dX10_look_61 : decode cX10_look 61 = .ok (.irem, 1) := by decide +kernel
theorem dX10_look_62 : decode cX10_look 62 = .ok (.ifCond .eq 6, 3) := by decide +kernel
theorem dX10_look_65 : decode cX10_look 65 = .ok (.goto 40, 3) := by decide +kernel
theorem dX10_look_68 : decode cX10_look 68 = .ok (.aload_n 0, 1) := by decide +kernel
theorem dX10_look_69 : decode cX10_look 69 = .ok (.getfield 54, 3) := by decide +kernel
theorem dX10_look_72 : decode cX10_look 72 = .ok (.iload 5, 2) := by decide +kernel
theorem dX10_look_74 : decode cX10_look 74 = .ok (.dup2, 1) := by decide +kernel
theorem dX10_look_75 : decode cX10_look 75 = .ok (.iaload, 1) := by decide +kernel
theorem dX10_look_76 : decode cX10_look 76 = .ok (.iconst 1, 1) := by decide +kernel
theorem dX10_look_77 : decode cX10_look 77 = .ok (.iadd, 1) := by decide +kernel
theorem dX10_look_78 : decode cX10_look 78 = .ok (.iastore, 1) := by decide +kernel
theorem dX10_look_79 : decode cX10_look 79 = .ok (.iload_n 2, 1) := by decide +kernel
theorem dX10_look_80 : decode cX10_look 80 = .ok (.iconst 1, 1) := by decide +kernel
theorem dX10_look_81 : decode cX10_look 81 = .ok (.iload 5, 2) := by decide +kernel
theorem dX10_look_83 : decode cX10_look 83 = .ok (.ishl, 1) := by decide +kernel
theorem dX10_look_84 : decode cX10_look 84 = .ok (.ior, 1) := by decide +kernel
theorem dX10_look_85 : decode cX10_look 85 = .ok (.istore_n 2, 1) := by decide +kernel
theorem dX10_look_86 : decode cX10_look 86 = .ok (.aload_n 0, 1) := by decide +kernel
theorem dX10_look_87 : decode cX10_look 87 = .ok (.getfield 47, 3) := by decide +kernel
theorem dX10_look_90 : decode cX10_look 90 = .ok (.iload 5, 2) := by decide +kernel
theorem dX10_look_92 : decode cX10_look 92 = .ok (.baload, 1) := by decide +kernel
theorem dX10_look_93 : decode cX10_look 93 = .ok (.ifCond .eq 9, 3) := by decide +kernel
theorem dX10_look_96 : decode cX10_look 96 = .ok (.iconst 1, 1) := by decide +kernel
theorem dX10_look_97 : decode cX10_look 97 = .ok (.istore 4, 2) := by decide +kernel
theorem dX10_look_99 : decode cX10_look 99 = .ok (.goto 6, 3) := by decide +kernel
theorem dX10_look_102 : decode cX10_look 102 = .ok (.iinc 3 1, 3) := by decide +kernel
theorem dX10_look_105 : decode cX10_look 105 = .ok (.iinc 5 1, 3) := by decide +kernel
theorem dX10_look_108 : decode cX10_look 108 = .ok (.goto (-93), 3) := by decide +kernel
theorem dX10_look_111 : decode cX10_look 111 = .ok (.iload_n 3, 1) := by decide +kernel
theorem dX10_look_112 : decode cX10_look 112 = .ok (.ifCond .le 18, 3) := by decide +kernel
theorem dX10_look_115 : decode cX10_look 115 = .ok (.iload 4, 2) := by decide +kernel
theorem dX10_look_117 : decode cX10_look 117 = .ok (.ifCond .eq 13, 3) := by decide +kernel
theorem dX10_look_120 : decode cX10_look 120 = .ok (.aload_n 0, 1) := by decide +kernel
theorem dX10_look_121 : decode cX10_look 121 = .ok (.dup, 1) := by decide +kernel
theorem dX10_look_122 : decode cX10_look 122 = .ok (.getfield 220, 3) := by decide +kernel
theorem dX10_look_125 : decode cX10_look 125 = .ok (.iconst 1, 1) := by decide +kernel
theorem dX10_look_126 : decode cX10_look 126 = .ok (.iadd, 1) := by decide +kernel
theorem dX10_look_127 : decode cX10_look 127 = .ok (.putfield 220, 3) := by decide +kernel
theorem dX10_look_130 : decode cX10_look 130 = .ok (.iload_n 3, 1) := by decide +kernel
theorem dX10_look_131 : decode cX10_look 131 = .ok (.ifCond .eq 8, 3) := by decide +kernel
theorem dX10_look_134 : decode cX10_look 134 = .ok (.iload 4, 2) := by decide +kernel
theorem dX10_look_136 : decode cX10_look 136 = .ok (.ifCond .eq 5, 3) := by decide +kernel
theorem dX10_look_139 : decode cX10_look 139 = .ok (.iconst 0, 1) := by decide +kernel
theorem dX10_look_140 : decode cX10_look 140 = .ok (.ireturn, 1) := by decide +kernel
theorem dX10_look_141 : decode cX10_look 141 = .ok (.iconst 0, 1) := by decide +kernel
theorem dX10_look_142 : decode cX10_look 142 = .ok (.istore 5, 2) := by decide +kernel
theorem dX10_look_144 : decode cX10_look 144 = .ok (.iload 5, 2) := by decide +kernel
theorem dX10_look_146 : decode cX10_look 146 = .ok (.aload_n 0, 1) := by decide +kernel
theorem dX10_look_147 : decode cX10_look 147 = .ok (.getfield 186, 3) := by decide +kernel
theorem dX10_look_150 : decode cX10_look 150 = .ok (.if_icmp .ge 48, 3) := by decide +kernel
theorem dX10_look_153 : decode cX10_look 153 = .ok (.iload_n 2, 1) := by decide +kernel
theorem dX10_look_154 : decode cX10_look 154 = .ok (.iload 5, 2) := by decide +kernel
theorem dX10_look_156 : decode cX10_look 156 = .ok (.ishr, 1) := by decide +kernel
theorem dX10_look_157 : decode cX10_look 157 = .ok (.iconst 1, 1) := by decide +kernel
theorem dX10_look_158 : decode cX10_look 158 = .ok (.iand, 1) := by decide +kernel
theorem dX10_look_159 : decode cX10_look 159 = .ok (.ifCond .ne 6, 3) := by decide +kernel
theorem dX10_look_162 : decode cX10_look 162 = .ok (.goto 30, 3) := by decide +kernel
theorem dX10_look_165 : decode cX10_look 165 = .ok (.aload_n 0, 1) := by decide +kernel
theorem dX10_look_166 : decode cX10_look 166 = .ok (.getfield 57, 3) := by decide +kernel
theorem dX10_look_169 : decode cX10_look 169 = .ok (.iload 5, 2) := by decide +kernel
theorem dX10_look_171 : decode cX10_look 171 = .ok (.dup2, 1) := by decide +kernel
theorem dX10_look_172 : decode cX10_look 172 = .ok (.iaload, 1) := by decide +kernel
theorem dX10_look_173 : decode cX10_look 173 = .ok (.iconst 1, 1) := by decide +kernel
theorem dX10_look_174 : decode cX10_look 174 = .ok (.iadd, 1) := by decide +kernel
theorem dX10_look_175 : decode cX10_look 175 = .ok (.iastore, 1) := by decide +kernel
theorem dX10_look_176 : decode cX10_look 176 = .ok (.iload_n 3, 1) := by decide +kernel
theorem dX10_look_177 : decode cX10_look 177 = .ok (.iconst 1, 1) := by decide +kernel
theorem dX10_look_178 : decode cX10_look 178 = .ok (.if_icmp .ne 14, 3) := by decide +kernel
theorem dX10_look_181 : decode cX10_look 181 = .ok (.aload_n 0, 1) := by decide +kernel
theorem dX10_look_182 : decode cX10_look 182 = .ok (.getfield 60, 3) := by decide +kernel
theorem dX10_look_185 : decode cX10_look 185 = .ok (.iload 5, 2) := by decide +kernel
theorem dX10_look_187 : decode cX10_look 187 = .ok (.dup2, 1) := by decide +kernel
theorem dX10_look_188 : decode cX10_look 188 = .ok (.iaload, 1) := by decide +kernel
theorem dX10_look_189 : decode cX10_look 189 = .ok (.iconst 1, 1) := by decide +kernel
theorem dX10_look_190 : decode cX10_look 190 = .ok (.iadd, 1) := by decide +kernel
theorem dX10_look_191 : decode cX10_look 191 = .ok (.iastore, 1) := by decide +kernel
theorem dX10_look_192 : decode cX10_look 192 = .ok (.iinc 5 1, 3) := by decide +kernel
theorem dX10_look_195 : decode cX10_look 195 = .ok (.goto (-51), 3) := by decide +kernel
theorem dX10_look_198 : decode cX10_look 198 = .ok (.aload_n 0, 1) := by decide +kernel
theorem dX10_look_199 : decode cX10_look 199 = .ok (.getfield 223, 3) := by decide +kernel
theorem dX10_look_202 : decode cX10_look 202 = .ok (.bipush 30, 2) := by decide +kernel
theorem dX10_look_204 : decode cX10_look 204 = .ok (.irem, 1) := by decide +kernel
theorem dX10_look_205 : decode cX10_look 205 = .ok (.istore 5, 2) := by decide +kernel
theorem dX10_look_207 : decode cX10_look 207 = .ok (.aload_n 0, 1) := by decide +kernel
theorem dX10_look_208 : decode cX10_look 208 = .ok (.getfield 63, 3) := by decide +kernel
theorem dX10_look_211 : decode cX10_look 211 = .ok (.iload 5, 2) := by decide +kernel
theorem dX10_look_213 : decode cX10_look 213 = .ok (.aload_n 0, 1) := by decide +kernel
theorem dX10_look_214 : decode cX10_look 214 = .ok (.getfield 226, 3) := by decide +kernel
theorem dX10_look_217 : decode cX10_look 217 = .ok (.iastore, 1) := by decide +kernel
theorem dX10_look_218 : decode cX10_look 218 = .ok (.aload_n 0, 1) := by decide +kernel
theorem dX10_look_219 : decode cX10_look 219 = .ok (.getfield 66, 3) := by decide +kernel
theorem dX10_look_222 : decode cX10_look 222 = .ok (.iload 5, 2) := by decide +kernel
theorem dX10_look_224 : decode cX10_look 224 = .ok (.iload_n 2, 1) := by decide +kernel
theorem dX10_look_225 : decode cX10_look 225 = .ok (.iastore, 1) := by decide +kernel
theorem dX10_look_226 : decode cX10_look 226 = .ok (.iconst 0, 1) := by decide +kernel
theorem dX10_look_227 : decode cX10_look 227 = .ok (.istore 6, 2) := by decide +kernel
theorem dX10_look_229 : decode cX10_look 229 = .ok (.iload 6, 2) := by decide +kernel
theorem dX10_look_231 : decode cX10_look 231 = .ok (.iconst 5, 1) := by decide +kernel
theorem dX10_look_232 : decode cX10_look 232 = .ok (.if_icmp .ge 28, 3) := by decide +kernel
theorem dX10_look_235 : decode cX10_look 235 = .ok (.aload_n 0, 1) := by decide +kernel
theorem dX10_look_236 : decode cX10_look 236 = .ok (.getfield 69, 3) := by decide +kernel
theorem dX10_look_239 : decode cX10_look 239 = .ok (.iconst 5, 1) := by decide +kernel
theorem dX10_look_240 : decode cX10_look 240 = .ok (.iload 5, 2) := by decide +kernel
theorem dX10_look_242 : decode cX10_look 242 = .ok (.imul, 1) := by decide +kernel
theorem dX10_look_243 : decode cX10_look 243 = .ok (.iload 6, 2) := by decide +kernel
theorem dX10_look_245 : decode cX10_look 245 = .ok (.iadd, 1) := by decide +kernel
theorem dX10_look_246 : decode cX10_look 246 = .ok (.aload_n 0, 1) := by decide +kernel
theorem dX10_look_247 : decode cX10_look 247 = .ok (.getfield 19, 3) := by decide +kernel
theorem dX10_look_250 : decode cX10_look 250 = .ok (.iload 6, 2) := by decide +kernel
theorem dX10_look_252 : decode cX10_look 252 = .ok (.iaload, 1) := by decide +kernel
theorem dX10_look_253 : decode cX10_look 253 = .ok (.iastore, 1) := by decide +kernel
theorem dX10_look_254 : decode cX10_look 254 = .ok (.iinc 6 1, 3) := by decide +kernel
theorem dX10_look_257 : decode cX10_look 257 = .ok (.goto (-28), 3) := by decide +kernel
theorem dX10_look_260 : decode cX10_look 260 = .ok (.aload_n 0, 1) := by decide +kernel
theorem dX10_look_261 : decode cX10_look 261 = .ok (.dup, 1) := by decide +kernel
theorem dX10_look_262 : decode cX10_look 262 = .ok (.getfield 223, 3) := by decide +kernel
theorem dX10_look_265 : decode cX10_look 265 = .ok (.iconst 1, 1) := by decide +kernel
theorem dX10_look_266 : decode cX10_look 266 = .ok (.iadd, 1) := by decide +kernel
theorem dX10_look_267 : decode cX10_look 267 = .ok (.putfield 223, 3) := by decide +kernel
theorem dX10_look_270 : decode cX10_look 270 = .ok (.aload_n 0, 1) := by decide +kernel
theorem dX10_look_271 : decode cX10_look 271 = .ok (.aload_n 0, 1) := by decide +kernel
theorem dX10_look_272 : decode cX10_look 272 = .ok (.getfield 229, 3) := by decide +kernel
theorem dX10_look_275 : decode cX10_look 275 = .ok (.putfield 232, 3) := by decide +kernel
theorem dX10_look_278 : decode cX10_look 278 = .ok (.iload_n 2, 1) := by decide +kernel
theorem dX10_look_279 : decode cX10_look 279 = .ok (.ireturn, 1) := by decide +kernel
theorem dX10_fire_0 : decode cX10_fire 0 = .ok (.iconst (-1), 1) := by decide +kernel
theorem dX10_fire_1 : decode cX10_fire 1 = .ok (.istore_n 1, 1) := by decide +kernel
theorem dX10_fire_2 : decode cX10_fire 2 = .ok (.aload_n 0, 1) := by decide +kernel
theorem dX10_fire_3 : decode cX10_fire 3 = .ok (.getfield 232, 3) := by decide +kernel
theorem dX10_fire_6 : decode cX10_fire 6 = .ok (.ifCond .le 26, 3) := by decide +kernel
theorem dX10_fire_9 : decode cX10_fire 9 = .ok (.aload_n 0, 1) := by decide +kernel
theorem dX10_fire_10 : decode cX10_fire 10 = .ok (.dup, 1) := by decide +kernel
theorem dX10_fire_11 : decode cX10_fire 11 = .ok (.getfield 232, 3) := by decide +kernel
theorem dX10_fire_14 : decode cX10_fire 14 = .ok (.iconst 1, 1) := by decide +kernel
theorem dX10_fire_15 : decode cX10_fire 15 = .ok (.isub, 1) := by decide +kernel
theorem dX10_fire_16 : decode cX10_fire 16 = .ok (.putfield 232, 3) := by decide +kernel
theorem dX10_fire_19 : decode cX10_fire 19 = .ok (.aload_n 0, 1) := by decide +kernel
theorem dX10_fire_20 : decode cX10_fire 20 = .ok (.dup, 1) := by decide +kernel
theorem dX10_fire_21 : decode cX10_fire 21 = .ok (.getfield 235, 3) := by decide +kernel
theorem dX10_fire_24 : decode cX10_fire 24 = .ok (.iconst 1, 1) := by decide +kernel
theorem dX10_fire_25 : decode cX10_fire 25 = .ok (.iadd, 1) := by decide +kernel
theorem dX10_fire_26 : decode cX10_fire 26 = .ok (.putfield 235, 3) := by decide +kernel
theorem dX10_fire_29 : decode cX10_fire 29 = .ok (.goto 8, 3) := by decide +kernel
theorem dX10_fire_32 : decode cX10_fire 32 = .ok (.aload_n 0, 1) := by decide +kernel
theorem dX10_fire_33 : decode cX10_fire 33 = .ok (.invokevirtual 238, 3) := by decide +kernel
theorem dX10_fire_36 : decode cX10_fire 36 = .ok (.istore_n 1, 1) := by decide +kernel
theorem dX10_fire_37 : decode cX10_fire 37 = .ok (.aload_n 0, 1) := by decide +kernel
theorem dX10_fire_38 : decode cX10_fire 38 = .ok (.dup, 1) := by decide +kernel
theorem dX10_fire_39 : decode cX10_fire 39 = .ok (.getfield 226, 3) := by decide +kernel
theorem dX10_fire_42 : decode cX10_fire 42 = .ok (.iconst 1, 1) := by decide +kernel
theorem dX10_fire_43 : decode cX10_fire 43 = .ok (.iadd, 1) := by decide +kernel
theorem dX10_fire_44 : decode cX10_fire 44 = .ok (.putfield 226, 3) := by decide +kernel
theorem dX10_fire_47 : decode cX10_fire 47 = .ok (.aload_n 0, 1) := by decide +kernel
theorem dX10_fire_48 : decode cX10_fire 48 = .ok (.invokevirtual 241, 3) := by decide +kernel
theorem dX10_fire_51 : decode cX10_fire 51 = .ok (.iload_n 1, 1) := by decide +kernel
theorem dX10_fire_52 : decode cX10_fire 52 = .ok (.ireturn, 1) := by decide +kernel
theorem dX10_rest_0 : decode cX10_rest 0 = .ok (.iload_n 1, 1) := by decide +kernel
theorem dX10_rest_1 : decode cX10_rest 1 = .ok (.i2l, 1) := by decide +kernel
theorem dX10_rest_2 : decode cX10_rest 2 = .ok (.lconst 0, 1) := by decide +kernel
theorem dX10_rest_3 : decode cX10_rest 3 = .ok (.ldc2_w 244, 3) := by decide +kernel
theorem dX10_rest_6 : decode cX10_rest 6 = .ok (.invokestatic 95, 3) := by decide +kernel
theorem dX10_rest_9 : decode cX10_rest 9 = .ok (.ifCond .ne 5, 3) := by decide +kernel
theorem dX10_rest_12 : decode cX10_rest 12 = .ok (.iconst (-1), 1) := by decide +kernel
theorem dX10_rest_13 : decode cX10_rest 13 = .ok (.ireturn, 1) := by decide +kernel
theorem dX10_rest_14 : decode cX10_rest 14 = .ok (.aload_n 0, 1) := by decide +kernel
theorem dX10_rest_15 : decode cX10_rest 15 = .ok (.getfield 229, 3) := by decide +kernel
theorem dX10_rest_18 : decode cX10_rest 18 = .ok (.istore_n 2, 1) := by decide +kernel
theorem dX10_rest_19 : decode cX10_rest 19 = .ok (.aload_n 0, 1) := by decide +kernel
theorem dX10_rest_20 : decode cX10_rest 20 = .ok (.iload_n 1, 1) := by decide +kernel
theorem dX10_rest_21 : decode cX10_rest 21 = .ok (.putfield 229, 3) := by decide +kernel
theorem dX10_rest_24 : decode cX10_rest 24 = .ok (.iload_n 2, 1) := by decide +kernel
theorem dX10_rest_25 : decode cX10_rest 25 = .ok (.ireturn, 1) := by decide +kernel
theorem dX10_raws_0 : decode cX10_raws 0 = .ok (.aload_n 0, 1) := by decide +kernel
theorem dX10_raws_1 : decode cX10_raws 1 = .ok (.getfield 223, 3) := by decide +kernel
theorem dX10_raws_4 : decode cX10_raws 4 = .ok (.bipush 30, 2) := by decide +kernel
theorem dX10_raws_6 : decode cX10_raws 6 = .ok (.if_icmp .ge 10, 3) := by decide +kernel
theorem dX10_raws_9 : decode cX10_raws 9 = .ok (.aload_n 0, 1) := by decide +kernel
theorem dX10_raws_10 : decode cX10_raws 10 = .ok (.getfield 223, 3) := by decide +kernel
theorem dX10_raws_13 : decode cX10_raws 13 = .ok (.goto 5, 3) := by decide +kernel
theorem dX10_raws_16 : decode cX10_raws 16 = .ok (.bipush 30, 2) := by decide +kernel
theorem dX10_raws_18 : decode cX10_raws 18 = .ok (.ireturn, 1) := by decide +kernel
theorem dX10_many_0 : decode cX10_many 0 = .ok (.iload_n 1, 1) := by decide +kernel
theorem dX10_many_1 : decode cX10_many 1 = .ok (.tableswitch 87 0 7 #[47, 52, 57, 62, 67, 72, 77, 82], 47) := by decide +kernel
theorem dX10_many_48 : decode cX10_many 48 = .ok (.aload_n 0, 1) := by decide +kernel
theorem dX10_many_49 : decode cX10_many 49 = .ok (.getfield 124, 3) := by decide +kernel
theorem dX10_many_52 : decode cX10_many 52 = .ok (.ireturn, 1) := by decide +kernel
theorem dX10_many_53 : decode cX10_many 53 = .ok (.aload_n 0, 1) := by decide +kernel
theorem dX10_many_54 : decode cX10_many 54 = .ok (.getfield 186, 3) := by decide +kernel
theorem dX10_many_57 : decode cX10_many 57 = .ok (.ireturn, 1) := by decide +kernel
theorem dX10_many_58 : decode cX10_many 58 = .ok (.aload_n 0, 1) := by decide +kernel
theorem dX10_many_59 : decode cX10_many 59 = .ok (.getfield 226, 3) := by decide +kernel
theorem dX10_many_62 : decode cX10_many 62 = .ok (.ireturn, 1) := by decide +kernel
theorem dX10_many_63 : decode cX10_many 63 = .ok (.aload_n 0, 1) := by decide +kernel
theorem dX10_many_64 : decode cX10_many 64 = .ok (.getfield 235, 3) := by decide +kernel
theorem dX10_many_67 : decode cX10_many 67 = .ok (.ireturn, 1) := by decide +kernel
theorem dX10_many_68 : decode cX10_many 68 = .ok (.aload_n 0, 1) := by decide +kernel
theorem dX10_many_69 : decode cX10_many 69 = .ok (.getfield 223, 3) := by decide +kernel
theorem dX10_many_72 : decode cX10_many 72 = .ok (.ireturn, 1) := by decide +kernel
theorem dX10_many_73 : decode cX10_many 73 = .ok (.aload_n 0, 1) := by decide +kernel
theorem dX10_many_74 : decode cX10_many 74 = .ok (.getfield 220, 3) := by decide +kernel
theorem dX10_many_77 : decode cX10_many 77 = .ok (.ireturn, 1) := by decide +kernel
theorem dX10_many_78 : decode cX10_many 78 = .ok (.aload_n 0, 1) := by decide +kernel
theorem dX10_many_79 : decode cX10_many 79 = .ok (.invokevirtual 246, 3) := by decide +kernel
theorem dX10_many_82 : decode cX10_many 82 = .ok (.ireturn, 1) := by decide +kernel
theorem dX10_many_83 : decode cX10_many 83 = .ok (.aload_n 0, 1) := by decide +kernel
theorem dX10_many_84 : decode cX10_many 84 = .ok (.getfield 232, 3) := by decide +kernel
theorem dX10_many_87 : decode cX10_many 87 = .ok (.ireturn, 1) := by decide +kernel
theorem dX10_many_88 : decode cX10_many 88 = .ok (.iconst (-1), 1) := by decide +kernel
theorem dX10_many_89 : decode cX10_many 89 = .ok (.ireturn, 1) := by decide +kernel
theorem dX10_rawAt_0 : decode cX10_rawAt 0 = .ok (.aload_n 0, 1) := by decide +kernel
theorem dX10_rawAt_1 : decode cX10_rawAt 1 = .ok (.getfield 223, 3) := by decide +kernel
theorem dX10_rawAt_4 : decode cX10_rawAt 4 = .ok (.iconst 1, 1) := by decide +kernel
theorem dX10_rawAt_5 : decode cX10_rawAt 5 = .ok (.isub, 1) := by decide +kernel
theorem dX10_rawAt_6 : decode cX10_rawAt 6 = .ok (.iload_n 1, 1) := by decide +kernel
theorem dX10_rawAt_7 : decode cX10_rawAt 7 = .ok (.isub, 1) := by decide +kernel
theorem dX10_rawAt_8 : decode cX10_rawAt 8 = .ok (.bipush 30, 2) := by decide +kernel
theorem dX10_rawAt_10 : decode cX10_rawAt 10 = .ok (.irem, 1) := by decide +kernel
theorem dX10_rawAt_11 : decode cX10_rawAt 11 = .ok (.ireturn, 1) := by decide +kernel
theorem dX10_raw_0 : decode cX10_raw 0 = .ok (.iload_n 1, 1) := by decide +kernel
theorem dX10_raw_1 : decode cX10_raw 1 = .ok (.i2l, 1) := by decide +kernel
theorem dX10_raw_2 : decode cX10_raw 2 = .ok (.lconst 0, 1) := by decide +kernel
theorem dX10_raw_3 : decode cX10_raw 3 = .ok (.aload_n 0, 1) := by decide +kernel
theorem dX10_raw_4 : decode cX10_raw 4 = .ok (.invokevirtual 246, 3) := by decide +kernel
theorem dX10_raw_7 : decode cX10_raw 7 = .ok (.iconst 1, 1) := by decide +kernel
theorem dX10_raw_8 : decode cX10_raw 8 = .ok (.isub, 1) := by decide +kernel
theorem dX10_raw_9 : decode cX10_raw 9 = .ok (.i2l, 1) := by decide +kernel
theorem dX10_raw_10 : decode cX10_raw 10 = .ok (.invokestatic 95, 3) := by decide +kernel
theorem dX10_raw_13 : decode cX10_raw 13 = .ok (.ifCond .eq 15, 3) := by decide +kernel
theorem dX10_raw_16 : decode cX10_raw 16 = .ok (.iload_n 2, 1) := by decide +kernel
theorem dX10_raw_17 : decode cX10_raw 17 = .ok (.i2l, 1) := by decide +kernel
theorem dX10_raw_18 : decode cX10_raw 18 = .ok (.lconst 0, 1) := by decide +kernel
theorem dX10_raw_19 : decode cX10_raw 19 = .ok (.ldc2_w 249, 3) := by decide +kernel
theorem dX10_raw_22 : decode cX10_raw 22 = .ok (.invokestatic 95, 3) := by decide +kernel
theorem dX10_raw_25 : decode cX10_raw 25 = .ok (.ifCond .ne 5, 3) := by decide +kernel
theorem dX10_raw_28 : decode cX10_raw 28 = .ok (.iconst (-1), 1) := by decide +kernel
theorem dX10_raw_29 : decode cX10_raw 29 = .ok (.ireturn, 1) := by decide +kernel
theorem dX10_raw_30 : decode cX10_raw 30 = .ok (.aload_n 0, 1) := by decide +kernel
theorem dX10_raw_31 : decode cX10_raw 31 = .ok (.iload_n 1, 1) := by decide +kernel
theorem dX10_raw_32 : decode cX10_raw 32 = .ok (.invokevirtual 251, 3) := by decide +kernel
theorem dX10_raw_35 : decode cX10_raw 35 = .ok (.istore_n 3, 1) := by decide +kernel
theorem dX10_raw_36 : decode cX10_raw 36 = .ok (.iload_n 2, 1) := by decide +kernel
theorem dX10_raw_37 : decode cX10_raw 37 = .ok (.ifCond .ne 10, 3) := by decide +kernel
theorem dX10_raw_40 : decode cX10_raw 40 = .ok (.aload_n 0, 1) := by decide +kernel
theorem dX10_raw_41 : decode cX10_raw 41 = .ok (.getfield 63, 3) := by decide +kernel
theorem dX10_raw_44 : decode cX10_raw 44 = .ok (.iload_n 3, 1) := by decide +kernel
theorem dX10_raw_45 : decode cX10_raw 45 = .ok (.iaload, 1) := by decide +kernel
theorem dX10_raw_46 : decode cX10_raw 46 = .ok (.ireturn, 1) := by decide +kernel
theorem dX10_raw_47 : decode cX10_raw 47 = .ok (.iload_n 2, 1) := by decide +kernel
theorem dX10_raw_48 : decode cX10_raw 48 = .ok (.iconst 1, 1) := by decide +kernel
theorem dX10_raw_49 : decode cX10_raw 49 = .ok (.if_icmp .ne 10, 3) := by decide +kernel
theorem dX10_raw_52 : decode cX10_raw 52 = .ok (.aload_n 0, 1) := by decide +kernel
theorem dX10_raw_53 : decode cX10_raw 53 = .ok (.getfield 66, 3) := by decide +kernel
theorem dX10_raw_56 : decode cX10_raw 56 = .ok (.iload_n 3, 1) := by decide +kernel
theorem dX10_raw_57 : decode cX10_raw 57 = .ok (.iaload, 1) := by decide +kernel
theorem dX10_raw_58 : decode cX10_raw 58 = .ok (.ireturn, 1) := by decide +kernel
theorem dX10_raw_59 : decode cX10_raw 59 = .ok (.iload_n 2, 1) := by decide +kernel
theorem dX10_raw_60 : decode cX10_raw 60 = .ok (.bipush 7, 2) := by decide +kernel
theorem dX10_raw_62 : decode cX10_raw 62 = .ok (.if_icmp .ge 16, 3) := by decide +kernel
theorem dX10_raw_65 : decode cX10_raw 65 = .ok (.aload_n 0, 1) := by decide +kernel
theorem dX10_raw_66 : decode cX10_raw 66 = .ok (.getfield 69, 3) := by decide +kernel
theorem dX10_raw_69 : decode cX10_raw 69 = .ok (.iconst 5, 1) := by decide +kernel
theorem dX10_raw_70 : decode cX10_raw 70 = .ok (.iload_n 3, 1) := by decide +kernel
theorem dX10_raw_71 : decode cX10_raw 71 = .ok (.imul, 1) := by decide +kernel
theorem dX10_raw_72 : decode cX10_raw 72 = .ok (.iload_n 2, 1) := by decide +kernel
theorem dX10_raw_73 : decode cX10_raw 73 = .ok (.iadd, 1) := by decide +kernel
theorem dX10_raw_74 : decode cX10_raw 74 = .ok (.iconst 2, 1) := by decide +kernel
theorem dX10_raw_75 : decode cX10_raw 75 = .ok (.isub, 1) := by decide +kernel
theorem dX10_raw_76 : decode cX10_raw 76 = .ok (.iaload, 1) := by decide +kernel
theorem dX10_raw_77 : decode cX10_raw 77 = .ok (.ireturn, 1) := by decide +kernel
theorem dX10_raw_78 : decode cX10_raw 78 = .ok (.iconst 0, 1) := by decide +kernel
theorem dX10_raw_79 : decode cX10_raw 79 = .ok (.istore 4, 2) := by decide +kernel
theorem dX10_raw_81 : decode cX10_raw 81 = .ok (.iload 4, 2) := by decide +kernel
theorem dX10_raw_83 : decode cX10_raw 83 = .ok (.iconst 5, 1) := by decide +kernel
theorem dX10_raw_84 : decode cX10_raw 84 = .ok (.if_icmp .ge 41, 3) := by decide +kernel
theorem dX10_raw_87 : decode cX10_raw 87 = .ok (.aload_n 0, 1) := by decide +kernel
theorem dX10_raw_88 : decode cX10_raw 88 = .ok (.getfield 90, 3) := by decide +kernel
theorem dX10_raw_91 : decode cX10_raw 91 = .ok (.iload 4, 2) := by decide +kernel
theorem dX10_raw_93 : decode cX10_raw 93 = .ok (.aload_n 0, 1) := by decide +kernel
theorem dX10_raw_94 : decode cX10_raw 94 = .ok (.getfield 19, 3) := by decide +kernel
theorem dX10_raw_97 : decode cX10_raw 97 = .ok (.iload 4, 2) := by decide +kernel
theorem dX10_raw_99 : decode cX10_raw 99 = .ok (.iaload, 1) := by decide +kernel
theorem dX10_raw_100 : decode cX10_raw 100 = .ok (.iastore, 1) := by decide +kernel
theorem dX10_raw_101 : decode cX10_raw 101 = .ok (.aload_n 0, 1) := by decide +kernel
theorem dX10_raw_102 : decode cX10_raw 102 = .ok (.getfield 19, 3) := by decide +kernel
theorem dX10_raw_105 : decode cX10_raw 105 = .ok (.iload 4, 2) := by decide +kernel
theorem dX10_raw_107 : decode cX10_raw 107 = .ok (.aload_n 0, 1) := by decide +kernel
theorem dX10_raw_108 : decode cX10_raw 108 = .ok (.getfield 69, 3) := by decide +kernel
theorem dX10_raw_111 : decode cX10_raw 111 = .ok (.iconst 5, 1) := by decide +kernel
theorem dX10_raw_112 : decode cX10_raw 112 = .ok (.iload_n 3, 1) := by decide +kernel
theorem dX10_raw_113 : decode cX10_raw 113 = .ok (.imul, 1) := by decide +kernel
theorem dX10_raw_114 : decode cX10_raw 114 = .ok (.iload 4, 2) := by decide +kernel
theorem dX10_raw_116 : decode cX10_raw 116 = .ok (.iadd, 1) := by decide +kernel
theorem dX10_raw_117 : decode cX10_raw 117 = .ok (.iaload, 1) := by decide +kernel
theorem dX10_raw_118 : decode cX10_raw 118 = .ok (.iastore, 1) := by decide +kernel
theorem dX10_raw_119 : decode cX10_raw 119 = .ok (.iinc 4 1, 3) := by decide +kernel
theorem dX10_raw_122 : decode cX10_raw 122 = .ok (.goto (-41), 3) := by decide +kernel
theorem dX10_raw_125 : decode cX10_raw 125 = .ok (.aload_n 0, 1) := by decide +kernel
theorem dX10_raw_126 : decode cX10_raw 126 = .ok (.invokevirtual 217, 3) := by decide +kernel
theorem dX10_raw_129 : decode cX10_raw 129 = .ok (.istore 4, 2) := by decide +kernel
theorem dX10_raw_131 : decode cX10_raw 131 = .ok (.iconst 0, 1) := by decide +kernel
theorem dX10_raw_132 : decode cX10_raw 132 = .ok (.istore 5, 2) := by decide +kernel
theorem dX10_raw_134 : decode cX10_raw 134 = .ok (.iload 5, 2) := by decide +kernel
theorem dX10_raw_136 : decode cX10_raw 136 = .ok (.iconst 5, 1) := by decide +kernel
theorem dX10_raw_137 : decode cX10_raw 137 = .ok (.if_icmp .ge 23, 3) := by decide +kernel
theorem dX10_raw_140 : decode cX10_raw 140 = .ok (.aload_n 0, 1) := by decide +kernel
theorem dX10_raw_141 : decode cX10_raw 141 = .ok (.getfield 19, 3) := by decide +kernel
theorem dX10_raw_144 : decode cX10_raw 144 = .ok (.iload 5, 2) := by decide +kernel
theorem dX10_raw_146 : decode cX10_raw 146 = .ok (.aload_n 0, 1) := by decide +kernel
theorem dX10_raw_147 : decode cX10_raw 147 = .ok (.getfield 90, 3) := by decide +kernel
theorem dX10_raw_150 : decode cX10_raw 150 = .ok (.iload 5, 2) := by decide +kernel
theorem dX10_raw_152 : decode cX10_raw 152 = .ok (.iaload, 1) := by decide +kernel
theorem dX10_raw_153 : decode cX10_raw 153 = .ok (.iastore, 1) := by decide +kernel
theorem dX10_raw_154 : decode cX10_raw 154 = .ok (.iinc 5 1, 3) := by decide +kernel
theorem dX10_raw_157 : decode cX10_raw 157 = .ok (.goto (-23), 3) := by decide +kernel
theorem dX10_raw_160 : decode cX10_raw 160 = .ok (.iload 4, 2) := by decide +kernel
theorem dX10_raw_162 : decode cX10_raw 162 = .ok (.ireturn, 1) := by decide +kernel
theorem dX10_again_0 : decode cX10_again 0 = .ok (.iload_n 1, 1) := by decide +kernel
theorem dX10_again_1 : decode cX10_again 1 = .ok (.i2l, 1) := by decide +kernel
theorem dX10_again_2 : decode cX10_again 2 = .ok (.lconst 0, 1) := by decide +kernel
theorem dX10_again_3 : decode cX10_again 3 = .ok (.aload_n 0, 1) := by decide +kernel
theorem dX10_again_4 : decode cX10_again 4 = .ok (.invokevirtual 246, 3) := by decide +kernel
theorem dX10_again_7 : decode cX10_again 7 = .ok (.iconst 1, 1) := by decide +kernel
theorem dX10_again_8 : decode cX10_again 8 = .ok (.isub, 1) := by decide +kernel
theorem dX10_again_9 : decode cX10_again 9 = .ok (.i2l, 1) := by decide +kernel
theorem dX10_again_10 : decode cX10_again 10 = .ok (.invokestatic 95, 3) := by decide +kernel
theorem dX10_again_13 : decode cX10_again 13 = .ok (.ifCond .ne 5, 3) := by decide +kernel
theorem dX10_again_16 : decode cX10_again 16 = .ok (.iconst (-1), 1) := by decide +kernel
theorem dX10_again_17 : decode cX10_again 17 = .ok (.ireturn, 1) := by decide +kernel
theorem dX10_again_18 : decode cX10_again 18 = .ok (.aload_n 0, 1) := by decide +kernel
theorem dX10_again_19 : decode cX10_again 19 = .ok (.iload_n 1, 1) := by decide +kernel
theorem dX10_again_20 : decode cX10_again 20 = .ok (.invokevirtual 251, 3) := by decide +kernel
theorem dX10_again_23 : decode cX10_again 23 = .ok (.istore_n 2, 1) := by decide +kernel
theorem dX10_again_24 : decode cX10_again 24 = .ok (.iconst 0, 1) := by decide +kernel
theorem dX10_again_25 : decode cX10_again 25 = .ok (.istore_n 3, 1) := by decide +kernel
theorem dX10_again_26 : decode cX10_again 26 = .ok (.iload_n 3, 1) := by decide +kernel
theorem dX10_again_27 : decode cX10_again 27 = .ok (.iconst 5, 1) := by decide +kernel
theorem dX10_again_28 : decode cX10_again 28 = .ok (.if_icmp .ge 25, 3) := by decide +kernel
theorem dX10_again_31 : decode cX10_again 31 = .ok (.aload_n 0, 1) := by decide +kernel
theorem dX10_again_32 : decode cX10_again 32 = .ok (.getfield 19, 3) := by decide +kernel
theorem dX10_again_35 : decode cX10_again 35 = .ok (.iload_n 3, 1) := by decide +kernel
theorem dX10_again_36 : decode cX10_again 36 = .ok (.aload_n 0, 1) := by decide +kernel
theorem dX10_again_37 : decode cX10_again 37 = .ok (.getfield 69, 3) := by decide +kernel
theorem dX10_again_40 : decode cX10_again 40 = .ok (.iconst 5, 1) := by decide +kernel
theorem dX10_again_41 : decode cX10_again 41 = .ok (.iload_n 2, 1) := by decide +kernel
theorem dX10_again_42 : decode cX10_again 42 = .ok (.imul, 1) := by decide +kernel
theorem dX10_again_43 : decode cX10_again 43 = .ok (.iload_n 3, 1) := by decide +kernel
theorem dX10_again_44 : decode cX10_again 44 = .ok (.iadd, 1) := by decide +kernel
theorem dX10_again_45 : decode cX10_again 45 = .ok (.iaload, 1) := by decide +kernel
theorem dX10_again_46 : decode cX10_again 46 = .ok (.iastore, 1) := by decide +kernel
theorem dX10_again_47 : decode cX10_again 47 = .ok (.iinc 3 1, 3) := by decide +kernel
theorem dX10_again_50 : decode cX10_again 50 = .ok (.goto (-24), 3) := by decide +kernel
theorem dX10_again_53 : decode cX10_again 53 = .ok (.aload_n 0, 1) := by decide +kernel
theorem dX10_again_54 : decode cX10_again 54 = .ok (.invokevirtual 112, 3) := by decide +kernel
theorem dX10_again_57 : decode cX10_again 57 = .ok (.ireturn, 1) := by decide +kernel
theorem dX10_anew_0 : decode cX10_anew 0 = .ok (.aload_n 0, 1) := by decide +kernel
theorem dX10_anew_1 : decode cX10_anew 1 = .ok (.getfield 226, 3) := by decide +kernel
theorem dX10_anew_4 : decode cX10_anew 4 = .ok (.istore_n 1, 1) := by decide +kernel
theorem dX10_anew_5 : decode cX10_anew 5 = .ok (.aload_n 0, 1) := by decide +kernel
theorem dX10_anew_6 : decode cX10_anew 6 = .ok (.iconst 0, 1) := by decide +kernel
theorem dX10_anew_7 : decode cX10_anew 7 = .ok (.putfield 226, 3) := by decide +kernel
theorem dX10_anew_10 : decode cX10_anew 10 = .ok (.aload_n 0, 1) := by decide +kernel
theorem dX10_anew_11 : decode cX10_anew 11 = .ok (.iconst 0, 1) := by decide +kernel
theorem dX10_anew_12 : decode cX10_anew 12 = .ok (.putfield 235, 3) := by decide +kernel
theorem dX10_anew_15 : decode cX10_anew 15 = .ok (.aload_n 0, 1) := by decide +kernel
theorem dX10_anew_16 : decode cX10_anew 16 = .ok (.iconst 0, 1) := by decide +kernel
theorem dX10_anew_17 : decode cX10_anew 17 = .ok (.putfield 223, 3) := by decide +kernel
theorem dX10_anew_20 : decode cX10_anew 20 = .ok (.aload_n 0, 1) := by decide +kernel
theorem dX10_anew_21 : decode cX10_anew 21 = .ok (.iconst 0, 1) := by decide +kernel
theorem dX10_anew_22 : decode cX10_anew 22 = .ok (.putfield 220, 3) := by decide +kernel
theorem dX10_anew_25 : decode cX10_anew 25 = .ok (.aload_n 0, 1) := by decide +kernel
theorem dX10_anew_26 : decode cX10_anew 26 = .ok (.iconst 0, 1) := by decide +kernel
theorem dX10_anew_27 : decode cX10_anew 27 = .ok (.putfield 232, 3) := by decide +kernel
theorem dX10_anew_30 : decode cX10_anew 30 = .ok (.iconst 0, 1) := by decide +kernel
theorem dX10_anew_31 : decode cX10_anew 31 = .ok (.istore_n 2, 1) := by decide +kernel
theorem dX10_anew_32 : decode cX10_anew 32 = .ok (.iload_n 2, 1) := by decide +kernel
theorem dX10_anew_33 : decode cX10_anew 33 = .ok (.bipush 8, 2) := by decide +kernel
theorem dX10_anew_35 : decode cX10_anew 35 = .ok (.if_icmp .ge 37, 3) := by decide +kernel
theorem dX10_anew_38 : decode cX10_anew 38 = .ok (.aload_n 0, 1) := by decide +kernel
theorem dX10_anew_39 : decode cX10_anew 39 = .ok (.getfield 51, 3) := by decide +kernel
theorem dX10_anew_42 : decode cX10_anew 42 = .ok (.iload_n 2, 1) := by decide +kernel
theorem dX10_anew_43 : decode cX10_anew 43 = .ok (.iconst 0, 1) := by decide +kernel
theorem dX10_anew_44 : decode cX10_anew 44 = .ok (.iastore, 1) := by decide +kernel
theorem dX10_anew_45 : decode cX10_anew 45 = .ok (.aload_n 0, 1) := by decide +kernel
theorem dX10_anew_46 : decode cX10_anew 46 = .ok (.getfield 54, 3) := by decide +kernel
theorem dX10_anew_49 : decode cX10_anew 49 = .ok (.iload_n 2, 1) := by decide +kernel
theorem dX10_anew_50 : decode cX10_anew 50 = .ok (.iconst 0, 1) := by decide +kernel
theorem dX10_anew_51 : decode cX10_anew 51 = .ok (.iastore, 1) := by decide +kernel
theorem dX10_anew_52 : decode cX10_anew 52 = .ok (.aload_n 0, 1) := by decide +kernel
theorem dX10_anew_53 : decode cX10_anew 53 = .ok (.getfield 57, 3) := by decide +kernel
theorem dX10_anew_56 : decode cX10_anew 56 = .ok (.iload_n 2, 1) := by decide +kernel
theorem dX10_anew_57 : decode cX10_anew 57 = .ok (.iconst 0, 1) := by decide +kernel
theorem dX10_anew_58 : decode cX10_anew 58 = .ok (.iastore, 1) := by decide +kernel
theorem dX10_anew_59 : decode cX10_anew 59 = .ok (.aload_n 0, 1) := by decide +kernel
theorem dX10_anew_60 : decode cX10_anew 60 = .ok (.getfield 60, 3) := by decide +kernel
theorem dX10_anew_63 : decode cX10_anew 63 = .ok (.iload_n 2, 1) := by decide +kernel
theorem dX10_anew_64 : decode cX10_anew 64 = .ok (.iconst 0, 1) := by decide +kernel
theorem dX10_anew_65 : decode cX10_anew 65 = .ok (.iastore, 1) := by decide +kernel
theorem dX10_anew_66 : decode cX10_anew 66 = .ok (.iinc 2 1, 3) := by decide +kernel
theorem dX10_anew_69 : decode cX10_anew 69 = .ok (.goto (-37), 3) := by decide +kernel
theorem dX10_anew_72 : decode cX10_anew 72 = .ok (.iload_n 1, 1) := by decide +kernel
theorem dX10_anew_73 : decode cX10_anew 73 = .ok (.ireturn, 1) := by decide +kernel
end
section
theorem dJ6_numberOfTrailingZeros_0f7a4_0 : decode cJ6_numberOfTrailingZeros_0f7a4 0 = .ok (.iload_n 0, 1) := by decide +kernel
theorem dJ6_numberOfTrailingZeros_0f7a4_1 : decode cJ6_numberOfTrailingZeros_0f7a4 1 = .ok (.iconst (-1), 1) := by decide +kernel
theorem dJ6_numberOfTrailingZeros_0f7a4_2 : decode cJ6_numberOfTrailingZeros_0f7a4 2 = .ok (.ixor, 1) := by decide +kernel
theorem dJ6_numberOfTrailingZeros_0f7a4_3 : decode cJ6_numberOfTrailingZeros_0f7a4 3 = .ok (.iload_n 0, 1) := by decide +kernel
theorem dJ6_numberOfTrailingZeros_0f7a4_4 : decode cJ6_numberOfTrailingZeros_0f7a4 4 = .ok (.iconst 1, 1) := by decide +kernel
theorem dJ6_numberOfTrailingZeros_0f7a4_5 : decode cJ6_numberOfTrailingZeros_0f7a4 5 = .ok (.isub, 1) := by decide +kernel
theorem dJ6_numberOfTrailingZeros_0f7a4_6 : decode cJ6_numberOfTrailingZeros_0f7a4 6 = .ok (.iand, 1) := by decide +kernel
theorem dJ6_numberOfTrailingZeros_0f7a4_7 : decode cJ6_numberOfTrailingZeros_0f7a4 7 = .ok (.istore_n 0, 1) := by decide +kernel
theorem dJ6_numberOfTrailingZeros_0f7a4_8 : decode cJ6_numberOfTrailingZeros_0f7a4 8 = .ok (.iload_n 0, 1) := by decide +kernel
theorem dJ6_numberOfTrailingZeros_0f7a4_9 : decode cJ6_numberOfTrailingZeros_0f7a4 9 = .ok (.ifCond .gt 8, 3) := by decide +kernel
theorem dJ6_numberOfTrailingZeros_0f7a4_12 : decode cJ6_numberOfTrailingZeros_0f7a4 12 = .ok (.iload_n 0, 1) := by decide +kernel
theorem dJ6_numberOfTrailingZeros_0f7a4_13 : decode cJ6_numberOfTrailingZeros_0f7a4 13 = .ok (.bipush 32, 2) := by decide +kernel
theorem dJ6_numberOfTrailingZeros_0f7a4_15 : decode cJ6_numberOfTrailingZeros_0f7a4 15 = .ok (.iand, 1) := by decide +kernel
theorem dJ6_numberOfTrailingZeros_0f7a4_16 : decode cJ6_numberOfTrailingZeros_0f7a4 16 = .ok (.ireturn, 1) := by decide +kernel
theorem dJ6_numberOfTrailingZeros_0f7a4_17 : decode cJ6_numberOfTrailingZeros_0f7a4 17 = .ok (.iconst 1, 1) := by decide +kernel
theorem dJ6_numberOfTrailingZeros_0f7a4_18 : decode cJ6_numberOfTrailingZeros_0f7a4 18 = .ok (.istore_n 1, 1) := by decide +kernel
theorem dJ6_numberOfTrailingZeros_0f7a4_19 : decode cJ6_numberOfTrailingZeros_0f7a4 19 = .ok (.iload_n 0, 1) := by decide +kernel
theorem dJ6_numberOfTrailingZeros_0f7a4_20 : decode cJ6_numberOfTrailingZeros_0f7a4 20 = .ok (.ldc_w 264, 3) := by decide +kernel
theorem dJ6_numberOfTrailingZeros_0f7a4_23 : decode cJ6_numberOfTrailingZeros_0f7a4 23 = .ok (.if_icmp .le 11, 3) := by decide +kernel
theorem dJ6_numberOfTrailingZeros_0f7a4_26 : decode cJ6_numberOfTrailingZeros_0f7a4 26 = .ok (.iinc 1 16, 3) := by decide +kernel
theorem dJ6_numberOfTrailingZeros_0f7a4_29 : decode cJ6_numberOfTrailingZeros_0f7a4 29 = .ok (.iload_n 0, 1) := by decide +kernel
theorem dJ6_numberOfTrailingZeros_0f7a4_30 : decode cJ6_numberOfTrailingZeros_0f7a4 30 = .ok (.bipush 16, 2) := by decide +kernel
theorem dJ6_numberOfTrailingZeros_0f7a4_32 : decode cJ6_numberOfTrailingZeros_0f7a4 32 = .ok (.iushr, 1) := by decide +kernel
theorem dJ6_numberOfTrailingZeros_0f7a4_33 : decode cJ6_numberOfTrailingZeros_0f7a4 33 = .ok (.istore_n 0, 1) := by decide +kernel
theorem dJ6_numberOfTrailingZeros_0f7a4_34 : decode cJ6_numberOfTrailingZeros_0f7a4 34 = .ok (.iload_n 0, 1) := by decide +kernel
theorem dJ6_numberOfTrailingZeros_0f7a4_35 : decode cJ6_numberOfTrailingZeros_0f7a4 35 = .ok (.sipush 256, 3) := by decide +kernel
theorem dJ6_numberOfTrailingZeros_0f7a4_38 : decode cJ6_numberOfTrailingZeros_0f7a4 38 = .ok (.if_icmp .le 11, 3) := by decide +kernel
theorem dJ6_numberOfTrailingZeros_0f7a4_41 : decode cJ6_numberOfTrailingZeros_0f7a4 41 = .ok (.iinc 1 8, 3) := by decide +kernel
theorem dJ6_numberOfTrailingZeros_0f7a4_44 : decode cJ6_numberOfTrailingZeros_0f7a4 44 = .ok (.iload_n 0, 1) := by decide +kernel
theorem dJ6_numberOfTrailingZeros_0f7a4_45 : decode cJ6_numberOfTrailingZeros_0f7a4 45 = .ok (.bipush 8, 2) := by decide +kernel
theorem dJ6_numberOfTrailingZeros_0f7a4_47 : decode cJ6_numberOfTrailingZeros_0f7a4 47 = .ok (.iushr, 1) := by decide +kernel
theorem dJ6_numberOfTrailingZeros_0f7a4_48 : decode cJ6_numberOfTrailingZeros_0f7a4 48 = .ok (.istore_n 0, 1) := by decide +kernel
theorem dJ6_numberOfTrailingZeros_0f7a4_49 : decode cJ6_numberOfTrailingZeros_0f7a4 49 = .ok (.iload_n 0, 1) := by decide +kernel
theorem dJ6_numberOfTrailingZeros_0f7a4_50 : decode cJ6_numberOfTrailingZeros_0f7a4 50 = .ok (.bipush 16, 2) := by decide +kernel
theorem dJ6_numberOfTrailingZeros_0f7a4_52 : decode cJ6_numberOfTrailingZeros_0f7a4 52 = .ok (.if_icmp .le 10, 3) := by decide +kernel
theorem dJ6_numberOfTrailingZeros_0f7a4_55 : decode cJ6_numberOfTrailingZeros_0f7a4 55 = .ok (.iinc 1 4, 3) := by decide +kernel
theorem dJ6_numberOfTrailingZeros_0f7a4_58 : decode cJ6_numberOfTrailingZeros_0f7a4 58 = .ok (.iload_n 0, 1) := by decide +kernel
theorem dJ6_numberOfTrailingZeros_0f7a4_59 : decode cJ6_numberOfTrailingZeros_0f7a4 59 = .ok (.iconst 4, 1) := by decide +kernel
theorem dJ6_numberOfTrailingZeros_0f7a4_60 : decode cJ6_numberOfTrailingZeros_0f7a4 60 = .ok (.iushr, 1) := by decide +kernel
theorem dJ6_numberOfTrailingZeros_0f7a4_61 : decode cJ6_numberOfTrailingZeros_0f7a4 61 = .ok (.istore_n 0, 1) := by decide +kernel
theorem dJ6_numberOfTrailingZeros_0f7a4_62 : decode cJ6_numberOfTrailingZeros_0f7a4 62 = .ok (.iload_n 0, 1) := by decide +kernel
theorem dJ6_numberOfTrailingZeros_0f7a4_63 : decode cJ6_numberOfTrailingZeros_0f7a4 63 = .ok (.iconst 4, 1) := by decide +kernel
theorem dJ6_numberOfTrailingZeros_0f7a4_64 : decode cJ6_numberOfTrailingZeros_0f7a4 64 = .ok (.if_icmp .le 10, 3) := by decide +kernel
theorem dJ6_numberOfTrailingZeros_0f7a4_67 : decode cJ6_numberOfTrailingZeros_0f7a4 67 = .ok (.iinc 1 2, 3) := by decide +kernel
theorem dJ6_numberOfTrailingZeros_0f7a4_70 : decode cJ6_numberOfTrailingZeros_0f7a4 70 = .ok (.iload_n 0, 1) := by decide +kernel
theorem dJ6_numberOfTrailingZeros_0f7a4_71 : decode cJ6_numberOfTrailingZeros_0f7a4 71 = .ok (.iconst 2, 1) := by decide +kernel
theorem dJ6_numberOfTrailingZeros_0f7a4_72 : decode cJ6_numberOfTrailingZeros_0f7a4 72 = .ok (.iushr, 1) := by decide +kernel
theorem dJ6_numberOfTrailingZeros_0f7a4_73 : decode cJ6_numberOfTrailingZeros_0f7a4 73 = .ok (.istore_n 0, 1) := by decide +kernel
theorem dJ6_numberOfTrailingZeros_0f7a4_74 : decode cJ6_numberOfTrailingZeros_0f7a4 74 = .ok (.iload_n 1, 1) := by decide +kernel
theorem dJ6_numberOfTrailingZeros_0f7a4_75 : decode cJ6_numberOfTrailingZeros_0f7a4 75 = .ok (.iload_n 0, 1) := by decide +kernel
theorem dJ6_numberOfTrailingZeros_0f7a4_76 : decode cJ6_numberOfTrailingZeros_0f7a4 76 = .ok (.iconst 1, 1) := by decide +kernel
theorem dJ6_numberOfTrailingZeros_0f7a4_77 : decode cJ6_numberOfTrailingZeros_0f7a4 77 = .ok (.iushr, 1) := by decide +kernel
theorem dJ6_numberOfTrailingZeros_0f7a4_78 : decode cJ6_numberOfTrailingZeros_0f7a4 78 = .ok (.iadd, 1) := by decide +kernel
theorem dJ6_numberOfTrailingZeros_0f7a4_79 : decode cJ6_numberOfTrailingZeros_0f7a4 79 = .ok (.ireturn, 1) := by decide +kernel
theorem dJ6_bitCount_0f7a4_0 : decode cJ6_bitCount_0f7a4 0 = .ok (.iload_n 0, 1) := by decide +kernel
theorem dJ6_bitCount_0f7a4_1 : decode cJ6_bitCount_0f7a4 1 = .ok (.iload_n 0, 1) := by decide +kernel
theorem dJ6_bitCount_0f7a4_2 : decode cJ6_bitCount_0f7a4 2 = .ok (.iconst 1, 1) := by decide +kernel
theorem dJ6_bitCount_0f7a4_3 : decode cJ6_bitCount_0f7a4 3 = .ok (.iushr, 1) := by decide +kernel
theorem dJ6_bitCount_0f7a4_4 : decode cJ6_bitCount_0f7a4 4 = .ok (.ldc_w 265, 3) := by decide +kernel
theorem dJ6_bitCount_0f7a4_7 : decode cJ6_bitCount_0f7a4 7 = .ok (.iand, 1) := by decide +kernel
theorem dJ6_bitCount_0f7a4_8 : decode cJ6_bitCount_0f7a4 8 = .ok (.isub, 1) := by decide +kernel
theorem dJ6_bitCount_0f7a4_9 : decode cJ6_bitCount_0f7a4 9 = .ok (.istore_n 0, 1) := by decide +kernel
theorem dJ6_bitCount_0f7a4_10 : decode cJ6_bitCount_0f7a4 10 = .ok (.iload_n 0, 1) := by decide +kernel
theorem dJ6_bitCount_0f7a4_11 : decode cJ6_bitCount_0f7a4 11 = .ok (.ldc_w 266, 3) := by decide +kernel
theorem dJ6_bitCount_0f7a4_14 : decode cJ6_bitCount_0f7a4 14 = .ok (.iand, 1) := by decide +kernel
theorem dJ6_bitCount_0f7a4_15 : decode cJ6_bitCount_0f7a4 15 = .ok (.iload_n 0, 1) := by decide +kernel
theorem dJ6_bitCount_0f7a4_16 : decode cJ6_bitCount_0f7a4 16 = .ok (.iconst 2, 1) := by decide +kernel
theorem dJ6_bitCount_0f7a4_17 : decode cJ6_bitCount_0f7a4 17 = .ok (.iushr, 1) := by decide +kernel
theorem dJ6_bitCount_0f7a4_18 : decode cJ6_bitCount_0f7a4 18 = .ok (.ldc_w 266, 3) := by decide +kernel
theorem dJ6_bitCount_0f7a4_21 : decode cJ6_bitCount_0f7a4 21 = .ok (.iand, 1) := by decide +kernel
theorem dJ6_bitCount_0f7a4_22 : decode cJ6_bitCount_0f7a4 22 = .ok (.iadd, 1) := by decide +kernel
theorem dJ6_bitCount_0f7a4_23 : decode cJ6_bitCount_0f7a4 23 = .ok (.istore_n 0, 1) := by decide +kernel
theorem dJ6_bitCount_0f7a4_24 : decode cJ6_bitCount_0f7a4 24 = .ok (.iload_n 0, 1) := by decide +kernel
theorem dJ6_bitCount_0f7a4_25 : decode cJ6_bitCount_0f7a4 25 = .ok (.iload_n 0, 1) := by decide +kernel
theorem dJ6_bitCount_0f7a4_26 : decode cJ6_bitCount_0f7a4 26 = .ok (.iconst 4, 1) := by decide +kernel
theorem dJ6_bitCount_0f7a4_27 : decode cJ6_bitCount_0f7a4 27 = .ok (.iushr, 1) := by decide +kernel
theorem dJ6_bitCount_0f7a4_28 : decode cJ6_bitCount_0f7a4 28 = .ok (.iadd, 1) := by decide +kernel
theorem dJ6_bitCount_0f7a4_29 : decode cJ6_bitCount_0f7a4 29 = .ok (.ldc_w 267, 3) := by decide +kernel
theorem dJ6_bitCount_0f7a4_32 : decode cJ6_bitCount_0f7a4 32 = .ok (.iand, 1) := by decide +kernel
theorem dJ6_bitCount_0f7a4_33 : decode cJ6_bitCount_0f7a4 33 = .ok (.istore_n 0, 1) := by decide +kernel
theorem dJ6_bitCount_0f7a4_34 : decode cJ6_bitCount_0f7a4 34 = .ok (.iload_n 0, 1) := by decide +kernel
theorem dJ6_bitCount_0f7a4_35 : decode cJ6_bitCount_0f7a4 35 = .ok (.iload_n 0, 1) := by decide +kernel
theorem dJ6_bitCount_0f7a4_36 : decode cJ6_bitCount_0f7a4 36 = .ok (.bipush 8, 2) := by decide +kernel
theorem dJ6_bitCount_0f7a4_38 : decode cJ6_bitCount_0f7a4 38 = .ok (.iushr, 1) := by decide +kernel
theorem dJ6_bitCount_0f7a4_39 : decode cJ6_bitCount_0f7a4 39 = .ok (.iadd, 1) := by decide +kernel
theorem dJ6_bitCount_0f7a4_40 : decode cJ6_bitCount_0f7a4 40 = .ok (.istore_n 0, 1) := by decide +kernel
theorem dJ6_bitCount_0f7a4_41 : decode cJ6_bitCount_0f7a4 41 = .ok (.iload_n 0, 1) := by decide +kernel
theorem dJ6_bitCount_0f7a4_42 : decode cJ6_bitCount_0f7a4 42 = .ok (.iload_n 0, 1) := by decide +kernel
theorem dJ6_bitCount_0f7a4_43 : decode cJ6_bitCount_0f7a4 43 = .ok (.bipush 16, 2) := by decide +kernel
theorem dJ6_bitCount_0f7a4_45 : decode cJ6_bitCount_0f7a4 45 = .ok (.iushr, 1) := by decide +kernel
theorem dJ6_bitCount_0f7a4_46 : decode cJ6_bitCount_0f7a4 46 = .ok (.iadd, 1) := by decide +kernel
theorem dJ6_bitCount_0f7a4_47 : decode cJ6_bitCount_0f7a4 47 = .ok (.istore_n 0, 1) := by decide +kernel
theorem dJ6_bitCount_0f7a4_48 : decode cJ6_bitCount_0f7a4 48 = .ok (.iload_n 0, 1) := by decide +kernel
theorem dJ6_bitCount_0f7a4_49 : decode cJ6_bitCount_0f7a4 49 = .ok (.bipush 63, 2) := by decide +kernel
theorem dJ6_bitCount_0f7a4_51 : decode cJ6_bitCount_0f7a4 51 = .ok (.iand, 1) := by decide +kernel
theorem dJ6_bitCount_0f7a4_52 : decode cJ6_bitCount_0f7a4 52 = .ok (.ireturn, 1) := by decide +kernel
theorem dJ9_floorMod_7cf53_0 : decode cJ9_floorMod_7cf53 0 = .ok (.iload_n 0, 1) := by decide +kernel
theorem dJ9_floorMod_7cf53_1 : decode cJ9_floorMod_7cf53 1 = .ok (.iload_n 1, 1) := by decide +kernel
theorem dJ9_floorMod_7cf53_2 : decode cJ9_floorMod_7cf53 2 = .ok (.irem, 1) := by decide +kernel
theorem dJ9_floorMod_7cf53_3 : decode cJ9_floorMod_7cf53 3 = .ok (.istore_n 2, 1) := by decide +kernel
theorem dJ9_floorMod_7cf53_4 : decode cJ9_floorMod_7cf53 4 = .ok (.iload_n 0, 1) := by decide +kernel
theorem dJ9_floorMod_7cf53_5 : decode cJ9_floorMod_7cf53 5 = .ok (.iload_n 1, 1) := by decide +kernel
theorem dJ9_floorMod_7cf53_6 : decode cJ9_floorMod_7cf53 6 = .ok (.ixor, 1) := by decide +kernel
theorem dJ9_floorMod_7cf53_7 : decode cJ9_floorMod_7cf53 7 = .ok (.ifCond .ge 11, 3) := by decide +kernel
theorem dJ9_floorMod_7cf53_10 : decode cJ9_floorMod_7cf53 10 = .ok (.iload_n 2, 1) := by decide +kernel
theorem dJ9_floorMod_7cf53_11 : decode cJ9_floorMod_7cf53 11 = .ok (.ifCond .eq 7, 3) := by decide +kernel
theorem dJ9_floorMod_7cf53_14 : decode cJ9_floorMod_7cf53 14 = .ok (.iload_n 2, 1) := by decide +kernel
theorem dJ9_floorMod_7cf53_15 : decode cJ9_floorMod_7cf53 15 = .ok (.iload_n 1, 1) := by decide +kernel
theorem dJ9_floorMod_7cf53_16 : decode cJ9_floorMod_7cf53 16 = .ok (.iadd, 1) := by decide +kernel
theorem dJ9_floorMod_7cf53_17 : decode cJ9_floorMod_7cf53 17 = .ok (.ireturn, 1) := by decide +kernel
theorem dJ9_floorMod_7cf53_18 : decode cJ9_floorMod_7cf53 18 = .ok (.iload_n 2, 1) := by decide +kernel
theorem dJ9_floorMod_7cf53_19 : decode cJ9_floorMod_7cf53 19 = .ok (.ireturn, 1) := by decide +kernel
theorem dJ9_max_7cf53_0 : decode cJ9_max_7cf53 0 = .ok (.iload_n 0, 1) := by decide +kernel
theorem dJ9_max_7cf53_1 : decode cJ9_max_7cf53 1 = .ok (.iload_n 1, 1) := by decide +kernel
theorem dJ9_max_7cf53_2 : decode cJ9_max_7cf53 2 = .ok (.if_icmp .lt 7, 3) := by decide +kernel
theorem dJ9_max_7cf53_5 : decode cJ9_max_7cf53 5 = .ok (.iload_n 0, 1) := by decide +kernel
theorem dJ9_max_7cf53_6 : decode cJ9_max_7cf53 6 = .ok (.goto 4, 3) := by decide +kernel
theorem dJ9_max_7cf53_9 : decode cJ9_max_7cf53 9 = .ok (.iload_n 1, 1) := by decide +kernel
theorem dJ9_max_7cf53_10 : decode cJ9_max_7cf53 10 = .ok (.ireturn, 1) := by decide +kernel
theorem dJ9_min_7cf53_0 : decode cJ9_min_7cf53 0 = .ok (.iload_n 0, 1) := by decide +kernel
theorem dJ9_min_7cf53_1 : decode cJ9_min_7cf53 1 = .ok (.iload_n 1, 1) := by decide +kernel
theorem dJ9_min_7cf53_2 : decode cJ9_min_7cf53 2 = .ok (.if_icmp .gt 7, 3) := by decide +kernel
theorem dJ9_min_7cf53_5 : decode cJ9_min_7cf53 5 = .ok (.iload_n 0, 1) := by decide +kernel
theorem dJ9_min_7cf53_6 : decode cJ9_min_7cf53 6 = .ok (.goto 4, 3) := by decide +kernel
theorem dJ9_min_7cf53_9 : decode cJ9_min_7cf53 9 = .ok (.iload_n 1, 1) := by decide +kernel
theorem dJ9_min_7cf53_10 : decode cJ9_min_7cf53 10 = .ok (.ireturn, 1) := by decide +kernel
theorem dJxa1e45_init_da8c8_0 : decode cJxa1e45_init_da8c8 0 = .ok (.aload_n 0, 1) := by decide +kernel
theorem dJxa1e45_init_da8c8_1 : decode cJxa1e45_init_da8c8 1 = .ok (.invokespecial 1, 3) := by decide +kernel
theorem dJxa1e45_init_da8c8_4 : decode cJxa1e45_init_da8c8 4 = .ok (.return_, 1) := by decide +kernel
theorem dJxc12de_init_da8c8_0 : decode cJxc12de_init_da8c8 0 = .ok (.aload_n 0, 1) := by decide +kernel
theorem dJxc12de_init_da8c8_1 : decode cJxc12de_init_da8c8 1 = .ok (.invokespecial 1, 3) := by decide +kernel
theorem dJxc12de_init_da8c8_4 : decode cJxc12de_init_da8c8 4 = .ok (.aload_n 0, 1) := by decide +kernel
theorem dJxc12de_init_da8c8_5 : decode cJxc12de_init_da8c8 5 = .ok (.iconst 0, 1) := by decide +kernel
theorem dJxc12de_init_da8c8_6 : decode cJxc12de_init_da8c8 6 = .ok (.putfield 7, 3) := by decide +kernel
theorem dJxc12de_init_da8c8_9 : decode cJxc12de_init_da8c8 9 = .ok (.return_, 1) := by decide +kernel
theorem dJx4a65c_init_da8c8_0 : decode cJx4a65c_init_da8c8 0 = .ok (.aload_n 0, 1) := by decide +kernel
theorem dJx4a65c_init_da8c8_1 : decode cJx4a65c_init_da8c8 1 = .ok (.invokespecial 1, 3) := by decide +kernel
theorem dJx4a65c_init_da8c8_4 : decode cJx4a65c_init_da8c8 4 = .ok (.aload_n 0, 1) := by decide +kernel
theorem dJx4a65c_init_da8c8_5 : decode cJx4a65c_init_da8c8 5 = .ok (.getstatic 39, 3) := by decide +kernel
theorem dJx4a65c_init_da8c8_8 : decode cJx4a65c_init_da8c8 8 = .ok (.putfield 9, 3) := by decide +kernel
theorem dJx4a65c_init_da8c8_11 : decode cJx4a65c_init_da8c8 11 = .ok (.return_, 1) := by decide +kernel
theorem dJx4a65c_grow_92f84_0 : decode cJx4a65c_grow_92f84 0 = .ok (.aload_n 0, 1) := by decide +kernel
theorem dJx4a65c_grow_92f84_1 : decode cJx4a65c_grow_92f84 1 = .ok (.getfield 9, 3) := by decide +kernel
theorem dJx4a65c_grow_92f84_4 : decode cJx4a65c_grow_92f84 4 = .ok (.arraylength, 1) := by decide +kernel
theorem dJx4a65c_grow_92f84_5 : decode cJx4a65c_grow_92f84 5 = .ok (.istore_n 2, 1) := by decide +kernel
theorem dJx4a65c_grow_92f84_6 : decode cJx4a65c_grow_92f84 6 = .ok (.iload_n 2, 1) := by decide +kernel
theorem dJx4a65c_grow_92f84_7 : decode cJx4a65c_grow_92f84 7 = .ok (.ifCond .gt 13, 3) := by decide +kernel
theorem dJx4a65c_grow_92f84_10 : decode cJx4a65c_grow_92f84 10 = .ok (.aload_n 0, 1) := by decide +kernel
theorem dJx4a65c_grow_92f84_11 : decode cJx4a65c_grow_92f84 11 = .ok (.getfield 9, 3) := by decide +kernel
theorem dJx4a65c_grow_92f84_14 : decode cJx4a65c_grow_92f84 14 = .ok (.getstatic 39, 3) := by decide +kernel
theorem dJx4a65c_grow_92f84_17 : decode cJx4a65c_grow_92f84 17 = .ok (.if_acmp .eq 28, 3) := by decide +kernel
theorem dJx4a65c_grow_92f84_20 : decode cJx4a65c_grow_92f84 20 = .ok (.iload_n 2, 1) := by decide +kernel
theorem dJx4a65c_grow_92f84_21 : decode cJx4a65c_grow_92f84 21 = .ok (.iload_n 1, 1) := by decide +kernel
theorem dJx4a65c_grow_92f84_22 : decode cJx4a65c_grow_92f84 22 = .ok (.iload_n 2, 1) := by decide +kernel
theorem dJx4a65c_grow_92f84_23 : decode cJx4a65c_grow_92f84 23 = .ok (.isub, 1) := by decide +kernel
theorem dJx4a65c_grow_92f84_24 : decode cJx4a65c_grow_92f84 24 = .ok (.iload_n 2, 1) := by decide +kernel
theorem dJx4a65c_grow_92f84_25 : decode cJx4a65c_grow_92f84 25 = .ok (.iconst 1, 1) := by decide +kernel
theorem dJx4a65c_grow_92f84_26 : decode cJx4a65c_grow_92f84 26 = .ok (.ishr, 1) := by decide +kernel
theorem dJx4a65c_grow_92f84_27 : decode cJx4a65c_grow_92f84 27 = .ok (.invokestatic 73, 3) := by decide +kernel
theorem dJx4a65c_grow_92f84_30 : decode cJx4a65c_grow_92f84 30 = .ok (.istore_n 3, 1) := by decide +kernel
theorem dJx4a65c_grow_92f84_31 : decode cJx4a65c_grow_92f84 31 = .ok (.aload_n 0, 1) := by decide +kernel
theorem dJx4a65c_grow_92f84_32 : decode cJx4a65c_grow_92f84 32 = .ok (.aload_n 0, 1) := by decide +kernel
theorem dJx4a65c_grow_92f84_33 : decode cJx4a65c_grow_92f84 33 = .ok (.getfield 9, 3) := by decide +kernel
theorem dJx4a65c_grow_92f84_36 : decode cJx4a65c_grow_92f84 36 = .ok (.iload_n 3, 1) := by decide +kernel
theorem dJx4a65c_grow_92f84_37 : decode cJx4a65c_grow_92f84 37 = .ok (.invokestatic 66, 3) := by decide +kernel
theorem dJx4a65c_grow_92f84_40 : decode cJx4a65c_grow_92f84 40 = .ok (.dup_x1, 1) := by decide +kernel
theorem dJx4a65c_grow_92f84_41 : decode cJx4a65c_grow_92f84 41 = .ok (.putfield 9, 3) := by decide +kernel
theorem dJx4a65c_grow_92f84_44 : decode cJx4a65c_grow_92f84 44 = .ok (.areturn, 1) := by decide +kernel
theorem dJx4a65c_grow_92f84_45 : decode cJx4a65c_grow_92f84 45 = .ok (.aload_n 0, 1) := by decide +kernel
theorem dJx4a65c_grow_92f84_46 : decode cJx4a65c_grow_92f84 46 = .ok (.bipush 10, 2) := by decide +kernel
theorem dJx4a65c_grow_92f84_48 : decode cJx4a65c_grow_92f84 48 = .ok (.iload_n 1, 1) := by decide +kernel
theorem dJx4a65c_grow_92f84_49 : decode cJx4a65c_grow_92f84 49 = .ok (.invokestatic 79, 3) := by decide +kernel
theorem dJx4a65c_grow_92f84_52 : decode cJx4a65c_grow_92f84 52 = .ok (.anewarray 7, 3) := by decide +kernel
theorem dJx4a65c_grow_92f84_55 : decode cJx4a65c_grow_92f84 55 = .ok (.dup_x1, 1) := by decide +kernel
theorem dJx4a65c_grow_92f84_56 : decode cJx4a65c_grow_92f84 56 = .ok (.putfield 9, 3) := by decide +kernel
theorem dJx4a65c_grow_92f84_59 : decode cJx4a65c_grow_92f84 59 = .ok (.areturn, 1) := by decide +kernel
theorem dJx4a65c_grow_d5877_0 : decode cJx4a65c_grow_d5877 0 = .ok (.aload_n 0, 1) := by decide +kernel
theorem dJx4a65c_grow_d5877_1 : decode cJx4a65c_grow_d5877 1 = .ok (.aload_n 0, 1) := by decide +kernel
theorem dJx4a65c_grow_d5877_2 : decode cJx4a65c_grow_d5877 2 = .ok (.getfield 48, 3) := by decide +kernel
theorem dJx4a65c_grow_d5877_5 : decode cJx4a65c_grow_d5877 5 = .ok (.iconst 1, 1) := by decide +kernel
theorem dJx4a65c_grow_d5877_6 : decode cJx4a65c_grow_d5877 6 = .ok (.iadd, 1) := by decide +kernel
theorem dJx4a65c_grow_d5877_7 : decode cJx4a65c_grow_d5877 7 = .ok (.invokevirtual 69, 3) := by decide +kernel
theorem dJx4a65c_grow_d5877_10 : decode cJx4a65c_grow_d5877 10 = .ok (.areturn, 1) := by decide +kernel
theorem dJx4a65c_size_8abf5_0 : decode cJx4a65c_size_8abf5 0 = .ok (.aload_n 0, 1) := by decide +kernel
theorem dJx4a65c_size_8abf5_1 : decode cJx4a65c_size_8abf5 1 = .ok (.getfield 48, 3) := by decide +kernel
theorem dJx4a65c_size_8abf5_4 : decode cJx4a65c_size_8abf5 4 = .ok (.ireturn, 1) := by decide +kernel
theorem dJx4a65c_elementData_915e3_0 : decode cJx4a65c_elementData_915e3 0 = .ok (.aload_n 0, 1) := by decide +kernel
theorem dJx4a65c_elementData_915e3_1 : decode cJx4a65c_elementData_915e3 1 = .ok (.getfield 9, 3) := by decide +kernel
theorem dJx4a65c_elementData_915e3_4 : decode cJx4a65c_elementData_915e3 4 = .ok (.iload_n 1, 1) := by decide +kernel
theorem dJx4a65c_elementData_915e3_5 : decode cJx4a65c_elementData_915e3 5 = .ok (.aaload, 1) := by decide +kernel
theorem dJx4a65c_elementData_915e3_6 : decode cJx4a65c_elementData_915e3 6 = .ok (.areturn, 1) := by decide +kernel
theorem dJx4a65c_get_915e3_0 : decode cJx4a65c_get_915e3 0 = .ok (.iload_n 1, 1) := by decide +kernel
theorem dJx4a65c_get_915e3_1 : decode cJx4a65c_get_915e3 1 = .ok (.aload_n 0, 1) := by decide +kernel
theorem dJx4a65c_get_915e3_2 : decode cJx4a65c_get_915e3 2 = .ok (.getfield 48, 3) := by decide +kernel
theorem dJx4a65c_get_915e3_5 : decode cJx4a65c_get_915e3 5 = .ok (.invokestatic 118, 3) := by decide +kernel
theorem dJx4a65c_get_915e3_8 : decode cJx4a65c_get_915e3 8 = .ok (.pop, 1) := by decide +kernel
theorem dJx4a65c_get_915e3_9 : decode cJx4a65c_get_915e3 9 = .ok (.aload_n 0, 1) := by decide +kernel
theorem dJx4a65c_get_915e3_10 : decode cJx4a65c_get_915e3 10 = .ok (.iload_n 1, 1) := by decide +kernel
theorem dJx4a65c_get_915e3_11 : decode cJx4a65c_get_915e3 11 = .ok (.invokevirtual 123, 3) := by decide +kernel
theorem dJx4a65c_get_915e3_14 : decode cJx4a65c_get_915e3 14 = .ok (.areturn, 1) := by decide +kernel
theorem dJx4a65c_add_72be8_0 : decode cJx4a65c_add_72be8 0 = .ok (.iload_n 3, 1) := by decide +kernel
theorem dJx4a65c_add_72be8_1 : decode cJx4a65c_add_72be8 1 = .ok (.aload_n 2, 1) := by decide +kernel
theorem dJx4a65c_add_72be8_2 : decode cJx4a65c_add_72be8 2 = .ok (.arraylength, 1) := by decide +kernel
theorem dJx4a65c_add_72be8_3 : decode cJx4a65c_add_72be8 3 = .ok (.if_icmp .ne 8, 3) := by decide +kernel
theorem dJx4a65c_add_72be8_6 : decode cJx4a65c_add_72be8 6 = .ok (.aload_n 0, 1) := by decide +kernel
theorem dJx4a65c_add_72be8_7 : decode cJx4a65c_add_72be8 7 = .ok (.invokevirtual 129, 3) := by decide +kernel
theorem dJx4a65c_add_72be8_10 : decode cJx4a65c_add_72be8 10 = .ok (.astore_n 2, 1) := by decide +kernel
theorem dJx4a65c_add_72be8_11 : decode cJx4a65c_add_72be8 11 = .ok (.aload_n 2, 1) := by decide +kernel
theorem dJx4a65c_add_72be8_12 : decode cJx4a65c_add_72be8 12 = .ok (.iload_n 3, 1) := by decide +kernel
theorem dJx4a65c_add_72be8_13 : decode cJx4a65c_add_72be8 13 = .ok (.aload_n 1, 1) := by decide +kernel
theorem dJx4a65c_add_72be8_14 : decode cJx4a65c_add_72be8 14 = .ok (.aastore, 1) := by decide +kernel
theorem dJx4a65c_add_72be8_15 : decode cJx4a65c_add_72be8 15 = .ok (.aload_n 0, 1) := by decide +kernel
theorem dJx4a65c_add_72be8_16 : decode cJx4a65c_add_72be8 16 = .ok (.iload_n 3, 1) := by decide +kernel
theorem dJx4a65c_add_72be8_17 : decode cJx4a65c_add_72be8 17 = .ok (.iconst 1, 1) := by decide +kernel
theorem dJx4a65c_add_72be8_18 : decode cJx4a65c_add_72be8 18 = .ok (.iadd, 1) := by decide +kernel
theorem dJx4a65c_add_72be8_19 : decode cJx4a65c_add_72be8 19 = .ok (.putfield 48, 3) := by decide +kernel
theorem dJx4a65c_add_72be8_22 : decode cJx4a65c_add_72be8 22 = .ok (.return_, 1) := by decide +kernel
theorem dJx4a65c_add_9ea2d_0 : decode cJx4a65c_add_9ea2d 0 = .ok (.aload_n 0, 1) := by decide +kernel
theorem dJx4a65c_add_9ea2d_1 : decode cJx4a65c_add_9ea2d 1 = .ok (.dup, 1) := by decide +kernel
theorem dJx4a65c_add_9ea2d_2 : decode cJx4a65c_add_9ea2d 2 = .ok (.getfield 63, 3) := by decide +kernel
theorem dJx4a65c_add_9ea2d_5 : decode cJx4a65c_add_9ea2d 5 = .ok (.iconst 1, 1) := by decide +kernel
theorem dJx4a65c_add_9ea2d_6 : decode cJx4a65c_add_9ea2d 6 = .ok (.iadd, 1) := by decide +kernel
theorem dJx4a65c_add_9ea2d_7 : decode cJx4a65c_add_9ea2d 7 = .ok (.putfield 63, 3) := by decide +kernel
theorem dJx4a65c_add_9ea2d_10 : decode cJx4a65c_add_9ea2d 10 = .ok (.aload_n 0, 1) := by decide +kernel
theorem dJx4a65c_add_9ea2d_11 : decode cJx4a65c_add_9ea2d 11 = .ok (.aload_n 1, 1) := by decide +kernel
theorem dJx4a65c_add_9ea2d_12 : decode cJx4a65c_add_9ea2d 12 = .ok (.aload_n 0, 1) := by decide +kernel
theorem dJx4a65c_add_9ea2d_13 : decode cJx4a65c_add_9ea2d 13 = .ok (.getfield 9, 3) := by decide +kernel
theorem dJx4a65c_add_9ea2d_16 : decode cJx4a65c_add_9ea2d 16 = .ok (.aload_n 0, 1) := by decide +kernel
theorem dJx4a65c_add_9ea2d_17 : decode cJx4a65c_add_9ea2d 17 = .ok (.getfield 48, 3) := by decide +kernel
theorem dJx4a65c_add_9ea2d_20 : decode cJx4a65c_add_9ea2d 20 = .ok (.invokevirtual 131, 3) := by decide +kernel
theorem dJx4a65c_add_9ea2d_23 : decode cJx4a65c_add_9ea2d 23 = .ok (.iconst 1, 1) := by decide +kernel
theorem dJx4a65c_add_9ea2d_24 : decode cJx4a65c_add_9ea2d 24 = .ok (.ireturn, 1) := by decide +kernel
theorem dJ7_copyOf_1904c_0 : decode cJ7_copyOf_1904c 0 = .ok (.aload_n 0, 1) := by decide +kernel
theorem dJ7_copyOf_1904c_1 : decode cJ7_copyOf_1904c 1 = .ok (.iload_n 1, 1) := by decide +kernel
theorem dJ7_copyOf_1904c_2 : decode cJ7_copyOf_1904c 2 = .ok (.aload_n 0, 1) := by decide +kernel
theorem dJ7_copyOf_1904c_3 : decode cJ7_copyOf_1904c 3 = .ok (.invokevirtual 86, 3) := by decide +kernel
theorem dJ7_copyOf_1904c_6 : decode cJ7_copyOf_1904c 6 = .ok (.invokestatic 300, 3) := by decide +kernel
theorem dJ7_copyOf_1904c_9 : decode cJ7_copyOf_1904c 9 = .ok (.areturn, 1) := by decide +kernel
theorem dJ7_copyOf_6403c_0 : decode cJ7_copyOf_6403c 0 = .ok (.aload_n 2, 1) := by decide +kernel
theorem dJ7_copyOf_6403c_1 : decode cJ7_copyOf_6403c 1 = .ok (.ldc 110, 2) := by decide +kernel
theorem dJ7_copyOf_6403c_3 : decode cJ7_copyOf_6403c 3 = .ok (.if_acmp .ne 10, 3) := by decide +kernel
theorem dJ7_copyOf_6403c_6 : decode cJ7_copyOf_6403c 6 = .ok (.iload_n 1, 1) := by decide +kernel
theorem dJ7_copyOf_6403c_7 : decode cJ7_copyOf_6403c 7 = .ok (.anewarray 2, 3) := by decide +kernel
theorem dJ7_copyOf_6403c_10 : decode cJ7_copyOf_6403c 10 = .ok (.goto 14, 3) := by decide +kernel
theorem dJ7_copyOf_6403c_13 : decode cJ7_copyOf_6403c 13 = .ok (.aload_n 2, 1) := by decide +kernel
theorem dJ7_copyOf_6403c_14 : decode cJ7_copyOf_6403c 14 = .ok (.invokevirtual 90, 3) := by decide +kernel
theorem dJ7_copyOf_6403c_17 : decode cJ7_copyOf_6403c 17 = .ok (.iload_n 1, 1) := by decide +kernel
theorem dJ7_copyOf_6403c_18 : decode cJ7_copyOf_6403c 18 = .ok (.invokestatic 95, 3) := by decide +kernel
theorem dJ7_copyOf_6403c_21 : decode cJ7_copyOf_6403c 21 = .ok (.checkcast 110, 3) := by decide +kernel
theorem dJ7_copyOf_6403c_24 : decode cJ7_copyOf_6403c 24 = .ok (.astore_n 3, 1) := by decide +kernel
theorem dJ7_copyOf_6403c_25 : decode cJ7_copyOf_6403c 25 = .ok (.aload_n 0, 1) := by decide +kernel
theorem dJ7_copyOf_6403c_26 : decode cJ7_copyOf_6403c 26 = .ok (.iconst 0, 1) := by decide +kernel
theorem dJ7_copyOf_6403c_27 : decode cJ7_copyOf_6403c 27 = .ok (.aload_n 3, 1) := by decide +kernel
theorem dJ7_copyOf_6403c_28 : decode cJ7_copyOf_6403c 28 = .ok (.iconst 0, 1) := by decide +kernel
theorem dJ7_copyOf_6403c_29 : decode cJ7_copyOf_6403c 29 = .ok (.aload_n 0, 1) := by decide +kernel
theorem dJ7_copyOf_6403c_30 : decode cJ7_copyOf_6403c 30 = .ok (.arraylength, 1) := by decide +kernel
theorem dJ7_copyOf_6403c_31 : decode cJ7_copyOf_6403c 31 = .ok (.iload_n 1, 1) := by decide +kernel
theorem dJ7_copyOf_6403c_32 : decode cJ7_copyOf_6403c 32 = .ok (.invokestatic 304, 3) := by decide +kernel
theorem dJ7_copyOf_6403c_35 : decode cJ7_copyOf_6403c 35 = .ok (.invokestatic 150, 3) := by decide +kernel
theorem dJ7_copyOf_6403c_38 : decode cJ7_copyOf_6403c 38 = .ok (.aload_n 3, 1) := by decide +kernel
theorem dJ7_copyOf_6403c_39 : decode cJ7_copyOf_6403c 39 = .ok (.areturn, 1) := by decide +kernel
theorem dJ15_checkIndex_7cf53_0 : decode cJ15_checkIndex_7cf53 0 = .ok (.iload_n 0, 1) := by decide +kernel
theorem dJ15_checkIndex_7cf53_1 : decode cJ15_checkIndex_7cf53 1 = .ok (.iload_n 1, 1) := by decide +kernel
theorem dJ15_checkIndex_7cf53_2 : decode cJ15_checkIndex_7cf53 2 = .ok (.aconst_null, 1) := by decide +kernel
theorem dJ15_checkIndex_7cf53_3 : decode cJ15_checkIndex_7cf53 3 = .ok (.invokestatic 105, 3) := by decide +kernel
theorem dJ15_checkIndex_7cf53_6 : decode cJ15_checkIndex_7cf53 6 = .ok (.ireturn, 1) := by decide +kernel
theorem dJ8_newLength_cabcc_0 : decode cJ8_newLength_cabcc 0 = .ok (.iload_n 0, 1) := by decide +kernel
theorem dJ8_newLength_cabcc_1 : decode cJ8_newLength_cabcc 1 = .ok (.iload_n 1, 1) := by decide +kernel
theorem dJ8_newLength_cabcc_2 : decode cJ8_newLength_cabcc 2 = .ok (.iload_n 2, 1) := by decide +kernel
theorem dJ8_newLength_cabcc_3 : decode cJ8_newLength_cabcc 3 = .ok (.invokestatic 194, 3) := by decide +kernel
theorem dJ8_newLength_cabcc_6 : decode cJ8_newLength_cabcc 6 = .ok (.iadd, 1) := by decide +kernel
theorem dJ8_newLength_cabcc_7 : decode cJ8_newLength_cabcc 7 = .ok (.istore_n 3, 1) := by decide +kernel
theorem dJ8_newLength_cabcc_8 : decode cJ8_newLength_cabcc 8 = .ok (.iconst 0, 1) := by decide +kernel
theorem dJ8_newLength_cabcc_9 : decode cJ8_newLength_cabcc 9 = .ok (.iload_n 3, 1) := by decide +kernel
theorem dJ8_newLength_cabcc_10 : decode cJ8_newLength_cabcc 10 = .ok (.if_icmp .ge 11, 3) := by decide +kernel
theorem dJ8_newLength_cabcc_13 : decode cJ8_newLength_cabcc 13 = .ok (.iload_n 3, 1) := by decide +kernel
theorem dJ8_newLength_cabcc_14 : decode cJ8_newLength_cabcc 14 = .ok (.ldc 200, 2) := by decide +kernel
theorem dJ8_newLength_cabcc_16 : decode cJ8_newLength_cabcc 16 = .ok (.if_icmp .gt 5, 3) := by decide +kernel
theorem dJ8_newLength_cabcc_19 : decode cJ8_newLength_cabcc 19 = .ok (.iload_n 3, 1) := by decide +kernel
theorem dJ8_newLength_cabcc_20 : decode cJ8_newLength_cabcc 20 = .ok (.ireturn, 1) := by decide +kernel
theorem dJ8_newLength_cabcc_21 : decode cJ8_newLength_cabcc 21 = .ok (.iload_n 0, 1) := by decide +kernel
theorem dJ8_newLength_cabcc_22 : decode cJ8_newLength_cabcc 22 = .ok (.iload_n 1, 1) := by decide +kernel
theorem dJ8_newLength_cabcc_23 : decode cJ8_newLength_cabcc 23 = .ok (.invokestatic 201, 3) := by decide +kernel
theorem dJ8_newLength_cabcc_26 : decode cJ8_newLength_cabcc 26 = .ok (.ireturn, 1) := by decide +kernel
theorem dJ8_hugeLength_7cf53_0 : decode cJ8_hugeLength_7cf53 0 = .ok (.iload_n 0, 1) := by decide +kernel
theorem dJ8_hugeLength_7cf53_1 : decode cJ8_hugeLength_7cf53 1 = .ok (.iload_n 1, 1) := by decide +kernel
theorem dJ8_hugeLength_7cf53_2 : decode cJ8_hugeLength_7cf53 2 = .ok (.iadd, 1) := by decide +kernel
theorem dJ8_hugeLength_7cf53_3 : decode cJ8_hugeLength_7cf53 3 = .ok (.istore_n 2, 1) := by decide +kernel
theorem dJ8_hugeLength_7cf53_4 : decode cJ8_hugeLength_7cf53 4 = .ok (.iload_n 2, 1) := by decide +kernel
theorem dJ8_hugeLength_7cf53_5 : decode cJ8_hugeLength_7cf53 5 = .ok (.ifCond .ge 44, 3) := by decide +kernel
theorem dJ8_hugeLength_7cf53_8 : decode cJ8_hugeLength_7cf53 8 = .ok (.new 204, 3) := by decide +kernel
theorem dJ8_hugeLength_7cf53_11 : decode cJ8_hugeLength_7cf53 11 = .ok (.dup, 1) := by decide +kernel
theorem dJ8_hugeLength_7cf53_12 : decode cJ8_hugeLength_7cf53 12 = .ok (.new 89, 3) := by decide +kernel
theorem dJ8_hugeLength_7cf53_15 : decode cJ8_hugeLength_7cf53 15 = .ok (.dup, 1) := by decide +kernel
theorem dJ8_hugeLength_7cf53_16 : decode cJ8_hugeLength_7cf53 16 = .ok (.invokespecial 91, 3) := by decide +kernel
theorem dJ8_hugeLength_7cf53_19 : decode cJ8_hugeLength_7cf53 19 = .ok (.ldc 206, 2) := by decide +kernel
theorem dJ8_hugeLength_7cf53_21 : decode cJ8_hugeLength_7cf53 21 = .ok (.invokevirtual 94, 3) := by decide +kernel
theorem dJ8_hugeLength_7cf53_24 : decode cJ8_hugeLength_7cf53 24 = .ok (.iload_n 0, 1) := by decide +kernel
theorem dJ8_hugeLength_7cf53_25 : decode cJ8_hugeLength_7cf53 25 = .ok (.invokevirtual 98, 3) := by decide +kernel
theorem dJ8_hugeLength_7cf53_28 : decode cJ8_hugeLength_7cf53 28 = .ok (.ldc 208, 2) := by decide +kernel
theorem dJ8_hugeLength_7cf53_30 : decode cJ8_hugeLength_7cf53 30 = .ok (.invokevirtual 94, 3) := by decide +kernel
theorem dJ8_hugeLength_7cf53_33 : decode cJ8_hugeLength_7cf53 33 = .ok (.iload_n 1, 1) := by decide +kernel
theorem dJ8_hugeLength_7cf53_34 : decode cJ8_hugeLength_7cf53 34 = .ok (.invokevirtual 98, 3) := by decide +kernel
theorem dJ8_hugeLength_7cf53_37 : decode cJ8_hugeLength_7cf53 37 = .ok (.ldc 210, 2) := by decide +kernel
theorem dJ8_hugeLength_7cf53_39 : decode cJ8_hugeLength_7cf53 39 = .ok (.invokevirtual 94, 3) := by decide +kernel
theorem dJ8_hugeLength_7cf53_42 : decode cJ8_hugeLength_7cf53 42 = .ok (.invokevirtual 101, 3) := by decide +kernel
theorem dJ8_hugeLength_7cf53_45 : decode cJ8_hugeLength_7cf53 45 = .ok (.invokespecial 212, 3) := by decide +kernel
theorem dJ8_hugeLength_7cf53_48 : decode cJ8_hugeLength_7cf53 48 = .ok (.athrow, 1) := by decide +kernel
theorem dJ8_hugeLength_7cf53_49 : decode cJ8_hugeLength_7cf53 49 = .ok (.iload_n 2, 1) := by decide +kernel
theorem dJ8_hugeLength_7cf53_50 : decode cJ8_hugeLength_7cf53 50 = .ok (.ldc 200, 2) := by decide +kernel
theorem dJ8_hugeLength_7cf53_52 : decode cJ8_hugeLength_7cf53 52 = .ok (.if_icmp .gt 6, 3) := by decide +kernel
theorem dJ8_hugeLength_7cf53_55 : decode cJ8_hugeLength_7cf53 55 = .ok (.ldc 200, 2) := by decide +kernel
theorem dJ8_hugeLength_7cf53_57 : decode cJ8_hugeLength_7cf53 57 = .ok (.ireturn, 1) := by decide +kernel
theorem dJ8_hugeLength_7cf53_58 : decode cJ8_hugeLength_7cf53 58 = .ok (.iload_n 2, 1) := by decide +kernel
theorem dJ8_hugeLength_7cf53_59 : decode cJ8_hugeLength_7cf53 59 = .ok (.ireturn, 1) := by decide +kernel
theorem dJ3_checkIndex_8e157_0 : decode cJ3_checkIndex_8e157 0 = .ok (.iload_n 0, 1) := by decide +kernel
theorem dJ3_checkIndex_8e157_1 : decode cJ3_checkIndex_8e157 1 = .ok (.ifCond .lt 8, 3) := by decide +kernel
theorem dJ3_checkIndex_8e157_4 : decode cJ3_checkIndex_8e157 4 = .ok (.iload_n 0, 1) := by decide +kernel
theorem dJ3_checkIndex_8e157_5 : decode cJ3_checkIndex_8e157 5 = .ok (.iload_n 1, 1) := by decide +kernel
theorem dJ3_checkIndex_8e157_6 : decode cJ3_checkIndex_8e157 6 = .ok (.if_icmp .lt 10, 3) := by decide +kernel
theorem dJ3_checkIndex_8e157_9 : decode cJ3_checkIndex_8e157 9 = .ok (.aload_n 2, 1) := by decide +kernel
theorem dJ3_checkIndex_8e157_10 : decode cJ3_checkIndex_8e157 10 = .ok (.iload_n 0, 1) := by decide +kernel
theorem dJ3_checkIndex_8e157_11 : decode cJ3_checkIndex_8e157 11 = .ok (.iload_n 1, 1) := by decide +kernel
theorem dJ3_checkIndex_8e157_12 : decode cJ3_checkIndex_8e157 12 = .ok (.invokestatic 95, 3) := by decide +kernel
theorem dJ3_checkIndex_8e157_15 : decode cJ3_checkIndex_8e157 15 = .ok (.athrow, 1) := by decide +kernel
theorem dJ3_checkIndex_8e157_16 : decode cJ3_checkIndex_8e157 16 = .ok (.iload_n 0, 1) := by decide +kernel
theorem dJ3_checkIndex_8e157_17 : decode cJ3_checkIndex_8e157 17 = .ok (.ireturn, 1) := by decide +kernel
theorem dL_law_0 : decode cL_law 0 = .ok (.new 7, 3) := by decide +kernel
theorem dL_law_3 : decode cL_law 3 = .ok (.dup, 1) := by decide +kernel
theorem dL_law_4 : decode cL_law 4 = .ok (.invokespecial 9, 3) := by decide +kernel
theorem dL_law_7 : decode cL_law 7 = .ok (.astore_n 1, 1) := by decide +kernel
theorem dL_law_8 : decode cL_law 8 = .ok (.new 10, 3) := by decide +kernel
theorem dL_law_11 : decode cL_law 11 = .ok (.dup, 1) := by decide +kernel
theorem dL_law_12 : decode cL_law 12 = .ok (.invokespecial 12, 3) := by decide +kernel
theorem dL_law_15 : decode cL_law 15 = .ok (.astore_n 2, 1) := by decide +kernel
theorem dL_law_16 : decode cL_law 16 = .ok (.iconst 0, 1) := by decide +kernel
theorem dL_law_17 : decode cL_law 17 = .ok (.istore_n 3, 1) := by decide +kernel
theorem dL_law_18 : decode cL_law 18 = .ok (.iload_n 3, 1) := by decide +kernel
theorem dL_law_19 : decode cL_law 19 = .ok (.aload_n 0, 1) := by decide +kernel
theorem dL_law_20 : decode cL_law 20 = .ok (.arraylength, 1) := by decide +kernel
theorem dL_law_21 : decode cL_law 21 = .ok (.bipush 7, 2) := by decide +kernel
theorem dL_law_23 : decode cL_law 23 = .ok (.isub, 1) := by decide +kernel
theorem dL_law_24 : decode cL_law 24 = .ok (.if_icmp .gt 974, 3) := by decide +kernel
theorem dL_law_27 : decode cL_law 27 = .ok (.aload_n 0, 1) := by decide +kernel
theorem dL_law_28 : decode cL_law 28 = .ok (.iload_n 3, 1) := by decide +kernel
theorem dL_law_29 : decode cL_law 29 = .ok (.iaload, 1) := by decide +kernel
theorem dL_law_30 : decode cL_law 30 = .ok (.bipush 31, 2) := by decide +kernel
theorem dL_law_32 : decode cL_law 32 = .ok (.iand, 1) := by decide +kernel
theorem dL_law_33 : decode cL_law 33 = .ok (.tableswitch 959 0 27 #[127, 170, 213, 236, 269, 302, 345, 378, 453, 496, 509, 532, 565, 598, 621, 644, 657, 680, 693, 742, 775, 798, 831, 844, 867, 890, 923, 946], 127) := by decide +kernel
theorem dL_law_160 : decode cL_law 160 = .ok (.aload_n 1, 1) := by decide +kernel
theorem dL_law_161 : decode cL_law 161 = .ok (.aload_n 0, 1) := by decide +kernel
theorem dL_law_162 : decode cL_law 162 = .ok (.iload_n 3, 1) := by decide +kernel
theorem dL_law_163 : decode cL_law 163 = .ok (.iconst 1, 1) := by decide +kernel
theorem dL_law_164 : decode cL_law 164 = .ok (.iadd, 1) := by decide +kernel
theorem dL_law_165 : decode cL_law 165 = .ok (.iaload, 1) := by decide +kernel
theorem dL_law_166 : decode cL_law 166 = .ok (.aload_n 0, 1) := by decide +kernel
theorem dL_law_167 : decode cL_law 167 = .ok (.iload_n 3, 1) := by decide +kernel
theorem dL_law_168 : decode cL_law 168 = .ok (.iconst 2, 1) := by decide +kernel
theorem dL_law_169 : decode cL_law 169 = .ok (.iadd, 1) := by decide +kernel
theorem dL_law_170 : decode cL_law 170 = .ok (.iaload, 1) := by decide +kernel
theorem dL_law_171 : decode cL_law 171 = .ok (.aload_n 0, 1) := by decide +kernel
theorem dL_law_172 : decode cL_law 172 = .ok (.iload_n 3, 1) := by decide +kernel
theorem dL_law_173 : decode cL_law 173 = .ok (.iconst 3, 1) := by decide +kernel
theorem dL_law_174 : decode cL_law 174 = .ok (.iadd, 1) := by decide +kernel
theorem dL_law_175 : decode cL_law 175 = .ok (.iaload, 1) := by decide +kernel
theorem dL_law_176 : decode cL_law 176 = .ok (.invokevirtual 13, 3) := by decide +kernel
theorem dL_law_179 : decode cL_law 179 = .ok (.aload_n 2, 1) := by decide +kernel
theorem dL_law_180 : decode cL_law 180 = .ok (.aload_n 0, 1) := by decide +kernel
theorem dL_law_181 : decode cL_law 181 = .ok (.iload_n 3, 1) := by decide +kernel
theorem dL_law_182 : decode cL_law 182 = .ok (.iconst 1, 1) := by decide +kernel
theorem dL_law_183 : decode cL_law 183 = .ok (.iadd, 1) := by decide +kernel
theorem dL_law_184 : decode cL_law 184 = .ok (.iaload, 1) := by decide +kernel
theorem dL_law_185 : decode cL_law 185 = .ok (.aload_n 0, 1) := by decide +kernel
theorem dL_law_186 : decode cL_law 186 = .ok (.iload_n 3, 1) := by decide +kernel
theorem dL_law_187 : decode cL_law 187 = .ok (.iconst 2, 1) := by decide +kernel
theorem dL_law_188 : decode cL_law 188 = .ok (.iadd, 1) := by decide +kernel
theorem dL_law_189 : decode cL_law 189 = .ok (.iaload, 1) := by decide +kernel
theorem dL_law_190 : decode cL_law 190 = .ok (.aload_n 0, 1) := by decide +kernel
theorem dL_law_191 : decode cL_law 191 = .ok (.iload_n 3, 1) := by decide +kernel
theorem dL_law_192 : decode cL_law 192 = .ok (.iconst 3, 1) := by decide +kernel
theorem dL_law_193 : decode cL_law 193 = .ok (.iadd, 1) := by decide +kernel
theorem dL_law_194 : decode cL_law 194 = .ok (.iaload, 1) := by decide +kernel
theorem dL_law_195 : decode cL_law 195 = .ok (.invokevirtual 17, 3) := by decide +kernel
theorem dL_law_198 : decode cL_law 198 = .ok (.if_icmp .eq 794, 3) := by decide +kernel
theorem dL_law_201 : decode cL_law 201 = .ok (.iconst 0, 1) := by decide +kernel
theorem dL_law_202 : decode cL_law 202 = .ok (.ireturn, 1) := by decide +kernel
theorem dL_law_203 : decode cL_law 203 = .ok (.aload_n 1, 1) := by decide +kernel
theorem dL_law_204 : decode cL_law 204 = .ok (.aload_n 0, 1) := by decide +kernel
theorem dL_law_205 : decode cL_law 205 = .ok (.iload_n 3, 1) := by decide +kernel
theorem dL_law_206 : decode cL_law 206 = .ok (.iconst 1, 1) := by decide +kernel
theorem dL_law_207 : decode cL_law 207 = .ok (.iadd, 1) := by decide +kernel
theorem dL_law_208 : decode cL_law 208 = .ok (.iaload, 1) := by decide +kernel
theorem dL_law_209 : decode cL_law 209 = .ok (.aload_n 0, 1) := by decide +kernel
theorem dL_law_210 : decode cL_law 210 = .ok (.iload_n 3, 1) := by decide +kernel
theorem dL_law_211 : decode cL_law 211 = .ok (.iconst 2, 1) := by decide +kernel
theorem dL_law_212 : decode cL_law 212 = .ok (.iadd, 1) := by decide +kernel
theorem dL_law_213 : decode cL_law 213 = .ok (.iaload, 1) := by decide +kernel
theorem dL_law_214 : decode cL_law 214 = .ok (.aload_n 0, 1) := by decide +kernel
theorem dL_law_215 : decode cL_law 215 = .ok (.iload_n 3, 1) := by decide +kernel
theorem dL_law_216 : decode cL_law 216 = .ok (.iconst 3, 1) := by decide +kernel
theorem dL_law_217 : decode cL_law 217 = .ok (.iadd, 1) := by decide +kernel
theorem dL_law_218 : decode cL_law 218 = .ok (.iaload, 1) := by decide +kernel
theorem dL_law_219 : decode cL_law 219 = .ok (.invokevirtual 18, 3) := by decide +kernel
theorem dL_law_222 : decode cL_law 222 = .ok (.aload_n 2, 1) := by decide +kernel
theorem dL_law_223 : decode cL_law 223 = .ok (.aload_n 0, 1) := by decide +kernel
theorem dL_law_224 : decode cL_law 224 = .ok (.iload_n 3, 1) := by decide +kernel
theorem dL_law_225 : decode cL_law 225 = .ok (.iconst 1, 1) := by decide +kernel
theorem dL_law_226 : decode cL_law 226 = .ok (.iadd, 1) := by decide +kernel
theorem dL_law_227 : decode cL_law 227 = .ok (.iaload, 1) := by decide +kernel
theorem dL_law_228 : decode cL_law 228 = .ok (.aload_n 0, 1) := by decide +kernel
theorem dL_law_229 : decode cL_law 229 = .ok (.iload_n 3, 1) := by decide +kernel
theorem dL_law_230 : decode cL_law 230 = .ok (.iconst 2, 1) := by decide +kernel
theorem dL_law_231 : decode cL_law 231 = .ok (.iadd, 1) := by decide +kernel
theorem dL_law_232 : decode cL_law 232 = .ok (.iaload, 1) := by decide +kernel
theorem dL_law_233 : decode cL_law 233 = .ok (.aload_n 0, 1) := by decide +kernel
theorem dL_law_234 : decode cL_law 234 = .ok (.iload_n 3, 1) := by decide +kernel
theorem dL_law_235 : decode cL_law 235 = .ok (.iconst 3, 1) := by decide +kernel
theorem dL_law_236 : decode cL_law 236 = .ok (.iadd, 1) := by decide +kernel
theorem dL_law_237 : decode cL_law 237 = .ok (.iaload, 1) := by decide +kernel
theorem dL_law_238 : decode cL_law 238 = .ok (.invokevirtual 21, 3) := by decide +kernel
theorem dL_law_241 : decode cL_law 241 = .ok (.if_icmp .eq 751, 3) := by decide +kernel
theorem dL_law_244 : decode cL_law 244 = .ok (.iconst 0, 1) := by decide +kernel
theorem dL_law_245 : decode cL_law 245 = .ok (.ireturn, 1) := by decide +kernel
theorem dL_law_246 : decode cL_law 246 = .ok (.aload_n 1, 1) := by decide +kernel
theorem dL_law_247 : decode cL_law 247 = .ok (.aload_n 0, 1) := by decide +kernel
theorem dL_law_248 : decode cL_law 248 = .ok (.iload_n 3, 1) := by decide +kernel
theorem dL_law_249 : decode cL_law 249 = .ok (.iconst 1, 1) := by decide +kernel
theorem dL_law_250 : decode cL_law 250 = .ok (.iadd, 1) := by decide +kernel
theorem dL_law_251 : decode cL_law 251 = .ok (.iaload, 1) := by decide +kernel
theorem dL_law_252 : decode cL_law 252 = .ok (.invokevirtual 22, 3) := by decide +kernel
theorem dL_law_255 : decode cL_law 255 = .ok (.aload_n 2, 1) := by decide +kernel
theorem dL_law_256 : decode cL_law 256 = .ok (.aload_n 0, 1) := by decide +kernel
theorem dL_law_257 : decode cL_law 257 = .ok (.iload_n 3, 1) := by decide +kernel
theorem dL_law_258 : decode cL_law 258 = .ok (.iconst 1, 1) := by decide +kernel
theorem dL_law_259 : decode cL_law 259 = .ok (.iadd, 1) := by decide +kernel
theorem dL_law_260 : decode cL_law 260 = .ok (.iaload, 1) := by decide +kernel
theorem dL_law_261 : decode cL_law 261 = .ok (.invokevirtual 26, 3) := by decide +kernel
theorem dL_law_264 : decode cL_law 264 = .ok (.if_icmp .eq 728, 3) := by decide +kernel
theorem dL_law_267 : decode cL_law 267 = .ok (.iconst 0, 1) := by decide +kernel
theorem dL_law_268 : decode cL_law 268 = .ok (.ireturn, 1) := by decide +kernel
theorem dL_law_269 : decode cL_law 269 = .ok (.aload_n 1, 1) := by decide +kernel
theorem dL_law_270 : decode cL_law 270 = .ok (.aload_n 0, 1) := by decide +kernel
theorem dL_law_271 : decode cL_law 271 = .ok (.iload_n 3, 1) := by decide +kernel
theorem dL_law_272 : decode cL_law 272 = .ok (.iconst 1, 1) := by decide +kernel
theorem dL_law_273 : decode cL_law 273 = .ok (.iadd, 1) := by decide +kernel
theorem dL_law_274 : decode cL_law 274 = .ok (.iaload, 1) := by decide +kernel
theorem dL_law_275 : decode cL_law 275 = .ok (.aload_n 0, 1) := by decide +kernel
theorem dL_law_276 : decode cL_law 276 = .ok (.iload_n 3, 1) := by decide +kernel
theorem dL_law_277 : decode cL_law 277 = .ok (.iconst 2, 1) := by decide +kernel
theorem dL_law_278 : decode cL_law 278 = .ok (.iadd, 1) := by decide +kernel
theorem dL_law_279 : decode cL_law 279 = .ok (.iaload, 1) := by decide +kernel
theorem dL_law_280 : decode cL_law 280 = .ok (.invokevirtual 27, 3) := by decide +kernel
theorem dL_law_283 : decode cL_law 283 = .ok (.aload_n 2, 1) := by decide +kernel
theorem dL_law_284 : decode cL_law 284 = .ok (.aload_n 0, 1) := by decide +kernel
theorem dL_law_285 : decode cL_law 285 = .ok (.iload_n 3, 1) := by decide +kernel
theorem dL_law_286 : decode cL_law 286 = .ok (.iconst 1, 1) := by decide +kernel
theorem dL_law_287 : decode cL_law 287 = .ok (.iadd, 1) := by decide +kernel
theorem dL_law_288 : decode cL_law 288 = .ok (.iaload, 1) := by decide +kernel
theorem dL_law_289 : decode cL_law 289 = .ok (.aload_n 0, 1) := by decide +kernel
theorem dL_law_290 : decode cL_law 290 = .ok (.iload_n 3, 1) := by decide +kernel
theorem dL_law_291 : decode cL_law 291 = .ok (.iconst 2, 1) := by decide +kernel
theorem dL_law_292 : decode cL_law 292 = .ok (.iadd, 1) := by decide +kernel
theorem dL_law_293 : decode cL_law 293 = .ok (.iaload, 1) := by decide +kernel
theorem dL_law_294 : decode cL_law 294 = .ok (.invokevirtual 31, 3) := by decide +kernel
theorem dL_law_297 : decode cL_law 297 = .ok (.if_icmp .eq 695, 3) := by decide +kernel
theorem dL_law_300 : decode cL_law 300 = .ok (.iconst 0, 1) := by decide +kernel
theorem dL_law_301 : decode cL_law 301 = .ok (.ireturn, 1) := by decide +kernel
theorem dL_law_302 : decode cL_law 302 = .ok (.aload_n 1, 1) := by decide +kernel
theorem dL_law_303 : decode cL_law 303 = .ok (.aload_n 0, 1) := by decide +kernel
theorem dL_law_304 : decode cL_law 304 = .ok (.iload_n 3, 1) := by decide +kernel
theorem dL_law_305 : decode cL_law 305 = .ok (.iconst 1, 1) := by decide +kernel
theorem dL_law_306 : decode cL_law 306 = .ok (.iadd, 1) := by decide +kernel
theorem dL_law_307 : decode cL_law 307 = .ok (.iaload, 1) := by decide +kernel
theorem dL_law_308 : decode cL_law 308 = .ok (.aload_n 0, 1) := by decide +kernel
theorem dL_law_309 : decode cL_law 309 = .ok (.iload_n 3, 1) := by decide +kernel
theorem dL_law_310 : decode cL_law 310 = .ok (.iconst 2, 1) := by decide +kernel
theorem dL_law_311 : decode cL_law 311 = .ok (.iadd, 1) := by decide +kernel
theorem dL_law_312 : decode cL_law 312 = .ok (.iaload, 1) := by decide +kernel
theorem dL_law_313 : decode cL_law 313 = .ok (.invokevirtual 32, 3) := by decide +kernel
theorem dL_law_316 : decode cL_law 316 = .ok (.aload_n 2, 1) := by decide +kernel
theorem dL_law_317 : decode cL_law 317 = .ok (.aload_n 0, 1) := by decide +kernel
theorem dL_law_318 : decode cL_law 318 = .ok (.iload_n 3, 1) := by decide +kernel
theorem dL_law_319 : decode cL_law 319 = .ok (.iconst 1, 1) := by decide +kernel
theorem dL_law_320 : decode cL_law 320 = .ok (.iadd, 1) := by decide +kernel
theorem dL_law_321 : decode cL_law 321 = .ok (.iaload, 1) := by decide +kernel
theorem dL_law_322 : decode cL_law 322 = .ok (.aload_n 0, 1) := by decide +kernel
theorem dL_law_323 : decode cL_law 323 = .ok (.iload_n 3, 1) := by decide +kernel
theorem dL_law_324 : decode cL_law 324 = .ok (.iconst 2, 1) := by decide +kernel
theorem dL_law_325 : decode cL_law 325 = .ok (.iadd, 1) := by decide +kernel
theorem dL_law_326 : decode cL_law 326 = .ok (.iaload, 1) := by decide +kernel
theorem dL_law_327 : decode cL_law 327 = .ok (.invokevirtual 35, 3) := by decide +kernel
theorem dL_law_330 : decode cL_law 330 = .ok (.if_icmp .eq 662, 3) := by decide +kernel
theorem dL_law_333 : decode cL_law 333 = .ok (.iconst 0, 1) := by decide +kernel
theorem dL_law_334 : decode cL_law 334 = .ok (.ireturn, 1) := by decide +kernel
theorem dL_law_335 : decode cL_law 335 = .ok (.aload_n 1, 1) := by decide +kernel
theorem dL_law_336 : decode cL_law 336 = .ok (.aload_n 0, 1) := by decide +kernel
theorem dL_law_337 : decode cL_law 337 = .ok (.iload_n 3, 1) := by decide +kernel
theorem dL_law_338 : decode cL_law 338 = .ok (.iconst 1, 1) := by decide +kernel
theorem dL_law_339 : decode cL_law 339 = .ok (.iadd, 1) := by decide +kernel
theorem dL_law_340 : decode cL_law 340 = .ok (.iaload, 1) := by decide +kernel
theorem dL_law_341 : decode cL_law 341 = .ok (.aload_n 0, 1) := by decide +kernel
theorem dL_law_342 : decode cL_law 342 = .ok (.iload_n 3, 1) := by decide +kernel
theorem dL_law_343 : decode cL_law 343 = .ok (.iconst 2, 1) := by decide +kernel
theorem dL_law_344 : decode cL_law 344 = .ok (.iadd, 1) := by decide +kernel
theorem dL_law_345 : decode cL_law 345 = .ok (.iaload, 1) := by decide +kernel
theorem dL_law_346 : decode cL_law 346 = .ok (.aload_n 0, 1) := by decide +kernel
theorem dL_law_347 : decode cL_law 347 = .ok (.iload_n 3, 1) := by decide +kernel
theorem dL_law_348 : decode cL_law 348 = .ok (.iconst 3, 1) := by decide +kernel
theorem dL_law_349 : decode cL_law 349 = .ok (.iadd, 1) := by decide +kernel
theorem dL_law_350 : decode cL_law 350 = .ok (.iaload, 1) := by decide +kernel
theorem dL_law_351 : decode cL_law 351 = .ok (.invokevirtual 36, 3) := by decide +kernel
theorem dL_law_354 : decode cL_law 354 = .ok (.aload_n 2, 1) := by decide +kernel
theorem dL_law_355 : decode cL_law 355 = .ok (.aload_n 0, 1) := by decide +kernel
theorem dL_law_356 : decode cL_law 356 = .ok (.iload_n 3, 1) := by decide +kernel
theorem dL_law_357 : decode cL_law 357 = .ok (.iconst 1, 1) := by decide +kernel
theorem dL_law_358 : decode cL_law 358 = .ok (.iadd, 1) := by decide +kernel
theorem dL_law_359 : decode cL_law 359 = .ok (.iaload, 1) := by decide +kernel
theorem dL_law_360 : decode cL_law 360 = .ok (.aload_n 0, 1) := by decide +kernel
theorem dL_law_361 : decode cL_law 361 = .ok (.iload_n 3, 1) := by decide +kernel
theorem dL_law_362 : decode cL_law 362 = .ok (.iconst 2, 1) := by decide +kernel
theorem dL_law_363 : decode cL_law 363 = .ok (.iadd, 1) := by decide +kernel
theorem dL_law_364 : decode cL_law 364 = .ok (.iaload, 1) := by decide +kernel
theorem dL_law_365 : decode cL_law 365 = .ok (.aload_n 0, 1) := by decide +kernel
theorem dL_law_366 : decode cL_law 366 = .ok (.iload_n 3, 1) := by decide +kernel
theorem dL_law_367 : decode cL_law 367 = .ok (.iconst 3, 1) := by decide +kernel
theorem dL_law_368 : decode cL_law 368 = .ok (.iadd, 1) := by decide +kernel
theorem dL_law_369 : decode cL_law 369 = .ok (.iaload, 1) := by decide +kernel
theorem dL_law_370 : decode cL_law 370 = .ok (.invokevirtual 39, 3) := by decide +kernel
theorem dL_law_373 : decode cL_law 373 = .ok (.if_icmp .eq 619, 3) := by decide +kernel
theorem dL_law_376 : decode cL_law 376 = .ok (.iconst 0, 1) := by decide +kernel
theorem dL_law_377 : decode cL_law 377 = .ok (.ireturn, 1) := by decide +kernel
theorem dL_law_378 : decode cL_law 378 = .ok (.aload_n 1, 1) := by decide +kernel
theorem dL_law_379 : decode cL_law 379 = .ok (.aload_n 0, 1) := by decide +kernel
theorem dL_law_380 : decode cL_law 380 = .ok (.iload_n 3, 1) := by decide +kernel
theorem dL_law_381 : decode cL_law 381 = .ok (.iconst 1, 1) := by decide +kernel
theorem dL_law_382 : decode cL_law 382 = .ok (.iadd, 1) := by decide +kernel
theorem dL_law_383 : decode cL_law 383 = .ok (.iaload, 1) := by decide +kernel
theorem dL_law_384 : decode cL_law 384 = .ok (.aload_n 0, 1) := by decide +kernel
theorem dL_law_385 : decode cL_law 385 = .ok (.iload_n 3, 1) := by decide +kernel
theorem dL_law_386 : decode cL_law 386 = .ok (.iconst 2, 1) := by decide +kernel
theorem dL_law_387 : decode cL_law 387 = .ok (.iadd, 1) := by decide +kernel
theorem dL_law_388 : decode cL_law 388 = .ok (.iaload, 1) := by decide +kernel
theorem dL_law_389 : decode cL_law 389 = .ok (.invokevirtual 40, 3) := by decide +kernel
theorem dL_law_392 : decode cL_law 392 = .ok (.aload_n 2, 1) := by decide +kernel
theorem dL_law_393 : decode cL_law 393 = .ok (.aload_n 0, 1) := by decide +kernel
theorem dL_law_394 : decode cL_law 394 = .ok (.iload_n 3, 1) := by decide +kernel
theorem dL_law_395 : decode cL_law 395 = .ok (.iconst 1, 1) := by decide +kernel
theorem dL_law_396 : decode cL_law 396 = .ok (.iadd, 1) := by decide +kernel
theorem dL_law_397 : decode cL_law 397 = .ok (.iaload, 1) := by decide +kernel
theorem dL_law_398 : decode cL_law 398 = .ok (.aload_n 0, 1) := by decide +kernel
theorem dL_law_399 : decode cL_law 399 = .ok (.iload_n 3, 1) := by decide +kernel
theorem dL_law_400 : decode cL_law 400 = .ok (.iconst 2, 1) := by decide +kernel
theorem dL_law_401 : decode cL_law 401 = .ok (.iadd, 1) := by decide +kernel
theorem dL_law_402 : decode cL_law 402 = .ok (.iaload, 1) := by decide +kernel
theorem dL_law_403 : decode cL_law 403 = .ok (.invokevirtual 43, 3) := by decide +kernel
theorem dL_law_406 : decode cL_law 406 = .ok (.if_icmp .eq 586, 3) := by decide +kernel
theorem dL_law_409 : decode cL_law 409 = .ok (.iconst 0, 1) := by decide +kernel
theorem dL_law_410 : decode cL_law 410 = .ok (.ireturn, 1) := by decide +kernel
theorem dL_law_411 : decode cL_law 411 = .ok (.aload_n 1, 1) := by decide +kernel
theorem dL_law_412 : decode cL_law 412 = .ok (.aload_n 0, 1) := by decide +kernel
theorem dL_law_413 : decode cL_law 413 = .ok (.iload_n 3, 1) := by decide +kernel
theorem dL_law_414 : decode cL_law 414 = .ok (.iconst 1, 1) := by decide +kernel
theorem dL_law_415 : decode cL_law 415 = .ok (.iadd, 1) := by decide +kernel
theorem dL_law_416 : decode cL_law 416 = .ok (.iaload, 1) := by decide +kernel
theorem dL_law_417 : decode cL_law 417 = .ok (.aload_n 0, 1) := by decide +kernel
theorem dL_law_418 : decode cL_law 418 = .ok (.iload_n 3, 1) := by decide +kernel
theorem dL_law_419 : decode cL_law 419 = .ok (.iconst 2, 1) := by decide +kernel
theorem dL_law_420 : decode cL_law 420 = .ok (.iadd, 1) := by decide +kernel
theorem dL_law_421 : decode cL_law 421 = .ok (.iaload, 1) := by decide +kernel
theorem dL_law_422 : decode cL_law 422 = .ok (.aload_n 0, 1) := by decide +kernel
theorem dL_law_423 : decode cL_law 423 = .ok (.iload_n 3, 1) := by decide +kernel
theorem dL_law_424 : decode cL_law 424 = .ok (.iconst 3, 1) := by decide +kernel
theorem dL_law_425 : decode cL_law 425 = .ok (.iadd, 1) := by decide +kernel
theorem dL_law_426 : decode cL_law 426 = .ok (.iaload, 1) := by decide +kernel
theorem dL_law_427 : decode cL_law 427 = .ok (.aload_n 0, 1) := by decide +kernel
theorem dL_law_428 : decode cL_law 428 = .ok (.iload_n 3, 1) := by decide +kernel
theorem dL_law_429 : decode cL_law 429 = .ok (.iconst 4, 1) := by decide +kernel
theorem dL_law_430 : decode cL_law 430 = .ok (.iadd, 1) := by decide +kernel
theorem dL_law_431 : decode cL_law 431 = .ok (.iaload, 1) := by decide +kernel
theorem dL_law_432 : decode cL_law 432 = .ok (.aload_n 0, 1) := by decide +kernel
theorem dL_law_433 : decode cL_law 433 = .ok (.iload_n 3, 1) := by decide +kernel
theorem dL_law_434 : decode cL_law 434 = .ok (.iconst 5, 1) := by decide +kernel
theorem dL_law_435 : decode cL_law 435 = .ok (.iadd, 1) := by decide +kernel
theorem dL_law_436 : decode cL_law 436 = .ok (.iaload, 1) := by decide +kernel
theorem dL_law_437 : decode cL_law 437 = .ok (.aload_n 0, 1) := by decide +kernel
theorem dL_law_438 : decode cL_law 438 = .ok (.iload_n 3, 1) := by decide +kernel
theorem dL_law_439 : decode cL_law 439 = .ok (.bipush 6, 2) := by decide +kernel
theorem dL_law_441 : decode cL_law 441 = .ok (.iadd, 1) := by decide +kernel
theorem dL_law_442 : decode cL_law 442 = .ok (.iaload, 1) := by decide +kernel
theorem dL_law_443 : decode cL_law 443 = .ok (.invokevirtual 44, 3) := by decide +kernel
theorem dL_law_446 : decode cL_law 446 = .ok (.aload_n 2, 1) := by decide +kernel
theorem dL_law_447 : decode cL_law 447 = .ok (.aload_n 0, 1) := by decide +kernel
theorem dL_law_448 : decode cL_law 448 = .ok (.iload_n 3, 1) := by decide +kernel
theorem dL_law_449 : decode cL_law 449 = .ok (.iconst 1, 1) := by decide +kernel
theorem dL_law_450 : decode cL_law 450 = .ok (.iadd, 1) := by decide +kernel
theorem dL_law_451 : decode cL_law 451 = .ok (.iaload, 1) := by decide +kernel
theorem dL_law_452 : decode cL_law 452 = .ok (.aload_n 0, 1) := by decide +kernel
theorem dL_law_453 : decode cL_law 453 = .ok (.iload_n 3, 1) := by decide +kernel
theorem dL_law_454 : decode cL_law 454 = .ok (.iconst 2, 1) := by decide +kernel
theorem dL_law_455 : decode cL_law 455 = .ok (.iadd, 1) := by decide +kernel
theorem dL_law_456 : decode cL_law 456 = .ok (.iaload, 1) := by decide +kernel
theorem dL_law_457 : decode cL_law 457 = .ok (.aload_n 0, 1) := by decide +kernel
theorem dL_law_458 : decode cL_law 458 = .ok (.iload_n 3, 1) := by decide +kernel
theorem dL_law_459 : decode cL_law 459 = .ok (.iconst 3, 1) := by decide +kernel
theorem dL_law_460 : decode cL_law 460 = .ok (.iadd, 1) := by decide +kernel
theorem dL_law_461 : decode cL_law 461 = .ok (.iaload, 1) := by decide +kernel
theorem dL_law_462 : decode cL_law 462 = .ok (.aload_n 0, 1) := by decide +kernel
theorem dL_law_463 : decode cL_law 463 = .ok (.iload_n 3, 1) := by decide +kernel
theorem dL_law_464 : decode cL_law 464 = .ok (.iconst 4, 1) := by decide +kernel
theorem dL_law_465 : decode cL_law 465 = .ok (.iadd, 1) := by decide +kernel
theorem dL_law_466 : decode cL_law 466 = .ok (.iaload, 1) := by decide +kernel
theorem dL_law_467 : decode cL_law 467 = .ok (.aload_n 0, 1) := by decide +kernel
theorem dL_law_468 : decode cL_law 468 = .ok (.iload_n 3, 1) := by decide +kernel
theorem dL_law_469 : decode cL_law 469 = .ok (.iconst 5, 1) := by decide +kernel
theorem dL_law_470 : decode cL_law 470 = .ok (.iadd, 1) := by decide +kernel
theorem dL_law_471 : decode cL_law 471 = .ok (.iaload, 1) := by decide +kernel
theorem dL_law_472 : decode cL_law 472 = .ok (.aload_n 0, 1) := by decide +kernel
theorem dL_law_473 : decode cL_law 473 = .ok (.iload_n 3, 1) := by decide +kernel
theorem dL_law_474 : decode cL_law 474 = .ok (.bipush 6, 2) := by decide +kernel
theorem dL_law_476 : decode cL_law 476 = .ok (.iadd, 1) := by decide +kernel
theorem dL_law_477 : decode cL_law 477 = .ok (.iaload, 1) := by decide +kernel
theorem dL_law_478 : decode cL_law 478 = .ok (.invokevirtual 48, 3) := by decide +kernel
theorem dL_law_481 : decode cL_law 481 = .ok (.if_icmp .eq 511, 3) := by decide +kernel
theorem dL_law_484 : decode cL_law 484 = .ok (.iconst 0, 1) := by decide +kernel
theorem dL_law_485 : decode cL_law 485 = .ok (.ireturn, 1) := by decide +kernel
theorem dL_law_486 : decode cL_law 486 = .ok (.aload_n 1, 1) := by decide +kernel
theorem dL_law_487 : decode cL_law 487 = .ok (.aload_n 0, 1) := by decide +kernel
theorem dL_law_488 : decode cL_law 488 = .ok (.iload_n 3, 1) := by decide +kernel
theorem dL_law_489 : decode cL_law 489 = .ok (.iconst 1, 1) := by decide +kernel
theorem dL_law_490 : decode cL_law 490 = .ok (.iadd, 1) := by decide +kernel
theorem dL_law_491 : decode cL_law 491 = .ok (.iaload, 1) := by decide +kernel
theorem dL_law_492 : decode cL_law 492 = .ok (.aload_n 0, 1) := by decide +kernel
theorem dL_law_493 : decode cL_law 493 = .ok (.iload_n 3, 1) := by decide +kernel
theorem dL_law_494 : decode cL_law 494 = .ok (.iconst 2, 1) := by decide +kernel
theorem dL_law_495 : decode cL_law 495 = .ok (.iadd, 1) := by decide +kernel
theorem dL_law_496 : decode cL_law 496 = .ok (.iaload, 1) := by decide +kernel
theorem dL_law_497 : decode cL_law 497 = .ok (.aload_n 0, 1) := by decide +kernel
theorem dL_law_498 : decode cL_law 498 = .ok (.iload_n 3, 1) := by decide +kernel
theorem dL_law_499 : decode cL_law 499 = .ok (.iconst 3, 1) := by decide +kernel
theorem dL_law_500 : decode cL_law 500 = .ok (.iadd, 1) := by decide +kernel
theorem dL_law_501 : decode cL_law 501 = .ok (.iaload, 1) := by decide +kernel
theorem dL_law_502 : decode cL_law 502 = .ok (.invokevirtual 49, 3) := by decide +kernel
theorem dL_law_505 : decode cL_law 505 = .ok (.aload_n 2, 1) := by decide +kernel
theorem dL_law_506 : decode cL_law 506 = .ok (.aload_n 0, 1) := by decide +kernel
theorem dL_law_507 : decode cL_law 507 = .ok (.iload_n 3, 1) := by decide +kernel
theorem dL_law_508 : decode cL_law 508 = .ok (.iconst 1, 1) := by decide +kernel
theorem dL_law_509 : decode cL_law 509 = .ok (.iadd, 1) := by decide +kernel
theorem dL_law_510 : decode cL_law 510 = .ok (.iaload, 1) := by decide +kernel
theorem dL_law_511 : decode cL_law 511 = .ok (.aload_n 0, 1) := by decide +kernel
theorem dL_law_512 : decode cL_law 512 = .ok (.iload_n 3, 1) := by decide +kernel
theorem dL_law_513 : decode cL_law 513 = .ok (.iconst 2, 1) := by decide +kernel
theorem dL_law_514 : decode cL_law 514 = .ok (.iadd, 1) := by decide +kernel
theorem dL_law_515 : decode cL_law 515 = .ok (.iaload, 1) := by decide +kernel
theorem dL_law_516 : decode cL_law 516 = .ok (.aload_n 0, 1) := by decide +kernel
theorem dL_law_517 : decode cL_law 517 = .ok (.iload_n 3, 1) := by decide +kernel
theorem dL_law_518 : decode cL_law 518 = .ok (.iconst 3, 1) := by decide +kernel
theorem dL_law_519 : decode cL_law 519 = .ok (.iadd, 1) := by decide +kernel
theorem dL_law_520 : decode cL_law 520 = .ok (.iaload, 1) := by decide +kernel
theorem dL_law_521 : decode cL_law 521 = .ok (.invokevirtual 52, 3) := by decide +kernel
theorem dL_law_524 : decode cL_law 524 = .ok (.if_icmp .eq 468, 3) := by decide +kernel
theorem dL_law_527 : decode cL_law 527 = .ok (.iconst 0, 1) := by decide +kernel
theorem dL_law_528 : decode cL_law 528 = .ok (.ireturn, 1) := by decide +kernel
theorem dL_law_529 : decode cL_law 529 = .ok (.aload_n 1, 1) := by decide +kernel
theorem dL_law_530 : decode cL_law 530 = .ok (.invokevirtual 53, 3) := by decide +kernel
theorem dL_law_533 : decode cL_law 533 = .ok (.aload_n 2, 1) := by decide +kernel
theorem dL_law_534 : decode cL_law 534 = .ok (.invokevirtual 57, 3) := by decide +kernel
theorem dL_law_537 : decode cL_law 537 = .ok (.if_icmp .eq 455, 3) := by decide +kernel
theorem dL_law_540 : decode cL_law 540 = .ok (.iconst 0, 1) := by decide +kernel
theorem dL_law_541 : decode cL_law 541 = .ok (.ireturn, 1) := by decide +kernel
theorem dL_law_542 : decode cL_law 542 = .ok (.aload_n 1, 1) := by decide +kernel
theorem dL_law_543 : decode cL_law 543 = .ok (.aload_n 0, 1) := by decide +kernel
theorem dL_law_544 : decode cL_law 544 = .ok (.iload_n 3, 1) := by decide +kernel
theorem dL_law_545 : decode cL_law 545 = .ok (.iconst 1, 1) := by decide +kernel
theorem dL_law_546 : decode cL_law 546 = .ok (.iadd, 1) := by decide +kernel
theorem dL_law_547 : decode cL_law 547 = .ok (.iaload, 1) := by decide +kernel
theorem dL_law_548 : decode cL_law 548 = .ok (.invokevirtual 58, 3) := by decide +kernel
theorem dL_law_551 : decode cL_law 551 = .ok (.aload_n 2, 1) := by decide +kernel
theorem dL_law_552 : decode cL_law 552 = .ok (.aload_n 0, 1) := by decide +kernel
theorem dL_law_553 : decode cL_law 553 = .ok (.iload_n 3, 1) := by decide +kernel
theorem dL_law_554 : decode cL_law 554 = .ok (.iconst 1, 1) := by decide +kernel
theorem dL_law_555 : decode cL_law 555 = .ok (.iadd, 1) := by decide +kernel
theorem dL_law_556 : decode cL_law 556 = .ok (.iaload, 1) := by decide +kernel
theorem dL_law_557 : decode cL_law 557 = .ok (.invokevirtual 61, 3) := by decide +kernel
theorem dL_law_560 : decode cL_law 560 = .ok (.if_icmp .eq 432, 3) := by decide +kernel
theorem dL_law_563 : decode cL_law 563 = .ok (.iconst 0, 1) := by decide +kernel
theorem dL_law_564 : decode cL_law 564 = .ok (.ireturn, 1) := by decide +kernel
theorem dL_law_565 : decode cL_law 565 = .ok (.aload_n 1, 1) := by decide +kernel
theorem dL_law_566 : decode cL_law 566 = .ok (.aload_n 0, 1) := by decide +kernel
theorem dL_law_567 : decode cL_law 567 = .ok (.iload_n 3, 1) := by decide +kernel
theorem dL_law_568 : decode cL_law 568 = .ok (.iconst 1, 1) := by decide +kernel
theorem dL_law_569 : decode cL_law 569 = .ok (.iadd, 1) := by decide +kernel
theorem dL_law_570 : decode cL_law 570 = .ok (.iaload, 1) := by decide +kernel
theorem dL_law_571 : decode cL_law 571 = .ok (.aload_n 0, 1) := by decide +kernel
theorem dL_law_572 : decode cL_law 572 = .ok (.iload_n 3, 1) := by decide +kernel
theorem dL_law_573 : decode cL_law 573 = .ok (.iconst 2, 1) := by decide +kernel
theorem dL_law_574 : decode cL_law 574 = .ok (.iadd, 1) := by decide +kernel
theorem dL_law_575 : decode cL_law 575 = .ok (.iaload, 1) := by decide +kernel
theorem dL_law_576 : decode cL_law 576 = .ok (.invokevirtual 62, 3) := by decide +kernel
theorem dL_law_579 : decode cL_law 579 = .ok (.aload_n 2, 1) := by decide +kernel
theorem dL_law_580 : decode cL_law 580 = .ok (.aload_n 0, 1) := by decide +kernel
theorem dL_law_581 : decode cL_law 581 = .ok (.iload_n 3, 1) := by decide +kernel
theorem dL_law_582 : decode cL_law 582 = .ok (.iconst 1, 1) := by decide +kernel
theorem dL_law_583 : decode cL_law 583 = .ok (.iadd, 1) := by decide +kernel
theorem dL_law_584 : decode cL_law 584 = .ok (.iaload, 1) := by decide +kernel
theorem dL_law_585 : decode cL_law 585 = .ok (.aload_n 0, 1) := by decide +kernel
theorem dL_law_586 : decode cL_law 586 = .ok (.iload_n 3, 1) := by decide +kernel
theorem dL_law_587 : decode cL_law 587 = .ok (.iconst 2, 1) := by decide +kernel
theorem dL_law_588 : decode cL_law 588 = .ok (.iadd, 1) := by decide +kernel
theorem dL_law_589 : decode cL_law 589 = .ok (.iaload, 1) := by decide +kernel
theorem dL_law_590 : decode cL_law 590 = .ok (.invokevirtual 65, 3) := by decide +kernel
theorem dL_law_593 : decode cL_law 593 = .ok (.if_icmp .eq 399, 3) := by decide +kernel
theorem dL_law_596 : decode cL_law 596 = .ok (.iconst 0, 1) := by decide +kernel
theorem dL_law_597 : decode cL_law 597 = .ok (.ireturn, 1) := by decide +kernel
theorem dL_law_598 : decode cL_law 598 = .ok (.aload_n 1, 1) := by decide +kernel
theorem dL_law_599 : decode cL_law 599 = .ok (.aload_n 0, 1) := by decide +kernel
theorem dL_law_600 : decode cL_law 600 = .ok (.iload_n 3, 1) := by decide +kernel
theorem dL_law_601 : decode cL_law 601 = .ok (.iconst 1, 1) := by decide +kernel
theorem dL_law_602 : decode cL_law 602 = .ok (.iadd, 1) := by decide +kernel
theorem dL_law_603 : decode cL_law 603 = .ok (.iaload, 1) := by decide +kernel
theorem dL_law_604 : decode cL_law 604 = .ok (.aload_n 0, 1) := by decide +kernel
theorem dL_law_605 : decode cL_law 605 = .ok (.iload_n 3, 1) := by decide +kernel
theorem dL_law_606 : decode cL_law 606 = .ok (.iconst 2, 1) := by decide +kernel
theorem dL_law_607 : decode cL_law 607 = .ok (.iadd, 1) := by decide +kernel
theorem dL_law_608 : decode cL_law 608 = .ok (.iaload, 1) := by decide +kernel
theorem dL_law_609 : decode cL_law 609 = .ok (.invokevirtual 66, 3) := by decide +kernel
theorem dL_law_612 : decode cL_law 612 = .ok (.aload_n 2, 1) := by decide +kernel
theorem dL_law_613 : decode cL_law 613 = .ok (.aload_n 0, 1) := by decide +kernel
theorem dL_law_614 : decode cL_law 614 = .ok (.iload_n 3, 1) := by decide +kernel
theorem dL_law_615 : decode cL_law 615 = .ok (.iconst 1, 1) := by decide +kernel
theorem dL_law_616 : decode cL_law 616 = .ok (.iadd, 1) := by decide +kernel
theorem dL_law_617 : decode cL_law 617 = .ok (.iaload, 1) := by decide +kernel
theorem dL_law_618 : decode cL_law 618 = .ok (.aload_n 0, 1) := by decide +kernel
theorem dL_law_619 : decode cL_law 619 = .ok (.iload_n 3, 1) := by decide +kernel
theorem dL_law_620 : decode cL_law 620 = .ok (.iconst 2, 1) := by decide +kernel
theorem dL_law_621 : decode cL_law 621 = .ok (.iadd, 1) := by decide +kernel
theorem dL_law_622 : decode cL_law 622 = .ok (.iaload, 1) := by decide +kernel
theorem dL_law_623 : decode cL_law 623 = .ok (.invokevirtual 69, 3) := by decide +kernel
theorem dL_law_626 : decode cL_law 626 = .ok (.if_icmp .eq 366, 3) := by decide +kernel
theorem dL_law_629 : decode cL_law 629 = .ok (.iconst 0, 1) := by decide +kernel
theorem dL_law_630 : decode cL_law 630 = .ok (.ireturn, 1) := by decide +kernel
theorem dL_law_631 : decode cL_law 631 = .ok (.aload_n 1, 1) := by decide +kernel
theorem dL_law_632 : decode cL_law 632 = .ok (.aload_n 0, 1) := by decide +kernel
theorem dL_law_633 : decode cL_law 633 = .ok (.iload_n 3, 1) := by decide +kernel
theorem dL_law_634 : decode cL_law 634 = .ok (.iconst 1, 1) := by decide +kernel
theorem dL_law_635 : decode cL_law 635 = .ok (.iadd, 1) := by decide +kernel
theorem dL_law_636 : decode cL_law 636 = .ok (.iaload, 1) := by decide +kernel
theorem dL_law_637 : decode cL_law 637 = .ok (.invokevirtual 70, 3) := by decide +kernel
theorem dL_law_640 : decode cL_law 640 = .ok (.aload_n 2, 1) := by decide +kernel
theorem dL_law_641 : decode cL_law 641 = .ok (.aload_n 0, 1) := by decide +kernel
theorem dL_law_642 : decode cL_law 642 = .ok (.iload_n 3, 1) := by decide +kernel
theorem dL_law_643 : decode cL_law 643 = .ok (.iconst 1, 1) := by decide +kernel
theorem dL_law_644 : decode cL_law 644 = .ok (.iadd, 1) := by decide +kernel
theorem dL_law_645 : decode cL_law 645 = .ok (.iaload, 1) := by decide +kernel
theorem dL_law_646 : decode cL_law 646 = .ok (.invokevirtual 73, 3) := by decide +kernel
theorem dL_law_649 : decode cL_law 649 = .ok (.if_icmp .eq 343, 3) := by decide +kernel
theorem dL_law_652 : decode cL_law 652 = .ok (.iconst 0, 1) := by decide +kernel
theorem dL_law_653 : decode cL_law 653 = .ok (.ireturn, 1) := by decide +kernel
theorem dL_law_654 : decode cL_law 654 = .ok (.aload_n 1, 1) := by decide +kernel
theorem dL_law_655 : decode cL_law 655 = .ok (.aload_n 0, 1) := by decide +kernel
theorem dL_law_656 : decode cL_law 656 = .ok (.iload_n 3, 1) := by decide +kernel
theorem dL_law_657 : decode cL_law 657 = .ok (.iconst 1, 1) := by decide +kernel
theorem dL_law_658 : decode cL_law 658 = .ok (.iadd, 1) := by decide +kernel
theorem dL_law_659 : decode cL_law 659 = .ok (.iaload, 1) := by decide +kernel
theorem dL_law_660 : decode cL_law 660 = .ok (.invokevirtual 74, 3) := by decide +kernel
theorem dL_law_663 : decode cL_law 663 = .ok (.aload_n 2, 1) := by decide +kernel
theorem dL_law_664 : decode cL_law 664 = .ok (.aload_n 0, 1) := by decide +kernel
theorem dL_law_665 : decode cL_law 665 = .ok (.iload_n 3, 1) := by decide +kernel
theorem dL_law_666 : decode cL_law 666 = .ok (.iconst 1, 1) := by decide +kernel
theorem dL_law_667 : decode cL_law 667 = .ok (.iadd, 1) := by decide +kernel
theorem dL_law_668 : decode cL_law 668 = .ok (.iaload, 1) := by decide +kernel
theorem dL_law_669 : decode cL_law 669 = .ok (.invokevirtual 77, 3) := by decide +kernel
theorem dL_law_672 : decode cL_law 672 = .ok (.if_icmp .eq 320, 3) := by decide +kernel
theorem dL_law_675 : decode cL_law 675 = .ok (.iconst 0, 1) := by decide +kernel
theorem dL_law_676 : decode cL_law 676 = .ok (.ireturn, 1) := by decide +kernel
theorem dL_law_677 : decode cL_law 677 = .ok (.aload_n 1, 1) := by decide +kernel
theorem dL_law_678 : decode cL_law 678 = .ok (.invokevirtual 78, 3) := by decide +kernel
theorem dL_law_681 : decode cL_law 681 = .ok (.aload_n 2, 1) := by decide +kernel
theorem dL_law_682 : decode cL_law 682 = .ok (.invokevirtual 81, 3) := by decide +kernel
theorem dL_law_685 : decode cL_law 685 = .ok (.if_icmp .eq 307, 3) := by decide +kernel
theorem dL_law_688 : decode cL_law 688 = .ok (.iconst 0, 1) := by decide +kernel
theorem dL_law_689 : decode cL_law 689 = .ok (.ireturn, 1) := by decide +kernel
theorem dL_law_690 : decode cL_law 690 = .ok (.aload_n 1, 1) := by decide +kernel
theorem dL_law_691 : decode cL_law 691 = .ok (.aload_n 0, 1) := by decide +kernel
theorem dL_law_692 : decode cL_law 692 = .ok (.iload_n 3, 1) := by decide +kernel
theorem dL_law_693 : decode cL_law 693 = .ok (.iconst 1, 1) := by decide +kernel
theorem dL_law_694 : decode cL_law 694 = .ok (.iadd, 1) := by decide +kernel
theorem dL_law_695 : decode cL_law 695 = .ok (.iaload, 1) := by decide +kernel
theorem dL_law_696 : decode cL_law 696 = .ok (.invokevirtual 82, 3) := by decide +kernel
theorem dL_law_699 : decode cL_law 699 = .ok (.aload_n 2, 1) := by decide +kernel
theorem dL_law_700 : decode cL_law 700 = .ok (.aload_n 0, 1) := by decide +kernel
theorem dL_law_701 : decode cL_law 701 = .ok (.iload_n 3, 1) := by decide +kernel
theorem dL_law_702 : decode cL_law 702 = .ok (.iconst 1, 1) := by decide +kernel
theorem dL_law_703 : decode cL_law 703 = .ok (.iadd, 1) := by decide +kernel
theorem dL_law_704 : decode cL_law 704 = .ok (.iaload, 1) := by decide +kernel
theorem dL_law_705 : decode cL_law 705 = .ok (.invokevirtual 85, 3) := by decide +kernel
theorem dL_law_708 : decode cL_law 708 = .ok (.if_icmp .eq 284, 3) := by decide +kernel
theorem dL_law_711 : decode cL_law 711 = .ok (.iconst 0, 1) := by decide +kernel
theorem dL_law_712 : decode cL_law 712 = .ok (.ireturn, 1) := by decide +kernel
theorem dL_law_713 : decode cL_law 713 = .ok (.aload_n 1, 1) := by decide +kernel
theorem dL_law_714 : decode cL_law 714 = .ok (.invokevirtual 86, 3) := by decide +kernel
theorem dL_law_717 : decode cL_law 717 = .ok (.aload_n 2, 1) := by decide +kernel
theorem dL_law_718 : decode cL_law 718 = .ok (.invokevirtual 89, 3) := by decide +kernel
theorem dL_law_721 : decode cL_law 721 = .ok (.if_icmp .eq 271, 3) := by decide +kernel
theorem dL_law_724 : decode cL_law 724 = .ok (.iconst 0, 1) := by decide +kernel
theorem dL_law_725 : decode cL_law 725 = .ok (.ireturn, 1) := by decide +kernel
theorem dL_law_726 : decode cL_law 726 = .ok (.aload_n 1, 1) := by decide +kernel
theorem dL_law_727 : decode cL_law 727 = .ok (.aload_n 0, 1) := by decide +kernel
theorem dL_law_728 : decode cL_law 728 = .ok (.iload_n 3, 1) := by decide +kernel
theorem dL_law_729 : decode cL_law 729 = .ok (.iconst 1, 1) := by decide +kernel
theorem dL_law_730 : decode cL_law 730 = .ok (.iadd, 1) := by decide +kernel
theorem dL_law_731 : decode cL_law 731 = .ok (.iaload, 1) := by decide +kernel
theorem dL_law_732 : decode cL_law 732 = .ok (.aload_n 0, 1) := by decide +kernel
theorem dL_law_733 : decode cL_law 733 = .ok (.iload_n 3, 1) := by decide +kernel
theorem dL_law_734 : decode cL_law 734 = .ok (.iconst 2, 1) := by decide +kernel
theorem dL_law_735 : decode cL_law 735 = .ok (.iadd, 1) := by decide +kernel
theorem dL_law_736 : decode cL_law 736 = .ok (.iaload, 1) := by decide +kernel
theorem dL_law_737 : decode cL_law 737 = .ok (.ifCond .eq 7, 3) := by decide +kernel
theorem dL_law_740 : decode cL_law 740 = .ok (.iconst 1, 1) := by decide +kernel
theorem dL_law_741 : decode cL_law 741 = .ok (.goto 4, 3) := by decide +kernel
theorem dL_law_744 : decode cL_law 744 = .ok (.iconst 0, 1) := by decide +kernel
theorem dL_law_745 : decode cL_law 745 = .ok (.invokevirtual 90, 3) := by decide +kernel
theorem dL_law_748 : decode cL_law 748 = .ok (.aload_n 2, 1) := by decide +kernel
theorem dL_law_749 : decode cL_law 749 = .ok (.aload_n 0, 1) := by decide +kernel
theorem dL_law_750 : decode cL_law 750 = .ok (.iload_n 3, 1) := by decide +kernel
theorem dL_law_751 : decode cL_law 751 = .ok (.iconst 1, 1) := by decide +kernel
theorem dL_law_752 : decode cL_law 752 = .ok (.iadd, 1) := by decide +kernel
theorem dL_law_753 : decode cL_law 753 = .ok (.iaload, 1) := by decide +kernel
theorem dL_law_754 : decode cL_law 754 = .ok (.aload_n 0, 1) := by decide +kernel
theorem dL_law_755 : decode cL_law 755 = .ok (.iload_n 3, 1) := by decide +kernel
theorem dL_law_756 : decode cL_law 756 = .ok (.iconst 2, 1) := by decide +kernel
theorem dL_law_757 : decode cL_law 757 = .ok (.iadd, 1) := by decide +kernel
theorem dL_law_758 : decode cL_law 758 = .ok (.iaload, 1) := by decide +kernel
theorem dL_law_759 : decode cL_law 759 = .ok (.ifCond .eq 7, 3) := by decide +kernel
theorem dL_law_762 : decode cL_law 762 = .ok (.iconst 1, 1) := by decide +kernel
theorem dL_law_763 : decode cL_law 763 = .ok (.goto 4, 3) := by decide +kernel
theorem dL_law_766 : decode cL_law 766 = .ok (.iconst 0, 1) := by decide +kernel
theorem dL_law_767 : decode cL_law 767 = .ok (.invokevirtual 94, 3) := by decide +kernel
theorem dL_law_770 : decode cL_law 770 = .ok (.if_icmp .eq 222, 3) := by decide +kernel
theorem dL_law_773 : decode cL_law 773 = .ok (.iconst 0, 1) := by decide +kernel
theorem dL_law_774 : decode cL_law 774 = .ok (.ireturn, 1) := by decide +kernel
theorem dL_law_775 : decode cL_law 775 = .ok (.aload_n 1, 1) := by decide +kernel
theorem dL_law_776 : decode cL_law 776 = .ok (.aload_n 0, 1) := by decide +kernel
theorem dL_law_777 : decode cL_law 777 = .ok (.iload_n 3, 1) := by decide +kernel
theorem dL_law_778 : decode cL_law 778 = .ok (.iconst 1, 1) := by decide +kernel
theorem dL_law_779 : decode cL_law 779 = .ok (.iadd, 1) := by decide +kernel
theorem dL_law_780 : decode cL_law 780 = .ok (.iaload, 1) := by decide +kernel
theorem dL_law_781 : decode cL_law 781 = .ok (.aload_n 0, 1) := by decide +kernel
theorem dL_law_782 : decode cL_law 782 = .ok (.iload_n 3, 1) := by decide +kernel
theorem dL_law_783 : decode cL_law 783 = .ok (.iconst 2, 1) := by decide +kernel
theorem dL_law_784 : decode cL_law 784 = .ok (.iadd, 1) := by decide +kernel
theorem dL_law_785 : decode cL_law 785 = .ok (.iaload, 1) := by decide +kernel
theorem dL_law_786 : decode cL_law 786 = .ok (.invokevirtual 95, 3) := by decide +kernel
theorem dL_law_789 : decode cL_law 789 = .ok (.aload_n 2, 1) := by decide +kernel
theorem dL_law_790 : decode cL_law 790 = .ok (.aload_n 0, 1) := by decide +kernel
theorem dL_law_791 : decode cL_law 791 = .ok (.iload_n 3, 1) := by decide +kernel
theorem dL_law_792 : decode cL_law 792 = .ok (.iconst 1, 1) := by decide +kernel
theorem dL_law_793 : decode cL_law 793 = .ok (.iadd, 1) := by decide +kernel
theorem dL_law_794 : decode cL_law 794 = .ok (.iaload, 1) := by decide +kernel
theorem dL_law_795 : decode cL_law 795 = .ok (.aload_n 0, 1) := by decide +kernel
theorem dL_law_796 : decode cL_law 796 = .ok (.iload_n 3, 1) := by decide +kernel
theorem dL_law_797 : decode cL_law 797 = .ok (.iconst 2, 1) := by decide +kernel
theorem dL_law_798 : decode cL_law 798 = .ok (.iadd, 1) := by decide +kernel
theorem dL_law_799 : decode cL_law 799 = .ok (.iaload, 1) := by decide +kernel
theorem dL_law_800 : decode cL_law 800 = .ok (.invokevirtual 98, 3) := by decide +kernel
theorem dL_law_803 : decode cL_law 803 = .ok (.if_icmp .eq 189, 3) := by decide +kernel
theorem dL_law_806 : decode cL_law 806 = .ok (.iconst 0, 1) := by decide +kernel
theorem dL_law_807 : decode cL_law 807 = .ok (.ireturn, 1) := by decide +kernel
theorem dL_law_808 : decode cL_law 808 = .ok (.aload_n 1, 1) := by decide +kernel
theorem dL_law_809 : decode cL_law 809 = .ok (.aload_n 0, 1) := by decide +kernel
theorem dL_law_810 : decode cL_law 810 = .ok (.iload_n 3, 1) := by decide +kernel
theorem dL_law_811 : decode cL_law 811 = .ok (.iconst 1, 1) := by decide +kernel
theorem dL_law_812 : decode cL_law 812 = .ok (.iadd, 1) := by decide +kernel
theorem dL_law_813 : decode cL_law 813 = .ok (.iaload, 1) := by decide +kernel
theorem dL_law_814 : decode cL_law 814 = .ok (.invokevirtual 99, 3) := by decide +kernel
theorem dL_law_817 : decode cL_law 817 = .ok (.aload_n 2, 1) := by decide +kernel
theorem dL_law_818 : decode cL_law 818 = .ok (.aload_n 0, 1) := by decide +kernel
theorem dL_law_819 : decode cL_law 819 = .ok (.iload_n 3, 1) := by decide +kernel
theorem dL_law_820 : decode cL_law 820 = .ok (.iconst 1, 1) := by decide +kernel
theorem dL_law_821 : decode cL_law 821 = .ok (.iadd, 1) := by decide +kernel
theorem dL_law_822 : decode cL_law 822 = .ok (.iaload, 1) := by decide +kernel
theorem dL_law_823 : decode cL_law 823 = .ok (.invokevirtual 102, 3) := by decide +kernel
theorem dL_law_826 : decode cL_law 826 = .ok (.if_icmp .eq 166, 3) := by decide +kernel
theorem dL_law_829 : decode cL_law 829 = .ok (.iconst 0, 1) := by decide +kernel
theorem dL_law_830 : decode cL_law 830 = .ok (.ireturn, 1) := by decide +kernel
theorem dL_law_831 : decode cL_law 831 = .ok (.aload_n 1, 1) := by decide +kernel
theorem dL_law_832 : decode cL_law 832 = .ok (.aload_n 0, 1) := by decide +kernel
theorem dL_law_833 : decode cL_law 833 = .ok (.iload_n 3, 1) := by decide +kernel
theorem dL_law_834 : decode cL_law 834 = .ok (.iconst 1, 1) := by decide +kernel
theorem dL_law_835 : decode cL_law 835 = .ok (.iadd, 1) := by decide +kernel
theorem dL_law_836 : decode cL_law 836 = .ok (.iaload, 1) := by decide +kernel
theorem dL_law_837 : decode cL_law 837 = .ok (.aload_n 0, 1) := by decide +kernel
theorem dL_law_838 : decode cL_law 838 = .ok (.iload_n 3, 1) := by decide +kernel
theorem dL_law_839 : decode cL_law 839 = .ok (.iconst 2, 1) := by decide +kernel
theorem dL_law_840 : decode cL_law 840 = .ok (.iadd, 1) := by decide +kernel
theorem dL_law_841 : decode cL_law 841 = .ok (.iaload, 1) := by decide +kernel
theorem dL_law_842 : decode cL_law 842 = .ok (.invokevirtual 103, 3) := by decide +kernel
theorem dL_law_845 : decode cL_law 845 = .ok (.aload_n 2, 1) := by decide +kernel
theorem dL_law_846 : decode cL_law 846 = .ok (.aload_n 0, 1) := by decide +kernel
theorem dL_law_847 : decode cL_law 847 = .ok (.iload_n 3, 1) := by decide +kernel
theorem dL_law_848 : decode cL_law 848 = .ok (.iconst 1, 1) := by decide +kernel
theorem dL_law_849 : decode cL_law 849 = .ok (.iadd, 1) := by decide +kernel
theorem dL_law_850 : decode cL_law 850 = .ok (.iaload, 1) := by decide +kernel
theorem dL_law_851 : decode cL_law 851 = .ok (.aload_n 0, 1) := by decide +kernel
theorem dL_law_852 : decode cL_law 852 = .ok (.iload_n 3, 1) := by decide +kernel
theorem dL_law_853 : decode cL_law 853 = .ok (.iconst 2, 1) := by decide +kernel
theorem dL_law_854 : decode cL_law 854 = .ok (.iadd, 1) := by decide +kernel
theorem dL_law_855 : decode cL_law 855 = .ok (.iaload, 1) := by decide +kernel
theorem dL_law_856 : decode cL_law 856 = .ok (.invokevirtual 106, 3) := by decide +kernel
theorem dL_law_859 : decode cL_law 859 = .ok (.if_icmp .eq 133, 3) := by decide +kernel
theorem dL_law_862 : decode cL_law 862 = .ok (.iconst 0, 1) := by decide +kernel
theorem dL_law_863 : decode cL_law 863 = .ok (.ireturn, 1) := by decide +kernel
theorem dL_law_864 : decode cL_law 864 = .ok (.aload_n 1, 1) := by decide +kernel
theorem dL_law_865 : decode cL_law 865 = .ok (.invokevirtual 107, 3) := by decide +kernel
theorem dL_law_868 : decode cL_law 868 = .ok (.aload_n 2, 1) := by decide +kernel
theorem dL_law_869 : decode cL_law 869 = .ok (.invokevirtual 110, 3) := by decide +kernel
theorem dL_law_872 : decode cL_law 872 = .ok (.if_icmp .eq 120, 3) := by decide +kernel
theorem dL_law_875 : decode cL_law 875 = .ok (.iconst 0, 1) := by decide +kernel
theorem dL_law_876 : decode cL_law 876 = .ok (.ireturn, 1) := by decide +kernel
theorem dL_law_877 : decode cL_law 877 = .ok (.aload_n 1, 1) := by decide +kernel
theorem dL_law_878 : decode cL_law 878 = .ok (.aload_n 0, 1) := by decide +kernel
theorem dL_law_879 : decode cL_law 879 = .ok (.iload_n 3, 1) := by decide +kernel
theorem dL_law_880 : decode cL_law 880 = .ok (.iconst 1, 1) := by decide +kernel
theorem dL_law_881 : decode cL_law 881 = .ok (.iadd, 1) := by decide +kernel
theorem dL_law_882 : decode cL_law 882 = .ok (.iaload, 1) := by decide +kernel
theorem dL_law_883 : decode cL_law 883 = .ok (.invokevirtual 111, 3) := by decide +kernel
theorem dL_law_886 : decode cL_law 886 = .ok (.aload_n 2, 1) := by decide +kernel
theorem dL_law_887 : decode cL_law 887 = .ok (.aload_n 0, 1) := by decide +kernel
theorem dL_law_888 : decode cL_law 888 = .ok (.iload_n 3, 1) := by decide +kernel
theorem dL_law_889 : decode cL_law 889 = .ok (.iconst 1, 1) := by decide +kernel
theorem dL_law_890 : decode cL_law 890 = .ok (.iadd, 1) := by decide +kernel
theorem dL_law_891 : decode cL_law 891 = .ok (.iaload, 1) := by decide +kernel
theorem dL_law_892 : decode cL_law 892 = .ok (.invokevirtual 114, 3) := by decide +kernel
theorem dL_law_895 : decode cL_law 895 = .ok (.if_icmp .eq 97, 3) := by decide +kernel
theorem dL_law_898 : decode cL_law 898 = .ok (.iconst 0, 1) := by decide +kernel
theorem dL_law_899 : decode cL_law 899 = .ok (.ireturn, 1) := by decide +kernel
theorem dL_law_900 : decode cL_law 900 = .ok (.aload_n 1, 1) := by decide +kernel
theorem dL_law_901 : decode cL_law 901 = .ok (.aload_n 0, 1) := by decide +kernel
theorem dL_law_902 : decode cL_law 902 = .ok (.iload_n 3, 1) := by decide +kernel
theorem dL_law_903 : decode cL_law 903 = .ok (.iconst 1, 1) := by decide +kernel
theorem dL_law_904 : decode cL_law 904 = .ok (.iadd, 1) := by decide +kernel
theorem dL_law_905 : decode cL_law 905 = .ok (.iaload, 1) := by decide +kernel
theorem dL_law_906 : decode cL_law 906 = .ok (.invokevirtual 115, 3) := by decide +kernel
theorem dL_law_909 : decode cL_law 909 = .ok (.aload_n 2, 1) := by decide +kernel
theorem dL_law_910 : decode cL_law 910 = .ok (.aload_n 0, 1) := by decide +kernel
theorem dL_law_911 : decode cL_law 911 = .ok (.iload_n 3, 1) := by decide +kernel
theorem dL_law_912 : decode cL_law 912 = .ok (.iconst 1, 1) := by decide +kernel
theorem dL_law_913 : decode cL_law 913 = .ok (.iadd, 1) := by decide +kernel
theorem dL_law_914 : decode cL_law 914 = .ok (.iaload, 1) := by decide +kernel
theorem dL_law_915 : decode cL_law 915 = .ok (.invokevirtual 118, 3) := by decide +kernel
theorem dL_law_918 : decode cL_law 918 = .ok (.if_icmp .eq 74, 3) := by decide +kernel
theorem dL_law_921 : decode cL_law 921 = .ok (.iconst 0, 1) := by decide +kernel
theorem dL_law_922 : decode cL_law 922 = .ok (.ireturn, 1) := by decide +kernel
theorem dL_law_923 : decode cL_law 923 = .ok (.aload_n 1, 1) := by decide +kernel
theorem dL_law_924 : decode cL_law 924 = .ok (.aload_n 0, 1) := by decide +kernel
theorem dL_law_925 : decode cL_law 925 = .ok (.iload_n 3, 1) := by decide +kernel
theorem dL_law_926 : decode cL_law 926 = .ok (.iconst 1, 1) := by decide +kernel
theorem dL_law_927 : decode cL_law 927 = .ok (.iadd, 1) := by decide +kernel
theorem dL_law_928 : decode cL_law 928 = .ok (.iaload, 1) := by decide +kernel
theorem dL_law_929 : decode cL_law 929 = .ok (.aload_n 0, 1) := by decide +kernel
theorem dL_law_930 : decode cL_law 930 = .ok (.iload_n 3, 1) := by decide +kernel
theorem dL_law_931 : decode cL_law 931 = .ok (.iconst 2, 1) := by decide +kernel
theorem dL_law_932 : decode cL_law 932 = .ok (.iadd, 1) := by decide +kernel
theorem dL_law_933 : decode cL_law 933 = .ok (.iaload, 1) := by decide +kernel
theorem dL_law_934 : decode cL_law 934 = .ok (.invokevirtual 119, 3) := by decide +kernel
theorem dL_law_937 : decode cL_law 937 = .ok (.aload_n 2, 1) := by decide +kernel
theorem dL_law_938 : decode cL_law 938 = .ok (.aload_n 0, 1) := by decide +kernel
theorem dL_law_939 : decode cL_law 939 = .ok (.iload_n 3, 1) := by decide +kernel
theorem dL_law_940 : decode cL_law 940 = .ok (.iconst 1, 1) := by decide +kernel
theorem dL_law_941 : decode cL_law 941 = .ok (.iadd, 1) := by decide +kernel
theorem dL_law_942 : decode cL_law 942 = .ok (.iaload, 1) := by decide +kernel
theorem dL_law_943 : decode cL_law 943 = .ok (.aload_n 0, 1) := by decide +kernel
theorem dL_law_944 : decode cL_law 944 = .ok (.iload_n 3, 1) := by decide +kernel
theorem dL_law_945 : decode cL_law 945 = .ok (.iconst 2, 1) := by decide +kernel
theorem dL_law_946 : decode cL_law 946 = .ok (.iadd, 1) := by decide +kernel
theorem dL_law_947 : decode cL_law 947 = .ok (.iaload, 1) := by decide +kernel
theorem dL_law_948 : decode cL_law 948 = .ok (.invokevirtual 122, 3) := by decide +kernel
theorem dL_law_951 : decode cL_law 951 = .ok (.if_icmp .eq 41, 3) := by decide +kernel
theorem dL_law_954 : decode cL_law 954 = .ok (.iconst 0, 1) := by decide +kernel
theorem dL_law_955 : decode cL_law 955 = .ok (.ireturn, 1) := by decide +kernel
theorem dL_law_956 : decode cL_law 956 = .ok (.aload_n 1, 1) := by decide +kernel
theorem dL_law_957 : decode cL_law 957 = .ok (.aload_n 0, 1) := by decide +kernel
theorem dL_law_958 : decode cL_law 958 = .ok (.iload_n 3, 1) := by decide +kernel
theorem dL_law_959 : decode cL_law 959 = .ok (.iconst 1, 1) := by decide +kernel
theorem dL_law_960 : decode cL_law 960 = .ok (.iadd, 1) := by decide +kernel
theorem dL_law_961 : decode cL_law 961 = .ok (.iaload, 1) := by decide +kernel
theorem dL_law_962 : decode cL_law 962 = .ok (.invokevirtual 123, 3) := by decide +kernel
theorem dL_law_965 : decode cL_law 965 = .ok (.aload_n 2, 1) := by decide +kernel
theorem dL_law_966 : decode cL_law 966 = .ok (.aload_n 0, 1) := by decide +kernel
theorem dL_law_967 : decode cL_law 967 = .ok (.iload_n 3, 1) := by decide +kernel
theorem dL_law_968 : decode cL_law 968 = .ok (.iconst 1, 1) := by decide +kernel
theorem dL_law_969 : decode cL_law 969 = .ok (.iadd, 1) := by decide +kernel
theorem dL_law_970 : decode cL_law 970 = .ok (.iaload, 1) := by decide +kernel
theorem dL_law_971 : decode cL_law 971 = .ok (.invokevirtual 126, 3) := by decide +kernel
theorem dL_law_974 : decode cL_law 974 = .ok (.if_icmp .eq 18, 3) := by decide +kernel
theorem dL_law_977 : decode cL_law 977 = .ok (.iconst 0, 1) := by decide +kernel
theorem dL_law_978 : decode cL_law 978 = .ok (.ireturn, 1) := by decide +kernel
theorem dL_law_979 : decode cL_law 979 = .ok (.aload_n 1, 1) := by decide +kernel
theorem dL_law_980 : decode cL_law 980 = .ok (.invokevirtual 127, 3) := by decide +kernel
theorem dL_law_983 : decode cL_law 983 = .ok (.aload_n 2, 1) := by decide +kernel
theorem dL_law_984 : decode cL_law 984 = .ok (.invokevirtual 130, 3) := by decide +kernel
theorem dL_law_987 : decode cL_law 987 = .ok (.if_icmp .eq 5, 3) := by decide +kernel
theorem dL_law_990 : decode cL_law 990 = .ok (.iconst 0, 1) := by decide +kernel
theorem dL_law_991 : decode cL_law 991 = .ok (.ireturn, 1) := by decide +kernel
theorem dL_law_992 : decode cL_law 992 = .ok (.iinc 3 7, 3) := by decide +kernel
theorem dL_law_995 : decode cL_law 995 = .ok (.goto (-977), 3) := by decide +kernel
theorem dL_law_998 : decode cL_law 998 = .ok (.iconst 1, 1) := by decide +kernel
theorem dL_law_999 : decode cL_law 999 = .ok (.ireturn, 1) := by decide +kernel
end
section
/-! the static cells: the class's, then the reference's -/
def th_no : Nat → Option Nat := fun _ => none
def th_nth {α : Type} : List α → Nat → α → α
  | [], _, d => d
  | x :: _, 0, _ => x
  | _ :: r, i + 1, d => th_nth r i d
def rf_X : Nat → Option Nat := fun k => th_nth [some 5, some 12, some 13, some 14, some 15, some 16, some 27, some 29, some 30, some 31, some 35] k none
def rf_sh0 : Nat → Option Nat := fun k => th_nth [some 7] k none
def rf_sh1 : Nat → Option Nat := fun k => th_nth [some 9] k none
def rf_sh2 : Nat → Option Nat := fun k => th_nth [some 11] k none
def rf_look : Nat → Option Nat := fun k => th_nth [some 17, some 18, some 22] k none
def rf_fit : Nat → Option Nat := fun k => th_nth [some 19, some 20, some 21] k none
def rf_heap : Nat → Option Nat := fun k => th_nth [some 23, some 24, some 25, some 26] k none
def rf_tape : Nat → Option Nat := fun k => th_nth [some 28] k none
def rf_raws : Nat → Option Nat := fun k => th_nth [some 32, some 33, some 34] k none
def rf_sheetsA : Nat → Option Nat := fun k => th_nth [some 6, some 8, some 10] k none
def rf_M : Nat → Option Nat := fun k => th_nth [some 37, some 38, some 39, some 40, some 41, some 42, none, some 43, some 44, some 45, none, none, some 46, some 47, some 48, some 49, some 50, some 51, some 52, some 53, none, none, none, none, none, none, some 54, some 55, some 56, some 57, some 58, some 59, some 60, some 61, none, none, none, some 62, none, none, some 63] k none
def shC : Nat → Option th_K0 := fun a => cond (Nat.blt a 4) none (th_nth [some (.inr (9, rf_X)), some (.inl (4, 3, rf_sheetsA)), some (.inr (7, rf_sh0)), some (.inl (0, 20, th_no)), some (.inr (7, rf_sh1)), some (.inl (0, 20, th_no)), some (.inr (7, rf_sh2)), some (.inl (0, 20, th_no)), some (.inl (0, 5, th_no)), some (.inl (0, 5, th_no)), some (.inl (0, 5, th_no)), none, some (.inr (3, rf_look)), some (.inl (0, 5, th_no)), some (.inr (0, rf_fit)), some (.inl (0, 5, th_no)), some (.inl (0, 5, th_no)), some (.inl (0, 5, th_no)), some (.inr (1, rf_heap)), some (.inl (0, 60, th_no)), some (.inl (0, 12, th_no)), some (.inl (0, 12, th_no)), some (.inl (0, 12, th_no)), some (.inr (8, rf_tape)), some (.inl (2, 60, th_no)), none, none, some (.inr (4, rf_raws)), some (.inl (0, 30, th_no)), some (.inl (0, 30, th_no)), some (.inl (0, 150, th_no)), some (.inl (0, 5, th_no))] (a - 4) none)
def shM : Nat → Option th_K0 := fun a => cond (Nat.blt a 36) none (th_nth [some (.inr (10, rf_M)), some (.inl (0, 3, th_no)), some (.inl (0, 3, th_no)), some (.inl (0, 60, th_no)), some (.inl (0, 5, th_no)), some (.inl (0, 5, th_no)), some (.inl (0, 5, th_no)), some (.inl (0, 60, th_no)), some (.inl (0, 12, th_no)), some (.inl (1, 60, th_no)), some (.inl (1, 480, th_no)), some (.inl (0, 8, th_no)), some (.inl (0, 8, th_no)), some (.inl (3, 8, th_no)), some (.inl (0, 8, th_no)), some (.inl (0, 8, th_no)), some (.inl (0, 8, th_no)), some (.inl (0, 8, th_no)), some (.inl (0, 30, th_no)), some (.inl (0, 30, th_no)), some (.inl (0, 150, th_no)), some (.inl (0, 5, th_no)), some (.inl (0, 5, th_no)), some (.inl (0, 60, th_no)), some (.inl (0, 12, th_no)), some (.inl (0, 12, th_no)), some (.inl (0, 20, th_no)), some (.inl (0, 5, th_no))] (a - 36) none)
def persF : Nat → Bool := fun k => th_nth [false, false, false, false, false, false, true, false, false, false, true, true, false, false, false, false, false, false, false, false, true, true, true, true, true, true, false, false, false, false, false, false, false, false, false, false, false, false, false, false, false] k false
def pers (a k : Nat) : Bool := cond (Nat.blt a 36) false (th_nth [persF, fun _ => true, fun _ => true, fun _ => true, fun _ => true, fun _ => true, fun _ => true, fun _ => true, fun _ => true, fun _ => true, fun _ => true, fun _ => true, fun _ => true, fun _ => true, fun _ => true, fun _ => true, fun _ => true, fun _ => true, fun _ => true, fun _ => true, fun _ => true, fun _ => false, fun _ => false, fun _ => false, fun _ => false, fun _ => false, fun _ => false, fun _ => false] (a - 36) (fun _ => false) k)
end
section
/-! small laws of numbers -/
abbrev ix (x : Int32) : Nat := x.toNatClampNeg
theorem th_self {x : Int32} (h : 0 ≤ x.toInt) : x = nI (ix x) := by
  obtain ⟨j, hj, rfl⟩ := nI_of (x := x) (by rw [Int32.lt_iff_toInt_lt]; exact Int.not_lt.mpr h)
  rw [ix, nI_clamp hj]
theorem th_ixI {x : Int32} (h : 0 ≤ x.toInt) : ((ix x : Nat) : Int) = x.toInt := by
  show ((x.toInt.toNat : Nat) : Int) = x.toInt
  omega
theorem th_lt {x : Int32} {n : Nat} (h0 : 0 ≤ x.toInt) (h : x.toInt < n) : ix x < n := by
  have := th_ixI h0
  omega
theorem th_5 {x y : Int32} {a b : Nat} (hx : x = nI a) (hy : y = nI b) : 5 * x + y = nI (5 * a + b) := by
  subst hx; subst hy
  rw [show (5 : Int32) = nI 5 from rfl, pk_mul, nI_add]
theorem th_20 {x y : Int32} {a b : Nat} (hx : x = nI a) (hy : y = nI b) : 20 * x + y = nI (20 * a + b) := by
  subst hx; subst hy
  rw [show (20 : Int32) = nI 20 from rfl, pk_mul, nI_add]
theorem th_60 {x y : Int32} {a b : Nat} (hx : x = nI a) (hy : y = nI b) : 60 * x + y = nI (60 * a + b) := by
  subst hx; subst hy
  rw [show (60 : Int32) = nI 60 from rfl, pk_mul, nI_add]
theorem i_le {x y : Int32} : x ≤ y ↔ x.toInt ≤ y.toInt := Int32.le_iff_toInt_le
theorem i_lt {x y : Int32} : x < y ↔ x.toInt < y.toInt := Int32.lt_iff_toInt_lt
theorem i_nlt {x y : Int32} (h : ¬ x < y) : y.toInt ≤ x.toInt := Int.not_lt.mp (fun z => h (i_lt.mpr z))
theorem i_nle {x y : Int32} (h : ¬ x ≤ y) : y.toInt < x.toInt := Int.not_le.mp (fun z => h (i_le.mpr z))
theorem th_ne {x y : Int32} (h : ¬ x = y) : x.toInt ≠ y.toInt := fun e => h (Int32.toInt_inj.mp e)
theorem th_sw3 {x : Int32} (h : ¬ (x.toInt < 0 ∨ 3 < x.toInt)) : x = 0 ∨ x = 1 ∨ x = 2 ∨ x = 3 := by
  have h1 : x.toInt = 0 ∨ x.toInt = 1 ∨ x.toInt = 2 ∨ x.toInt = 3 := by omega
  rcases h1 with h | h | h | h
  · exact Or.inl (Int32.toInt_inj.mp h)
  · exact Or.inr (Or.inl (Int32.toInt_inj.mp h))
  · exact Or.inr (Or.inr (Or.inl (Int32.toInt_inj.mp h)))
  · exact Or.inr (Or.inr (Or.inr (Int32.toInt_inj.mp h)))
theorem th_sw6 {x : Int32} (h : ¬ (x.toInt < 0 ∨ 6 < x.toInt)) : x = 0 ∨ x = 1 ∨ x = 2 ∨ x = 3 ∨ x = 4 ∨ x = 5 ∨ x = 6 := by
  have h1 : x.toInt = 0 ∨ x.toInt = 1 ∨ x.toInt = 2 ∨ x.toInt = 3 ∨ x.toInt = 4 ∨ x.toInt = 5 ∨ x.toInt = 6 := by omega
  rcases h1 with h | h | h | h | h | h | h
  · exact Or.inl (Int32.toInt_inj.mp h)
  · exact Or.inr (Or.inl (Int32.toInt_inj.mp h))
  · exact Or.inr (Or.inr (Or.inl (Int32.toInt_inj.mp h)))
  · exact Or.inr (Or.inr (Or.inr (Or.inl (Int32.toInt_inj.mp h))))
  · exact Or.inr (Or.inr (Or.inr (Or.inr (Or.inl (Int32.toInt_inj.mp h)))))
  · exact Or.inr (Or.inr (Or.inr (Or.inr (Or.inr (Or.inl (Int32.toInt_inj.mp h))))))
  · exact Or.inr (Or.inr (Or.inr (Or.inr (Or.inr (Or.inr (Int32.toInt_inj.mp h))))))
theorem th_sw7 {x : Int32} (h : ¬ (x.toInt < 0 ∨ 7 < x.toInt)) : x = 0 ∨ x = 1 ∨ x = 2 ∨ x = 3 ∨ x = 4 ∨ x = 5 ∨ x = 6 ∨ x = 7 := by
  have h1 : ¬ (x.toInt < 0 ∨ 6 < x.toInt) ∨ x.toInt = 7 := by omega
  rcases h1 with h | h
  · rcases th_sw6 h with h | h | h | h | h | h | h <;> simp [h]
  · have : x = 7 := Int32.toInt_inj.mp h
    simp [this]
theorem th_cmp_lt {x y : Int64} : lg_cmp x y < 0 ↔ x.toInt < y.toInt := by
  rw [← Int64.lt_iff_toInt_lt]
  unfold lg_cmp
  by_cases h1 : y < x
  · have h3 : ¬ x < y := by rw [Int64.lt_iff_toInt_lt] at h1 ⊢; omega
    simp [h1, h3]
  · by_cases h2 : x < y
    · have h3 : ¬ x = y := fun e => by subst e; rw [Int64.lt_iff_toInt_lt] at h2; omega
      simp [h1, h2, h3] <;> decide
    · have h3 : x = y := by
        apply Int64.toInt_inj.mp
        rw [Int64.lt_iff_toInt_lt] at h1 h2
        omega
      simp [h3]
theorem th_cmp_gt {x y : Int64} : 0 < lg_cmp x y ↔ y.toInt < x.toInt := by
  rw [← Int64.lt_iff_toInt_lt]
  unfold lg_cmp
  by_cases h1 : y < x
  · simp [h1]
  · by_cases h2 : x < y
    · have h3 : ¬ x = y := fun e => by subst e; rw [Int64.lt_iff_toInt_lt] at h2; omega
      simp [h1, h2, h3] <;> decide
    · have h3 : x = y := by
        apply Int64.toInt_inj.mp
        rw [Int64.lt_iff_toInt_lt] at h1 h2
        omega
      simp [h3]
theorem th_64 {x : Int32} : x.toInt64.toInt = x.toInt := by simp
theorem l_0 : (0 : Int64).toInt = 0 := by decide
theorem l_1 : (1 : Int64).toInt = 1 := by decide
theorem l_2 : (2 : Int64).toInt = 2 := by decide
theorem l_4 : (4 : Int64).toInt = 4 := by decide
theorem l_5 : (5 : Int64).toInt = 5 := by decide
theorem l_7 : (7 : Int64).toInt = 7 := by decide
theorem l_20 : (20 : Int64).toInt = 20 := by decide
theorem l_100 : (100 : Int64).toInt = 100 := by decide
theorem l_65535 : (65535 : Int64).toInt = 65535 := by decide
end
section
/-! walks of the reference: numbers alone -/
theorem th_down {P : Nat → Prop} (N : Nat) (h0 : P N) (hs : ∀ i, i < N → P (i + 1) → P i) : ∀ i, i ≤ N → P i := by
  have key : ∀ k i, i + k = N → P i := by
    intro k
    induction k with
    | zero => intro i h; have : i = N := by omega
              rw [this]; exact h0
    | succ k ih => intro i h; exact hs i (by omega) (ih (i + 1) (by omega))
  intro i hi
  exact key (N - i) i (by omega)
/-- the answer is v, nothing changes -/
abbrev th_is (v : Int32) (S : th_S) : Option Value → th_S → Prop := fun r S' => r = some (.int v) ∧ S' = S
/-- the answer is whether P, nothing changes -/
abbrev th_bo (P : Prop) (S : th_S) : Option Value → th_S → Prop := fun r S' => S' = S ∧ ((P ∧ r = some (.int 1)) ∨ (¬ P ∧ r = some (.int 0)))
def mb (v : Int32) : Nat → Int32
  | 0 => 0
  | k + 1 => mb v k + ((v >>> (nI k &&& 31)) &&& 1)
def isSp (v : Int32) : Prop := 0 ≤ v.toInt ∧ (v / 100).toInt ≤ (v - v / 100 * 100).toInt ∧ (v - v / 100 * 100).toInt < 16 ∧ ((v - v / 100 * 100) - v / 100).toInt ≤ 3
def isFg (c : Int32) : Prop := 48 ≤ c.toInt ∧ c.toInt ≤ 57
def isNm (c : Int32) : Prop := c = 116 ∨ c = 104 ∨ c = 119 ∨ c = 108 ∨ c = 114
section M1
variable {G : th_G} {l : Launch} {d : Nat} {S : th_S}
theorem m_bitsOf (v : Int32) : MT G l yX10_bitsOf kX10_bitsOf d 0 0 [.int v] S (th_is (mb v 16) S) := by
  refine MT.of (by decide) rfl rfl (n := 2) rfl (ls := [some (.int v), none, none]) rfl ?_
  have lp : ∀ i, i ≤ 16 → EV G l kX10_bitsOf d 0 0 4 [some (.int v), some (.int (mb v i)), some (.int (nI i))] [] S (th_is (mb v 16) S) := by
    refine th_down 16 ?_ ?_
    · refine ev_iload2 (q := 5) dX10_bitsOf_4 rfl ?_
      refine ev_bipush (q := 7) (v := 16) dX10_bitsOf_5 rfl rfl ?_
      refine ev_icmp_ge (q := 10) (t := 24) dX10_bitsOf_7 rfl (by decide) (fun c7 => ?_) (fun c7 => ?_)
      · refine ev_iload1 (q := 25) dX10_bitsOf_24 rfl ?_
        exact ev_ireturn dX10_bitsOf_25 rfl rfl ⟨rfl, rfl⟩
      · exact absurd (by decide) c7
    · intro i hi ih
      refine ev_iload2 (q := 5) dX10_bitsOf_4 rfl ?_
      refine ev_bipush (q := 7) (v := 16) dX10_bitsOf_5 rfl rfl ?_
      refine ev_icmp_ge (q := 10) (t := 24) dX10_bitsOf_7 rfl (by decide) (fun c7 => ?_) (fun c7 => ?_)
      · exact absurd c7 (nI_ge hi (by decide))
      · refine ev_iload1 (q := 11) dX10_bitsOf_10 rfl ?_
        refine ev_iload0 (q := 12) dX10_bitsOf_11 rfl ?_
        refine ev_iload2 (q := 13) dX10_bitsOf_12 rfl ?_
        refine ev_ishr (q := 14) dX10_bitsOf_13 rfl ?_
        refine ev_iconst (q := 15) (v := 1) dX10_bitsOf_14 rfl rfl ?_
        refine ev_iand (q := 16) dX10_bitsOf_15 rfl ?_
        refine ev_iadd (q := 17) dX10_bitsOf_16 rfl ?_
        refine ev_istore1 (q := 18) dX10_bitsOf_17 rfl (by decide) rfl ?_
        refine ev_iinc2 (q := 21) dX10_bitsOf_18 rfl (by decide) rfl (nI_succ i).symm ?_
        refine ev_goto (q := 4) dX10_bitsOf_21 (by decide) ?_
        exact ih
  refine ev_iconst (q := 1) (v := 0) dX10_bitsOf_0 rfl rfl ?_
  refine ev_istore1 (q := 2) dX10_bitsOf_1 rfl (by decide) rfl ?_
  refine ev_iconst (q := 3) (v := 0) dX10_bitsOf_2 rfl rfl ?_
  refine ev_istore2 (q := 4) dX10_bitsOf_3 rfl (by decide) rfl ?_
  exact lp 0 (by decide)
theorem m_in (v lo hi : Int64) : MT G l yX10_in kX10_in d 0 0 [.long v, .long lo, .long hi] S (th_bo (lo.toInt ≤ v.toInt ∧ v.toInt ≤ hi.toInt) S) := by
  refine MT.of (by decide) rfl rfl (n := 0) rfl (ls := [some (.long v), none, some (.long lo), none, some (.long hi), none]) rfl ?_
  refine ev_lload0 (q := 1) dX10_in_0 rfl ?_
  refine ev_lload2 (q := 2) dX10_in_1 rfl ?_
  refine ev_lcmp (q := 3) dX10_in_2 rfl ?_
  refine ev_if_lt (q := 6) (t := 17) dX10_in_3 rfl (by decide) (fun c3 => ?_) (fun c3 => ?_)
  · refine ev_iconst (q := 18) (v := 0) dX10_in_17 rfl rfl ?_
    exact ev_ireturn dX10_in_18 rfl rfl ⟨rfl, Or.inr ⟨by rw [th_cmp_lt] at c3; omega, rfl⟩⟩
  · refine ev_lload0 (q := 7) dX10_in_6 rfl ?_
    refine ev_lload4 (q := 9) dX10_in_7 rfl ?_
    refine ev_lcmp (q := 10) dX10_in_9 rfl ?_
    refine ev_if_gt (q := 13) (t := 17) dX10_in_10 rfl (by decide) (fun c10 => ?_) (fun c10 => ?_)
    · refine ev_iconst (q := 18) (v := 0) dX10_in_17 rfl rfl ?_
      exact ev_ireturn dX10_in_18 rfl rfl ⟨rfl, Or.inr ⟨by rw [th_cmp_gt] at c10; omega, rfl⟩⟩
    · refine ev_iconst (q := 14) (v := 1) dX10_in_13 rfl rfl ?_
      refine ev_goto (q := 18) dX10_in_14 (by decide) ?_
      exact ev_ireturn dX10_in_18 rfl rfl ⟨rfl, Or.inl ⟨by rw [th_cmp_lt] at c3; rw [th_cmp_gt] at c10; omega, rfl⟩⟩
theorem m_inI (x : Int32) (lo hi : Int64) {a b : Int} (ha : lo.toInt = a) (hb : hi.toInt = b) : MT G l yX10_in kX10_in d 0 0 [.long x.toInt64, .long lo, .long hi] S (th_bo (a ≤ x.toInt ∧ x.toInt ≤ b) S) := by
  have h := m_in (G := G) (l := l) (d := d) (S := S) x.toInt64 lo hi
  rw [th_64, ha, hb] at h
  exact h
theorem m_isLayer (x : Int32) : MT G l yX10_isLayer kX10_isLayer (d + 1) 0 0 [.int x] S (th_bo (0 ≤ x.toInt ∧ x.toInt ≤ 4) S) := by
  refine MT.of (by decide) rfl rfl (n := 0) rfl (ls := [some (.int x)]) rfl ?_
  refine ev_iload0 (q := 1) dX10_isLayer_0 rfl ?_
  refine ev_i2l (q := 2) dX10_isLayer_1 rfl ?_
  refine ev_lconst (q := 3) (v := 0) dX10_isLayer_2 rfl rfl ?_
  refine ev_ldc2 (q := 6) dX10_isLayer_3 q_X10_93 rfl ?_
  refine ev_cS (q := 9) (m_inI _ _ _ l_0 l_4) dX10_isLayer_6 l_X10_95 rfl (Nat.le_of_ble_eq_true rfl) (Nat.le_refl _) rfl rfl (fun r S1 hp => ?_)
  rcases hp with ⟨rfl, ⟨hp6, rfl⟩ | ⟨hp6, rfl⟩⟩
  · exact ev_ireturn dX10_isLayer_9 rfl rfl ⟨rfl, Or.inl ⟨hp6, rfl⟩⟩
  · exact ev_ireturn dX10_isLayer_9 rfl rfl ⟨rfl, Or.inr ⟨hp6, rfl⟩⟩
theorem m_isSpan (v : Int32) : MT G l yX10_isSpan kX10_isSpan d 0 0 [.int v] S (th_bo (isSp v) S) := by
  refine MT.of (by decide) rfl rfl (n := 0) rfl (ls := [some (.int v)]) rfl ?_
  refine ev_iload0 (q := 1) dX10_isSpan_0 rfl ?_
  refine ev_if_lt (q := 4) (t := 41) dX10_isSpan_1 rfl (by decide) (fun c1 => ?_) (fun c1 => ?_)
  · refine ev_iconst (q := 42) (v := 0) dX10_isSpan_41 rfl rfl ?_
    exact ev_ireturn dX10_isSpan_42 rfl rfl ⟨rfl, Or.inr ⟨fun h => absurd (i_lt.mp c1) (Int.not_lt.mpr h.1), rfl⟩⟩
  · refine ev_iload0 (q := 5) dX10_isSpan_4 rfl ?_
    refine ev_bipush (q := 7) (v := 100) dX10_isSpan_5 rfl rfl ?_
    refine ev_idiv (q := 8) dX10_isSpan_7 (by decide) rfl ?_
    refine ev_iload0 (q := 9) dX10_isSpan_8 rfl ?_
    refine ev_bipush (q := 11) (v := 100) dX10_isSpan_9 rfl rfl ?_
    refine ev_irem (q := 12) dX10_isSpan_11 (by decide) rfl ?_
    refine ev_icmp_gt (q := 15) (t := 41) dX10_isSpan_12 rfl (by decide) (fun c12 => ?_) (fun c12 => ?_)
    · refine ev_iconst (q := 42) (v := 0) dX10_isSpan_41 rfl rfl ?_
      exact ev_ireturn dX10_isSpan_42 rfl rfl ⟨rfl, Or.inr ⟨fun h => absurd (i_lt.mp c12) (Int.not_lt.mpr h.2.1), rfl⟩⟩
    · refine ev_iload0 (q := 16) dX10_isSpan_15 rfl ?_
      refine ev_bipush (q := 18) (v := 100) dX10_isSpan_16 rfl rfl ?_
      refine ev_irem (q := 19) dX10_isSpan_18 (by decide) rfl ?_
      refine ev_bipush (q := 21) (v := 16) dX10_isSpan_19 rfl rfl ?_
      refine ev_icmp_ge (q := 24) (t := 41) dX10_isSpan_21 rfl (by decide) (fun c21 => ?_) (fun c21 => ?_)
      · refine ev_iconst (q := 42) (v := 0) dX10_isSpan_41 rfl rfl ?_
        exact ev_ireturn dX10_isSpan_42 rfl rfl ⟨rfl, Or.inr ⟨fun h => absurd (i_le.mp c21) (Int.not_le.mpr h.2.2.1), rfl⟩⟩
      · refine ev_iload0 (q := 25) dX10_isSpan_24 rfl ?_
        refine ev_bipush (q := 27) (v := 100) dX10_isSpan_25 rfl rfl ?_
        refine ev_irem (q := 28) dX10_isSpan_27 (by decide) rfl ?_
        refine ev_iload0 (q := 29) dX10_isSpan_28 rfl ?_
        refine ev_bipush (q := 31) (v := 100) dX10_isSpan_29 rfl rfl ?_
        refine ev_idiv (q := 32) dX10_isSpan_31 (by decide) rfl ?_
        refine ev_isub (q := 33) dX10_isSpan_32 rfl ?_
        refine ev_iconst (q := 34) (v := 3) dX10_isSpan_33 rfl rfl ?_
        refine ev_icmp_gt (q := 37) (t := 41) dX10_isSpan_34 rfl (by decide) (fun c34 => ?_) (fun c34 => ?_)
        · refine ev_iconst (q := 42) (v := 0) dX10_isSpan_41 rfl rfl ?_
          exact ev_ireturn dX10_isSpan_42 rfl rfl ⟨rfl, Or.inr ⟨fun h => absurd (i_lt.mp c34) (Int.not_lt.mpr h.2.2.2), rfl⟩⟩
        · refine ev_iconst (q := 38) (v := 1) dX10_isSpan_37 rfl rfl ?_
          refine ev_goto (q := 42) dX10_isSpan_38 (by decide) ?_
          exact ev_ireturn dX10_isSpan_42 rfl rfl ⟨rfl, Or.inl ⟨⟨i_nlt c1, i_nlt c12, i_nle c21, i_nlt c34⟩, rfl⟩⟩
theorem m_isFigure (c : Int32) : MT G l yX10_isFigure kX10_isFigure d 0 0 [.int c] S (th_bo (isFg c) S) := by
  refine MT.of (by decide) rfl rfl (n := 0) rfl (ls := [some (.int c)]) rfl ?_
  refine ev_iload0 (q := 1) dX10_isFigure_0 rfl ?_
  refine ev_bipush (q := 3) (v := 48) dX10_isFigure_1 rfl rfl ?_
  refine ev_icmp_lt (q := 6) (t := 16) dX10_isFigure_3 rfl (by decide) (fun c3 => ?_) (fun c3 => ?_)
  · refine ev_iconst (q := 17) (v := 0) dX10_isFigure_16 rfl rfl ?_
    exact ev_ireturn dX10_isFigure_17 rfl rfl ⟨rfl, Or.inr ⟨fun h => absurd (i_lt.mp c3) (Int.not_lt.mpr h.1), rfl⟩⟩
  · refine ev_iload0 (q := 7) dX10_isFigure_6 rfl ?_
    refine ev_bipush (q := 9) (v := 57) dX10_isFigure_7 rfl rfl ?_
    refine ev_icmp_gt (q := 12) (t := 16) dX10_isFigure_9 rfl (by decide) (fun c9 => ?_) (fun c9 => ?_)
    · refine ev_iconst (q := 17) (v := 0) dX10_isFigure_16 rfl rfl ?_
      exact ev_ireturn dX10_isFigure_17 rfl rfl ⟨rfl, Or.inr ⟨fun h => absurd (i_lt.mp c9) (Int.not_lt.mpr h.2), rfl⟩⟩
    · refine ev_iconst (q := 13) (v := 1) dX10_isFigure_12 rfl rfl ?_
      refine ev_goto (q := 17) dX10_isFigure_13 (by decide) ?_
      exact ev_ireturn dX10_isFigure_17 rfl rfl ⟨rfl, Or.inl ⟨⟨i_nlt c3, i_nlt c9⟩, rfl⟩⟩
theorem m_isName (c : Int32) : MT G l yX10_isName kX10_isName d 0 0 [.int c] S (th_bo (isNm c) S) := by
  refine MT.of (by decide) rfl rfl (n := 0) rfl (ls := [some (.int c)]) rfl ?_
  refine ev_iload0 (q := 1) dX10_isName_0 rfl ?_
  refine ev_bipush (q := 3) (v := 116) dX10_isName_1 rfl rfl ?_
  refine ev_icmp_eq (q := 6) (t := 30) dX10_isName_3 rfl (by decide) (fun c3 => ?_) (fun c3 => ?_)
  · refine ev_iconst (q := 31) (v := 1) dX10_isName_30 rfl rfl ?_
    refine ev_goto (q := 35) dX10_isName_31 (by decide) ?_
    exact ev_ireturn dX10_isName_35 rfl rfl ⟨rfl, Or.inl ⟨Or.inl c3, rfl⟩⟩
  · refine ev_iload0 (q := 7) dX10_isName_6 rfl ?_
    refine ev_bipush (q := 9) (v := 104) dX10_isName_7 rfl rfl ?_
    refine ev_icmp_eq (q := 12) (t := 30) dX10_isName_9 rfl (by decide) (fun c9 => ?_) (fun c9 => ?_)
    · refine ev_iconst (q := 31) (v := 1) dX10_isName_30 rfl rfl ?_
      refine ev_goto (q := 35) dX10_isName_31 (by decide) ?_
      exact ev_ireturn dX10_isName_35 rfl rfl ⟨rfl, Or.inl ⟨Or.inr (Or.inl c9), rfl⟩⟩
    · refine ev_iload0 (q := 13) dX10_isName_12 rfl ?_
      refine ev_bipush (q := 15) (v := 119) dX10_isName_13 rfl rfl ?_
      refine ev_icmp_eq (q := 18) (t := 30) dX10_isName_15 rfl (by decide) (fun c15 => ?_) (fun c15 => ?_)
      · refine ev_iconst (q := 31) (v := 1) dX10_isName_30 rfl rfl ?_
        refine ev_goto (q := 35) dX10_isName_31 (by decide) ?_
        exact ev_ireturn dX10_isName_35 rfl rfl ⟨rfl, Or.inl ⟨Or.inr (Or.inr (Or.inl c15)), rfl⟩⟩
      · refine ev_iload0 (q := 19) dX10_isName_18 rfl ?_
        refine ev_bipush (q := 21) (v := 108) dX10_isName_19 rfl rfl ?_
        refine ev_icmp_eq (q := 24) (t := 30) dX10_isName_21 rfl (by decide) (fun c21 => ?_) (fun c21 => ?_)
        · refine ev_iconst (q := 31) (v := 1) dX10_isName_30 rfl rfl ?_
          refine ev_goto (q := 35) dX10_isName_31 (by decide) ?_
          exact ev_ireturn dX10_isName_35 rfl rfl ⟨rfl, Or.inl ⟨Or.inr (Or.inr (Or.inr (Or.inl c21))), rfl⟩⟩
        · refine ev_iload0 (q := 25) dX10_isName_24 rfl ?_
          refine ev_bipush (q := 27) (v := 114) dX10_isName_25 rfl rfl ?_
          refine ev_icmp_ne (q := 30) (t := 34) dX10_isName_27 rfl (by decide) (fun c27 => ?_) (fun c27 => ?_)
          · refine ev_iconst (q := 35) (v := 0) dX10_isName_34 rfl rfl ?_
            exact ev_ireturn dX10_isName_35 rfl rfl ⟨rfl, Or.inr ⟨fun h => by rcases h with h | h | h | h | h <;> contradiction, rfl⟩⟩
          · refine ev_iconst (q := 31) (v := 1) dX10_isName_30 rfl rfl ?_
            refine ev_goto (q := 35) dX10_isName_31 (by decide) ?_
            exact ev_ireturn dX10_isName_35 rfl rfl ⟨rfl, Or.inl ⟨Or.inr (Or.inr (Or.inr (Or.inr c27))), rfl⟩⟩
end M1
end
section
/-! the reference's cells: what of them stays from call to call -/
abbrev th_Vl : Type := Nat → Nat → Int32
def res (V : th_Vl) : th_Vl := fun a k => cond (pers a k) (V a k) 0
theorem th_w_if {V : th_Vl} {a k b j : Nat} {x : Int32} : th_w V a k x b j = if b = a ∧ j = k then x else V b j := by
  by_cases h : b = a
  · subst h
    by_cases h2 : j = k
    · subst h2; simp [th_w]
    · rw [th_w_j h2]; simp [h2]
  · rw [th_w_ne h]; simp [h]
theorem res_eq {V V' : th_Vl} (h : ∀ a k, pers a k = true → V' a k = V a k) : res V' = res V := by
  funext a k
  cases hp : pers a k
  · simp [res, hp]
  · simp [res, hp, h a k hp]
theorem res_at {V : th_Vl} {a k : Nat} (h : pers a k = true) : res V a k = V a k := by simp [res, h]
theorem res_w {V : th_Vl} {a k : Nat} {x : Int32} (h : pers a k = true) : res (th_w V a k x) = th_w (res V) a k x := by
  funext b j
  rw [th_w_if]
  by_cases hb : b = a ∧ j = k
  · obtain ⟨rfl, rfl⟩ := hb
    rw [res_at h, th_w_if, if_pos ⟨rfl, rfl⟩, if_pos ⟨rfl, rfl⟩]
  · rw [if_neg hb]
    cases hp : pers b j
    · simp [res, hp]
    · rw [res_at hp, res_at hp, th_w_if, if_neg hb]
theorem res_s {V : th_Vl} {a k : Nat} {x : Int32} (h : pers a k = false) : res (th_w V a k x) = res V := by
  refine res_eq (fun b j hp => ?_)
  rw [th_w_if, if_neg]
  rintro ⟨rfl, rfl⟩
  rw [h] at hp
  exact absurd hp (by decide)
/-- a stretch of a row is written anew -/
def th_seg (V : th_Vl) (a lo n : Nat) (f : Nat → Int32) : th_Vl := fun b j => if b = a ∧ lo ≤ j ∧ j < lo + n then f (j - lo) else V b j
theorem th_seg_0 {V : th_Vl} {a lo : Nat} {f : Nat → Int32} : th_seg V a lo 0 f = V := by
  funext b j
  rw [th_seg, if_neg (by omega)]
theorem th_seg_s {V : th_Vl} {a lo i : Nat} {f : Nat → Int32} : th_w (th_seg V a lo i f) a (lo + i) (f i) = th_seg V a lo (i + 1) f := by
  funext b j
  rw [th_w_if]
  unfold th_seg
  by_cases h1 : b = a ∧ j = lo + i
  · obtain ⟨rfl, rfl⟩ := h1
    rw [if_pos ⟨rfl, rfl⟩, if_pos ⟨rfl, by omega, by omega⟩]
    congr 1
    omega
  · rw [if_neg h1]
    by_cases h2 : b = a ∧ lo ≤ j ∧ j < lo + i
    · rw [if_pos h2, if_pos ⟨h2.1, h2.2.1, by omega⟩]
    · rw [if_neg h2, if_neg]
      rintro ⟨rfl, h3, h4⟩
      exact h2 ⟨rfl, h3, by have : ¬ j = lo + i := fun e => h1 ⟨rfl, e⟩
                            omega⟩
theorem th_seg_ne {V : th_Vl} {a lo n b : Nat} {f : Nat → Int32} (h : b ≠ a) : th_seg V a lo n f b = V b := by
  funext j
  rw [th_seg, if_neg (fun z => h z.1)]
theorem th_seg_in {V : th_Vl} {a lo n j : Nat} {f : Nat → Int32} (h1 : lo ≤ j) (h2 : j < lo + n) : th_seg V a lo n f a j = f (j - lo) := by
  rw [th_seg, if_pos ⟨rfl, h1, h2⟩]
theorem th_seg_out {V : th_Vl} {a lo n j : Nat} {f : Nat → Int32} (h : j < lo ∨ lo + n ≤ j) : th_seg V a lo n f a j = V a j := by
  rw [th_seg, if_neg]
  rintro ⟨-, h1, h2⟩
  omega
theorem th_seg_f {V : th_Vl} {a lo n : Nat} {f g : Nat → Int32} (h : ∀ j, j < n → f j = g j) : th_seg V a lo n f = th_seg V a lo n g := by
  funext b j
  unfold th_seg
  by_cases h1 : b = a ∧ lo ≤ j ∧ j < lo + n
  · rw [if_pos h1, if_pos h1, h (j - lo) (by omega)]
  · rw [if_neg h1, if_neg h1]
theorem res_seg {V : th_Vl} {a lo n : Nat} {f : Nat → Int32} (h : ∀ k, pers a k = true) : res (th_seg V a lo n f) = th_seg (res V) a lo n f := by
  funext b j
  unfold th_seg
  by_cases h1 : b = a ∧ lo ≤ j ∧ j < lo + n
  · rw [if_pos h1]
    obtain ⟨rfl, h2⟩ := h1
    rw [res_at (h j), if_pos ⟨rfl, h2⟩]
  · rw [if_neg h1]
    cases hp : pers b j
    · simp [res, hp]
    · rw [res_at hp, res_at hp, if_neg h1]
theorem res_sg {V : th_Vl} {a lo n : Nat} {f : Nat → Int32} (h : ∀ k, pers a k = false) : res (th_seg V a lo n f) = res V := by
  refine res_eq (fun b j hp => ?_)
  rw [th_seg_ne]
  rintro rfl
  rw [h] at hp
  exact absurd hp (by decide)
/-- only the reference's cells change -/
def FM (V V' : th_Vl) : Prop := ∀ a, a < 36 ∨ 64 ≤ a → V' a = V a
theorem FM.rf {V : th_Vl} : FM V V := fun _ _ => rfl
theorem FM.tr {V V1 V2 : th_Vl} (h1 : FM V V1) (h2 : FM V1 V2) : FM V V2 := fun a ha => (h2 a ha).trans (h1 a ha)
theorem FM.w {V V1 : th_Vl} {a k : Nat} {x : Int32} (h : FM V V1) (ha : 36 ≤ a ∧ a < 64) : FM V (th_w V1 a k x) := fun b hb => (th_w_ne (by omega)).trans (h b hb)
theorem FM.sg {V V1 : th_Vl} {a lo n : Nat} {f : Nat → Int32} (h : FM V V1) (ha : 36 ≤ a ∧ a < 64) : FM V (th_seg V1 a lo n f) := fun b hb => (th_seg_ne (by omega)).trans (h b hb)
/-- a public call of the reference: its answer, and what stays, by what stood -/
def MP (n : Nat) (SH : Nat → Option th_K0) (V : th_Vl) (av : Int32) (s' : th_Vl) : Option Value → th_S → Prop := fun r S' => ∃ V', S' = (n, SH, V') ∧ r = some (.int av) ∧ res V' = s' ∧ FM V V'
theorem MP.mk {n : Nat} {SH : Nat → Option th_K0} {V : th_Vl} {av v : Int32} {s' : th_Vl} (V' : th_Vl) (h1 : av = v) (h2 : s' = res V') (h3 : FM V V') : MP n SH V av s' (some (.int v)) (n, SH, V') := ⟨V', rfl, by rw [h1], h2.symm, h3⟩
def ah (f : Nat → Int32) : Nat → Int32
  | 0 => 0
  | k + 1 => ah f k + mb (f k) 16
abbrev sS (h dd z : Int32) : Int32 := (h &&& (dd ^^^ (-1))) &&& (z ^^^ (-1))
def sn (V : th_Vl) (l : Nat) : Int32 := sS (V 40 l) (V 41 l) (V 42 l)
abbrev inR (x : Int32) (a b : Int) : Prop := a ≤ x.toInt ∧ x.toInt ≤ b
-- what the calls answer, and what they leave
def a_lose (s : th_Vl) (r : Int32) : Int32 := if ¬ inR r 0 2 then -1 else if (s 38 (ix r)).toInt < 0 then -3 else 1
def n_lose (s : th_Vl) (r : Int32) : th_Vl := if ¬ inR r 0 2 then s else if (s 38 (ix r)).toInt < 0 then s else th_w s 38 (ix r) (-1)
def a_hits (s : th_Vl) (x b : Int32) : Int32 := if inR x 0 4 ∧ inR b 0 65535 then mb b 16 else -1
def n_hits (s : th_Vl) (x b : Int32) : th_Vl := if inR x 0 4 ∧ inR b 0 65535 then th_w s 40 (ix x) b else s
def a_mask (s : th_Vl) (x w b : Int32) : Int32 := if inR x 0 4 ∧ inR w 0 1 ∧ inR b 0 65535 then (if w = 0 then s 41 (ix x) else s 42 (ix x)) else -1
def n_mask (s : th_Vl) (x w b : Int32) : th_Vl := if inR x 0 4 ∧ inR w 0 1 ∧ inR b 0 65535 then (if w = 0 then th_w s 41 (ix x) b else th_w s 42 (ix x) b) else s
def a_layer (s : th_Vl) (x w : Int32) : Int32 := if ¬ inR x 0 4 then -1 else if w = 0 then s 40 (ix x) else if w = 1 then sn s (ix x) else if w = 2 then s 41 (ix x) else if w = 3 then s 42 (ix x) else -1
def a_clear (s : th_Vl) : Int32 := s 36 10
def n_clear (s : th_Vl) : th_Vl := th_w s 36 10 0
def isLn (s : th_Vl) (k : Int32) : Prop := inR k 0 (s 36 11 - 1).toInt
def isRd (s : th_Vl) (k : Int32) : Prop := inR k 0 (s 36 6 - 1).toInt
/-- the reference's cells have their shapes -/
abbrev wM (SH : Nat → Option th_K0) : Prop := ∀ a c, shM a = some c → SH a = some c
section M2
variable {G : th_G} {l : Launch} {d : Nat} {n : Nat} {SH : Nat → Option th_K0} {V : th_Vl}
theorem m_seen (hW : wM SH) {j : Nat} (hj : j < 5) {x : Int32} (hx : x = nI j) : MT G l yX10_seen kX10_seen d 0 0 [.ref 36, .int x] (n, SH, V) (th_is (sn V j) (n, SH, V)) := by
  refine MT.of (by decide) rfl rfl (n := 0) rfl (ls := [some (.ref 36), some (.int x)]) rfl ?_
  refine ev_aload0 (q := 1) dX10_seen_0 rfl ?_
  refine ev_getR (q := 4) dX10_seen_1 g_X10_19 (hW _ _ rfl) rfl rfl rfl ?_
  refine ev_iload1 (q := 5) dX10_seen_4 rfl ?_
  refine ev_iald (q := 6) dX10_seen_5 (hW _ _ rfl) hx hj (by decide) rfl ?_
  refine ev_aload0 (q := 7) dX10_seen_6 rfl ?_
  refine ev_getR (q := 10) dX10_seen_7 g_X10_22 (hW _ _ rfl) rfl rfl rfl ?_
  refine ev_iload1 (q := 11) dX10_seen_10 rfl ?_
  refine ev_iald (q := 12) dX10_seen_11 (hW _ _ rfl) hx hj (by decide) rfl ?_
  refine ev_iconst (q := 13) (v := (-1)) dX10_seen_12 rfl rfl ?_
  refine ev_ixor (q := 14) dX10_seen_13 rfl ?_
  refine ev_iand (q := 15) dX10_seen_14 rfl ?_
  refine ev_aload0 (q := 16) dX10_seen_15 rfl ?_
  refine ev_getR (q := 19) dX10_seen_16 g_X10_25 (hW _ _ rfl) rfl rfl rfl ?_
  refine ev_iload1 (q := 20) dX10_seen_19 rfl ?_
  refine ev_iald (q := 21) dX10_seen_20 (hW _ _ rfl) hx hj (by decide) rfl ?_
  refine ev_iconst (q := 22) (v := (-1)) dX10_seen_21 rfl rfl ?_
  refine ev_ixor (q := 23) dX10_seen_22 rfl ?_
  refine ev_iand (q := 24) dX10_seen_23 rfl ?_
  exact ev_ireturn dX10_seen_24 rfl rfl ⟨rfl, rfl⟩
theorem m_allHits (hW : wM SH) : MT G l yX10_allHits kX10_allHits (d + 1) 0 0 [.ref 36] (n, SH, V) (th_is (ah (V 40) 5) (n, SH, V)) := by
  refine MT.of (by decide) rfl rfl (n := 2) rfl (ls := [some (.ref 36), none, none]) rfl ?_
  have lp : ∀ i, i ≤ 5 → EV G l kX10_allHits (d + 1) 0 0 4 [some (.ref 36), some (.int (ah (V 40) i)), some (.int (nI i))] [] (n, SH, V) (th_is (ah (V 40) 5) (n, SH, V)) := by
    refine th_down 5 ?_ ?_
    · refine ev_iload2 (q := 5) dX10_allHits_4 rfl ?_
      refine ev_iconst (q := 6) (v := 5) dX10_allHits_5 rfl rfl ?_
      refine ev_icmp_ge (q := 9) (t := 27) dX10_allHits_6 rfl (by decide) (fun c6 => ?_) (fun c6 => ?_)
      · refine ev_iload1 (q := 28) dX10_allHits_27 rfl ?_
        exact ev_ireturn dX10_allHits_28 rfl rfl ⟨rfl, rfl⟩
      · exact absurd (by decide) c6
    · intro i hi ih
      refine ev_iload2 (q := 5) dX10_allHits_4 rfl ?_
      refine ev_iconst (q := 6) (v := 5) dX10_allHits_5 rfl rfl ?_
      refine ev_icmp_ge (q := 9) (t := 27) dX10_allHits_6 rfl (by decide) (fun c6 => ?_) (fun c6 => ?_)
      · exact absurd c6 (nI_ge hi (by decide))
      · refine ev_iload1 (q := 10) dX10_allHits_9 rfl ?_
        refine ev_aload0 (q := 11) dX10_allHits_10 rfl ?_
        refine ev_getR (q := 14) dX10_allHits_11 g_X10_19 (hW _ _ rfl) rfl rfl rfl ?_
        refine ev_iload2 (q := 15) dX10_allHits_14 rfl ?_
        refine ev_iald (q := 16) dX10_allHits_15 (hW _ _ rfl) rfl hi (by decide) rfl ?_
        refine ev_cS (K := kX10_allHits) (pc := 16) (q := 19) (m_bitsOf _) dX10_allHits_16 l_X10_101 rfl (Nat.le_of_ble_eq_true rfl) (Nat.le_refl _) rfl rfl (fun r S1 hp => ?_)
        obtain ⟨rfl, rfl⟩ := hp
        refine ev_iadd (q := 20) dX10_allHits_19 rfl ?_
        refine ev_istore1 (q := 21) dX10_allHits_20 rfl (by decide) rfl ?_
        refine ev_iinc2 (q := 24) dX10_allHits_21 rfl (by decide) rfl (nI_succ i).symm ?_
        refine ev_goto (q := 4) dX10_allHits_24 (by decide) ?_
        exact ih
  refine ev_iconst (q := 1) (v := 0) dX10_allHits_0 rfl rfl ?_
  refine ev_istore1 (q := 2) dX10_allHits_1 rfl (by decide) rfl ?_
  refine ev_iconst (q := 3) (v := 0) dX10_allHits_2 rfl rfl ?_
  refine ev_istore2 (q := 4) dX10_allHits_3 rfl (by decide) rfl ?_
  exact lp 0 (by decide)
theorem m_lose (hW : wM SH) (r : Int32) : MT G l yX10_lose kX10_lose (d + 1) 0 0 [.ref 36, .int r] (n, SH, V) (MP n SH V (a_lose (res V) r) (n_lose (res V) r)) := by
  refine MT.of (by decide) rfl rfl (n := 0) rfl (ls := [some (.ref 36), some (.int r)]) rfl ?_
  refine ev_iload1 (q := 1) dX10_lose_0 rfl ?_
  refine ev_i2l (q := 2) dX10_lose_1 rfl ?_
  refine ev_lconst (q := 3) (v := 0) dX10_lose_2 rfl rfl ?_
  refine ev_ldc2 (q := 6) dX10_lose_3 q_X10_99 rfl ?_
  refine ev_cS (K := kX10_lose) (pc := 6) (q := 9) (m_inI _ _ _ l_0 l_2) dX10_lose_6 l_X10_95 rfl (Nat.le_of_ble_eq_true rfl) (Nat.le_refl _) rfl rfl (fun r S1 hp => ?_)
  rcases hp with ⟨rfl, ⟨hp6, rfl⟩ | ⟨hp6, rfl⟩⟩
  · refine ev_if_ne (q := 12) (t := 14) dX10_lose_9 rfl (by decide) (fun c9 => ?_) (fun c9 => ?_)
    · refine ev_aload0 (q := 15) dX10_lose_14 rfl ?_
      refine ev_getR (q := 18) dX10_lose_15 g_X10_13 (hW _ _ rfl) rfl rfl rfl ?_
      refine ev_iload1 (q := 19) dX10_lose_18 rfl ?_
      refine ev_iald (q := 20) dX10_lose_19 (hW _ _ rfl) (th_self hp6.1) (th_lt hp6.1 (by omega)) (by decide) rfl ?_
      refine ev_if_ge (q := 23) (t := 26) dX10_lose_20 rfl (by decide) (fun c20 => ?_) (fun c20 => ?_)
      · refine ev_aload0 (q := 27) dX10_lose_26 rfl ?_
        refine ev_getR (q := 30) dX10_lose_27 g_X10_13 (hW _ _ rfl) rfl rfl rfl ?_
        refine ev_iload1 (q := 31) dX10_lose_30 rfl ?_
        refine ev_iconst (q := 32) (v := (-1)) dX10_lose_31 rfl rfl ?_
        refine ev_iast (q := 33) dX10_lose_32 (hW _ _ rfl) (th_self hp6.1) (th_lt hp6.1 (by omega)) (by decide) rfl ?_
        refine ev_iconst (q := 34) (v := 1) dX10_lose_33 rfl rfl ?_
        exact ev_ireturn dX10_lose_34 rfl rfl (MP.mk _ ((if_neg (not_not_intro hp6)).trans (if_neg (Int.not_lt.mpr (i_le.mp c20)))) ((if_neg (not_not_intro hp6)).trans ((if_neg (Int.not_lt.mpr (i_le.mp c20))).trans (res_w rfl).symm)) (FM.rf.w (by decide)))
      · refine ev_bipush (q := 25) (v := (-3)) dX10_lose_23 rfl rfl ?_
        exact ev_ireturn dX10_lose_25 rfl rfl (MP.mk _ ((if_neg (not_not_intro hp6)).trans (if_pos (i_nle c20))) ((if_neg (not_not_intro hp6)).trans (if_pos (i_nle c20))) FM.rf)
    · exact absurd c9 (by decide)
  · refine ev_if_ne (q := 12) (t := 14) dX10_lose_9 rfl (by decide) (fun c9 => ?_) (fun c9 => ?_)
    · exact absurd c9 (by decide)
    · refine ev_iconst (q := 13) (v := (-1)) dX10_lose_12 rfl rfl ?_
      exact ev_ireturn dX10_lose_13 rfl rfl (MP.mk _ (if_pos hp6) (if_pos hp6) FM.rf)
theorem m_hits (hW : wM SH) (x b : Int32) : MT G l yX10_hits kX10_hits (d + 2) 0 0 [.ref 36, .int x, .int b] (n, SH, V) (MP n SH V (a_hits (res V) x b) (n_hits (res V) x b)) := by
  refine MT.of (by decide) rfl rfl (n := 0) rfl (ls := [some (.ref 36), some (.int x), some (.int b)]) rfl ?_
  refine ev_iload1 (q := 1) dX10_hits_0 rfl ?_
  refine ev_cS (K := kX10_hits) (pc := 1) (q := 4) (m_isLayer _) dX10_hits_1 l_X10_105 rfl (Nat.le_of_ble_eq_true rfl) (Nat.le_refl _) rfl rfl (fun r S1 hp => ?_)
  rcases hp with ⟨rfl, ⟨hp1, rfl⟩ | ⟨hp1, rfl⟩⟩
  · refine ev_if_eq (q := 7) (t := 19) dX10_hits_4 rfl (by decide) (fun c4 => ?_) (fun c4 => ?_)
    · exact absurd c4 (by decide)
    · refine ev_iload2 (q := 8) dX10_hits_7 rfl ?_
      refine ev_i2l (q := 9) dX10_hits_8 rfl ?_
      refine ev_lconst (q := 10) (v := 0) dX10_hits_9 rfl rfl ?_
      refine ev_ldc2 (q := 13) dX10_hits_10 q_X10_109 rfl ?_
      refine ev_cS (K := kX10_hits) (pc := 13) (q := 16) (m_inI _ _ _ l_0 l_65535) dX10_hits_13 l_X10_95 rfl (Nat.le_of_ble_eq_true rfl) (Nat.le_refl _) rfl rfl (fun r S1 hp => ?_)
      rcases hp with ⟨rfl, ⟨hp13, rfl⟩ | ⟨hp13, rfl⟩⟩
      · refine ev_if_ne (q := 19) (t := 21) dX10_hits_16 rfl (by decide) (fun c16 => ?_) (fun c16 => ?_)
        · refine ev_aload0 (q := 22) dX10_hits_21 rfl ?_
          refine ev_getR (q := 25) dX10_hits_22 g_X10_19 (hW _ _ rfl) rfl rfl rfl ?_
          refine ev_iload1 (q := 26) dX10_hits_25 rfl ?_
          refine ev_iload2 (q := 27) dX10_hits_26 rfl ?_
          refine ev_iast (q := 28) dX10_hits_27 (hW _ _ rfl) (th_self hp1.1) (th_lt hp1.1 (by omega)) (by decide) rfl ?_
          refine ev_iload2 (q := 29) dX10_hits_28 rfl ?_
          refine ev_cS (K := kX10_hits) (pc := 29) (q := 32) (m_bitsOf _) dX10_hits_29 l_X10_101 rfl (Nat.le_of_ble_eq_true rfl) (Nat.le_refl _) rfl rfl (fun r S1 hp => ?_)
          obtain ⟨rfl, rfl⟩ := hp
          exact ev_ireturn dX10_hits_32 rfl rfl (MP.mk _ (if_pos ⟨hp1, hp13⟩) ((if_pos ⟨hp1, hp13⟩).trans (res_w rfl).symm) (FM.rf.w (by decide)))
        · exact absurd c16 (by decide)
      · refine ev_if_ne (q := 19) (t := 21) dX10_hits_16 rfl (by decide) (fun c16 => ?_) (fun c16 => ?_)
        · exact absurd c16 (by decide)
        · refine ev_iconst (q := 20) (v := (-1)) dX10_hits_19 rfl rfl ?_
          exact ev_ireturn dX10_hits_20 rfl rfl (MP.mk _ (if_neg (fun h => hp13 h.2)) (if_neg (fun h => hp13 h.2)) FM.rf)
  · refine ev_if_eq (q := 7) (t := 19) dX10_hits_4 rfl (by decide) (fun c4 => ?_) (fun c4 => ?_)
    · refine ev_iconst (q := 20) (v := (-1)) dX10_hits_19 rfl rfl ?_
      exact ev_ireturn dX10_hits_20 rfl rfl (MP.mk _ (if_neg (fun h => hp1 h.1)) (if_neg (fun h => hp1 h.1)) FM.rf)
    · exact absurd c4 (by decide)
theorem m_clear (hW : wM SH) : MT G l yX10_clear kX10_clear d 0 0 [.ref 36] (n, SH, V) (MP n SH V (a_clear (res V)) (n_clear (res V))) := by
  refine MT.of (by decide) rfl rfl (n := 1) rfl (ls := [some (.ref 36), none]) rfl ?_
  refine ev_aload0 (q := 1) dX10_clear_0 rfl ?_
  refine ev_getI (q := 4) dX10_clear_1 g_X10_175 (hW _ _ rfl) rfl rfl ?_
  refine ev_istore1 (q := 5) dX10_clear_4 rfl (by decide) rfl ?_
  refine ev_aload0 (q := 6) dX10_clear_5 rfl ?_
  refine ev_iconst (q := 7) (v := 0) dX10_clear_6 rfl rfl ?_
  refine ev_putI (q := 10) dX10_clear_7 (p_X10_175 _) (hW _ _ rfl) rfl rfl rfl rfl ?_
  refine ev_iload1 (q := 11) dX10_clear_10 rfl ?_
  exact ev_ireturn dX10_clear_11 rfl rfl (MP.mk _ rfl (res_w rfl).symm (FM.rf.w (by decide)))
theorem m_isRoad (hW : wM SH) (x : Int32) : MT G l yX10_isRoad kX10_isRoad (d + 1) 0 0 [.ref 36, .int x] (n, SH, V) (th_bo (isRd V x) (n, SH, V)) := by
  refine MT.of (by decide) rfl rfl (n := 0) rfl (ls := [some (.ref 36), some (.int x)]) rfl ?_
  refine ev_iload1 (q := 1) dX10_isRoad_0 rfl ?_
  refine ev_i2l (q := 2) dX10_isRoad_1 rfl ?_
  refine ev_lconst (q := 3) (v := 0) dX10_isRoad_2 rfl rfl ?_
  refine ev_aload0 (q := 4) dX10_isRoad_3 rfl ?_
  refine ev_getI (q := 7) dX10_isRoad_4 g_X10_124 (hW _ _ rfl) rfl rfl ?_
  refine ev_iconst (q := 8) (v := 1) dX10_isRoad_7 rfl rfl ?_
  refine ev_isub (q := 9) dX10_isRoad_8 rfl ?_
  refine ev_i2l (q := 10) dX10_isRoad_9 rfl ?_
  refine ev_cS (K := kX10_isRoad) (pc := 10) (q := 13) (m_inI _ _ _ l_0 th_64) dX10_isRoad_10 l_X10_95 rfl (Nat.le_of_ble_eq_true rfl) (Nat.le_refl _) rfl rfl (fun r S1 hp => ?_)
  rcases hp with ⟨rfl, ⟨hp10, rfl⟩ | ⟨hp10, rfl⟩⟩
  · exact ev_ireturn dX10_isRoad_13 rfl rfl ⟨rfl, Or.inl ⟨hp10, rfl⟩⟩
  · exact ev_ireturn dX10_isRoad_13 rfl rfl ⟨rfl, Or.inr ⟨hp10, rfl⟩⟩
theorem m_isLine (hW : wM SH) (x : Int32) : MT G l yX10_isLine kX10_isLine (d + 1) 0 0 [.ref 36, .int x] (n, SH, V) (th_bo (isLn V x) (n, SH, V)) := by
  refine MT.of (by decide) rfl rfl (n := 0) rfl (ls := [some (.ref 36), some (.int x)]) rfl ?_
  refine ev_iload1 (q := 1) dX10_isLine_0 rfl ?_
  refine ev_i2l (q := 2) dX10_isLine_1 rfl ?_
  refine ev_lconst (q := 3) (v := 0) dX10_isLine_2 rfl rfl ?_
  refine ev_aload0 (q := 4) dX10_isLine_3 rfl ?_
  refine ev_getI (q := 7) dX10_isLine_4 g_X10_186 (hW _ _ rfl) rfl rfl ?_
  refine ev_iconst (q := 8) (v := 1) dX10_isLine_7 rfl rfl ?_
  refine ev_isub (q := 9) dX10_isLine_8 rfl ?_
  refine ev_i2l (q := 10) dX10_isLine_9 rfl ?_
  refine ev_cS (K := kX10_isLine) (pc := 10) (q := 13) (m_inI _ _ _ l_0 th_64) dX10_isLine_10 l_X10_95 rfl (Nat.le_of_ble_eq_true rfl) (Nat.le_refl _) rfl rfl (fun r S1 hp => ?_)
  rcases hp with ⟨rfl, ⟨hp10, rfl⟩ | ⟨hp10, rfl⟩⟩
  · exact ev_ireturn dX10_isLine_13 rfl rfl ⟨rfl, Or.inl ⟨hp10, rfl⟩⟩
  · exact ev_ireturn dX10_isLine_13 rfl rfl ⟨rfl, Or.inr ⟨hp10, rfl⟩⟩
end M2
end
