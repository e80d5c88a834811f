section
-- ===== PART A: goes FIRST, ahead of the names: the tables' words, and 'selects' of the private methods out of them =====
/-- a private method of a class that the tables say can be made, by its rows of tables_1 -/
def lw_okq (q : MethodName × Nat) : Prop := (q.1.cls ≠ "java/lang/invoke/MethodHandle" ∧ q.1.cls ≠ "java/lang/invoke/VarHandle") ∧ Cond.instantiable q.1.cls q.2 ∈ tables_1 ∧ Cond.privateMethod q.1 ∈ tables_1 ∧ Cond.instanceMethod q.1 ∈ tables_1
theorem lw_p0 : lw_okq (⟨"TriggerHall", "sheetAt", "(I)LTriggerHall$Sheet;"⟩, 16) := ⟨⟨by decide +kernel, by decide +kernel⟩, List.mem_of_getElem? (i := 23) (by decide +kernel), List.mem_of_getElem? (i := 273) (by decide +kernel), List.mem_of_getElem? (i := 274) (by decide +kernel)⟩
theorem lw_p1 : lw_okq (⟨"TriggerHall$Sheet", "lay", "(II)V"⟩, 4) := ⟨⟨by decide +kernel, by decide +kernel⟩, List.mem_of_getElem? (i := 32) (by decide +kernel), List.mem_of_getElem? (i := 277) (by decide +kernel), List.mem_of_getElem? (i := 278) (by decide +kernel)⟩
theorem lw_p2 : lw_okq (⟨"TriggerHall$Sheet", "has", "(I)Z"⟩, 4) := ⟨⟨by decide +kernel, by decide +kernel⟩, List.mem_of_getElem? (i := 32) (by decide +kernel), List.mem_of_getElem? (i := 285) (by decide +kernel), List.mem_of_getElem? (i := 286) (by decide +kernel)⟩
theorem lw_p3 : lw_okq (⟨"TriggerHall$Sheet", "put", "(II)V"⟩, 4) := ⟨⟨by decide +kernel, by decide +kernel⟩, List.mem_of_getElem? (i := 32) (by decide +kernel), List.mem_of_getElem? (i := 289) (by decide +kernel), List.mem_of_getElem? (i := 290) (by decide +kernel)⟩
theorem lw_p4 : lw_okq (⟨"TriggerHall$Sheet", "numberAt", "(I)I"⟩, 4) := ⟨⟨by decide +kernel, by decide +kernel⟩, List.mem_of_getElem? (i := 32) (by decide +kernel), List.mem_of_getElem? (i := 319) (by decide +kernel), List.mem_of_getElem? (i := 320) (by decide +kernel)⟩
theorem lw_p5 : lw_okq (⟨"TriggerHall$Road", "setSpan", "(II)V"⟩, 3) := ⟨⟨by decide +kernel, by decide +kernel⟩, List.mem_of_getElem? (i := 351) (by decide +kernel), List.mem_of_getElem? (i := 367) (by decide +kernel), List.mem_of_getElem? (i := 368) (by decide +kernel)⟩
theorem lw_p6 : lw_okq (⟨"java/util/ArrayList", "add", "(Ljava/lang/Object;[Ljava/lang/Object;I)V"⟩, 3) := ⟨⟨by decide +kernel, by decide +kernel⟩, List.mem_of_getElem? (i := 53) (by decide +kernel), List.mem_of_getElem? (i := 382) (by decide +kernel), List.mem_of_getElem? (i := 383) (by decide +kernel)⟩
theorem lw_p7 : lw_okq (⟨"java/util/ArrayList", "grow", "()[Ljava/lang/Object;"⟩, 3) := ⟨⟨by decide +kernel, by decide +kernel⟩, List.mem_of_getElem? (i := 53) (by decide +kernel), List.mem_of_getElem? (i := 386) (by decide +kernel), List.mem_of_getElem? (i := 387) (by decide +kernel)⟩
theorem lw_p8 : lw_okq (⟨"java/util/ArrayList", "grow", "(I)[Ljava/lang/Object;"⟩, 3) := ⟨⟨by decide +kernel, by decide +kernel⟩, List.mem_of_getElem? (i := 53) (by decide +kernel), List.mem_of_getElem? (i := 390) (by decide +kernel), List.mem_of_getElem? (i := 391) (by decide +kernel)⟩
theorem lw_p9 : lw_okq (⟨"TriggerHall", "roadAt", "(I)LTriggerHall$Road;"⟩, 16) := ⟨⟨by decide +kernel, by decide +kernel⟩, List.mem_of_getElem? (i := 23) (by decide +kernel), List.mem_of_getElem? (i := 441) (by decide +kernel), List.mem_of_getElem? (i := 442) (by decide +kernel)⟩
theorem lw_p10 : lw_okq (⟨"TriggerHall$Road", "spanTold", "(I)I"⟩, 3) := ⟨⟨by decide +kernel, by decide +kernel⟩, List.mem_of_getElem? (i := 351) (by decide +kernel), List.mem_of_getElem? (i := 464) (by decide +kernel), List.mem_of_getElem? (i := 465) (by decide +kernel)⟩
theorem lw_p11 : lw_okq (⟨"TriggerHall$Look", "see", "([I[I[I)V"⟩, 4) := ⟨⟨by decide +kernel, by decide +kernel⟩, List.mem_of_getElem? (i := 79) (by decide +kernel), List.mem_of_getElem? (i := 472) (by decide +kernel), List.mem_of_getElem? (i := 473) (by decide +kernel)⟩
theorem lw_p12 : lw_okq (⟨"TriggerHall$Look", "light", "(Ljava/util/List;)V"⟩, 4) := ⟨⟨by decide +kernel, by decide +kernel⟩, List.mem_of_getElem? (i := 79) (by decide +kernel), List.mem_of_getElem? (i := 476) (by decide +kernel), List.mem_of_getElem? (i := 477) (by decide +kernel)⟩
theorem lw_p13 : lw_okq (⟨"TriggerHall$Road", "isLit", "([I)Z"⟩, 3) := ⟨⟨by decide +kernel, by decide +kernel⟩, List.mem_of_getElem? (i := 351) (by decide +kernel), List.mem_of_getElem? (i := 485) (by decide +kernel), List.mem_of_getElem? (i := 486) (by decide +kernel)⟩
theorem lw_p14 : lw_okq (⟨"TriggerHall$Road", "layersHeld", "([I)I"⟩, 3) := ⟨⟨by decide +kernel, by decide +kernel⟩, List.mem_of_getElem? (i := 351) (by decide +kernel), List.mem_of_getElem? (i := 489) (by decide +kernel), List.mem_of_getElem? (i := 490) (by decide +kernel)⟩
theorem lw_p15 : lw_okq (⟨"TriggerHall$Road", "seenIn", "(I[I)I"⟩, 3) := ⟨⟨by decide +kernel, by decide +kernel⟩, List.mem_of_getElem? (i := 351) (by decide +kernel), List.mem_of_getElem? (i := 493) (by decide +kernel), List.mem_of_getElem? (i := 494) (by decide +kernel)⟩
def lw_privs_1 : List (MethodName × Nat) := [(⟨"TriggerHall", "sheetAt", "(I)LTriggerHall$Sheet;"⟩, 16), (⟨"TriggerHall$Sheet", "lay", "(II)V"⟩, 4), (⟨"TriggerHall$Sheet", "has", "(I)Z"⟩, 4), (⟨"TriggerHall$Sheet", "put", "(II)V"⟩, 4), (⟨"TriggerHall$Sheet", "numberAt", "(I)I"⟩, 4), (⟨"TriggerHall$Road", "setSpan", "(II)V"⟩, 3), (⟨"java/util/ArrayList", "add", "(Ljava/lang/Object;[Ljava/lang/Object;I)V"⟩, 3), (⟨"java/util/ArrayList", "grow", "()[Ljava/lang/Object;"⟩, 3), (⟨"java/util/ArrayList", "grow", "(I)[Ljava/lang/Object;"⟩, 3), (⟨"TriggerHall", "roadAt", "(I)LTriggerHall$Road;"⟩, 16), (⟨"TriggerHall$Road", "spanTold", "(I)I"⟩, 3), (⟨"TriggerHall$Look", "see", "([I[I[I)V"⟩, 4), (⟨"TriggerHall$Look", "light", "(Ljava/util/List;)V"⟩, 4), (⟨"TriggerHall$Road", "isLit", "([I)Z"⟩, 3), (⟨"TriggerHall$Road", "layersHeld", "([I)I"⟩, 3), (⟨"TriggerHall$Road", "seenIn", "(I[I)I"⟩, 3)]
theorem lw_r1 : ∀ q ∈ lw_privs_1, lw_okq q := List.forall_mem_cons.mpr ⟨lw_p0, List.forall_mem_cons.mpr ⟨lw_p1, List.forall_mem_cons.mpr ⟨lw_p2, List.forall_mem_cons.mpr ⟨lw_p3, List.forall_mem_cons.mpr ⟨lw_p4, List.forall_mem_cons.mpr ⟨lw_p5, List.forall_mem_cons.mpr ⟨lw_p6, List.forall_mem_cons.mpr ⟨lw_p7, List.forall_mem_cons.mpr ⟨lw_p8, List.forall_mem_cons.mpr ⟨lw_p9, List.forall_mem_cons.mpr ⟨lw_p10, List.forall_mem_cons.mpr ⟨lw_p11, List.forall_mem_cons.mpr ⟨lw_p12, List.forall_mem_cons.mpr ⟨lw_p13, List.forall_mem_cons.mpr ⟨lw_p14, List.forall_mem_cons.mpr ⟨lw_p15, fun _ h => absurd h List.not_mem_nil⟩⟩⟩⟩⟩⟩⟩⟩⟩⟩⟩⟩⟩⟩⟩⟩
theorem lw_p16 : lw_okq (⟨"TriggerHall", "fitInHand", "(LTriggerHall$Road;)Z"⟩, 16) := ⟨⟨by decide +kernel, by decide +kernel⟩, List.mem_of_getElem? (i := 23) (by decide +kernel), List.mem_of_getElem? (i := 507) (by decide +kernel), List.mem_of_getElem? (i := 508) (by decide +kernel)⟩
theorem lw_p17 : lw_okq (⟨"TriggerHall$Look", "fitAlong", "(LTriggerHall$Road;)Z"⟩, 4) := ⟨⟨by decide +kernel, by decide +kernel⟩, List.mem_of_getElem? (i := 79) (by decide +kernel), List.mem_of_getElem? (i := 511) (by decide +kernel), List.mem_of_getElem? (i := 512) (by decide +kernel)⟩
theorem lw_p18 : lw_okq (⟨"TriggerHall$Fit", "along", "(LTriggerHall$Road;[I)V"⟩, 7) := ⟨⟨by decide +kernel, by decide +kernel⟩, List.mem_of_getElem? (i := 85) (by decide +kernel), List.mem_of_getElem? (i := 515) (by decide +kernel), List.mem_of_getElem? (i := 516) (by decide +kernel)⟩
theorem lw_p19 : lw_okq (⟨"TriggerHall$Fit", "tryCells", "(IIII)V"⟩, 7) := ⟨⟨by decide +kernel, by decide +kernel⟩, List.mem_of_getElem? (i := 85) (by decide +kernel), List.mem_of_getElem? (i := 521) (by decide +kernel), List.mem_of_getElem? (i := 522) (by decide +kernel)⟩
theorem lw_p20 : lw_okq (⟨"TriggerHall$Fit", "takeTrial", "(III)V"⟩, 7) := ⟨⟨by decide +kernel, by decide +kernel⟩, List.mem_of_getElem? (i := 85) (by decide +kernel), List.mem_of_getElem? (i := 525) (by decide +kernel), List.mem_of_getElem? (i := 526) (by decide +kernel)⟩
theorem lw_p21 : lw_okq (⟨"TriggerHall$Fit", "isPerfect", "()Z"⟩, 7) := ⟨⟨by decide +kernel, by decide +kernel⟩, List.mem_of_getElem? (i := 85) (by decide +kernel), List.mem_of_getElem? (i := 533) (by decide +kernel), List.mem_of_getElem? (i := 534) (by decide +kernel)⟩
theorem lw_p22 : lw_okq (⟨"TriggerHall$Fit", "above", "()I"⟩, 7) := ⟨⟨by decide +kernel, by decide +kernel⟩, List.mem_of_getElem? (i := 85) (by decide +kernel), List.mem_of_getElem? (i := 541) (by decide +kernel), List.mem_of_getElem? (i := 542) (by decide +kernel)⟩
theorem lw_p23 : lw_okq (⟨"TriggerHall$Fit", "below", "()I"⟩, 7) := ⟨⟨by decide +kernel, by decide +kernel⟩, List.mem_of_getElem? (i := 85) (by decide +kernel), List.mem_of_getElem? (i := 545) (by decide +kernel), List.mem_of_getElem? (i := 546) (by decide +kernel)⟩
theorem lw_p24 : lw_okq (⟨"TriggerHall$Fit", "worth", "()I"⟩, 7) := ⟨⟨by decide +kernel, by decide +kernel⟩, List.mem_of_getElem? (i := 85) (by decide +kernel), List.mem_of_getElem? (i := 558) (by decide +kernel), List.mem_of_getElem? (i := 559) (by decide +kernel)⟩
theorem lw_p25 : lw_okq (⟨"TriggerHall", "lookAt", "([I)V"⟩, 16) := ⟨⟨by decide +kernel, by decide +kernel⟩, List.mem_of_getElem? (i := 23) (by decide +kernel), List.mem_of_getElem? (i := 567) (by decide +kernel), List.mem_of_getElem? (i := 568) (by decide +kernel)⟩
theorem lw_p26 : lw_okq (⟨"TriggerHall$Look", "pile", "(Ljava/util/List;)V"⟩, 4) := ⟨⟨by decide +kernel, by decide +kernel⟩, List.mem_of_getElem? (i := 79) (by decide +kernel), List.mem_of_getElem? (i := 571) (by decide +kernel), List.mem_of_getElem? (i := 572) (by decide +kernel)⟩
theorem lw_p27 : lw_okq (⟨"TriggerHall$Heap", "empty", "()V"⟩, 7) := ⟨⟨by decide +kernel, by decide +kernel⟩, List.mem_of_getElem? (i := 115) (by decide +kernel), List.mem_of_getElem? (i := 575) (by decide +kernel), List.mem_of_getElem? (i := 576) (by decide +kernel)⟩
theorem lw_p28 : lw_okq (⟨"TriggerHall$Heap", "put", "(I[I)V"⟩, 7) := ⟨⟨by decide +kernel, by decide +kernel⟩, List.mem_of_getElem? (i := 115) (by decide +kernel), List.mem_of_getElem? (i := 581) (by decide +kernel), List.mem_of_getElem? (i := 582) (by decide +kernel)⟩
theorem lw_p29 : lw_okq (⟨"TriggerHall$Heap", "clash", "(II)Z"⟩, 7) := ⟨⟨by decide +kernel, by decide +kernel⟩, List.mem_of_getElem? (i := 115) (by decide +kernel), List.mem_of_getElem? (i := 585) (by decide +kernel), List.mem_of_getElem? (i := 586) (by decide +kernel)⟩
theorem lw_p30 : lw_okq (⟨"TriggerHall$Heap", "choose", "()V"⟩, 7) := ⟨⟨by decide +kernel, by decide +kernel⟩, List.mem_of_getElem? (i := 115) (by decide +kernel), List.mem_of_getElem? (i := 589) (by decide +kernel), List.mem_of_getElem? (i := 590) (by decide +kernel)⟩
theorem lw_p31 : lw_okq (⟨"TriggerHall$Heap", "chooseFrom", "(III)V"⟩, 7) := ⟨⟨by decide +kernel, by decide +kernel⟩, List.mem_of_getElem? (i := 115) (by decide +kernel), List.mem_of_getElem? (i := 593) (by decide +kernel), List.mem_of_getElem? (i := 594) (by decide +kernel)⟩
def lw_privs_2 : List (MethodName × Nat) := [(⟨"TriggerHall", "fitInHand", "(LTriggerHall$Road;)Z"⟩, 16), (⟨"TriggerHall$Look", "fitAlong", "(LTriggerHall$Road;)Z"⟩, 4), (⟨"TriggerHall$Fit", "along", "(LTriggerHall$Road;[I)V"⟩, 7), (⟨"TriggerHall$Fit", "tryCells", "(IIII)V"⟩, 7), (⟨"TriggerHall$Fit", "takeTrial", "(III)V"⟩, 7), (⟨"TriggerHall$Fit", "isPerfect", "()Z"⟩, 7), (⟨"TriggerHall$Fit", "above", "()I"⟩, 7), (⟨"TriggerHall$Fit", "below", "()I"⟩, 7), (⟨"TriggerHall$Fit", "worth", "()I"⟩, 7), (⟨"TriggerHall", "lookAt", "([I)V"⟩, 16), (⟨"TriggerHall$Look", "pile", "(Ljava/util/List;)V"⟩, 4), (⟨"TriggerHall$Heap", "empty", "()V"⟩, 7), (⟨"TriggerHall$Heap", "put", "(I[I)V"⟩, 7), (⟨"TriggerHall$Heap", "clash", "(II)Z"⟩, 7), (⟨"TriggerHall$Heap", "choose", "()V"⟩, 7), (⟨"TriggerHall$Heap", "chooseFrom", "(III)V"⟩, 7)]
theorem lw_r2 : ∀ q ∈ lw_privs_2, lw_okq q := List.forall_mem_cons.mpr ⟨lw_p16, List.forall_mem_cons.mpr ⟨lw_p17, List.forall_mem_cons.mpr ⟨lw_p18, List.forall_mem_cons.mpr ⟨lw_p19, List.forall_mem_cons.mpr ⟨lw_p20, List.forall_mem_cons.mpr ⟨lw_p21, List.forall_mem_cons.mpr ⟨lw_p22, List.forall_mem_cons.mpr ⟨lw_p23, List.forall_mem_cons.mpr ⟨lw_p24, List.forall_mem_cons.mpr ⟨lw_p25, List.forall_mem_cons.mpr ⟨lw_p26, List.forall_mem_cons.mpr ⟨lw_p27, List.forall_mem_cons.mpr ⟨lw_p28, List.forall_mem_cons.mpr ⟨lw_p29, List.forall_mem_cons.mpr ⟨lw_p30, List.forall_mem_cons.mpr ⟨lw_p31, fun _ h => absurd h List.not_mem_nil⟩⟩⟩⟩⟩⟩⟩⟩⟩⟩⟩⟩⟩⟩⟩⟩
theorem lw_p32 : lw_okq (⟨"TriggerHall$Text", "put", "(C)V"⟩, 2) := ⟨⟨by decide +kernel, by decide +kernel⟩, List.mem_of_getElem? (i := 164) (by decide +kernel), List.mem_of_getElem? (i := 613) (by decide +kernel), List.mem_of_getElem? (i := 614) (by decide +kernel)⟩
theorem lw_p33 : lw_okq (⟨"TriggerHall$Reader", "read", "(LTriggerHall$Text;LTriggerHall$Look;)Z"⟩, 4) := ⟨⟨by decide +kernel, by decide +kernel⟩, List.mem_of_getElem? (i := 180) (by decide +kernel), List.mem_of_getElem? (i := 628) (by decide +kernel), List.mem_of_getElem? (i := 629) (by decide +kernel)⟩
theorem lw_p34 : lw_okq (⟨"TriggerHall$Reader", "readAny", "(I)Z"⟩, 4) := ⟨⟨by decide +kernel, by decide +kernel⟩, List.mem_of_getElem? (i := 180) (by decide +kernel), List.mem_of_getElem? (i := 632) (by decide +kernel), List.mem_of_getElem? (i := 633) (by decide +kernel)⟩
theorem lw_p35 : lw_okq (⟨"TriggerHall$Reader", "readBoth", "(I)Z"⟩, 4) := ⟨⟨by decide +kernel, by decide +kernel⟩, List.mem_of_getElem? (i := 180) (by decide +kernel), List.mem_of_getElem? (i := 636) (by decide +kernel), List.mem_of_getElem? (i := 637) (by decide +kernel)⟩
theorem lw_p36 : lw_okq (⟨"TriggerHall$Reader", "readOne", "(I)Z"⟩, 4) := ⟨⟨by decide +kernel, by decide +kernel⟩, List.mem_of_getElem? (i := 180) (by decide +kernel), List.mem_of_getElem? (i := 640) (by decide +kernel), List.mem_of_getElem? (i := 641) (by decide +kernel)⟩
theorem lw_p37 : lw_okq (⟨"TriggerHall$Text", "letterAt", "(I)I"⟩, 2) := ⟨⟨by decide +kernel, by decide +kernel⟩, List.mem_of_getElem? (i := 164) (by decide +kernel), List.mem_of_getElem? (i := 644) (by decide +kernel), List.mem_of_getElem? (i := 645) (by decide +kernel)⟩
theorem lw_p38 : lw_okq (⟨"TriggerHall$Reader", "readAsked", "()Z"⟩, 4) := ⟨⟨by decide +kernel, by decide +kernel⟩, List.mem_of_getElem? (i := 180) (by decide +kernel), List.mem_of_getElem? (i := 648) (by decide +kernel), List.mem_of_getElem? (i := 649) (by decide +kernel)⟩
theorem lw_p39 : lw_okq (⟨"TriggerHall$Reader", "fail", "()Z"⟩, 4) := ⟨⟨by decide +kernel, by decide +kernel⟩, List.mem_of_getElem? (i := 180) (by decide +kernel), List.mem_of_getElem? (i := 655) (by decide +kernel), List.mem_of_getElem? (i := 656) (by decide +kernel)⟩
theorem lw_p40 : lw_okq (⟨"TriggerHall$Reader", "readNumber", "()I"⟩, 4) := ⟨⟨by decide +kernel, by decide +kernel⟩, List.mem_of_getElem? (i := 180) (by decide +kernel), List.mem_of_getElem? (i := 659) (by decide +kernel), List.mem_of_getElem? (i := 660) (by decide +kernel)⟩
theorem lw_p41 : lw_okq (⟨"TriggerHall$Look", "answers", "(II)Z"⟩, 4) := ⟨⟨by decide +kernel, by decide +kernel⟩, List.mem_of_getElem? (i := 79) (by decide +kernel), List.mem_of_getElem? (i := 666) (by decide +kernel), List.mem_of_getElem? (i := 667) (by decide +kernel)⟩
theorem lw_p42 : lw_okq (⟨"TriggerHall$Look", "layersSeen", "()I"⟩, 4) := ⟨⟨by decide +kernel, by decide +kernel⟩, List.mem_of_getElem? (i := 79) (by decide +kernel), List.mem_of_getElem? (i := 672) (by decide +kernel), List.mem_of_getElem? (i := 673) (by decide +kernel)⟩
theorem lw_p43 : lw_okq (⟨"TriggerHall$Reader", "passOver", "(C)Z"⟩, 4) := ⟨⟨by decide +kernel, by decide +kernel⟩, List.mem_of_getElem? (i := 180) (by decide +kernel), List.mem_of_getElem? (i := 676) (by decide +kernel), List.mem_of_getElem? (i := 677) (by decide +kernel)⟩
theorem lw_p44 : lw_okq (⟨"TriggerHall$Text", "copy", "(LTriggerHall$Text;)V"⟩, 2) := ⟨⟨by decide +kernel, by decide +kernel⟩, List.mem_of_getElem? (i := 164) (by decide +kernel), List.mem_of_getElem? (i := 688) (by decide +kernel), List.mem_of_getElem? (i := 689) (by decide +kernel)⟩
theorem lw_p45 : lw_okq (⟨"TriggerHall", "lineAt", "(I)LTriggerHall$Line;"⟩, 16) := ⟨⟨by decide +kernel, by decide +kernel⟩, List.mem_of_getElem? (i := 23) (by decide +kernel), List.mem_of_getElem? (i := 726) (by decide +kernel), List.mem_of_getElem? (i := 727) (by decide +kernel)⟩
theorem lw_p46 : lw_okq (⟨"TriggerHall", "loseCrossing", "()I"⟩, 16) := ⟨⟨by decide +kernel, by decide +kernel⟩, List.mem_of_getElem? (i := 23) (by decide +kernel), List.mem_of_getElem? (i := 742) (by decide +kernel), List.mem_of_getElem? (i := 743) (by decide +kernel)⟩
theorem lw_p47 : lw_okq (⟨"TriggerHall", "judgeCrossing", "(I)I"⟩, 16) := ⟨⟨by decide +kernel, by decide +kernel⟩, List.mem_of_getElem? (i := 23) (by decide +kernel), List.mem_of_getElem? (i := 746) (by decide +kernel), List.mem_of_getElem? (i := 747) (by decide +kernel)⟩
def lw_privs_3 : List (MethodName × Nat) := [(⟨"TriggerHall$Text", "put", "(C)V"⟩, 2), (⟨"TriggerHall$Reader", "read", "(LTriggerHall$Text;LTriggerHall$Look;)Z"⟩, 4), (⟨"TriggerHall$Reader", "readAny", "(I)Z"⟩, 4), (⟨"TriggerHall$Reader", "readBoth", "(I)Z"⟩, 4), (⟨"TriggerHall$Reader", "readOne", "(I)Z"⟩, 4), (⟨"TriggerHall$Text", "letterAt", "(I)I"⟩, 2), (⟨"TriggerHall$Reader", "readAsked", "()Z"⟩, 4), (⟨"TriggerHall$Reader", "fail", "()Z"⟩, 4), (⟨"TriggerHall$Reader", "readNumber", "()I"⟩, 4), (⟨"TriggerHall$Look", "answers", "(II)Z"⟩, 4), (⟨"TriggerHall$Look", "layersSeen", "()I"⟩, 4), (⟨"TriggerHall$Reader", "passOver", "(C)Z"⟩, 4), (⟨"TriggerHall$Text", "copy", "(LTriggerHall$Text;)V"⟩, 2), (⟨"TriggerHall", "lineAt", "(I)LTriggerHall$Line;"⟩, 16), (⟨"TriggerHall", "loseCrossing", "()I"⟩, 16), (⟨"TriggerHall", "judgeCrossing", "(I)I"⟩, 16)]
theorem lw_r3 : ∀ q ∈ lw_privs_3, lw_okq q := List.forall_mem_cons.mpr ⟨lw_p32, List.forall_mem_cons.mpr ⟨lw_p33, List.forall_mem_cons.mpr ⟨lw_p34, List.forall_mem_cons.mpr ⟨lw_p35, List.forall_mem_cons.mpr ⟨lw_p36, List.forall_mem_cons.mpr ⟨lw_p37, List.forall_mem_cons.mpr ⟨lw_p38, List.forall_mem_cons.mpr ⟨lw_p39, List.forall_mem_cons.mpr ⟨lw_p40, List.forall_mem_cons.mpr ⟨lw_p41, List.forall_mem_cons.mpr ⟨lw_p42, List.forall_mem_cons.mpr ⟨lw_p43, List.forall_mem_cons.mpr ⟨lw_p44, List.forall_mem_cons.mpr ⟨lw_p45, List.forall_mem_cons.mpr ⟨lw_p46, List.forall_mem_cons.mpr ⟨lw_p47, fun _ h => absurd h List.not_mem_nil⟩⟩⟩⟩⟩⟩⟩⟩⟩⟩⟩⟩⟩⟩⟩⟩
theorem lw_p48 : lw_okq (⟨"TriggerHall", "holdingLines", "()I"⟩, 16) := ⟨⟨by decide +kernel, by decide +kernel⟩, List.mem_of_getElem? (i := 23) (by decide +kernel), List.mem_of_getElem? (i := 750) (by decide +kernel), List.mem_of_getElem? (i := 751) (by decide +kernel)⟩
theorem lw_p49 : lw_okq (⟨"TriggerHall", "passLines", "(I)I"⟩, 16) := ⟨⟨by decide +kernel, by decide +kernel⟩, List.mem_of_getElem? (i := 23) (by decide +kernel), List.mem_of_getElem? (i := 754) (by decide +kernel), List.mem_of_getElem? (i := 755) (by decide +kernel)⟩
theorem lw_p50 : lw_okq (⟨"TriggerHall$Line", "countPasses", "()Z"⟩, 7) := ⟨⟨by decide +kernel, by decide +kernel⟩, List.mem_of_getElem? (i := 680) (by decide +kernel), List.mem_of_getElem? (i := 758) (by decide +kernel), List.mem_of_getElem? (i := 759) (by decide +kernel)⟩
theorem lw_p51 : lw_okq (⟨"TriggerHall", "barLines", "()I"⟩, 16) := ⟨⟨by decide +kernel, by decide +kernel⟩, List.mem_of_getElem? (i := 23) (by decide +kernel), List.mem_of_getElem? (i := 762) (by decide +kernel), List.mem_of_getElem? (i := 763) (by decide +kernel)⟩
theorem lw_p52 : lw_okq (⟨"TriggerHall", "creditLines", "(I)V"⟩, 16) := ⟨⟨by decide +kernel, by decide +kernel⟩, List.mem_of_getElem? (i := 23) (by decide +kernel), List.mem_of_getElem? (i := 766) (by decide +kernel), List.mem_of_getElem? (i := 767) (by decide +kernel)⟩
theorem lw_p53 : lw_okq (⟨"TriggerHall$Line", "credit", "(Z)V"⟩, 7) := ⟨⟨by decide +kernel, by decide +kernel⟩, List.mem_of_getElem? (i := 680) (by decide +kernel), List.mem_of_getElem? (i := 770) (by decide +kernel), List.mem_of_getElem? (i := 771) (by decide +kernel)⟩
theorem lw_p54 : lw_okq (⟨"TriggerHall$Raws", "keep", "(II[I)V"⟩, 4) := ⟨⟨by decide +kernel, by decide +kernel⟩, List.mem_of_getElem? (i := 200) (by decide +kernel), List.mem_of_getElem? (i := 774) (by decide +kernel), List.mem_of_getElem? (i := 775) (by decide +kernel)⟩
theorem lw_p55 : lw_okq (⟨"TriggerHall$Raws", "slotOf", "(I)I"⟩, 4) := ⟨⟨by decide +kernel, by decide +kernel⟩, List.mem_of_getElem? (i := 200) (by decide +kernel), List.mem_of_getElem? (i := 778) (by decide +kernel), List.mem_of_getElem? (i := 779) (by decide +kernel)⟩
theorem lw_p56 : lw_okq (⟨"TriggerHall$Raws", "size", "()I"⟩, 4) := ⟨⟨by decide +kernel, by decide +kernel⟩, List.mem_of_getElem? (i := 200) (by decide +kernel), List.mem_of_getElem? (i := 793) (by decide +kernel), List.mem_of_getElem? (i := 794) (by decide +kernel)⟩
theorem lw_p57 : lw_okq (⟨"TriggerHall$Raws", "has", "(I)Z"⟩, 4) := ⟨⟨by decide +kernel, by decide +kernel⟩, List.mem_of_getElem? (i := 200) (by decide +kernel), List.mem_of_getElem? (i := 802) (by decide +kernel), List.mem_of_getElem? (i := 803) (by decide +kernel)⟩
theorem lw_p58 : lw_okq (⟨"TriggerHall$Raws", "numberOf", "(I)I"⟩, 4) := ⟨⟨by decide +kernel, by decide +kernel⟩, List.mem_of_getElem? (i := 200) (by decide +kernel), List.mem_of_getElem? (i := 807) (by decide +kernel), List.mem_of_getElem? (i := 808) (by decide +kernel)⟩
theorem lw_p59 : lw_okq (⟨"TriggerHall$Raws", "passedAt", "(I)I"⟩, 4) := ⟨⟨by decide +kernel, by decide +kernel⟩, List.mem_of_getElem? (i := 200) (by decide +kernel), List.mem_of_getElem? (i := 811) (by decide +kernel), List.mem_of_getElem? (i := 812) (by decide +kernel)⟩
theorem lw_p60 : lw_okq (⟨"TriggerHall$Raws", "copyHits", "(I[I)V"⟩, 4) := ⟨⟨by decide +kernel, by decide +kernel⟩, List.mem_of_getElem? (i := 200) (by decide +kernel), List.mem_of_getElem? (i := 815) (by decide +kernel), List.mem_of_getElem? (i := 816) (by decide +kernel)⟩
theorem lw_p61 : lw_okq (⟨"TriggerHall$Line", "forget", "()V"⟩, 7) := ⟨⟨by decide +kernel, by decide +kernel⟩, List.mem_of_getElem? (i := 680) (by decide +kernel), List.mem_of_getElem? (i := 827) (by decide +kernel), List.mem_of_getElem? (i := 828) (by decide +kernel)⟩
theorem lw_p62 : lw_okq (⟨"TriggerHallModel", "allHits", "()I"⟩, 41) := ⟨⟨by decide +kernel, by decide +kernel⟩, List.mem_of_getElem? (i := 831) (by decide +kernel), List.mem_of_getElem? (i := 996) (by decide +kernel), List.mem_of_getElem? (i := 997) (by decide +kernel)⟩
theorem lw_p63 : lw_okq (⟨"TriggerHallModel", "seen", "(I)I"⟩, 41) := ⟨⟨by decide +kernel, by decide +kernel⟩, List.mem_of_getElem? (i := 831) (by decide +kernel), List.mem_of_getElem? (i := 1008) (by decide +kernel), List.mem_of_getElem? (i := 1009) (by decide +kernel)⟩
def lw_privs_4 : List (MethodName × Nat) := [(⟨"TriggerHall", "holdingLines", "()I"⟩, 16), (⟨"TriggerHall", "passLines", "(I)I"⟩, 16), (⟨"TriggerHall$Line", "countPasses", "()Z"⟩, 7), (⟨"TriggerHall", "barLines", "()I"⟩, 16), (⟨"TriggerHall", "creditLines", "(I)V"⟩, 16), (⟨"TriggerHall$Line", "credit", "(Z)V"⟩, 7), (⟨"TriggerHall$Raws", "keep", "(II[I)V"⟩, 4), (⟨"TriggerHall$Raws", "slotOf", "(I)I"⟩, 4), (⟨"TriggerHall$Raws", "size", "()I"⟩, 4), (⟨"TriggerHall$Raws", "has", "(I)Z"⟩, 4), (⟨"TriggerHall$Raws", "numberOf", "(I)I"⟩, 4), (⟨"TriggerHall$Raws", "passedAt", "(I)I"⟩, 4), (⟨"TriggerHall$Raws", "copyHits", "(I[I)V"⟩, 4), (⟨"TriggerHall$Line", "forget", "()V"⟩, 7), (⟨"TriggerHallModel", "allHits", "()I"⟩, 41), (⟨"TriggerHallModel", "seen", "(I)I"⟩, 41)]
theorem lw_r4 : ∀ q ∈ lw_privs_4, lw_okq q := List.forall_mem_cons.mpr ⟨lw_p48, List.forall_mem_cons.mpr ⟨lw_p49, List.forall_mem_cons.mpr ⟨lw_p50, List.forall_mem_cons.mpr ⟨lw_p51, List.forall_mem_cons.mpr ⟨lw_p52, List.forall_mem_cons.mpr ⟨lw_p53, List.forall_mem_cons.mpr ⟨lw_p54, List.forall_mem_cons.mpr ⟨lw_p55, List.forall_mem_cons.mpr ⟨lw_p56, List.forall_mem_cons.mpr ⟨lw_p57, List.forall_mem_cons.mpr ⟨lw_p58, List.forall_mem_cons.mpr ⟨lw_p59, List.forall_mem_cons.mpr ⟨lw_p60, List.forall_mem_cons.mpr ⟨lw_p61, List.forall_mem_cons.mpr ⟨lw_p62, List.forall_mem_cons.mpr ⟨lw_p63, fun _ h => absurd h List.not_mem_nil⟩⟩⟩⟩⟩⟩⟩⟩⟩⟩⟩⟩⟩⟩⟩⟩
theorem lw_p64 : lw_okq (⟨"TriggerHallModel", "isRoad", "(I)Z"⟩, 41) := ⟨⟨by decide +kernel, by decide +kernel⟩, List.mem_of_getElem? (i := 831) (by decide +kernel), List.mem_of_getElem? (i := 1024) (by decide +kernel), List.mem_of_getElem? (i := 1025) (by decide +kernel)⟩
theorem lw_p65 : lw_okq (⟨"TriggerHallModel", "isLit", "(I)Z"⟩, 41) := ⟨⟨by decide +kernel, by decide +kernel⟩, List.mem_of_getElem? (i := 831) (by decide +kernel), List.mem_of_getElem? (i := 1032) (by decide +kernel), List.mem_of_getElem? (i := 1033) (by decide +kernel)⟩
theorem lw_p66 : lw_okq (⟨"TriggerHallModel", "heldBy", "(IZ)I"⟩, 41) := ⟨⟨by decide +kernel, by decide +kernel⟩, List.mem_of_getElem? (i := 831) (by decide +kernel), List.mem_of_getElem? (i := 1036) (by decide +kernel), List.mem_of_getElem? (i := 1037) (by decide +kernel)⟩
theorem lw_p67 : lw_okq (⟨"TriggerHallModel", "isIn", "(III)Z"⟩, 41) := ⟨⟨by decide +kernel, by decide +kernel⟩, List.mem_of_getElem? (i := 831) (by decide +kernel), List.mem_of_getElem? (i := 1040) (by decide +kernel), List.mem_of_getElem? (i := 1041) (by decide +kernel)⟩
theorem lw_p68 : lw_okq (⟨"TriggerHallModel", "findTrack", "(I)Z"⟩, 41) := ⟨⟨by decide +kernel, by decide +kernel⟩, List.mem_of_getElem? (i := 831) (by decide +kernel), List.mem_of_getElem? (i := 1052) (by decide +kernel), List.mem_of_getElem? (i := 1053) (by decide +kernel)⟩
theorem lw_p69 : lw_okq (⟨"TriggerHallModel", "findFrom", "(III)V"⟩, 41) := ⟨⟨by decide +kernel, by decide +kernel⟩, List.mem_of_getElem? (i := 831) (by decide +kernel), List.mem_of_getElem? (i := 1056) (by decide +kernel), List.mem_of_getElem? (i := 1057) (by decide +kernel)⟩
theorem lw_p70 : lw_okq (⟨"TriggerHallModel", "miss", "(I)I"⟩, 41) := ⟨⟨by decide +kernel, by decide +kernel⟩, List.mem_of_getElem? (i := 831) (by decide +kernel), List.mem_of_getElem? (i := 1060) (by decide +kernel), List.mem_of_getElem? (i := 1061) (by decide +kernel)⟩
theorem lw_p71 : lw_okq (⟨"TriggerHallModel", "weightOf", "(I)I"⟩, 41) := ⟨⟨by decide +kernel, by decide +kernel⟩, List.mem_of_getElem? (i := 831) (by decide +kernel), List.mem_of_getElem? (i := 1075) (by decide +kernel), List.mem_of_getElem? (i := 1076) (by decide +kernel)⟩
theorem lw_p72 : lw_okq (⟨"TriggerHallModel", "findHeap", "()V"⟩, 41) := ⟨⟨by decide +kernel, by decide +kernel⟩, List.mem_of_getElem? (i := 831) (by decide +kernel), List.mem_of_getElem? (i := 1083) (by decide +kernel), List.mem_of_getElem? (i := 1084) (by decide +kernel)⟩
theorem lw_p73 : lw_okq (⟨"TriggerHallModel", "areApart", "(II)Z"⟩, 41) := ⟨⟨by decide +kernel, by decide +kernel⟩, List.mem_of_getElem? (i := 831) (by decide +kernel), List.mem_of_getElem? (i := 1087) (by decide +kernel), List.mem_of_getElem? (i := 1088) (by decide +kernel)⟩
theorem lw_p74 : lw_okq (⟨"TriggerHallModel", "faultOf", "()I"⟩, 41) := ⟨⟨by decide +kernel, by decide +kernel⟩, List.mem_of_getElem? (i := 831) (by decide +kernel), List.mem_of_getElem? (i := 1108) (by decide +kernel), List.mem_of_getElem? (i := 1109) (by decide +kernel)⟩
theorem lw_p75 : lw_okq (⟨"TriggerHallModel", "isLine", "(I)Z"⟩, 41) := ⟨⟨by decide +kernel, by decide +kernel⟩, List.mem_of_getElem? (i := 831) (by decide +kernel), List.mem_of_getElem? (i := 1122) (by decide +kernel), List.mem_of_getElem? (i := 1123) (by decide +kernel)⟩
theorem lw_p76 : lw_okq (⟨"TriggerHallModel", "holding", "()I"⟩, 41) := ⟨⟨by decide +kernel, by decide +kernel⟩, List.mem_of_getElem? (i := 831) (by decide +kernel), List.mem_of_getElem? (i := 1130) (by decide +kernel), List.mem_of_getElem? (i := 1131) (by decide +kernel)⟩
theorem lw_p77 : lw_okq (⟨"TriggerHallModel", "any", "()Z"⟩, 41) := ⟨⟨by decide +kernel, by decide +kernel⟩, List.mem_of_getElem? (i := 831) (by decide +kernel), List.mem_of_getElem? (i := 1134) (by decide +kernel), List.mem_of_getElem? (i := 1135) (by decide +kernel)⟩
theorem lw_p78 : lw_okq (⟨"TriggerHallModel", "both", "()Z"⟩, 41) := ⟨⟨by decide +kernel, by decide +kernel⟩, List.mem_of_getElem? (i := 831) (by decide +kernel), List.mem_of_getElem? (i := 1138) (by decide +kernel), List.mem_of_getElem? (i := 1139) (by decide +kernel)⟩
theorem lw_p79 : lw_okq (⟨"TriggerHallModel", "one", "()Z"⟩, 41) := ⟨⟨by decide +kernel, by decide +kernel⟩, List.mem_of_getElem? (i := 831) (by decide +kernel), List.mem_of_getElem? (i := 1142) (by decide +kernel), List.mem_of_getElem? (i := 1143) (by decide +kernel)⟩
def lw_privs_5 : List (MethodName × Nat) := [(⟨"TriggerHallModel", "isRoad", "(I)Z"⟩, 41), (⟨"TriggerHallModel", "isLit", "(I)Z"⟩, 41), (⟨"TriggerHallModel", "heldBy", "(IZ)I"⟩, 41), (⟨"TriggerHallModel", "isIn", "(III)Z"⟩, 41), (⟨"TriggerHallModel", "findTrack", "(I)Z"⟩, 41), (⟨"TriggerHallModel", "findFrom", "(III)V"⟩, 41), (⟨"TriggerHallModel", "miss", "(I)I"⟩, 41), (⟨"TriggerHallModel", "weightOf", "(I)I"⟩, 41), (⟨"TriggerHallModel", "findHeap", "()V"⟩, 41), (⟨"TriggerHallModel", "areApart", "(II)Z"⟩, 41), (⟨"TriggerHallModel", "faultOf", "()I"⟩, 41), (⟨"TriggerHallModel", "isLine", "(I)Z"⟩, 41), (⟨"TriggerHallModel", "holding", "()I"⟩, 41), (⟨"TriggerHallModel", "any", "()Z"⟩, 41), (⟨"TriggerHallModel", "both", "()Z"⟩, 41), (⟨"TriggerHallModel", "one", "()Z"⟩, 41)]
theorem lw_r5 : ∀ q ∈ lw_privs_5, lw_okq q := List.forall_mem_cons.mpr ⟨lw_p64, List.forall_mem_cons.mpr ⟨lw_p65, List.forall_mem_cons.mpr ⟨lw_p66, List.forall_mem_cons.mpr ⟨lw_p67, List.forall_mem_cons.mpr ⟨lw_p68, List.forall_mem_cons.mpr ⟨lw_p69, List.forall_mem_cons.mpr ⟨lw_p70, List.forall_mem_cons.mpr ⟨lw_p71, List.forall_mem_cons.mpr ⟨lw_p72, List.forall_mem_cons.mpr ⟨lw_p73, List.forall_mem_cons.mpr ⟨lw_p74, List.forall_mem_cons.mpr ⟨lw_p75, List.forall_mem_cons.mpr ⟨lw_p76, List.forall_mem_cons.mpr ⟨lw_p77, List.forall_mem_cons.mpr ⟨lw_p78, List.forall_mem_cons.mpr ⟨lw_p79, fun _ h => absurd h List.not_mem_nil⟩⟩⟩⟩⟩⟩⟩⟩⟩⟩⟩⟩⟩⟩⟩⟩
theorem lw_p80 : lw_okq (⟨"TriggerHallModel", "letter", "()I"⟩, 41) := ⟨⟨by decide +kernel, by decide +kernel⟩, List.mem_of_getElem? (i := 831) (by decide +kernel), List.mem_of_getElem? (i := 1146) (by decide +kernel), List.mem_of_getElem? (i := 1147) (by decide +kernel)⟩
theorem lw_p81 : lw_okq (⟨"TriggerHallModel", "is", "(II)Z"⟩, 41) := ⟨⟨by decide +kernel, by decide +kernel⟩, List.mem_of_getElem? (i := 831) (by decide +kernel), List.mem_of_getElem? (i := 1150) (by decide +kernel), List.mem_of_getElem? (i := 1151) (by decide +kernel)⟩
theorem lw_p82 : lw_okq (⟨"TriggerHallModel", "look", "()I"⟩, 41) := ⟨⟨by decide +kernel, by decide +kernel⟩, List.mem_of_getElem? (i := 831) (by decide +kernel), List.mem_of_getElem? (i := 1162) (by decide +kernel), List.mem_of_getElem? (i := 1163) (by decide +kernel)⟩
theorem lw_p83 : lw_okq (⟨"TriggerHallModel", "noHits", "()V"⟩, 41) := ⟨⟨by decide +kernel, by decide +kernel⟩, List.mem_of_getElem? (i := 831) (by decide +kernel), List.mem_of_getElem? (i := 1166) (by decide +kernel), List.mem_of_getElem? (i := 1167) (by decide +kernel)⟩
theorem lw_p84 : lw_okq (⟨"TriggerHallModel", "raws", "()I"⟩, 41) := ⟨⟨by decide +kernel, by decide +kernel⟩, List.mem_of_getElem? (i := 831) (by decide +kernel), List.mem_of_getElem? (i := 1179) (by decide +kernel), List.mem_of_getElem? (i := 1180) (by decide +kernel)⟩
theorem lw_p85 : lw_okq (⟨"TriggerHallModel", "rawAt", "(I)I"⟩, 41) := ⟨⟨by decide +kernel, by decide +kernel⟩, List.mem_of_getElem? (i := 831) (by decide +kernel), List.mem_of_getElem? (i := 1188) (by decide +kernel), List.mem_of_getElem? (i := 1189) (by decide +kernel)⟩
def lw_privs_6 : List (MethodName × Nat) := [(⟨"TriggerHallModel", "letter", "()I"⟩, 41), (⟨"TriggerHallModel", "is", "(II)Z"⟩, 41), (⟨"TriggerHallModel", "look", "()I"⟩, 41), (⟨"TriggerHallModel", "noHits", "()V"⟩, 41), (⟨"TriggerHallModel", "raws", "()I"⟩, 41), (⟨"TriggerHallModel", "rawAt", "(I)I"⟩, 41)]
theorem lw_r6 : ∀ q ∈ lw_privs_6, lw_okq q := List.forall_mem_cons.mpr ⟨lw_p80, List.forall_mem_cons.mpr ⟨lw_p81, List.forall_mem_cons.mpr ⟨lw_p82, List.forall_mem_cons.mpr ⟨lw_p83, List.forall_mem_cons.mpr ⟨lw_p84, List.forall_mem_cons.mpr ⟨lw_p85, fun _ h => absurd h List.not_mem_nil⟩⟩⟩⟩⟩⟩
def lw_privs : List (MethodName × Nat) := lw_privs_1 ++ (lw_privs_2 ++ (lw_privs_3 ++ (lw_privs_4 ++ (lw_privs_5 ++ (lw_privs_6)))))
def lw_tbl : List Cond := k2_sels lw_privs ++ tables_1
theorem lw_privs_ok : ∀ q ∈ lw_privs, lw_okq q := by
  show ∀ q ∈ lw_privs_1 ++ (lw_privs_2 ++ (lw_privs_3 ++ (lw_privs_4 ++ (lw_privs_5 ++ (lw_privs_6))))), lw_okq q
  exact List.forall_mem_append.mpr ⟨lw_r1, List.forall_mem_append.mpr ⟨lw_r2, List.forall_mem_append.mpr ⟨lw_r3, List.forall_mem_append.mpr ⟨lw_r4, List.forall_mem_append.mpr ⟨lw_r5, lw_r6⟩⟩⟩⟩⟩
def RX0 : String := "TriggerHall$Fit"
def TX0 : u_T := fun k => match k with
  | 0 => ("TriggerHall$Fit", "choices", "[I", true)
  | 1 => ("TriggerHall$Fit", "trial", "[I", true)
  | 2 => ("TriggerHall$Fit", "cells", "[I", true)
  | 3 => ("TriggerHall$Fit", "held", "I", false)
  | 4 => ("TriggerHall$Fit", "layerSum", "I", false)
  | 5 => ("TriggerHall$Fit", "spread", "I", false)
  | _ => ("TriggerHall$Fit", "least", "I", false)
def tyX0 : Nat → FieldType := fun k => match k with
  | 0 => .array .int
  | 1 => .array .int
  | 2 => .array .int
  | 3 => .int
  | 4 => .int
  | 5 => .int
  | _ => .int
abbrev wsX00 : List Cond := u_ws RX0 TX0 7
theorem nmX0 : ∀ a, a < 7 → ∀ b, b < 7 → a ≠ b → (TX0 a).2.1 ≠ (TX0 b).2.1 := by decide +kernel
theorem tyX0_ok : ∀ k, k < 7 → parseFieldDescriptor (TX0 k).2.2.1 = some (tyX0 k) := by decide +kernel
abbrev cX0_init : ByteArray := prog_2_method_1_code
def yX0_init : MethodName := ⟨RX0, "<init>", "()V"⟩
abbrev cX0_along : ByteArray := prog_2_method_2_code
def yX0_along : MethodName := ⟨RX0, "along", "(LTriggerHall$Road;[I)V"⟩
abbrev cX0_tryCells : ByteArray := prog_2_method_3_code
def yX0_tryCells : MethodName := ⟨RX0, "tryCells", "(IIII)V"⟩
abbrev cX0_isPerfect : ByteArray := prog_2_method_4_code
def yX0_isPerfect : MethodName := ⟨RX0, "isPerfect", "()Z"⟩
abbrev cX0_takeTrial : ByteArray := prog_2_method_5_code
def yX0_takeTrial : MethodName := ⟨RX0, "takeTrial", "(III)V"⟩
abbrev cX0_above : ByteArray := prog_2_method_6_code
def yX0_above : MethodName := ⟨RX0, "above", "()I"⟩
abbrev cX0_below : ByteArray := prog_2_method_7_code
def yX0_below : MethodName := ⟨RX0, "below", "()I"⟩
abbrev cX0_worth : ByteArray := prog_2_method_8_code
def yX0_worth : MethodName := ⟨RX0, "worth", "()I"⟩
def RX1 : String := "TriggerHall$Heap"
def TX1 : u_T := fun k => match k with
  | 0 => ("TriggerHall$Heap", "taken", "[I", true)
  | 1 => ("TriggerHall$Heap", "clashesAbove", "[I", true)
  | 2 => ("TriggerHall$Heap", "worths", "[I", true)
  | 3 => ("TriggerHall$Heap", "worthsUpTo", "[I", true)
  | 4 => ("TriggerHall$Heap", "size", "I", false)
  | 5 => ("TriggerHall$Heap", "bestRoads", "I", false)
  | _ => ("TriggerHall$Heap", "bestSum", "I", false)
def tyX1 : Nat → FieldType := fun k => match k with
  | 0 => .array .int
  | 1 => .array .int
  | 2 => .array .int
  | 3 => .array .int
  | 4 => .int
  | 5 => .int
  | _ => .int
abbrev wsX10 : List Cond := u_ws RX1 TX1 7
theorem nmX1 : ∀ a, a < 7 → ∀ b, b < 7 → a ≠ b → (TX1 a).2.1 ≠ (TX1 b).2.1 := by decide +kernel
theorem tyX1_ok : ∀ k, k < 7 → parseFieldDescriptor (TX1 k).2.2.1 = some (tyX1 k) := by decide +kernel
abbrev cX1_init : ByteArray := prog_3_method_1_code
def yX1_init : MethodName := ⟨RX1, "<init>", "()V"⟩
abbrev cX1_empty : ByteArray := prog_3_method_2_code
def yX1_empty : MethodName := ⟨RX1, "empty", "()V"⟩
abbrev cX1_put : ByteArray := prog_3_method_3_code
def yX1_put : MethodName := ⟨RX1, "put", "(I[I)V"⟩
abbrev cX1_clash : ByteArray := prog_3_method_4_code
def yX1_clash : MethodName := ⟨RX1, "clash", "(II)Z"⟩
abbrev cX1_choose : ByteArray := prog_3_method_5_code
def yX1_choose : MethodName := ⟨RX1, "choose", "()V"⟩
abbrev cX1_chooseFrom : ByteArray := prog_3_method_6_code
def yX1_chooseFrom : MethodName := ⟨RX1, "chooseFrom", "(III)V"⟩
def RX2 : String := "TriggerHall$Line"
def TX2 : u_T := fun k => match k with
  | 0 => ("TriggerHall$Line", "text", "LTriggerHall$Text;", true)
  | 1 => ("TriggerHall$Line", "bar", "Z", true)
  | 2 => ("TriggerHall$Line", "share", "I", false)
  | 3 => ("TriggerHall$Line", "count", "I", false)
  | 4 => ("TriggerHall$Line", "passed", "I", false)
  | 5 => ("TriggerHall$Line", "kept", "I", false)
  | _ => ("TriggerHall$Line", "keptAlone", "I", false)
def tyX2 : Nat → FieldType := fun k => match k with
  | 0 => .object "TriggerHall$Text"
  | 1 => .boolean
  | 2 => .int
  | 3 => .int
  | 4 => .int
  | 5 => .int
  | _ => .int
abbrev wsX20 : List Cond := u_ws RX2 TX2 7
theorem nmX2 : ∀ a, a < 7 → ∀ b, b < 7 → a ≠ b → (TX2 a).2.1 ≠ (TX2 b).2.1 := by decide +kernel
theorem tyX2_ok : ∀ k, k < 7 → parseFieldDescriptor (TX2 k).2.2.1 = some (tyX2 k) := by decide +kernel
abbrev cX2_init : ByteArray := prog_4_method_1_code
def yX2_init : MethodName := ⟨RX2, "<init>", "(LTriggerHall$Text;IZ)V"⟩
abbrev cX2_countPasses : ByteArray := prog_4_method_2_code
def yX2_countPasses : MethodName := ⟨RX2, "countPasses", "()Z"⟩
abbrev cX2_credit : ByteArray := prog_4_method_3_code
def yX2_credit : MethodName := ⟨RX2, "credit", "(Z)V"⟩
abbrev cX2_forget : ByteArray := prog_4_method_4_code
def yX2_forget : MethodName := ⟨RX2, "forget", "()V"⟩
def RX3 : String := "TriggerHall$Look"
def TX3 : u_T := fun k => match k with
  | 0 => ("TriggerHall$Look", "seen", "[I", true)
  | 1 => ("TriggerHall$Look", "fit", "LTriggerHall$Fit;", true)
  | 2 => ("TriggerHall$Look", "heap", "LTriggerHall$Heap;", true)
  | _ => ("TriggerHall$Look", "litRoads", "I", false)
def tyX3 : Nat → FieldType := fun k => match k with
  | 0 => .array .int
  | 1 => .object "TriggerHall$Fit"
  | 2 => .object "TriggerHall$Heap"
  | _ => .int
abbrev wsX30 : List Cond := u_ws RX3 TX3 4
theorem nmX3 : ∀ a, a < 4 → ∀ b, b < 4 → a ≠ b → (TX3 a).2.1 ≠ (TX3 b).2.1 := by decide +kernel
theorem tyX3_ok : ∀ k, k < 4 → parseFieldDescriptor (TX3 k).2.2.1 = some (tyX3 k) := by decide +kernel
abbrev cX3_init : ByteArray := prog_5_method_1_code
def yX3_init : MethodName := ⟨RX3, "<init>", "()V"⟩
abbrev cX3_see : ByteArray := prog_5_method_2_code
def yX3_see : MethodName := ⟨RX3, "see", "([I[I[I)V"⟩
abbrev cX3_light : ByteArray := prog_5_method_3_code
def yX3_light : MethodName := ⟨RX3, "light", "(Ljava/util/List;)V"⟩
abbrev cX3_fitAlong : ByteArray := prog_5_method_4_code
def yX3_fitAlong : MethodName := ⟨RX3, "fitAlong", "(LTriggerHall$Road;)Z"⟩
abbrev cX3_pile : ByteArray := prog_5_method_5_code
def yX3_pile : MethodName := ⟨RX3, "pile", "(Ljava/util/List;)V"⟩
abbrev cX3_layersSeen : ByteArray := prog_5_method_6_code
def yX3_layersSeen : MethodName := ⟨RX3, "layersSeen", "()I"⟩
abbrev cX3_answers : ByteArray := prog_5_method_7_code
def yX3_answers : MethodName := ⟨RX3, "answers", "(II)Z"⟩
def RX4 : String := "TriggerHall$Raws"
def TX4 : u_T := fun k => match k with
  | 0 => ("TriggerHall$Raws", "numbers", "[I", true)
  | 1 => ("TriggerHall$Raws", "passedLines", "[I", true)
  | 2 => ("TriggerHall$Raws", "rows", "[I", true)
  | _ => ("TriggerHall$Raws", "kept", "I", false)
def tyX4 : Nat → FieldType := fun k => match k with
  | 0 => .array .int
  | 1 => .array .int
  | 2 => .array .int
  | _ => .int
abbrev wsX40 : List Cond := u_ws RX4 TX4 4
theorem nmX4 : ∀ a, a < 4 → ∀ b, b < 4 → a ≠ b → (TX4 a).2.1 ≠ (TX4 b).2.1 := by decide +kernel
theorem tyX4_ok : ∀ k, k < 4 → parseFieldDescriptor (TX4 k).2.2.1 = some (tyX4 k) := by decide +kernel
abbrev cX4_init : ByteArray := prog_6_method_1_code
def yX4_init : MethodName := ⟨RX4, "<init>", "()V"⟩
abbrev cX4_size : ByteArray := prog_6_method_2_code
def yX4_size : MethodName := ⟨RX4, "size", "()I"⟩
abbrev cX4_has : ByteArray := prog_6_method_3_code
def yX4_has : MethodName := ⟨RX4, "has", "(I)Z"⟩
abbrev cX4_slotOf : ByteArray := prog_6_method_4_code
def yX4_slotOf : MethodName := ⟨RX4, "slotOf", "(I)I"⟩
abbrev cX4_keep : ByteArray := prog_6_method_5_code
def yX4_keep : MethodName := ⟨RX4, "keep", "(II[I)V"⟩
abbrev cX4_numberOf : ByteArray := prog_6_method_6_code
def yX4_numberOf : MethodName := ⟨RX4, "numberOf", "(I)I"⟩
abbrev cX4_passedAt : ByteArray := prog_6_method_7_code
def yX4_passedAt : MethodName := ⟨RX4, "passedAt", "(I)I"⟩
abbrev cX4_copyHits : ByteArray := prog_6_method_8_code
def yX4_copyHits : MethodName := ⟨RX4, "copyHits", "(I[I)V"⟩
def RX5 : String := "TriggerHall$Reader"
def TX5 : u_T := fun k => match k with
  | 0 => ("TriggerHall$Reader", "text", "LTriggerHall$Text;", false)
  | 1 => ("TriggerHall$Reader", "look", "LTriggerHall$Look;", false)
  | 2 => ("TriggerHall$Reader", "place", "I", false)
  | _ => ("TriggerHall$Reader", "fault", "I", false)
def tyX5 : Nat → FieldType := fun k => match k with
  | 0 => .object "TriggerHall$Text"
  | 1 => .object "TriggerHall$Look"
  | 2 => .int
  | _ => .int
abbrev wsX50 : List Cond := u_ws RX5 TX5 4
theorem nmX5 : ∀ a, a < 4 → ∀ b, b < 4 → a ≠ b → (TX5 a).2.1 ≠ (TX5 b).2.1 := by decide +kernel
theorem tyX5_ok : ∀ k, k < 4 → parseFieldDescriptor (TX5 k).2.2.1 = some (tyX5 k) := by decide +kernel
abbrev cX5_init : ByteArray := prog_7_method_1_code
def yX5_init : MethodName := ⟨RX5, "<init>", "()V"⟩
abbrev cX5_read : ByteArray := prog_7_method_2_code
def yX5_read : MethodName := ⟨RX5, "read", "(LTriggerHall$Text;LTriggerHall$Look;)Z"⟩
abbrev cX5_readAny : ByteArray := prog_7_method_3_code
def yX5_readAny : MethodName := ⟨RX5, "readAny", "(I)Z"⟩
abbrev cX5_readBoth : ByteArray := prog_7_method_4_code
def yX5_readBoth : MethodName := ⟨RX5, "readBoth", "(I)Z"⟩
abbrev cX5_readOne : ByteArray := prog_7_method_5_code
def yX5_readOne : MethodName := ⟨RX5, "readOne", "(I)Z"⟩
abbrev cX5_readAsked : ByteArray := prog_7_method_6_code
def yX5_readAsked : MethodName := ⟨RX5, "readAsked", "()Z"⟩
abbrev cX5_canAsk : ByteArray := prog_7_method_7_code
def yX5_canAsk : MethodName := ⟨RX5, "canAsk", "(I)Z"⟩
abbrev cX5_readNumber : ByteArray := prog_7_method_8_code
def yX5_readNumber : MethodName := ⟨RX5, "readNumber", "()I"⟩
abbrev cX5_isFigure : ByteArray := prog_7_method_9_code
def yX5_isFigure : MethodName := ⟨RX5, "isFigure", "(I)Z"⟩
abbrev cX5_passOver : ByteArray := prog_7_method_10_code
def yX5_passOver : MethodName := ⟨RX5, "passOver", "(C)Z"⟩
abbrev cX5_fail : ByteArray := prog_7_method_11_code
def yX5_fail : MethodName := ⟨RX5, "fail", "()Z"⟩
def RX6 : String := "TriggerHall$Road"
def TX6 : u_T := fun k => match k with
  | 0 => ("TriggerHall$Road", "first", "[I", true)
  | 1 => ("TriggerHall$Road", "last", "[I", true)
  | _ => ("TriggerHall$Road", "need", "I", true)
def tyX6 : Nat → FieldType := fun k => match k with
  | 0 => .array .int
  | 1 => .array .int
  | _ => .int
abbrev wsX60 : List Cond := u_ws RX6 TX6 3
theorem nmX6 : ∀ a, a < 3 → ∀ b, b < 3 → a ≠ b → (TX6 a).2.1 ≠ (TX6 b).2.1 := by decide +kernel
theorem tyX6_ok : ∀ k, k < 3 → parseFieldDescriptor (TX6 k).2.2.1 = some (tyX6 k) := by decide +kernel
abbrev cX6_init : ByteArray := prog_8_method_1_code
def yX6_init : MethodName := ⟨RX6, "<init>", "(I)V"⟩
abbrev cX6_setSpan : ByteArray := prog_8_method_2_code
def yX6_setSpan : MethodName := ⟨RX6, "setSpan", "(II)V"⟩
abbrev cX6_spanTold : ByteArray := prog_8_method_3_code
def yX6_spanTold : MethodName := ⟨RX6, "spanTold", "(I)I"⟩
abbrev cX6_seenIn : ByteArray := prog_8_method_4_code
def yX6_seenIn : MethodName := ⟨RX6, "seenIn", "(I[I)I"⟩
abbrev cX6_layersHeld : ByteArray := prog_8_method_5_code
def yX6_layersHeld : MethodName := ⟨RX6, "layersHeld", "([I)I"⟩
abbrev cX6_isLit : ByteArray := prog_8_method_6_code
def yX6_isLit : MethodName := ⟨RX6, "isLit", "([I)Z"⟩
def RX7 : String := "TriggerHall$Sheet"
def TX7 : u_T := fun k => match k with
  | 0 => ("TriggerHall$Sheet", "numbers", "[I", true)
  | 1 => ("TriggerHall$Sheet", "there", "Z", false)
  | 2 => ("TriggerHall$Sheet", "kind", "I", false)
  | _ => ("TriggerHall$Sheet", "length", "I", false)
def tyX7 : Nat → FieldType := fun k => match k with
  | 0 => .array .int
  | 1 => .boolean
  | 2 => .int
  | _ => .int
abbrev wsX70 : List Cond := u_ws RX7 TX7 4
theorem nmX7 : ∀ a, a < 4 → ∀ b, b < 4 → a ≠ b → (TX7 a).2.1 ≠ (TX7 b).2.1 := by decide +kernel
theorem tyX7_ok : ∀ k, k < 4 → parseFieldDescriptor (TX7 k).2.2.1 = some (tyX7 k) := by decide +kernel
abbrev cX7_init : ByteArray := prog_9_method_1_code
def yX7_init : MethodName := ⟨RX7, "<init>", "()V"⟩
abbrev cX7_lay : ByteArray := prog_9_method_2_code
def yX7_lay : MethodName := ⟨RX7, "lay", "(II)V"⟩
abbrev cX7_has : ByteArray := prog_9_method_3_code
def yX7_has : MethodName := ⟨RX7, "has", "(I)Z"⟩
abbrev cX7_numberAt : ByteArray := prog_9_method_4_code
def yX7_numberAt : MethodName := ⟨RX7, "numberAt", "(I)I"⟩
abbrev cX7_put : ByteArray := prog_9_method_5_code
def yX7_put : MethodName := ⟨RX7, "put", "(II)V"⟩
def RX8 : String := "TriggerHall$Text"
def TX8 : u_T := fun k => match k with
  | 0 => ("TriggerHall$Text", "letters", "[C", true)
  | _ => ("TriggerHall$Text", "length", "I", false)
def tyX8 : Nat → FieldType := fun k => match k with
  | 0 => .array .char
  | _ => .int
abbrev wsX80 : List Cond := u_ws RX8 TX8 2
theorem nmX8 : ∀ a, a < 2 → ∀ b, b < 2 → a ≠ b → (TX8 a).2.1 ≠ (TX8 b).2.1 := by decide +kernel
theorem tyX8_ok : ∀ k, k < 2 → parseFieldDescriptor (TX8 k).2.2.1 = some (tyX8 k) := by decide +kernel
abbrev cX8_init : ByteArray := prog_10_method_1_code
def yX8_init : MethodName := ⟨RX8, "<init>", "()V"⟩
abbrev cX8_put : ByteArray := prog_10_method_2_code
def yX8_put : MethodName := ⟨RX8, "put", "(C)V"⟩
abbrev cX8_copy : ByteArray := prog_10_method_3_code
def yX8_copy : MethodName := ⟨RX8, "copy", "(LTriggerHall$Text;)V"⟩
abbrev cX8_letterAt : ByteArray := prog_10_method_4_code
def yX8_letterAt : MethodName := ⟨RX8, "letterAt", "(I)I"⟩
def RX9 : String := "TriggerHall"
def TX9 : u_T := fun k => match k with
  | 0 => ("TriggerHall", "sheets", "[LTriggerHall$Sheet;", true)
  | 1 => ("TriggerHall", "hits", "[I", true)
  | 2 => ("TriggerHall", "dead", "[I", true)
  | 3 => ("TriggerHall", "noisy", "[I", true)
  | 4 => ("TriggerHall", "roads", "Ljava/util/List;", true)
  | 5 => ("TriggerHall", "look", "LTriggerHall$Look;", true)
  | 6 => ("TriggerHall", "tape", "LTriggerHall$Text;", true)
  | 7 => ("TriggerHall", "reader", "LTriggerHall$Reader;", true)
  | 8 => ("TriggerHall", "lines", "Ljava/util/List;", true)
  | 9 => ("TriggerHall", "raws", "LTriggerHall$Raws;", true)
  | 10 => ("TriggerHall", "rawHits", "[I", true)
  | 11 => ("TriggerHall", "rest", "I", false)
  | 12 => ("TriggerHall", "toLose", "I", false)
  | 13 => ("TriggerHall", "came", "I", false)
  | 14 => ("TriggerHall", "lost", "I", false)
  | _ => ("TriggerHall", "barred", "I", false)
def tyX9 : Nat → FieldType := fun k => match k with
  | 0 => .array (.object "TriggerHall$Sheet")
  | 1 => .array .int
  | 2 => .array .int
  | 3 => .array .int
  | 4 => .object "java/util/List"
  | 5 => .object "TriggerHall$Look"
  | 6 => .object "TriggerHall$Text"
  | 7 => .object "TriggerHall$Reader"
  | 8 => .object "java/util/List"
  | 9 => .object "TriggerHall$Raws"
  | 10 => .array .int
  | 11 => .int
  | 12 => .int
  | 13 => .int
  | 14 => .int
  | _ => .int
abbrev wsX90 : List Cond := u_ws RX9 TX9 16
theorem nmX9 : ∀ a, a < 16 → ∀ b, b < 16 → a ≠ b → (TX9 a).2.1 ≠ (TX9 b).2.1 := by decide +kernel
theorem tyX9_ok : ∀ k, k < 16 → parseFieldDescriptor (TX9 k).2.2.1 = some (tyX9 k) := by decide +kernel
abbrev cX9_init : ByteArray := prog_1_method_1_code
def yX9_init : MethodName := ⟨RX9, "<init>", "()V"⟩
abbrev cX9_sheet : ByteArray := prog_1_method_2_code
def yX9_sheet : MethodName := ⟨RX9, "sheet", "(III)I"⟩
abbrev cX9_cell : ByteArray := prog_1_method_3_code
def yX9_cell : MethodName := ⟨RX9, "cell", "(III)I"⟩
abbrev cX9_lose : ByteArray := prog_1_method_4_code
def yX9_lose : MethodName := ⟨RX9, "lose", "(I)I"⟩
abbrev cX9_hits : ByteArray := prog_1_method_5_code
def yX9_hits : MethodName := ⟨RX9, "hits", "(II)I"⟩
abbrev cX9_load : ByteArray := prog_1_method_6_code
def yX9_load : MethodName := ⟨RX9, "load", "(II)I"⟩
abbrev cX9_mask : ByteArray := prog_1_method_7_code
def yX9_mask : MethodName := ⟨RX9, "mask", "(III)I"⟩
abbrev cX9_layer : ByteArray := prog_1_method_8_code
def yX9_layer : MethodName := ⟨RX9, "layer", "(II)I"⟩
abbrev cX9_road : ByteArray := prog_1_method_9_code
def yX9_road : MethodName := ⟨RX9, "road", "(IIIIII)I"⟩
abbrev cX9_span : ByteArray := prog_1_method_10_code
def yX9_span : MethodName := ⟨RX9, "span", "(III)I"⟩
abbrev cX9_lit : ByteArray := prog_1_method_11_code
def yX9_lit : MethodName := ⟨RX9, "lit", "()I"⟩
abbrev cX9_held : ByteArray := prog_1_method_12_code
def yX9_held : MethodName := ⟨RX9, "held", "(I)I"⟩
abbrev cX9_track : ByteArray := prog_1_method_13_code
def yX9_track : MethodName := ⟨RX9, "track", "(II)I"⟩
abbrev cX9_miss : ByteArray := prog_1_method_14_code
def yX9_miss : MethodName := ⟨RX9, "miss", "(II)I"⟩
abbrev cX9_weight : ByteArray := prog_1_method_15_code
def yX9_weight : MethodName := ⟨RX9, "weight", "(I)I"⟩
abbrev cX9_heap : ByteArray := prog_1_method_16_code
def yX9_heap : MethodName := ⟨RX9, "heap", "(I)I"⟩
abbrev cX9_blind : ByteArray := prog_1_method_17_code
def yX9_blind : MethodName := ⟨RX9, "blind", "()I"⟩
abbrev cX9_feed : ByteArray := prog_1_method_18_code
def yX9_feed : MethodName := ⟨RX9, "feed", "(I)I"⟩
abbrev cX9_clear : ByteArray := prog_1_method_19_code
def yX9_clear : MethodName := ⟨RX9, "clear", "()I"⟩
abbrev cX9_line : ByteArray := prog_1_method_20_code
def yX9_line : MethodName := ⟨RX9, "line", "(IZ)I"⟩
abbrev cX9_thin : ByteArray := prog_1_method_21_code
def yX9_thin : MethodName := ⟨RX9, "thin", "(II)I"⟩
abbrev cX9_holds : ByteArray := prog_1_method_22_code
def yX9_holds : MethodName := ⟨RX9, "holds", "(I)I"⟩
abbrev cX9_of : ByteArray := prog_1_method_23_code
def yX9_of : MethodName := ⟨RX9, "of", "(II)I"⟩
abbrev cX9_fire : ByteArray := prog_1_method_24_code
def yX9_fire : MethodName := ⟨RX9, "fire", "()I"⟩
abbrev cX9_rest : ByteArray := prog_1_method_25_code
def yX9_rest : MethodName := ⟨RX9, "rest", "(I)I"⟩
abbrev cX9_many : ByteArray := prog_1_method_26_code
def yX9_many : MethodName := ⟨RX9, "many", "(I)I"⟩
abbrev cX9_raw : ByteArray := prog_1_method_27_code
def yX9_raw : MethodName := ⟨RX9, "raw", "(II)I"⟩
abbrev cX9_again : ByteArray := prog_1_method_28_code
def yX9_again : MethodName := ⟨RX9, "again", "(I)I"⟩
abbrev cX9_anew : ByteArray := prog_1_method_29_code
def yX9_anew : MethodName := ⟨RX9, "anew", "()I"⟩
abbrev cX9_isLayer : ByteArray := prog_1_method_30_code
def yX9_isLayer : MethodName := ⟨RX9, "isLayer", "(I)Z"⟩
abbrev cX9_areCells : ByteArray := prog_1_method_31_code
def yX9_areCells : MethodName := ⟨RX9, "areCells", "(I)Z"⟩
abbrev cX9_isShare : ByteArray := prog_1_method_32_code
def yX9_isShare : MethodName := ⟨RX9, "isShare", "(I)Z"⟩
abbrev cX9_isSpan : ByteArray := prog_1_method_33_code
def yX9_isSpan : MethodName := ⟨RX9, "isSpan", "(I)Z"⟩
abbrev cX9_cellsIn : ByteArray := prog_1_method_34_code
def yX9_cellsIn : MethodName := ⟨RX9, "cellsIn", "([I)I"⟩
abbrev cX9_letterIn : ByteArray := prog_1_method_35_code
def yX9_letterIn : MethodName := ⟨RX9, "letterIn", "(II)C"⟩
abbrev cX9_lettersIn : ByteArray := prog_1_method_36_code
def yX9_lettersIn : MethodName := ⟨RX9, "lettersIn", "(I)I"⟩
abbrev cX9_greatestDivisor : ByteArray := prog_1_method_37_code
def yX9_greatestDivisor : MethodName := ⟨RX9, "greatestDivisor", "(II)I"⟩
abbrev cX9_sheetAt : ByteArray := prog_1_method_38_code
def yX9_sheetAt : MethodName := ⟨RX9, "sheetAt", "(I)LTriggerHall$Sheet;"⟩
abbrev cX9_roadAt : ByteArray := prog_1_method_39_code
def yX9_roadAt : MethodName := ⟨RX9, "roadAt", "(I)LTriggerHall$Road;"⟩
abbrev cX9_lineAt : ByteArray := prog_1_method_40_code
def yX9_lineAt : MethodName := ⟨RX9, "lineAt", "(I)LTriggerHall$Line;"⟩
abbrev cX9_fitInHand : ByteArray := prog_1_method_41_code
def yX9_fitInHand : MethodName := ⟨RX9, "fitInHand", "(LTriggerHall$Road;)Z"⟩
abbrev cX9_lookAt : ByteArray := prog_1_method_42_code
def yX9_lookAt : MethodName := ⟨RX9, "lookAt", "([I)V"⟩
abbrev cX9_holdingLines : ByteArray := prog_1_method_43_code
def yX9_holdingLines : MethodName := ⟨RX9, "holdingLines", "()I"⟩
abbrev cX9_loseCrossing : ByteArray := prog_1_method_44_code
def yX9_loseCrossing : MethodName := ⟨RX9, "loseCrossing", "()I"⟩
abbrev cX9_judgeCrossing : ByteArray := prog_1_method_45_code
def yX9_judgeCrossing : MethodName := ⟨RX9, "judgeCrossing", "(I)I"⟩
abbrev cX9_passLines : ByteArray := prog_1_method_46_code
def yX9_passLines : MethodName := ⟨RX9, "passLines", "(I)I"⟩
abbrev cX9_barLines : ByteArray := prog_1_method_47_code
def yX9_barLines : MethodName := ⟨RX9, "barLines", "()I"⟩
abbrev cX9_creditLines : ByteArray := prog_1_method_48_code
def yX9_creditLines : MethodName := ⟨RX9, "creditLines", "(I)V"⟩
def RX10 : String := "TriggerHallModel"
def TX10 : u_T := fun k => match k with
  | 0 => ("TriggerHallModel", "kinds", "[I", true)
  | 1 => ("TriggerHallModel", "sizes", "[I", true)
  | 2 => ("TriggerHallModel", "numbers", "[I", true)
  | 3 => ("TriggerHallModel", "hits", "[I", true)
  | 4 => ("TriggerHallModel", "dead", "[I", true)
  | 5 => ("TriggerHallModel", "noisy", "[I", true)
  | 6 => ("TriggerHallModel", "roads", "I", false)
  | 7 => ("TriggerHallModel", "spans", "[I", true)
  | 8 => ("TriggerHallModel", "needs", "[I", true)
  | 9 => ("TriggerHallModel", "tape", "[B", true)
  | 10 => ("TriggerHallModel", "taped", "I", false)
  | 11 => ("TriggerHallModel", "lines", "I", false)
  | 12 => ("TriggerHallModel", "texts", "[B", true)
  | 13 => ("TriggerHallModel", "lengths", "[I", true)
  | 14 => ("TriggerHallModel", "shares", "[I", true)
  | 15 => ("TriggerHallModel", "bars", "[Z", true)
  | 16 => ("TriggerHallModel", "counts", "[I", true)
  | 17 => ("TriggerHallModel", "passed", "[I", true)
  | 18 => ("TriggerHallModel", "kept", "[I", true)
  | 19 => ("TriggerHallModel", "only", "[I", true)
  | 20 => ("TriggerHallModel", "came", "I", false)
  | 21 => ("TriggerHallModel", "lost", "I", false)
  | 22 => ("TriggerHallModel", "keptAll", "I", false)
  | 23 => ("TriggerHallModel", "barred", "I", false)
  | 24 => ("TriggerHallModel", "rest", "I", false)
  | 25 => ("TriggerHallModel", "left", "I", false)
  | 26 => ("TriggerHallModel", "rawNumber", "[I", true)
  | 27 => ("TriggerHallModel", "rawLines", "[I", true)
  | 28 => ("TriggerHallModel", "rawHits", "[I", true)
  | 29 => ("TriggerHallModel", "told", "[I", true)
  | 30 => ("TriggerHallModel", "row", "[I", true)
  | 31 => ("TriggerHallModel", "best", "[I", true)
  | 32 => ("TriggerHallModel", "bestTop", "[I", true)
  | 33 => ("TriggerHallModel", "bestLow", "[I", true)
  | 34 => ("TriggerHallModel", "low", "I", false)
  | 35 => ("TriggerHallModel", "heapSet", "I", false)
  | 36 => ("TriggerHallModel", "heapWeight", "I", false)
  | 37 => ("TriggerHallModel", "open", "[I", true)
  | 38 => ("TriggerHallModel", "asked", "I", false)
  | 39 => ("TriggerHallModel", "at", "I", false)
  | _ => ("TriggerHallModel", "hand", "[I", true)
def tyX10 : Nat → FieldType := fun k => match k with
  | 0 => .array .int
  | 1 => .array .int
  | 2 => .array .int
  | 3 => .array .int
  | 4 => .array .int
  | 5 => .array .int
  | 6 => .int
  | 7 => .array .int
  | 8 => .array .int
  | 9 => .array .byte
  | 10 => .int
  | 11 => .int
  | 12 => .array .byte
  | 13 => .array .int
  | 14 => .array .int
  | 15 => .array .boolean
  | 16 => .array .int
  | 17 => .array .int
  | 18 => .array .int
  | 19 => .array .int
  | 20 => .int
  | 21 => .int
  | 22 => .int
  | 23 => .int
  | 24 => .int
  | 25 => .int
  | 26 => .array .int
  | 27 => .array .int
  | 28 => .array .int
  | 29 => .array .int
  | 30 => .array .int
  | 31 => .array .int
  | 32 => .array .int
  | 33 => .array .int
  | 34 => .int
  | 35 => .int
  | 36 => .int
  | 37 => .array .int
  | 38 => .int
  | 39 => .int
  | _ => .array .int
abbrev wsX100 : List Cond := u_ws RX10 TX10 41
theorem nmX10 : ∀ a, a < 41 → ∀ b, b < 41 → a ≠ b → (TX10 a).2.1 ≠ (TX10 b).2.1 := by decide +kernel
theorem tyX10_ok : ∀ k, k < 41 → parseFieldDescriptor (TX10 k).2.2.1 = some (tyX10 k) := by decide +kernel
abbrev cX10_init : ByteArray := prog_12_method_1_code
def yX10_init : MethodName := ⟨RX10, "<init>", "()V"⟩
abbrev cX10_in : ByteArray := prog_12_method_2_code
def yX10_in : MethodName := ⟨RX10, "in", "(JJJ)Z"⟩
abbrev cX10_bitsOf : ByteArray := prog_12_method_3_code
def yX10_bitsOf : MethodName := ⟨RX10, "bitsOf", "(I)I"⟩
abbrev cX10_isLayer : ByteArray := prog_12_method_4_code
def yX10_isLayer : MethodName := ⟨RX10, "isLayer", "(I)Z"⟩
abbrev cX10_sheet : ByteArray := prog_12_method_5_code
def yX10_sheet : MethodName := ⟨RX10, "sheet", "(III)I"⟩
abbrev cX10_cell : ByteArray := prog_12_method_6_code
def yX10_cell : MethodName := ⟨RX10, "cell", "(III)I"⟩
abbrev cX10_lose : ByteArray := prog_12_method_7_code
def yX10_lose : MethodName := ⟨RX10, "lose", "(I)I"⟩
abbrev cX10_allHits : ByteArray := prog_12_method_8_code
def yX10_allHits : MethodName := ⟨RX10, "allHits", "()I"⟩
abbrev cX10_hits : ByteArray := prog_12_method_9_code
def yX10_hits : MethodName := ⟨RX10, "hits", "(II)I"⟩
abbrev cX10_load : ByteArray := prog_12_method_10_code
def yX10_load : MethodName := ⟨RX10, "load", "(II)I"⟩
abbrev cX10_mask : ByteArray := prog_12_method_11_code
def yX10_mask : MethodName := ⟨RX10, "mask", "(III)I"⟩
abbrev cX10_seen : ByteArray := prog_12_method_12_code
def yX10_seen : MethodName := ⟨RX10, "seen", "(I)I"⟩
abbrev cX10_layer : ByteArray := prog_12_method_13_code
def yX10_layer : MethodName := ⟨RX10, "layer", "(II)I"⟩
abbrev cX10_isSpan : ByteArray := prog_12_method_14_code
def yX10_isSpan : MethodName := ⟨RX10, "isSpan", "(I)Z"⟩
abbrev cX10_road : ByteArray := prog_12_method_15_code
def yX10_road : MethodName := ⟨RX10, "road", "(IIIIII)I"⟩
abbrev cX10_isRoad : ByteArray := prog_12_method_16_code
def yX10_isRoad : MethodName := ⟨RX10, "isRoad", "(I)Z"⟩
abbrev cX10_span : ByteArray := prog_12_method_17_code
def yX10_span : MethodName := ⟨RX10, "span", "(III)I"⟩
abbrev cX10_isIn : ByteArray := prog_12_method_18_code
def yX10_isIn : MethodName := ⟨RX10, "isIn", "(III)Z"⟩
abbrev cX10_heldBy : ByteArray := prog_12_method_19_code
def yX10_heldBy : MethodName := ⟨RX10, "heldBy", "(IZ)I"⟩
abbrev cX10_isLit : ByteArray := prog_12_method_20_code
def yX10_isLit : MethodName := ⟨RX10, "isLit", "(I)Z"⟩
abbrev cX10_lit : ByteArray := prog_12_method_21_code
def yX10_lit : MethodName := ⟨RX10, "lit", "()I"⟩
abbrev cX10_held : ByteArray := prog_12_method_22_code
def yX10_held : MethodName := ⟨RX10, "held", "(I)I"⟩
abbrev cX10_miss : ByteArray := prog_12_method_23_code
def yX10_miss : MethodName := ⟨RX10, "miss", "(I)I"⟩
abbrev cX10_findFrom : ByteArray := prog_12_method_24_code
def yX10_findFrom : MethodName := ⟨RX10, "findFrom", "(III)V"⟩
abbrev cX10_findTrack : ByteArray := prog_12_method_25_code
def yX10_findTrack : MethodName := ⟨RX10, "findTrack", "(I)Z"⟩
abbrev cX10_track : ByteArray := prog_12_method_26_code
def yX10_track : MethodName := ⟨RX10, "track", "(II)I"⟩
abbrev cX10_common : ByteArray := prog_12_method_27_code
def yX10_common : MethodName := ⟨RX10, "common", "(II)I"⟩
abbrev cX10_miss_ : ByteArray := prog_12_method_28_code
def yX10_miss_ : MethodName := ⟨RX10, "miss", "(II)I"⟩
abbrev cX10_weightOf : ByteArray := prog_12_method_29_code
def yX10_weightOf : MethodName := ⟨RX10, "weightOf", "(I)I"⟩
abbrev cX10_weight : ByteArray := prog_12_method_30_code
def yX10_weight : MethodName := ⟨RX10, "weight", "(I)I"⟩
abbrev cX10_areApart : ByteArray := prog_12_method_31_code
def yX10_areApart : MethodName := ⟨RX10, "areApart", "(II)Z"⟩
abbrev cX10_findHeap : ByteArray := prog_12_method_32_code
def yX10_findHeap : MethodName := ⟨RX10, "findHeap", "()V"⟩
abbrev cX10_heap : ByteArray := prog_12_method_33_code
def yX10_heap : MethodName := ⟨RX10, "heap", "(I)I"⟩
abbrev cX10_blind : ByteArray := prog_12_method_34_code
def yX10_blind : MethodName := ⟨RX10, "blind", "()I"⟩
abbrev cX10_feed : ByteArray := prog_12_method_35_code
def yX10_feed : MethodName := ⟨RX10, "feed", "(I)I"⟩
abbrev cX10_clear : ByteArray := prog_12_method_36_code
def yX10_clear : MethodName := ⟨RX10, "clear", "()I"⟩
abbrev cX10_isFigure : ByteArray := prog_12_method_37_code
def yX10_isFigure : MethodName := ⟨RX10, "isFigure", "(I)Z"⟩
abbrev cX10_isName : ByteArray := prog_12_method_38_code
def yX10_isName : MethodName := ⟨RX10, "isName", "(I)Z"⟩
abbrev cX10_faultOf : ByteArray := prog_12_method_39_code
def yX10_faultOf : MethodName := ⟨RX10, "faultOf", "()I"⟩
abbrev cX10_line : ByteArray := prog_12_method_40_code
def yX10_line : MethodName := ⟨RX10, "line", "(IZ)I"⟩
abbrev cX10_isLine : ByteArray := prog_12_method_41_code
def yX10_isLine : MethodName := ⟨RX10, "isLine", "(I)Z"⟩
abbrev cX10_thin : ByteArray := prog_12_method_42_code
def yX10_thin : MethodName := ⟨RX10, "thin", "(II)I"⟩
abbrev cX10_letter : ByteArray := prog_12_method_43_code
def yX10_letter : MethodName := ⟨RX10, "letter", "()I"⟩
abbrev cX10_any : ByteArray := prog_12_method_44_code
def yX10_any : MethodName := ⟨RX10, "any", "()Z"⟩
abbrev cX10_both : ByteArray := prog_12_method_45_code
def yX10_both : MethodName := ⟨RX10, "both", "()Z"⟩
abbrev cX10_one : ByteArray := prog_12_method_46_code
def yX10_one : MethodName := ⟨RX10, "one", "()Z"⟩
abbrev cX10_is : ByteArray := prog_12_method_47_code
def yX10_is : MethodName := ⟨RX10, "is", "(II)Z"⟩
abbrev cX10_holding : ByteArray := prog_12_method_48_code
def yX10_holding : MethodName := ⟨RX10, "holding", "()I"⟩
abbrev cX10_holds : ByteArray := prog_12_method_49_code
def yX10_holds : MethodName := ⟨RX10, "holds", "(I)I"⟩
abbrev cX10_of : ByteArray := prog_12_method_50_code
def yX10_of : MethodName := ⟨RX10, "of", "(II)I"⟩
abbrev cX10_noHits : ByteArray := prog_12_method_51_code
def yX10_noHits : MethodName := ⟨RX10, "noHits", "()V"⟩
abbrev cX10_look : ByteArray := prog_12_method_52_code
def yX10_look : MethodName := ⟨RX10, "look", "()I"⟩
abbrev cX10_fire : ByteArray := prog_12_method_53_code
def yX10_fire : MethodName := ⟨RX10, "fire", "()I"⟩
abbrev cX10_rest : ByteArray := prog_12_method_54_code
def yX10_rest : MethodName := ⟨RX10, "rest", "(I)I"⟩
abbrev cX10_raws : ByteArray := prog_12_method_55_code
def yX10_raws : MethodName := ⟨RX10, "raws", "()I"⟩
abbrev cX10_many : ByteArray := prog_12_method_56_code
def yX10_many : MethodName := ⟨RX10, "many", "(I)I"⟩
abbrev cX10_rawAt : ByteArray := prog_12_method_57_code
def yX10_rawAt : MethodName := ⟨RX10, "rawAt", "(I)I"⟩
abbrev cX10_raw : ByteArray := prog_12_method_58_code
def yX10_raw : MethodName := ⟨RX10, "raw", "(II)I"⟩
abbrev cX10_again : ByteArray := prog_12_method_59_code
def yX10_again : MethodName := ⟨RX10, "again", "(I)I"⟩
abbrev cX10_anew : ByteArray := prog_12_method_60_code
def yX10_anew : MethodName := ⟨RX10, "anew", "()I"⟩
def RJx145de : String := "java/io/Serializable"
def TJx145de : u_T := fun k => match k with
  | _ => ("", "", "", false)
def tyJx145de : Nat → FieldType := fun k => match k with
  | _ => .int
abbrev wsJx145de0 : List Cond := u_ws RJx145de TJx145de 0
theorem nmJx145de : ∀ a, a < 0 → ∀ b, b < 0 → a ≠ b → (TJx145de a).2.1 ≠ (TJx145de b).2.1 := by decide +kernel
theorem tyJx145de_ok : ∀ k, k < 0 → parseFieldDescriptor (TJx145de k).2.2.1 = some (tyJx145de k) := by decide +kernel
def RJx8e188 : String := "java/lang/Cloneable"
def TJx8e188 : u_T := fun k => match k with
  | _ => ("", "", "", false)
def tyJx8e188 : Nat → FieldType := fun k => match k with
  | _ => .int
abbrev wsJx8e1880 : List Cond := u_ws RJx8e188 TJx8e188 0
theorem nmJx8e188 : ∀ a, a < 0 → ∀ b, b < 0 → a ≠ b → (TJx8e188 a).2.1 ≠ (TJx8e188 b).2.1 := by decide +kernel
theorem tyJx8e188_ok : ∀ k, k < 0 → parseFieldDescriptor (TJx8e188 k).2.2.1 = some (tyJx8e188 k) := by decide +kernel
def RJ6 : String := "java/lang/Integer"
def TJ6 : u_T := fun k => match k with
  | _ => ("", "", "", false)
def tyJ6 : Nat → FieldType := fun k => match k with
  | _ => .int
abbrev wsJ60 : List Cond := u_ws RJ6 TJ6 0
theorem nmJ6 : ∀ a, a < 0 → ∀ b, b < 0 → a ≠ b → (TJ6 a).2.1 ≠ (TJ6 b).2.1 := by decide +kernel
theorem tyJ6_ok : ∀ k, k < 0 → parseFieldDescriptor (TJ6 k).2.2.1 = some (tyJ6 k) := by decide +kernel
abbrev cJ6_numberOfTrailingZeros_0f7a4 : ByteArray := prog_15_method_48_code
def yJ6_numberOfTrailingZeros_0f7a4 : MethodName := ⟨RJ6, "numberOfTrailingZeros", "(I)I"⟩
abbrev cJ6_bitCount_0f7a4 : ByteArray := prog_15_method_49_code
def yJ6_bitCount_0f7a4 : MethodName := ⟨RJ6, "bitCount", "(I)I"⟩
def RJxab1ab : String := "java/lang/Iterable"
def TJxab1ab : u_T := fun k => match k with
  | _ => ("", "", "", false)
def tyJxab1ab : Nat → FieldType := fun k => match k with
  | _ => .int
abbrev wsJxab1ab0 : List Cond := u_ws RJxab1ab TJxab1ab 0
theorem nmJxab1ab : ∀ a, a < 0 → ∀ b, b < 0 → a ≠ b → (TJxab1ab a).2.1 ≠ (TJxab1ab b).2.1 := by decide +kernel
theorem tyJxab1ab_ok : ∀ k, k < 0 → parseFieldDescriptor (TJxab1ab k).2.2.1 = some (tyJxab1ab k) := by decide +kernel
def RJ9 : String := "java/lang/Math"
def TJ9 : u_T := fun k => match k with
  | _ => ("", "", "", false)
def tyJ9 : Nat → FieldType := fun k => match k with
  | _ => .int
abbrev wsJ90 : List Cond := u_ws RJ9 TJ9 0
theorem nmJ9 : ∀ a, a < 0 → ∀ b, b < 0 → a ≠ b → (TJ9 a).2.1 ≠ (TJ9 b).2.1 := by decide +kernel
theorem tyJ9_ok : ∀ k, k < 0 → parseFieldDescriptor (TJ9 k).2.2.1 = some (tyJ9 k) := by decide +kernel
abbrev cJ9_floorMod_7cf53 : ByteArray := prog_17_method_50_code
def yJ9_floorMod_7cf53 : MethodName := ⟨RJ9, "floorMod", "(II)I"⟩
abbrev cJ9_max_7cf53 : ByteArray := prog_17_method_65_code
def yJ9_max_7cf53 : MethodName := ⟨RJ9, "max", "(II)I"⟩
abbrev cJ9_min_7cf53 : ByteArray := prog_17_method_69_code
def yJ9_min_7cf53 : MethodName := ⟨RJ9, "min", "(II)I"⟩
def RJ10 : String := "java/lang/System"
def TJ10 : u_T := fun k => match k with
  | _ => ("", "", "", false)
def tyJ10 : Nat → FieldType := fun k => match k with
  | _ => .int
abbrev wsJ100 : List Cond := u_ws RJ10 TJ10 0
theorem nmJ10 : ∀ a, a < 0 → ∀ b, b < 0 → a ≠ b → (TJ10 a).2.1 ≠ (TJ10 b).2.1 := by decide +kernel
theorem tyJ10_ok : ∀ k, k < 0 → parseFieldDescriptor (TJ10 k).2.2.1 = some (tyJ10 k) := by decide +kernel
def RJxa1e45 : String := "java/util/AbstractCollection"
def TJxa1e45 : u_T := fun k => match k with
  | _ => ("", "", "", false)
def tyJxa1e45 : Nat → FieldType := fun k => match k with
  | _ => .int
abbrev wsJxa1e450 : List Cond := u_ws RJxa1e45 TJxa1e45 0
theorem nmJxa1e45 : ∀ a, a < 0 → ∀ b, b < 0 → a ≠ b → (TJxa1e45 a).2.1 ≠ (TJxa1e45 b).2.1 := by decide +kernel
theorem tyJxa1e45_ok : ∀ k, k < 0 → parseFieldDescriptor (TJxa1e45 k).2.2.1 = some (tyJxa1e45 k) := by decide +kernel
abbrev cJxa1e45_init_da8c8 : ByteArray := prog_19_method_1_code
def yJxa1e45_init_da8c8 : MethodName := ⟨RJxa1e45, "<init>", "()V"⟩
def RJxc12de : String := "java/util/AbstractList"
def TJxc12de : u_T := fun k => match k with
  | _ => ("", "", "", false)
def tyJxc12de : Nat → FieldType := fun k => match k with
  | _ => .int
abbrev wsJxc12de0 : List Cond := u_ws RJxc12de TJxc12de 0
theorem nmJxc12de : ∀ a, a < 0 → ∀ b, b < 0 → a ≠ b → (TJxc12de a).2.1 ≠ (TJxc12de b).2.1 := by decide +kernel
theorem tyJxc12de_ok : ∀ k, k < 0 → parseFieldDescriptor (TJxc12de k).2.2.1 = some (tyJxc12de k) := by decide +kernel
abbrev cJxc12de_init_da8c8 : ByteArray := prog_20_method_1_code
def yJxc12de_init_da8c8 : MethodName := ⟨RJxc12de, "<init>", "()V"⟩
def RJx4a65c : String := "java/util/ArrayList"
def TJx4a65c : u_T := fun k => match k with
  | 0 => ("java/util/AbstractList", "modCount", "I", false)
  | 1 => ("java/util/ArrayList", "elementData", "[Ljava/lang/Object;", false)
  | _ => ("java/util/ArrayList", "size", "I", false)
def tyJx4a65c : Nat → FieldType := fun k => match k with
  | 0 => .int
  | 1 => .array (.object "java/lang/Object")
  | _ => .int
abbrev wsJx4a65c0 : List Cond := u_ws RJx4a65c TJx4a65c 3
theorem nmJx4a65c : ∀ a, a < 3 → ∀ b, b < 3 → a ≠ b → (TJx4a65c a).2.1 ≠ (TJx4a65c b).2.1 := by decide +kernel
theorem tyJx4a65c_ok : ∀ k, k < 3 → parseFieldDescriptor (TJx4a65c k).2.2.1 = some (tyJx4a65c k) := by decide +kernel
abbrev cJx4a65c_init_da8c8 : ByteArray := prog_21_method_2_code
def yJx4a65c_init_da8c8 : MethodName := ⟨RJx4a65c, "<init>", "()V"⟩
abbrev cJx4a65c_grow_92f84 : ByteArray := prog_21_method_6_code
def yJx4a65c_grow_92f84 : MethodName := ⟨RJx4a65c, "grow", "(I)[Ljava/lang/Object;"⟩
abbrev cJx4a65c_grow_d5877 : ByteArray := prog_21_method_7_code
def yJx4a65c_grow_d5877 : MethodName := ⟨RJx4a65c, "grow", "()[Ljava/lang/Object;"⟩
abbrev cJx4a65c_size_8abf5 : ByteArray := prog_21_method_8_code
def yJx4a65c_size_8abf5 : MethodName := ⟨RJx4a65c, "size", "()I"⟩
abbrev cJx4a65c_elementData_915e3 : ByteArray := prog_21_method_18_code
def yJx4a65c_elementData_915e3 : MethodName := ⟨RJx4a65c, "elementData", "(I)Ljava/lang/Object;"⟩
abbrev cJx4a65c_get_915e3 : ByteArray := prog_21_method_20_code
def yJx4a65c_get_915e3 : MethodName := ⟨RJx4a65c, "get", "(I)Ljava/lang/Object;"⟩
abbrev cJx4a65c_add_72be8 : ByteArray := prog_21_method_24_code
def yJx4a65c_add_72be8 : MethodName := ⟨RJx4a65c, "add", "(Ljava/lang/Object;[Ljava/lang/Object;I)V"⟩
abbrev cJx4a65c_add_9ea2d : ByteArray := prog_21_method_25_code
def yJx4a65c_add_9ea2d : MethodName := ⟨RJx4a65c, "add", "(Ljava/lang/Object;)Z"⟩
def RJ7 : String := "java/util/Arrays"
def TJ7 : u_T := fun k => match k with
  | _ => ("", "", "", false)
def tyJ7 : Nat → FieldType := fun k => match k with
  | _ => .int
abbrev wsJ70 : List Cond := u_ws RJ7 TJ7 0
theorem nmJ7 : ∀ a, a < 0 → ∀ b, b < 0 → a ≠ b → (TJ7 a).2.1 ≠ (TJ7 b).2.1 := by decide +kernel
theorem tyJ7_ok : ∀ k, k < 0 → parseFieldDescriptor (TJ7 k).2.2.1 = some (tyJ7 k) := by decide +kernel
abbrev cJ7_copyOf_1904c : ByteArray := prog_22_method_119_code
def yJ7_copyOf_1904c : MethodName := ⟨RJ7, "copyOf", "([Ljava/lang/Object;I)[Ljava/lang/Object;"⟩
abbrev cJ7_copyOf_6403c : ByteArray := prog_22_method_120_code
def yJ7_copyOf_6403c : MethodName := ⟨RJ7, "copyOf", "([Ljava/lang/Object;ILjava/lang/Class;)[Ljava/lang/Object;"⟩
def RJx5ef63 : String := "java/util/Collection"
def TJx5ef63 : u_T := fun k => match k with
  | _ => ("", "", "", false)
def tyJx5ef63 : Nat → FieldType := fun k => match k with
  | _ => .int
abbrev wsJx5ef630 : List Cond := u_ws RJx5ef63 TJx5ef63 0
theorem nmJx5ef63 : ∀ a, a < 0 → ∀ b, b < 0 → a ≠ b → (TJx5ef63 a).2.1 ≠ (TJx5ef63 b).2.1 := by decide +kernel
theorem tyJx5ef63_ok : ∀ k, k < 0 → parseFieldDescriptor (TJx5ef63 k).2.2.1 = some (tyJx5ef63 k) := by decide +kernel
def RJxbd725 : String := "java/util/List"
def TJxbd725 : u_T := fun k => match k with
  | _ => ("", "", "", false)
def tyJxbd725 : Nat → FieldType := fun k => match k with
  | _ => .int
abbrev wsJxbd7250 : List Cond := u_ws RJxbd725 TJxbd725 0
theorem nmJxbd725 : ∀ a, a < 0 → ∀ b, b < 0 → a ≠ b → (TJxbd725 a).2.1 ≠ (TJxbd725 b).2.1 := by decide +kernel
theorem tyJxbd725_ok : ∀ k, k < 0 → parseFieldDescriptor (TJxbd725 k).2.2.1 = some (tyJxbd725 k) := by decide +kernel
def RJ15 : String := "java/util/Objects"
def TJ15 : u_T := fun k => match k with
  | _ => ("", "", "", false)
def tyJ15 : Nat → FieldType := fun k => match k with
  | _ => .int
abbrev wsJ150 : List Cond := u_ws RJ15 TJ15 0
theorem nmJ15 : ∀ a, a < 0 → ∀ b, b < 0 → a ≠ b → (TJ15 a).2.1 ≠ (TJ15 b).2.1 := by decide +kernel
theorem tyJ15_ok : ∀ k, k < 0 → parseFieldDescriptor (TJ15 k).2.2.1 = some (tyJ15 k) := by decide +kernel
abbrev cJ15_checkIndex_7cf53 : ByteArray := prog_25_method_17_code
def yJ15_checkIndex_7cf53 : MethodName := ⟨RJ15, "checkIndex", "(II)I"⟩
def RJxf0a74 : String := "java/util/RandomAccess"
def TJxf0a74 : u_T := fun k => match k with
  | _ => ("", "", "", false)
def tyJxf0a74 : Nat → FieldType := fun k => match k with
  | _ => .int
abbrev wsJxf0a740 : List Cond := u_ws RJxf0a74 TJxf0a74 0
theorem nmJxf0a74 : ∀ a, a < 0 → ∀ b, b < 0 → a ≠ b → (TJxf0a74 a).2.1 ≠ (TJxf0a74 b).2.1 := by decide +kernel
theorem tyJxf0a74_ok : ∀ k, k < 0 → parseFieldDescriptor (TJxf0a74 k).2.2.1 = some (tyJxf0a74 k) := by decide +kernel
def RJxa66e6 : String := "java/util/SequencedCollection"
def TJxa66e6 : u_T := fun k => match k with
  | _ => ("", "", "", false)
def tyJxa66e6 : Nat → FieldType := fun k => match k with
  | _ => .int
abbrev wsJxa66e60 : List Cond := u_ws RJxa66e6 TJxa66e6 0
theorem nmJxa66e6 : ∀ a, a < 0 → ∀ b, b < 0 → a ≠ b → (TJxa66e6 a).2.1 ≠ (TJxa66e6 b).2.1 := by decide +kernel
theorem tyJxa66e6_ok : ∀ k, k < 0 → parseFieldDescriptor (TJxa66e6 k).2.2.1 = some (tyJxa66e6 k) := by decide +kernel
def RJ8 : String := "jdk/internal/util/ArraysSupport"
def TJ8 : u_T := fun k => match k with
  | _ => ("", "", "", false)
def tyJ8 : Nat → FieldType := fun k => match k with
  | _ => .int
abbrev wsJ80 : List Cond := u_ws RJ8 TJ8 0
theorem nmJ8 : ∀ a, a < 0 → ∀ b, b < 0 → a ≠ b → (TJ8 a).2.1 ≠ (TJ8 b).2.1 := by decide +kernel
theorem tyJ8_ok : ∀ k, k < 0 → parseFieldDescriptor (TJ8 k).2.2.1 = some (tyJ8 k) := by decide +kernel
abbrev cJ8_newLength_cabcc : ByteArray := prog_28_method_27_code
def yJ8_newLength_cabcc : MethodName := ⟨RJ8, "newLength", "(III)I"⟩
abbrev cJ8_hugeLength_7cf53 : ByteArray := prog_28_method_28_code
def yJ8_hugeLength_7cf53 : MethodName := ⟨RJ8, "hugeLength", "(II)I"⟩
def RJ3 : String := "jdk/internal/util/Preconditions"
def TJ3 : u_T := fun k => match k with
  | _ => ("", "", "", false)
def tyJ3 : Nat → FieldType := fun k => match k with
  | _ => .int
abbrev wsJ30 : List Cond := u_ws RJ3 TJ3 0
theorem nmJ3 : ∀ a, a < 0 → ∀ b, b < 0 → a ≠ b → (TJ3 a).2.1 ≠ (TJ3 b).2.1 := by decide +kernel
theorem tyJ3_ok : ∀ k, k < 0 → parseFieldDescriptor (TJ3 k).2.2.1 = some (tyJ3 k) := by decide +kernel
abbrev cJ3_checkIndex_8e157 : ByteArray := prog_29_method_11_code
def yJ3_checkIndex_8e157 : MethodName := ⟨RJ3, "checkIndex", "(IILjava/util/function/BiFunction;)I"⟩
def RL : String := "TriggerHallLaw"
abbrev cL_law : ByteArray := code
def yL_law : MethodName := ⟨RL, "law", "([I)Z"⟩
end
section
/-! ===== the layer: a method's states by names (addresses, shapes, numbers), each row out of a row of the kit ===== -/
/-- a cell's shape: an array (kind, length, references) or an object (class, references) -/
abbrev th_K0 : Type := (Nat × Nat × (Nat → Option Nat)) ⊕ (Nat × (Nat → Option Nat))
/-- the heap by names: the next address, the shapes, the numbers -/
abbrev th_S : Type := Nat × (Nat → Option th_K0) × (Nat → Nat → Int32)
/-- what is fixed: the first new cell's place, the old objects' places, the classes, the array classes, the script -/
abbrev th_G : Type := Nat × (Nat → Nat) × va_G × (Nat → ClassId) × Nat × (Nat → Int32)
def th_ad (G : th_G) (a : Nat) : Nat := if a < 4 then G.2.1 a else G.1 + (a - 4)
def th_v (G : th_G) : Value → Value
  | .ref a => .ref (th_ad G a)
  | v => v
def th_A (G : th_G) : Nat → Prop := fun q => G.1 ≤ q
abbrev th_cl : List vw_C := [(RX0, TX0, 7), (RX1, TX1, 7), (RX2, TX2, 7), (RX3, TX3, 4), (RX4, TX4, 4), (RX5, TX5, 4), (RX6, TX6, 3), (RX7, TX7, 4), (RX8, TX8, 2), (RX9, TX9, 16), (RX10, TX10, 41), (RJx4a65c, TJx4a65c, 3)]
def th_ft (ci : Nat) : Nat → FieldType := match ci with
  | 0 => tyX0 | 1 => tyX1 | 2 => tyX2 | 3 => tyX3 | 4 => tyX4 | 5 => tyX5 | 6 => tyX6 | 7 => tyX7 | 8 => tyX8 | 9 => tyX9 | 10 => tyX10 | _ => tyJx4a65c
def th_nf (ci : Nat) : Nat := match ci with
  | 0 => 7 | 1 => 7 | 2 => 7 | 3 => 4 | 4 => 4 | 5 => 4 | 6 => 3 | 7 => 4 | 8 => 2 | 9 => 16 | 10 => 41 | _ => 3
/-- is a field one of references -/
def th_ir (ci k : Nat) : Bool := match th_ft ci k with
  | .object _ => true
  | .array _ => true
  | _ => false
def th_ty (t : Nat) : FieldType := match t with
  | 0 => .int | 1 => .byte | 2 => .char | 3 => .boolean | 4 => .object "TriggerHall$Sheet" | _ => .object "java/lang/Object"
abbrev th_tys (G : th_G) : List (ClassId × FieldType) := [(G.2.2.2.1 0, th_ty 0), (G.2.2.2.1 1, th_ty 1), (G.2.2.2.1 2, th_ty 2), (G.2.2.2.1 3, th_ty 3), (G.2.2.2.1 4, th_ty 4), (G.2.2.2.1 5, th_ty 5)]
def th_fv (G : th_G) (ci : Nat) (f : Nat → Option Nat) (v : Nat → Int32) (k : Nat) : Value := cond (th_ir ci k) (va_rf ((f k).map (th_ad G))) (.int (v k))
def th_e (G : th_G) (c : th_K0) (v : Nat → Int32) : va_E := match c with
  | .inl (t, n, f) => cond (Nat.blt t 4) (.inl (G.2.2.2.1 t, n, .inl v)) (.inl (G.2.2.2.1 t, n, .inr (.inr (.inr (.inr (fun j => (f j).map (th_ad G)))))))
  | .inr (ci, f) => .inr (ci, (List.range (th_nf ci)).map (th_fv G ci f v))
def th_R (G : th_G) (S : th_S) (H : Heap) : Prop := 4 ≤ S.1 ∧ H.size + 4 = G.1 + S.1 ∧ ∀ (a : Nat) (c : th_K0), S.2.1 a = some c → (4 ≤ a ∧ a < S.1) ∧ va_at G.2.2.1 th_cl (th_ad G a, th_e G c (S.2.2 a)) H
def th_u {α : Type} (f : Nat → Option α) (a : Nat) (c : α) : Nat → Option α := fun b => cond (Nat.beq b a) (some c) (f b)
def th_w (V : Nat → Nat → Int32) (a k : Nat) (x : Int32) : Nat → Nat → Int32 := fun b j => cond (Nat.beq b a) (cond (Nat.beq j k) x (V b j)) (V b j)
def th_z (V : Nat → Nat → Int32) (a : Nat) : Nat → Nat → Int32 := fun b => cond (Nat.beq b a) (fun _ => 0) (V b)
def th_pI (S : th_S) (a k : Nat) (x : Int32) : th_S := (S.1, S.2.1, th_w S.2.2 a k x)
def th_pC (S : th_S) (a : Nat) (c : th_K0) : th_S := (S.1, th_u S.2.1 a c, S.2.2)
def th_nw (S : th_S) (c : th_K0) : th_S := (S.1 + 1, th_u S.2.1 S.1 c, th_z S.2.2 S.1)
theorem th_w_ne {V : Nat → Nat → Int32} {a k b : Nat} {x : Int32} (h : b ≠ a) : th_w V a k x b = V b := by
  funext j
  have : Nat.beq b a = false := Bool.eq_false_iff.mpr (fun e => h (Nat.eq_of_beq_eq_true e))
  simp [th_w, this]
theorem th_w_eq {V : Nat → Nat → Int32} {a k j : Nat} {x : Int32} : th_w V a k x a j = cond (Nat.beq j k) x (V a j) := by
  simp [th_w]
theorem th_u_ne {α : Type} {f : Nat → Option α} {a b : Nat} {c : α} (h : b ≠ a) : th_u f a c b = f b := by
  have : Nat.beq b a = false := Bool.eq_false_iff.mpr (fun e => h (Nat.eq_of_beq_eq_true e))
  simp [th_u, this]
theorem th_u_eq {α : Type} {f : Nat → Option α} {a : Nat} {c : α} : th_u f a c a = some c := by simp [th_u]
theorem th_z_ne {V : Nat → Nat → Int32} {a b : Nat} (h : b ≠ a) : th_z V a b = V b := by
  have : Nat.beq b a = false := Bool.eq_false_iff.mpr (fun e => h (Nat.eq_of_beq_eq_true e))
  simp [th_z, this]
theorem th_z_eq {V : Nat → Nat → Int32} {a : Nat} : th_z V a a = fun _ => 0 := by simp [th_z]
theorem th_ad_in {G : th_G} {a : Nat} (h : 4 ≤ a) : th_ad G a = G.1 + (a - 4) := by simp [th_ad, Nat.not_lt.mpr h]
theorem th_ad_inj {G : th_G} {a b : Nat} (ha : 4 ≤ a) (hb : 4 ≤ b) (h : th_ad G a = th_ad G b) : a = b := by
  rw [th_ad_in ha, th_ad_in hb] at h
  omega
theorem th_R.get {G : th_G} {S : th_S} {H : Heap} {a : Nat} {c : th_K0} (h : th_R G S H) (ha : S.2.1 a = some c) : va_at G.2.2.1 th_cl (th_ad G a, th_e G c (S.2.2 a)) H := (h.2.2 a c ha).2
theorem th_R.inA {G : th_G} {S : th_S} {H : Heap} {a : Nat} {c : th_K0} (h : th_R G S H) (ha : S.2.1 a = some c) : th_A G (th_ad G a) := by
  have := (h.2.2 a c ha).1
  rw [th_ad_in this.1]
  exact Nat.le_add_right _ _
/-- a cell is written -/
theorem th_R.set {G : th_G} {S S' : th_S} {H H1 : Heap} {a : Nat} {c c' : th_K0} (h : th_R G S H) (ha : S.2.1 a = some c) (z : H1.size = H.size) (oq : ∀ q : Nat, q ≠ th_ad G a → H1[q]? = H[q]?) (hn : S'.1 = S.1) (hs : ∀ b, b ≠ a → S'.2.1 b = S.2.1 b) (hv : ∀ b, b ≠ a → S'.2.2 b = S.2.2 b) (hc : S'.2.1 a = some c') (he : va_at G.2.2.1 th_cl (th_ad G a, th_e G c' (S'.2.2 a)) H1) : th_R G S' H1 := by
  refine ⟨by rw [hn]; exact h.1, by rw [z, hn]; exact h.2.1, fun b d hb => ?_⟩
  have hra := (h.2.2 a c ha).1
  by_cases hba : b = a
  · subst hba
    cases hc.symm.trans hb
    exact ⟨by rw [hn]; exact hra, he⟩
  · rw [hs b hba] at hb
    obtain ⟨h1, h2⟩ := h.2.2 b d hb
    refine ⟨by rw [hn]; exact h1, ?_⟩
    rw [hv b hba]
    exact h2.kept (oq _ (fun e => hba (th_ad_inj h1.1 hra.1 e)))
/-- a cell is made -/
theorem th_R.push {G : th_G} {S : th_S} {H H1 : Heap} {c : th_K0} (h : th_R G S H) (z : H1.size = H.size + 1) (oq : ∀ q : Nat, q < H.size → H1[q]? = H[q]?) (he : va_at G.2.2.1 th_cl (H.size, th_e G c (fun _ => 0)) H1) : th_R G (th_nw S c) H1 ∧ th_ad G S.1 = H.size := by
  have hz : th_ad G S.1 = H.size := by rw [th_ad_in h.1]; have := h.2.1; have := h.1; omega
  refine ⟨⟨Nat.le_succ_of_le h.1, ?_, fun b d hb => ?_⟩, hz⟩
  · show H1.size + 4 = G.1 + (S.1 + 1)
    have := h.2.1
    omega
  · show (4 ≤ b ∧ b < S.1 + 1) ∧ va_at G.2.2.1 th_cl (th_ad G b, th_e G d (th_z S.2.2 S.1 b)) H1
    have hb : th_u S.2.1 S.1 c b = some d := hb
    by_cases hba : b = S.1
    · subst hba
      rw [th_u_eq] at hb
      cases hb
      rw [th_z_eq, hz]
      exact ⟨⟨h.1, Nat.lt_succ_self _⟩, he⟩
    · rw [th_u_ne hba] at hb
      obtain ⟨h1, h2⟩ := h.2.2 b d hb
      refine ⟨⟨h1.1, Nat.lt_succ_of_lt h1.2⟩, ?_⟩
      rw [th_z_ne hba]
      refine h2.kept (oq _ ?_)
      show th_ad G b < H.size
      exact h2.lt
theorem th_S_push {G : th_G} {H0 H H1 : Heap} {locs : List Loc} (h : va_S (th_A G) H0 H locs) (z : H1.size = H.size + 1) (oq : ∀ q : Nat, q < H.size → H1[q]? = H[q]?) : va_S (th_A G) H0 H1 locs :=
  ⟨Nat.le_trans h.1 (by omega), fun x h1 h2 => (oq x (Nat.lt_of_lt_of_le h1 h.1)).trans (h.2.1 x h1 h2), h.2.2⟩
/-! locals -/
def th_l (G : th_G) : Nat → List (Option Value) → List (Nat × Value)
  | _, [] => []
  | i, none :: r => th_l G (i + 1) r
  | i, some v :: r => (i, th_v G v) :: th_l G (i + 1) r
theorem th_l_mem {G : th_G} : ∀ (ls : List (Option Value)) (i k : Nat) (w : Value), (k, w) ∈ th_l G i ls ↔ ∃ (j : Nat) (v : Value), ls[j]? = some (some v) ∧ k = i + j ∧ w = th_v G v
  | [], i, k, w => by simp [th_l]
  | none :: r, i, k, w => by
    rw [th_l, th_l_mem r (i + 1) k w]
    constructor
    · rintro ⟨j, v, h1, h2, h3⟩
      exact ⟨j + 1, v, by simpa using h1, by omega, h3⟩
    · rintro ⟨j, v, h1, h2, h3⟩
      cases j with
      | zero => simp at h1
      | succ j => exact ⟨j, v, by simpa using h1, by omega, h3⟩
  | some x :: r, i, k, w => by
    rw [th_l, List.mem_cons, th_l_mem r (i + 1) k w]
    constructor
    · rintro (h | ⟨j, v, h1, h2, h3⟩)
      · cases h
        exact ⟨0, x, by simp, rfl, rfl⟩
      · exact ⟨j + 1, v, by simpa using h1, by omega, h3⟩
    · rintro ⟨j, v, h1, h2, h3⟩
      cases j with
      | zero =>
        simp at h1
        subst h1
        exact Or.inl (by rw [h2, h3]; rfl)
      | succ j => exact Or.inr ⟨j, v, by simpa using h1, by omega, h3⟩
def th_L (G : th_G) (LS : Array Slot) (nL : Nat) (ls : List (Option Value)) : Prop := lv_has LS nL (th_l G 0 ls)
theorem th_L.at {G : th_G} {LS : Array Slot} {nL i : Nat} {ls : List (Option Value)} {v : Value} (h : th_L G LS nL ls) (hi : ls[i]? = some (some v)) : LS[i]? = some (.val (th_v G v)) :=
  h.2.2 (i, th_v G v) ((th_l_mem ls 0 i _).mpr ⟨i, v, hi, by omega, rfl⟩)
def th_c1 (ls : List (Option Value)) : Bool := ls.all (fun o => match o with | some v => v.category == 1 | none => true)
theorem th_v_cat (G : th_G) (v : Value) : (th_v G v).category = v.category := by cases v <;> rfl
theorem th_L.set {G : th_G} {LS' : Array Slot} {nL i : Nat} {ls : List (Option Value)} {v : Value} (hc : th_c1 ls = true) (h' : lv_has LS' nL ((i, th_v G v) :: (th_l G 0 ls).filter (fun q => !(q.1 == i) && !(q.1 + 1 == i && q.2.category == 2)))) : th_L G LS' nL (ls.set i (some v)) := by
  refine ⟨h'.1, h'.2.1, fun q hq => ?_⟩
  obtain ⟨k, w⟩ := q
  obtain ⟨j, x, h1, h2, h3⟩ := (th_l_mem _ 0 k w).mp hq
  have hk : k = j := by omega
  subst hk
  subst h3
  refine h'.2.2 (k, th_v G x) ?_
  by_cases hki : k = i
  · subst hki
    have hl : k < ls.length := by
      have := (List.getElem?_eq_some_iff.mp h1).1
      simpa using this
    rw [List.getElem?_set_self hl] at h1
    cases h1
    exact List.mem_cons_self
  · rw [List.getElem?_set_ne (Ne.symm hki)] at h1
    refine List.mem_cons_of_mem _ (List.mem_filter.mpr ⟨(th_l_mem _ 0 k _).mpr ⟨k, x, h1, by omega, rfl⟩, ?_⟩)
    have hx : x.category = 1 := by
      have := List.all_eq_true.mp hc _ (List.mem_of_getElem? h1)
      simpa using this
    simp [hki, th_v_cat, hx]
def th_en : List Value → List (Option Value)
  | [] => []
  | v :: r => if v.category = 2 then some v :: none :: th_en r else some v :: th_en r
theorem th_en_mem {G : th_G} : ∀ (vs : List Value) (i n : Nat) (q : Nat × Value), q ∈ th_l G i (th_en vs ++ List.replicate n none) → q ∈ lv_args i (vs.map (th_v G))
  | [], i, n, q, h => by
    obtain ⟨k, w⟩ := q
    obtain ⟨j, v, h1, -⟩ := (th_l_mem _ i k w).mp h
    simp [th_en, List.getElem?_replicate] at h1
  | v :: r, i, n, q, h => by
    by_cases hv : v.category = 2
    · rw [th_en, if_pos hv] at h
      rw [List.map_cons, lv_args, th_v_cat, if_pos hv]
      rcases List.mem_cons.mp h with h | h
      · exact List.mem_cons.mpr (Or.inl h)
      · exact List.mem_cons_of_mem _ (th_en_mem r (i + 2) n q h)
    · rw [th_en, if_neg hv] at h
      rw [List.map_cons, lv_args, th_v_cat, if_neg hv]
      rcases List.mem_cons.mp h with h | h
      · exact List.mem_cons.mpr (Or.inl h)
      · exact List.mem_cons_of_mem _ (th_en_mem r (i + 1) n q h)
end
section
/-! what holds at every method's start -/
def th_W : List Cond := lw_tbl.filter goodWord
def th_isN : Cond → Bool
  | .fieldLinkNest .. => true
  | .methodLinkNest .. => true
  | .castable .. => true
  | _ => false
def th_N : List Cond := tables_1.filter th_isN
abbrev th_AL : String := "java/util/ArrayList"
def yLi_size : MethodName := ⟨"java/util/List", "size", "()I"⟩
def yLi_get : MethodName := ⟨"java/util/List", "get", "(I)Ljava/lang/Object;"⟩
def yLi_add : MethodName := ⟨"java/util/List", "add", "(Ljava/lang/Object;)Z"⟩
def th_Amb (G : th_G) (U : State) : Prop :=
  va_K G.2.2.1 th_cl (th_tys G) U ∧ (∀ w ∈ th_N, va_Nw w U) ∧
  (va_Fw th_AL yLi_size yJx4a65c_size_8abf5 U ∧ va_Fw th_AL yLi_get yJx4a65c_get_915e3 U ∧ va_Fw th_AL yLi_add yJx4a65c_add_9ea2d U) ∧
  (va_AO "java/lang/Object" U ∧ va_AO "TriggerHall$Sheet" U) ∧
  (va_T .int (G.2.1 0) G.2.2.2.2.1 (fun j => .int (G.2.2.2.2.2 j)) (th_A G) U U.heap ∧
   va_T .int (G.2.1 1) 5 (fun _ => .int 0) (th_A G) U U.heap ∧
   va_T (.object "java/lang/Object") (G.2.1 2) 0 (fun _ => .null) (th_A G) U U.heap) ∧
  (va_Z "TriggerHall" "NO_CELLS" "[I" (.ref (G.2.1 1)) (th_A G) U U.heap ∧
   va_Z th_AL "DEFAULTCAPACITY_EMPTY_ELEMENTDATA" "[Ljava/lang/Object;" (.ref (G.2.1 2)) (th_A G) U U.heap) ∧
  (va_Mi "[Ljava/lang/Object;" (G.2.1 3) U ∧ va_Dc U) ∧ G.1 ≤ U.heap.size
theorem th_Nw_moved {w : Cond} (hw : th_isN w = true) {s U : State} (hW : s.WarmedH U.vm) (h : va_Nw w s) : va_Nw w U := by
  cases w <;> simp [th_isN] at hw
  case fieldLinkNest => exact va_Nw.warmF hW h
  case methodLinkNest => exact va_Nw.warmM hW h
  case castable => exact va_Nw.warmC hW h
theorem th_Amb.moved {G : th_G} {s U : State} (h : th_Amb G s) (hW : s.WarmedH U.vm) (hq : ∀ q, q < s.heap.size → ¬ th_A G q → U.heap[q]? = s.heap[q]?) (hz : G.1 ≤ U.heap.size) : th_Amb G U := by
  obtain ⟨h1, h2, ⟨h3, h4, h5⟩, ⟨h6, h7⟩, ⟨h8, h9, h10⟩, ⟨h11, h12⟩, ⟨h13, h14⟩, -⟩ := h
  have al := hW.alike
  have hnm : ∀ y : MethodName, y = yLi_size ∨ y = yLi_get ∨ y = yLi_add → y.cls ≠ "java/lang/invoke/MethodHandle" ∧ y.cls ≠ "java/lang/invoke/VarHandle" := by
    rintro y (rfl | rfl | rfl) <;> decide
  exact ⟨va_K.moved al h1, fun w hw => th_Nw_moved (List.mem_filter.mp hw).2 hW (h2 w hw),
    ⟨va_Fw.moved (hnm _ (by simp)) al h3, va_Fw.moved (hnm _ (by simp)) al h4, va_Fw.moved (hnm _ (by simp)) al h5⟩, ⟨va_AO.moved al h6, va_AO.moved al h7⟩,
    ⟨va_T.moved al (h8.kept hq), va_T.moved al (h9.kept hq), va_T.moved al (h10.kept hq)⟩, ⟨va_Z.moved al (h11.kept hq), va_Z.moved al (h12.kept hq)⟩, ⟨va_Mi.moved al h13, va_Dc.moved al h14⟩, hz⟩
/-! the judgement -/
/-- a method: its bytes, its class, its locals, its type, its name -/
abbrev th_M : Type := ByteArray × String × Nat × Option FieldType × String
def th_end (K : th_M) (pc : Nat) (r : Option Value) : Prop :=
  (r = none ∧ K.2.2.2.1 = none ∧ decode K.1 pc = .ok (.return_, 1)) ∨
  (∃ (v : Int32) (ty : FieldType), r = some (.int v) ∧ K.2.2.2.1 = some ty ∧ narrow ty (.int v) = .int v ∧ decode K.1 pc = .ok (.ireturn, 1)) ∨
  (∃ rt : FieldType, K.2.2.2.1 = some rt ∧ ((∃ n, rt = .object n) ∨ ∃ t, rt = .array t) ∧ (r = some .null ∨ ∃ a, r = some (.ref a)) ∧ decode K.1 pc = .ok (.areturn, 1))
def th_Fix (G : th_G) (K : th_M) (p : Program) (s : State) (m : MethodId) (args : Array Value) (meth : Method) (c : Code) : Prop :=
  p.tables.exec = Jvm.exec ∧ c.code = K.1 ∧ c.maxLocals = K.2.2.1 ∧ s.vm.findClass K.2.1 = some m.cls ∧ meth.name = K.2.2.2.2 ∧ (∀ w ∈ th_W, w.before args s = true) ∧ th_Amb G s
def th_Rt (G : th_G) (K : th_M) (p : Program) (l : Launch) (e : Env) (R : Room) (s : State) (m : MethodId) (args : Array Value) (below : List Frame) (meth : Method) (c : Code) (Q : State → Prop) (post : Option Value → th_S → Prop) : Prop :=
  ∀ (r : Option Value) (S : th_S) (H : Heap) (locs : List Loc) (cells slots pc : Nat) (LS : Array Slot), post r S → th_R G S H → va_S (th_A G) s.heap H locs → cells ≤ R.cells → slots ≤ R.slots → th_end K pc r →
    W p l e R s m args below meth c H locs cells slots Q (F0 m pc LS (r.toList.map (th_v G)))
/-- from pc, with locals ls and stack st, in the heap S, within the room: the method ends as post says -/
def EV (G : th_G) (l : Launch) (K : th_M) (d bc bs pc : Nat) (ls : List (Option Value)) (st : List Value) (S : th_S) (post : Option Value → th_S → Prop) : Prop :=
  ∀ (p : Program) (e : Env) (R : Room) (s : State) (m : MethodId) (args : Array Value) (below : List Frame) (meth : Method) (c : Code) (Q : State → Prop),
    th_Fix G K p s m args meth c → th_Rt G K p l e R s m args below meth c Q post → d ≤ R.frames → 40 * d ≤ R.locals →
    ∀ (H : Heap) (locs : List Loc) (cells slots : Nat) (LS : Array Slot), cells + bc ≤ R.cells → slots + bs ≤ R.slots → th_R G S H → va_S (th_A G) s.heap H locs → th_L G LS K.2.2.1 ls →
      W p l e R s m args below meth c H locs cells slots Q (F0 m pc LS (st.map (th_v G)))
/-- a method's contract -/
def MT (G : th_G) (l : Launch) (y : MethodName) (K : th_M) (d bc bs : Nat) (As : List Value) (S : th_S) (post : Option Value → th_S → Prop) : Prop :=
  Met l y (Cond.code y K.1 K.2.2.1 K.2.2.2.1 :: th_W) { frames := d, cells := bc, slots := bs, locals := 40 * d }
    (va_Pc (As.map (th_v G)) (fun U => th_R G S U.heap ∧ th_Amb G U))
    (fun _ st oc t => (∃ (r : Option Value) (S' : th_S), oc = .returned (r.map (th_v G)) ∧ post r S' ∧ th_R G S' t.heap) ∧ va_F (th_A G) st t) bc bs (th_A G)
theorem th_bytes {G : th_G} {K : th_M} {p : Program} {s : State} {m : MethodId} {args : Array Value} {meth : Method} {c : Code} (F : th_Fix G K p s m args meth c) : c.code = K.1 := F.2.1
theorem EV.post {G : th_G} {l : Launch} {K : th_M} {d bc bs pc : Nat} {ls : List (Option Value)} {st : List Value} {S : th_S} {P P' : Option Value → th_S → Prop} (h : EV G l K d bc bs pc ls st S P) (hp : ∀ r S', P r S' → P' r S') : EV G l K d bc bs pc ls st S P' :=
  fun p e R s m args below meth c Q F Rt => h p e R s m args below meth c Q F (fun r S1 H locs cells slots pc LS h1 => Rt r S1 H locs cells slots pc LS (hp r S1 h1))
theorem EV.deep {G : th_G} {l : Launch} {K : th_M} {d d' bc bs pc : Nat} {ls : List (Option Value)} {st : List Value} {S : th_S} {P : Option Value → th_S → Prop} (h : EV G l K d bc bs pc ls st S P) (hd : d ≤ d') : EV G l K d' bc bs pc ls st S P :=
  fun p e R s m args below meth c Q F Rt h1 h2 => h p e R s m args below meth c Q F Rt (Nat.le_trans hd h1) (Nat.le_trans (Nat.mul_le_mul_left 40 hd) h2)
theorem EV.room {G : th_G} {l : Launch} {K : th_M} {d bc bs bc' bs' pc : Nat} {ls : List (Option Value)} {st : List Value} {S : th_S} {P : Option Value → th_S → Prop} (h : EV G l K d bc bs pc ls st S P) (h1 : bc ≤ bc') (h2 : bs ≤ bs') : EV G l K d bc' bs' pc ls st S P :=
  fun p e R s m args below meth c Q F Rt a1 a2 H locs cells slots LS b1 b2 => h p e R s m args below meth c Q F Rt a1 a2 H locs cells slots LS (by omega) (by omega)
/-- a contract out of a walk -/
theorem MT.of {G : th_G} {l : Launch} {y : MethodName} {K : th_M} {d bc bs : Nat} {As : List Value} {S : th_S} {post : Option Value → th_S → Prop} (hy : plainName y.cls = true) (hyc : y.cls = K.2.1) (hyn : y.name = K.2.2.2.2) {n : Nat} (hn : (th_en As).length + n = K.2.2.1) {ls : List (Option Value)} (hls : th_en As ++ List.replicate n none = ls) (h : EV G l K d bc bs 0 ls [] S post) : MT G l y K d bc bs As S post := by
  refine Met.ofW (cc := K.1) (maxL := K.2.2.1) (ret := K.2.2.2.1) hy rfl ?_
  intro p e s m args below meth c s₁ B hml hv
  obtain ⟨rfl, hR, hAmb⟩ := hv
  have hts := atoms_spec (ws := Cond.code y K.1 K.2.2.1 K.2.2.2.1 :: th_W) B.pre
  have hown : s.vm.findClass K.2.1 = some m.cls := by rw [← hyc]; exact findClass_of_methodNamed B.named
  have hlocks := B.notSynchronized
  have hnm : meth.name = K.2.2.2.2 := by rw [← hyn]; exact (name_of_methodNamed B.named B.method).1
  have hx := B.exec
  have hb := B.bytes
  have hr := B.returns
  have hlen : (lg_sl (As.map (th_v G))).length = (th_en As).length := by
    clear h hls hn hR B hts
    induction As with
    | nil => rfl
    | cons v r ih =>
      by_cases hv : v.category = 2
      · simp [lg_sl, th_en, th_v_cat, hv] at ih ⊢
        omega
      · simp [lg_sl, th_en, th_v_cat, hv] at ih ⊢
        omega
  have hl := lv_entry (As.map (th_v G)) (n := K.2.2.1) (by rw [hlen]; omega)
  rw [lg_entry_eq]
  generalize (lg_sl (As.map (th_v G)) ++ List.replicate (K.2.2.1 - (lg_sl (As.map (th_v G))).length) Slot.unset).toArray = LS at hl ⊢
  have hL : th_L G LS K.2.2.1 ls := ⟨hl.1, hl.2.1, fun q hq => hl.2.2 q (by rw [← hls] at hq; exact th_en_mem As 0 n q hq)⟩
  refine h p e _ s m _ below meth c _ ⟨hx, hb, hml, hown, hnm, fun w hw => hts w (List.mem_cons_of_mem _ hw), hAmb⟩ ?_ (Nat.le_refl _) (Nat.le_refl _) s.heap [] 0 0 LS (by show 0 + bc ≤ bc; omega) (by show 0 + bs ≤ bs; omega) hR va_S.rf hL
  intro r S1 H locs cells slots pc LS1 hp hR1 hS1 hc hs hend
  have fin : ∀ t : State, t.heap = H → s.WarmedH t.vm → (∃ (r' : Option Value) (S' : th_S), Outcome.returned (r.map (th_v G)) = .returned (r'.map (th_v G)) ∧ post r' S' ∧ th_R G S' t.heap) ∧ va_F (th_A G) s t :=
    fun t ht _ => ⟨⟨r, S1, rfl, hp, by rw [ht]; exact hR1⟩, hS1.F ht⟩
  refine W.widen (k := bc) (n := bs) hc hs ?_
  rcases hend with ⟨rfl, h2, h3⟩ | ⟨v, ty, rfl, h2, h3, h4⟩ | ⟨rt, h2, h3, h4, h5⟩
  · exact W.vret hx hb (by rw [hr]; exact h2) fin hS1.2.2 h3
  · exact W.zret hx hb (by rw [hr]; exact h2) h3 fin hS1.2.2 h4
  · rcases h4 with rfl | ⟨a, rfl⟩
    · exact W.aret hx hb (by rw [hr]; exact h2) h3 (Or.inl rfl) fin hS1.2.2 h5
    · exact W.aret hx hb (by rw [hr]; exact h2) h3 (Or.inr ⟨_, rfl⟩) fin hS1.2.2 h5
end
section
section EVR
variable {G : th_G} {l : Launch} {K : th_M} {d bc bs pc q : Nat} {ls : List (Option Value)} {st : List Value} {S : th_S} {post : Option Value → th_S → Prop}
theorem ev_pc (h : pc = q) (k : EV G l K d bc bs q ls st S post) : EV G l K d bc bs pc ls st S post := h ▸ k
theorem ev_iconst {n : Int} {v : Int32} (hd : decode K.1 pc = .ok (.iconst n, 1)) (hv : Int32.ofInt n = v) (hq : pc + 1 = q) (k : EV G l K d bc bs q ls (.int v :: st) S post) : EV G l K d bc bs pc ls st S post := by
  subst hq
  intro p e R s m args below meth c Q F Rt hf hlc H locs cells slots LS hc hs hR hS hL
  exact lv_iconst F.1 F.2.1 hd hv (k p e R s m args below meth c Q F Rt hf hlc H locs cells slots LS hc hs hR hS hL)
theorem ev_bipush {n : Int} {v : Int32} (hd : decode K.1 pc = .ok (.bipush n, 2)) (hv : (Int8.ofInt n).toInt32 = v) (hq : pc + 2 = q) (k : EV G l K d bc bs q ls (.int v :: st) S post) : EV G l K d bc bs pc ls st S post := by
  subst hq
  intro p e R s m args below meth c Q F Rt hf hlc H locs cells slots LS hc hs hR hS hL
  exact lv_bipush F.1 F.2.1 hd hv (k p e R s m args below meth c Q F Rt hf hlc H locs cells slots LS hc hs hR hS hL)
theorem ev_sipush {n : Int} {v : Int32} (hd : decode K.1 pc = .ok (.sipush n, 3)) (hv : (Int16.ofInt n).toInt32 = v) (hq : pc + 3 = q) (k : EV G l K d bc bs q ls (.int v :: st) S post) : EV G l K d bc bs pc ls st S post := by
  subst hq
  intro p e R s m args below meth c Q F Rt hf hlc H locs cells slots LS hc hs hR hS hL
  exact lv_sipush F.1 F.2.1 hd hv (k p e R s m args below meth c Q F Rt hf hlc H locs cells slots LS hc hs hR hS hL)
theorem ev_lconst {n : Fin 2} {v : Int64} (hd : decode K.1 pc = .ok (.lconst n, 1)) (hv : Int64.ofNat (n : Nat) = v) (hq : pc + 1 = q) (k : EV G l K d bc bs q ls (.long v :: st) S post) : EV G l K d bc bs pc ls st S post := by
  subst hq
  intro p e R s m args below meth c Q F Rt hf hlc H locs cells slots LS hc hs hR hS hL
  exact lv_lconst F.1 F.2.1 hd hv (k p e R s m args below meth c Q F Rt hf hlc H locs cells slots LS hc hs hR hS hL)
theorem ev_null (hd : decode K.1 pc = .ok (.aconst_null, 1)) (hq : pc + 1 = q) (k : EV G l K d bc bs q ls (.null :: st) S post) : EV G l K d bc bs pc ls st S post := by
  subst hq
  intro p e R s m args below meth c Q F Rt hf hlc H locs cells slots LS hc hs hR hS hL
  exact lv_null F.1 F.2.1 hd (k p e R s m args below meth c Q F Rt hf hlc H locs cells slots LS hc hs hR hS hL)
theorem ev_ldc {i : Nat} {v : Int32} (hd : decode K.1 pc = .ok (.ldc i, 2)) (hw : Cond.constant K.2.1 i v ∈ th_W) (hq : pc + 2 = q) (k : EV G l K d bc bs q ls (.int v :: st) S post) : EV G l K d bc bs pc ls st S post := by
  subst hq
  intro p e R s m args below meth c Q F Rt hf hlc H locs cells slots LS hc hs hR hS hL
  exact lv_ldc F.1 F.2.1 F.2.2.2.1 (F.2.2.2.2.2.1 _ hw) hd (k p e R s m args below meth c Q F Rt hf hlc H locs cells slots LS hc hs hR hS hL)
theorem ev_ldcw {i : Nat} {v : Int32} (hd : decode K.1 pc = .ok (.ldc_w i, 3)) (hw : Cond.constant K.2.1 i v ∈ th_W) (hq : pc + 3 = q) (k : EV G l K d bc bs q ls (.int v :: st) S post) : EV G l K d bc bs pc ls st S post := by
  subst hq
  intro p e R s m args below meth c Q F Rt hf hlc H locs cells slots LS hc hs hR hS hL
  exact lv_ldcw F.1 F.2.1 F.2.2.2.1 (F.2.2.2.2.2.1 _ hw) hd (k p e R s m args below meth c Q F Rt hf hlc H locs cells slots LS hc hs hR hS hL)
theorem ev_ldc2 {i : Nat} {v : Int64} (hd : decode K.1 pc = .ok (.ldc2_w i, 3)) (hw : Cond.constantLong K.2.1 i v ∈ th_W) (hq : pc + 3 = q) (k : EV G l K d bc bs q ls (.long v :: st) S post) : EV G l K d bc bs pc ls st S post := by
  subst hq
  intro p e R s m args below meth c Q F Rt hf hlc H locs cells slots LS hc hs hR hS hL
  exact lv_ldc2 F.1 F.2.1 F.2.2.2.1 (F.2.2.2.2.2.1 _ hw) hd (k p e R s m args below meth c Q F Rt hf hlc H locs cells slots LS hc hs hR hS hL)
theorem ev_iadd {x y : Int32} (hd : decode K.1 pc = .ok (.iadd, 1)) (hq : pc + 1 = q) (k : EV G l K d bc bs q ls (.int (x + y) :: st) S post) : EV G l K d bc bs pc ls (.int y :: .int x :: st) S post := by
  subst hq
  intro p e R s m args below meth c Q F Rt hf hlc H locs cells slots LS hc hs hR hS hL
  exact lv_iadd F.1 F.2.1 hd (k p e R s m args below meth c Q F Rt hf hlc H locs cells slots LS hc hs hR hS hL)
theorem ev_isub {x y : Int32} (hd : decode K.1 pc = .ok (.isub, 1)) (hq : pc + 1 = q) (k : EV G l K d bc bs q ls (.int (x - y) :: st) S post) : EV G l K d bc bs pc ls (.int y :: .int x :: st) S post := by
  subst hq
  intro p e R s m args below meth c Q F Rt hf hlc H locs cells slots LS hc hs hR hS hL
  exact lv_isub F.1 F.2.1 hd (k p e R s m args below meth c Q F Rt hf hlc H locs cells slots LS hc hs hR hS hL)
theorem ev_imul {x y : Int32} (hd : decode K.1 pc = .ok (.imul, 1)) (hq : pc + 1 = q) (k : EV G l K d bc bs q ls (.int (x * y) :: st) S post) : EV G l K d bc bs pc ls (.int y :: .int x :: st) S post := by
  subst hq
  intro p e R s m args below meth c Q F Rt hf hlc H locs cells slots LS hc hs hR hS hL
  exact lv_imul F.1 F.2.1 hd (k p e R s m args below meth c Q F Rt hf hlc H locs cells slots LS hc hs hR hS hL)
theorem ev_iand {x y : Int32} (hd : decode K.1 pc = .ok (.iand, 1)) (hq : pc + 1 = q) (k : EV G l K d bc bs q ls (.int (x &&& y) :: st) S post) : EV G l K d bc bs pc ls (.int y :: .int x :: st) S post := by
  subst hq
  intro p e R s m args below meth c Q F Rt hf hlc H locs cells slots LS hc hs hR hS hL
  exact lv_iand F.1 F.2.1 hd (k p e R s m args below meth c Q F Rt hf hlc H locs cells slots LS hc hs hR hS hL)
theorem ev_ior {x y : Int32} (hd : decode K.1 pc = .ok (.ior, 1)) (hq : pc + 1 = q) (k : EV G l K d bc bs q ls (.int (x ||| y) :: st) S post) : EV G l K d bc bs pc ls (.int y :: .int x :: st) S post := by
  subst hq
  intro p e R s m args below meth c Q F Rt hf hlc H locs cells slots LS hc hs hR hS hL
  exact lv_ior F.1 F.2.1 hd (k p e R s m args below meth c Q F Rt hf hlc H locs cells slots LS hc hs hR hS hL)
theorem ev_ixor {x y : Int32} (hd : decode K.1 pc = .ok (.ixor, 1)) (hq : pc + 1 = q) (k : EV G l K d bc bs q ls (.int (x ^^^ y) :: st) S post) : EV G l K d bc bs pc ls (.int y :: .int x :: st) S post := by
  subst hq
  intro p e R s m args below meth c Q F Rt hf hlc H locs cells slots LS hc hs hR hS hL
  exact lv_ixor F.1 F.2.1 hd (k p e R s m args below meth c Q F Rt hf hlc H locs cells slots LS hc hs hR hS hL)
theorem ev_ishl {x y : Int32} (hd : decode K.1 pc = .ok (.ishl, 1)) (hq : pc + 1 = q) (k : EV G l K d bc bs q ls (.int (x <<< (y &&& 31)) :: st) S post) : EV G l K d bc bs pc ls (.int y :: .int x :: st) S post := by
  subst hq
  intro p e R s m args below meth c Q F Rt hf hlc H locs cells slots LS hc hs hR hS hL
  exact lv_ishl F.1 F.2.1 hd (k p e R s m args below meth c Q F Rt hf hlc H locs cells slots LS hc hs hR hS hL)
theorem ev_ishr {x y : Int32} (hd : decode K.1 pc = .ok (.ishr, 1)) (hq : pc + 1 = q) (k : EV G l K d bc bs q ls (.int (x >>> (y &&& 31)) :: st) S post) : EV G l K d bc bs pc ls (.int y :: .int x :: st) S post := by
  subst hq
  intro p e R s m args below meth c Q F Rt hf hlc H locs cells slots LS hc hs hR hS hL
  exact lv_ishr F.1 F.2.1 hd (k p e R s m args below meth c Q F Rt hf hlc H locs cells slots LS hc hs hR hS hL)
theorem ev_idiv {x y : Int32} (hd : decode K.1 pc = .ok (.idiv, 1)) (hne : ¬ y = 0) (hq : pc + 1 = q) (k : EV G l K d bc bs q ls (.int (x / y) :: st) S post) : EV G l K d bc bs pc ls (.int y :: .int x :: st) S post := by
  subst hq
  intro p e R s m args below meth c Q F Rt hf hlc H locs cells slots LS hc hs hR hS hL
  exact lv_idiv F.1 F.2.1 hd hne (k p e R s m args below meth c Q F Rt hf hlc H locs cells slots LS hc hs hR hS hL)
theorem ev_irem {x y : Int32} (hd : decode K.1 pc = .ok (.irem, 1)) (hne : ¬ y = 0) (hq : pc + 1 = q) (k : EV G l K d bc bs q ls (.int (x - x / y * y) :: st) S post) : EV G l K d bc bs pc ls (.int y :: .int x :: st) S post := by
  subst hq
  intro p e R s m args below meth c Q F Rt hf hlc H locs cells slots LS hc hs hR hS hL
  exact lv_irem F.1 F.2.1 hd hne (k p e R s m args below meth c Q F Rt hf hlc H locs cells slots LS hc hs hR hS hL)
theorem ev_iushr {x y : Int32} (hd : decode K.1 pc = .ok (.iushr, 1)) (hq : pc + 1 = q) (k : EV G l K d bc bs q ls (.int ((x.toUInt32 >>> (y.toUInt32 &&& Int32.toUInt32 31)).toInt32) :: st) S post) : EV G l K d bc bs pc ls (.int y :: .int x :: st) S post := by
  subst hq
  intro p e R s m args below meth c Q F Rt hf hlc H locs cells slots LS hc hs hR hS hL
  exact lv_iushr F.1 F.2.1 hd rfl (k p e R s m args below meth c Q F Rt hf hlc H locs cells slots LS hc hs hR hS hL)
theorem ev_i2l {x : Int32} (hd : decode K.1 pc = .ok (.i2l, 1)) (hq : pc + 1 = q) (k : EV G l K d bc bs q ls (.long x.toInt64 :: st) S post) : EV G l K d bc bs pc ls (.int x :: st) S post := by
  subst hq
  intro p e R s m args below meth c Q F Rt hf hlc H locs cells slots LS hc hs hR hS hL
  exact lv_i2l F.1 F.2.1 hd rfl (k p e R s m args below meth c Q F Rt hf hlc H locs cells slots LS hc hs hR hS hL)
theorem ev_i2b {x : Int32} (hd : decode K.1 pc = .ok (.i2b, 1)) (hq : pc + 1 = q) (k : EV G l K d bc bs q ls (.int x.toInt8.toInt32 :: st) S post) : EV G l K d bc bs pc ls (.int x :: st) S post := by
  subst hq
  intro p e R s m args below meth c Q F Rt hf hlc H locs cells slots LS hc hs hR hS hL
  exact lv_i2b F.1 F.2.1 hd rfl (k p e R s m args below meth c Q F Rt hf hlc H locs cells slots LS hc hs hR hS hL)
theorem ev_i2s {x : Int32} (hd : decode K.1 pc = .ok (.i2s, 1)) (hq : pc + 1 = q) (k : EV G l K d bc bs q ls (.int x.toInt16.toInt32 :: st) S post) : EV G l K d bc bs pc ls (.int x :: st) S post := by
  subst hq
  intro p e R s m args below meth c Q F Rt hf hlc H locs cells slots LS hc hs hR hS hL
  exact lv_i2s F.1 F.2.1 hd rfl (k p e R s m args below meth c Q F Rt hf hlc H locs cells slots LS hc hs hR hS hL)
theorem ev_i2c {x : Int32} (hd : decode K.1 pc = .ok (.i2c, 1)) (hq : pc + 1 = q) (k : EV G l K d bc bs q ls (.int (x.toUInt32 % 65536).toInt32 :: st) S post) : EV G l K d bc bs pc ls (.int x :: st) S post := by
  subst hq
  intro p e R s m args below meth c Q F Rt hf hlc H locs cells slots LS hc hs hR hS hL
  exact lv_i2c F.1 F.2.1 hd rfl (k p e R s m args below meth c Q F Rt hf hlc H locs cells slots LS hc hs hR hS hL)
theorem ev_ladd {x y : Int64} (hd : decode K.1 pc = .ok (.ladd, 1)) (hq : pc + 1 = q) (k : EV G l K d bc bs q ls (.long (x + y) :: st) S post) : EV G l K d bc bs pc ls (.long y :: .long x :: st) S post := by
  subst hq
  intro p e R s m args below meth c Q F Rt hf hlc H locs cells slots LS hc hs hR hS hL
  exact lv_ladd F.1 F.2.1 hd (k p e R s m args below meth c Q F Rt hf hlc H locs cells slots LS hc hs hR hS hL)
theorem ev_lcmp {x y : Int64} (hd : decode K.1 pc = .ok (.lcmp, 1)) (hq : pc + 1 = q) (k : EV G l K d bc bs q ls (.int (lg_cmp x y) :: st) S post) : EV G l K d bc bs pc ls (.long y :: .long x :: st) S post := by
  subst hq
  intro p e R s m args below meth c Q F Rt hf hlc H locs cells slots LS hc hs hR hS hL
  exact W.lcmp F.1 F.2.1 hd (k p e R s m args below meth c Q F Rt hf hlc H locs cells slots LS hc hs hR hS hL)
theorem ev_dup {v : Value} (hd : decode K.1 pc = .ok (.dup, 1)) (hv : v.category = 1) (hq : pc + 1 = q) (k : EV G l K d bc bs q ls (v :: v :: st) S post) : EV G l K d bc bs pc ls (v :: st) S post := by
  subst hq
  intro p e R s m args below meth c Q F Rt hf hlc H locs cells slots LS hc hs hR hS hL
  exact lv_dup F.1 F.2.1 hd (by rw [th_v_cat]; exact hv) (k p e R s m args below meth c Q F Rt hf hlc H locs cells slots LS hc hs hR hS hL)
theorem ev_pop {v : Value} (hd : decode K.1 pc = .ok (.pop, 1)) (hv : v.category = 1) (hq : pc + 1 = q) (k : EV G l K d bc bs q ls st S post) : EV G l K d bc bs pc ls (v :: st) S post := by
  subst hq
  intro p e R s m args below meth c Q F Rt hf hlc H locs cells slots LS hc hs hR hS hL
  exact lv_pop F.1 F.2.1 hd (by rw [th_v_cat]; exact hv) (k p e R s m args below meth c Q F Rt hf hlc H locs cells slots LS hc hs hR hS hL)
theorem ev_dup_x1 {v w : Value} (hd : decode K.1 pc = .ok (.dup_x1, 1)) (hv : v.category = 1) (hw : w.category = 1) (hq : pc + 1 = q) (k : EV G l K d bc bs q ls (v :: w :: v :: st) S post) : EV G l K d bc bs pc ls (v :: w :: st) S post := by
  subst hq
  intro p e R s m args below meth c Q F Rt hf hlc H locs cells slots LS hc hs hR hS hL
  exact lv_dup_x1 F.1 F.2.1 hd (by rw [th_v_cat]; exact hv) (by rw [th_v_cat]; exact hw) (k p e R s m args below meth c Q F Rt hf hlc H locs cells slots LS hc hs hR hS hL)
theorem ev_dup2 {v w : Value} (hd : decode K.1 pc = .ok (.dup2, 1)) (hv : v.category = 1) (hw : w.category = 1) (hq : pc + 1 = q) (k : EV G l K d bc bs q ls (v :: w :: v :: w :: st) S post) : EV G l K d bc bs pc ls (v :: w :: st) S post := by
  subst hq
  intro p e R s m args below meth c Q F Rt hf hlc H locs cells slots LS hc hs hR hS hL
  exact lv_dup2_11 F.1 F.2.1 hd (by rw [th_v_cat]; exact hv) (by rw [th_v_cat]; exact hw) (k p e R s m args below meth c Q F Rt hf hlc H locs cells slots LS hc hs hR hS hL)
theorem ev_iload0 {x : Int32} {r : List (Option Value)} (hd : decode K.1 pc = .ok (.iload_n 0, 1)) (hq : pc + 1 = q) (k : EV G l K d bc bs q (some (.int x) :: r) (.int x :: st) S post) : EV G l K d bc bs pc (some (.int x) :: r) st S post := by
  subst hq
  intro p e R s m args below meth c Q F Rt hf hlc H locs cells slots LS hc hs hR hS hL
  exact lv_iload_n F.1 F.2.1 hd rfl (hL.at (i := 0) rfl) (k p e R s m args below meth c Q F Rt hf hlc H locs cells slots LS hc hs hR hS hL)
theorem ev_lload0 {x : Int64} {r : List (Option Value)} (hd : decode K.1 pc = .ok (.lload_n 0, 1)) (hq : pc + 1 = q) (k : EV G l K d bc bs q (some (.long x) :: r) (.long x :: st) S post) : EV G l K d bc bs pc (some (.long x) :: r) st S post := by
  subst hq
  intro p e R s m args below meth c Q F Rt hf hlc H locs cells slots LS hc hs hR hS hL
  exact lv_lload_n F.1 F.2.1 hd rfl (hL.at (i := 0) rfl) (k p e R s m args below meth c Q F Rt hf hlc H locs cells slots LS hc hs hR hS hL)
theorem ev_aload0 {x : Nat} {r : List (Option Value)} (hd : decode K.1 pc = .ok (.aload_n 0, 1)) (hq : pc + 1 = q) (k : EV G l K d bc bs q (some (.ref x) :: r) (.ref x :: st) S post) : EV G l K d bc bs pc (some (.ref x) :: r) st S post := by
  subst hq
  intro p e R s m args below meth c Q F Rt hf hlc H locs cells slots LS hc hs hR hS hL
  exact lv_aload_n F.1 F.2.1 hd rfl (hL.at (i := 0) rfl) (k p e R s m args below meth c Q F Rt hf hlc H locs cells slots LS hc hs hR hS hL)
theorem ev_aloadN0 {r : List (Option Value)} (hd : decode K.1 pc = .ok (.aload_n 0, 1)) (hq : pc + 1 = q) (k : EV G l K d bc bs q (some (.null) :: r) (.null :: st) S post) : EV G l K d bc bs pc (some (.null) :: r) st S post := by
  subst hq
  intro p e R s m args below meth c Q F Rt hf hlc H locs cells slots LS hc hs hR hS hL
  exact lv_aload_nN F.1 F.2.1 hd rfl (hL.at (i := 0) rfl) (k p e R s m args below meth c Q F Rt hf hlc H locs cells slots LS hc hs hR hS hL)
theorem ev_istore0 {o0 : Option Value} {x : Int32} {r : List (Option Value)} (hd : decode K.1 pc = .ok (.istore_n 0, 1)) (hq : pc + 1 = q) (hn : 0 < K.2.2.1) (h1 : th_c1 (o0 :: r) = true) (k : EV G l K d bc bs q (some (.int x) :: r) st S post) : EV G l K d bc bs pc (o0 :: r) (.int x :: st) S post := by
  subst hq
  intro p e R s m args below meth c Q F Rt hf hlc H locs cells slots LS hc hs hR hS hL
  exact lv_istore_n F.1 F.2.1 hd rfl hL hn rfl (fun LS1 h => k p e R s m args below meth c Q F Rt hf hlc H locs cells slots LS1 hc hs hR hS (th_L.set (i := 0) (v := .int x) h1 h))
theorem ev_astore0 {o0 : Option Value} {x : Nat} {r : List (Option Value)} (hd : decode K.1 pc = .ok (.astore_n 0, 1)) (hq : pc + 1 = q) (hn : 0 < K.2.2.1) (h1 : th_c1 (o0 :: r) = true) (k : EV G l K d bc bs q (some (.ref x) :: r) st S post) : EV G l K d bc bs pc (o0 :: r) (.ref x :: st) S post := by
  subst hq
  intro p e R s m args below meth c Q F Rt hf hlc H locs cells slots LS hc hs hR hS hL
  exact lv_astore_n F.1 F.2.1 hd rfl hL hn rfl (fun LS1 h => k p e R s m args below meth c Q F Rt hf hlc H locs cells slots LS1 hc hs hR hS (th_L.set (i := 0) (v := .ref x) h1 h))
theorem ev_astoreN0 {o0 : Option Value} {r : List (Option Value)} (hd : decode K.1 pc = .ok (.astore_n 0, 1)) (hq : pc + 1 = q) (hn : 0 < K.2.2.1) (h1 : th_c1 (o0 :: r) = true) (k : EV G l K d bc bs q (some (.null) :: r) st S post) : EV G l K d bc bs pc (o0 :: r) (.null :: st) S post := by
  subst hq
  intro p e R s m args below meth c Q F Rt hf hlc H locs cells slots LS hc hs hR hS hL
  exact lv_astore_nN F.1 F.2.1 hd rfl hL hn rfl (fun LS1 h => k p e R s m args below meth c Q F Rt hf hlc H locs cells slots LS1 hc hs hR hS (th_L.set (i := 0) (v := .null) h1 h))
theorem ev_iinc0 {x v : Int32} {n : Int} {r : List (Option Value)} (hd : decode K.1 pc = .ok (.iinc 0 n, 3)) (hq : pc + 3 = q) (hn : 0 < K.2.2.1) (h1 : th_c1 (some (.int x) :: r) = true) (hv : x + Int32.ofInt n = v) (k : EV G l K d bc bs q (some (.int v) :: r) st S post) : EV G l K d bc bs pc (some (.int x) :: r) st S post := by
  subst hq
  intro p e R s m args below meth c Q F Rt hf hlc H locs cells slots LS hc hs hR hS hL
  obtain ⟨kk, hkk⟩ := List.getElem?_of_mem ((th_l_mem (G := G) (some (.int x) :: r) 0 0 (.int x)).mpr ⟨0, .int x, rfl, by omega, rfl⟩)
  exact lv_iinc F.1 F.2.1 hd hL hkk hv hn rfl (fun LS1 h => k p e R s m args below meth c Q F Rt hf hlc H locs cells slots LS1 hc hs hR hS (th_L.set (i := 0) (v := .int v) h1 h))
theorem ev_iload1 {o0 : Option Value} {x : Int32} {r : List (Option Value)} (hd : decode K.1 pc = .ok (.iload_n 1, 1)) (hq : pc + 1 = q) (k : EV G l K d bc bs q (o0 :: some (.int x) :: r) (.int x :: st) S post) : EV G l K d bc bs pc (o0 :: some (.int x) :: r) st S post := by
  subst hq
  intro p e R s m args below meth c Q F Rt hf hlc H locs cells slots LS hc hs hR hS hL
  exact lv_iload_n F.1 F.2.1 hd rfl (hL.at (i := 1) rfl) (k p e R s m args below meth c Q F Rt hf hlc H locs cells slots LS hc hs hR hS hL)
theorem ev_lload1 {o0 : Option Value} {x : Int64} {r : List (Option Value)} (hd : decode K.1 pc = .ok (.lload_n 1, 1)) (hq : pc + 1 = q) (k : EV G l K d bc bs q (o0 :: some (.long x) :: r) (.long x :: st) S post) : EV G l K d bc bs pc (o0 :: some (.long x) :: r) st S post := by
  subst hq
  intro p e R s m args below meth c Q F Rt hf hlc H locs cells slots LS hc hs hR hS hL
  exact lv_lload_n F.1 F.2.1 hd rfl (hL.at (i := 1) rfl) (k p e R s m args below meth c Q F Rt hf hlc H locs cells slots LS hc hs hR hS hL)
theorem ev_aload1 {o0 : Option Value} {x : Nat} {r : List (Option Value)} (hd : decode K.1 pc = .ok (.aload_n 1, 1)) (hq : pc + 1 = q) (k : EV G l K d bc bs q (o0 :: some (.ref x) :: r) (.ref x :: st) S post) : EV G l K d bc bs pc (o0 :: some (.ref x) :: r) st S post := by
  subst hq
  intro p e R s m args below meth c Q F Rt hf hlc H locs cells slots LS hc hs hR hS hL
  exact lv_aload_n F.1 F.2.1 hd rfl (hL.at (i := 1) rfl) (k p e R s m args below meth c Q F Rt hf hlc H locs cells slots LS hc hs hR hS hL)
theorem ev_aloadN1 {o0 : Option Value} {r : List (Option Value)} (hd : decode K.1 pc = .ok (.aload_n 1, 1)) (hq : pc + 1 = q) (k : EV G l K d bc bs q (o0 :: some (.null) :: r) (.null :: st) S post) : EV G l K d bc bs pc (o0 :: some (.null) :: r) st S post := by
  subst hq
  intro p e R s m args below meth c Q F Rt hf hlc H locs cells slots LS hc hs hR hS hL
  exact lv_aload_nN F.1 F.2.1 hd rfl (hL.at (i := 1) rfl) (k p e R s m args below meth c Q F Rt hf hlc H locs cells slots LS hc hs hR hS hL)
theorem ev_istore1 {o0 : Option Value} {o1 : Option Value} {x : Int32} {r : List (Option Value)} (hd : decode K.1 pc = .ok (.istore_n 1, 1)) (hq : pc + 1 = q) (hn : 1 < K.2.2.1) (h1 : th_c1 (o0 :: o1 :: r) = true) (k : EV G l K d bc bs q (o0 :: some (.int x) :: r) st S post) : EV G l K d bc bs pc (o0 :: o1 :: r) (.int x :: st) S post := by
  subst hq
  intro p e R s m args below meth c Q F Rt hf hlc H locs cells slots LS hc hs hR hS hL
  exact lv_istore_n F.1 F.2.1 hd rfl hL hn rfl (fun LS1 h => k p e R s m args below meth c Q F Rt hf hlc H locs cells slots LS1 hc hs hR hS (th_L.set (i := 1) (v := .int x) h1 h))
theorem ev_astore1 {o0 : Option Value} {o1 : Option Value} {x : Nat} {r : List (Option Value)} (hd : decode K.1 pc = .ok (.astore_n 1, 1)) (hq : pc + 1 = q) (hn : 1 < K.2.2.1) (h1 : th_c1 (o0 :: o1 :: r) = true) (k : EV G l K d bc bs q (o0 :: some (.ref x) :: r) st S post) : EV G l K d bc bs pc (o0 :: o1 :: r) (.ref x :: st) S post := by
  subst hq
  intro p e R s m args below meth c Q F Rt hf hlc H locs cells slots LS hc hs hR hS hL
  exact lv_astore_n F.1 F.2.1 hd rfl hL hn rfl (fun LS1 h => k p e R s m args below meth c Q F Rt hf hlc H locs cells slots LS1 hc hs hR hS (th_L.set (i := 1) (v := .ref x) h1 h))
theorem ev_astoreN1 {o0 : Option Value} {o1 : Option Value} {r : List (Option Value)} (hd : decode K.1 pc = .ok (.astore_n 1, 1)) (hq : pc + 1 = q) (hn : 1 < K.2.2.1) (h1 : th_c1 (o0 :: o1 :: r) = true) (k : EV G l K d bc bs q (o0 :: some (.null) :: r) st S post) : EV G l K d bc bs pc (o0 :: o1 :: r) (.null :: st) S post := by
  subst hq
  intro p e R s m args below meth c Q F Rt hf hlc H locs cells slots LS hc hs hR hS hL
  exact lv_astore_nN F.1 F.2.1 hd rfl hL hn rfl (fun LS1 h => k p e R s m args below meth c Q F Rt hf hlc H locs cells slots LS1 hc hs hR hS (th_L.set (i := 1) (v := .null) h1 h))
theorem ev_iinc1 {o0 : Option Value} {x v : Int32} {n : Int} {r : List (Option Value)} (hd : decode K.1 pc = .ok (.iinc 1 n, 3)) (hq : pc + 3 = q) (hn : 1 < K.2.2.1) (h1 : th_c1 (o0 :: some (.int x) :: r) = true) (hv : x + Int32.ofInt n = v) (k : EV G l K d bc bs q (o0 :: some (.int v) :: r) st S post) : EV G l K d bc bs pc (o0 :: some (.int x) :: r) st S post := by
  subst hq
  intro p e R s m args below meth c Q F Rt hf hlc H locs cells slots LS hc hs hR hS hL
  obtain ⟨kk, hkk⟩ := List.getElem?_of_mem ((th_l_mem (G := G) (o0 :: some (.int x) :: r) 0 1 (.int x)).mpr ⟨1, .int x, rfl, by omega, rfl⟩)
  exact lv_iinc F.1 F.2.1 hd hL hkk hv hn rfl (fun LS1 h => k p e R s m args below meth c Q F Rt hf hlc H locs cells slots LS1 hc hs hR hS (th_L.set (i := 1) (v := .int v) h1 h))
theorem ev_iload2 {o0 o1 : Option Value} {x : Int32} {r : List (Option Value)} (hd : decode K.1 pc = .ok (.iload_n 2, 1)) (hq : pc + 1 = q) (k : EV G l K d bc bs q (o0 :: o1 :: some (.int x) :: r) (.int x :: st) S post) : EV G l K d bc bs pc (o0 :: o1 :: some (.int x) :: r) st S post := by
  subst hq
  intro p e R s m args below meth c Q F Rt hf hlc H locs cells slots LS hc hs hR hS hL
  exact lv_iload_n F.1 F.2.1 hd rfl (hL.at (i := 2) rfl) (k p e R s m args below meth c Q F Rt hf hlc H locs cells slots LS hc hs hR hS hL)
theorem ev_lload2 {o0 o1 : Option Value} {x : Int64} {r : List (Option Value)} (hd : decode K.1 pc = .ok (.lload_n 2, 1)) (hq : pc + 1 = q) (k : EV G l K d bc bs q (o0 :: o1 :: some (.long x) :: r) (.long x :: st) S post) : EV G l K d bc bs pc (o0 :: o1 :: some (.long x) :: r) st S post := by
  subst hq
  intro p e R s m args below meth c Q F Rt hf hlc H locs cells slots LS hc hs hR hS hL
  exact lv_lload_n F.1 F.2.1 hd rfl (hL.at (i := 2) rfl) (k p e R s m args below meth c Q F Rt hf hlc H locs cells slots LS hc hs hR hS hL)
theorem ev_aload2 {o0 o1 : Option Value} {x : Nat} {r : List (Option Value)} (hd : decode K.1 pc = .ok (.aload_n 2, 1)) (hq : pc + 1 = q) (k : EV G l K d bc bs q (o0 :: o1 :: some (.ref x) :: r) (.ref x :: st) S post) : EV G l K d bc bs pc (o0 :: o1 :: some (.ref x) :: r) st S post := by
  subst hq
  intro p e R s m args below meth c Q F Rt hf hlc H locs cells slots LS hc hs hR hS hL
  exact lv_aload_n F.1 F.2.1 hd rfl (hL.at (i := 2) rfl) (k p e R s m args below meth c Q F Rt hf hlc H locs cells slots LS hc hs hR hS hL)
theorem ev_aloadN2 {o0 o1 : Option Value} {r : List (Option Value)} (hd : decode K.1 pc = .ok (.aload_n 2, 1)) (hq : pc + 1 = q) (k : EV G l K d bc bs q (o0 :: o1 :: some (.null) :: r) (.null :: st) S post) : EV G l K d bc bs pc (o0 :: o1 :: some (.null) :: r) st S post := by
  subst hq
  intro p e R s m args below meth c Q F Rt hf hlc H locs cells slots LS hc hs hR hS hL
  exact lv_aload_nN F.1 F.2.1 hd rfl (hL.at (i := 2) rfl) (k p e R s m args below meth c Q F Rt hf hlc H locs cells slots LS hc hs hR hS hL)
theorem ev_istore2 {o0 o1 : Option Value} {o2 : Option Value} {x : Int32} {r : List (Option Value)} (hd : decode K.1 pc = .ok (.istore_n 2, 1)) (hq : pc + 1 = q) (hn : 2 < K.2.2.1) (h1 : th_c1 (o0 :: o1 :: o2 :: r) = true) (k : EV G l K d bc bs q (o0 :: o1 :: some (.int x) :: r) st S post) : EV G l K d bc bs pc (o0 :: o1 :: o2 :: r) (.int x :: st) S post := by
  subst hq
  intro p e R s m args below meth c Q F Rt hf hlc H locs cells slots LS hc hs hR hS hL
  exact lv_istore_n F.1 F.2.1 hd rfl hL hn rfl (fun LS1 h => k p e R s m args below meth c Q F Rt hf hlc H locs cells slots LS1 hc hs hR hS (th_L.set (i := 2) (v := .int x) h1 h))
theorem ev_astore2 {o0 o1 : Option Value} {o2 : Option Value} {x : Nat} {r : List (Option Value)} (hd : decode K.1 pc = .ok (.astore_n 2, 1)) (hq : pc + 1 = q) (hn : 2 < K.2.2.1) (h1 : th_c1 (o0 :: o1 :: o2 :: r) = true) (k : EV G l K d bc bs q (o0 :: o1 :: some (.ref x) :: r) st S post) : EV G l K d bc bs pc (o0 :: o1 :: o2 :: r) (.ref x :: st) S post := by
  subst hq
  intro p e R s m args below meth c Q F Rt hf hlc H locs cells slots LS hc hs hR hS hL
  exact lv_astore_n F.1 F.2.1 hd rfl hL hn rfl (fun LS1 h => k p e R s m args below meth c Q F Rt hf hlc H locs cells slots LS1 hc hs hR hS (th_L.set (i := 2) (v := .ref x) h1 h))
theorem ev_astoreN2 {o0 o1 : Option Value} {o2 : Option Value} {r : List (Option Value)} (hd : decode K.1 pc = .ok (.astore_n 2, 1)) (hq : pc + 1 = q) (hn : 2 < K.2.2.1) (h1 : th_c1 (o0 :: o1 :: o2 :: r) = true) (k : EV G l K d bc bs q (o0 :: o1 :: some (.null) :: r) st S post) : EV G l K d bc bs pc (o0 :: o1 :: o2 :: r) (.null :: st) S post := by
  subst hq
  intro p e R s m args below meth c Q F Rt hf hlc H locs cells slots LS hc hs hR hS hL
  exact lv_astore_nN F.1 F.2.1 hd rfl hL hn rfl (fun LS1 h => k p e R s m args below meth c Q F Rt hf hlc H locs cells slots LS1 hc hs hR hS (th_L.set (i := 2) (v := .null) h1 h))
theorem ev_iinc2 {o0 o1 : Option Value} {x v : Int32} {n : Int} {r : List (Option Value)} (hd : decode K.1 pc = .ok (.iinc 2 n, 3)) (hq : pc + 3 = q) (hn : 2 < K.2.2.1) (h1 : th_c1 (o0 :: o1 :: some (.int x) :: r) = true) (hv : x + Int32.ofInt n = v) (k : EV G l K d bc bs q (o0 :: o1 :: some (.int v) :: r) st S post) : EV G l K d bc bs pc (o0 :: o1 :: some (.int x) :: r) st S post := by
  subst hq
  intro p e R s m args below meth c Q F Rt hf hlc H locs cells slots LS hc hs hR hS hL
  obtain ⟨kk, hkk⟩ := List.getElem?_of_mem ((th_l_mem (G := G) (o0 :: o1 :: some (.int x) :: r) 0 2 (.int x)).mpr ⟨2, .int x, rfl, by omega, rfl⟩)
  exact lv_iinc F.1 F.2.1 hd hL hkk hv hn rfl (fun LS1 h => k p e R s m args below meth c Q F Rt hf hlc H locs cells slots LS1 hc hs hR hS (th_L.set (i := 2) (v := .int v) h1 h))
theorem ev_iload3 {o0 o1 o2 : Option Value} {x : Int32} {r : List (Option Value)} (hd : decode K.1 pc = .ok (.iload_n 3, 1)) (hq : pc + 1 = q) (k : EV G l K d bc bs q (o0 :: o1 :: o2 :: some (.int x) :: r) (.int x :: st) S post) : EV G l K d bc bs pc (o0 :: o1 :: o2 :: some (.int x) :: r) st S post := by
  subst hq
  intro p e R s m args below meth c Q F Rt hf hlc H locs cells slots LS hc hs hR hS hL
  exact lv_iload_n F.1 F.2.1 hd rfl (hL.at (i := 3) rfl) (k p e R s m args below meth c Q F Rt hf hlc H locs cells slots LS hc hs hR hS hL)
theorem ev_lload3 {o0 o1 o2 : Option Value} {x : Int64} {r : List (Option Value)} (hd : decode K.1 pc = .ok (.lload_n 3, 1)) (hq : pc + 1 = q) (k : EV G l K d bc bs q (o0 :: o1 :: o2 :: some (.long x) :: r) (.long x :: st) S post) : EV G l K d bc bs pc (o0 :: o1 :: o2 :: some (.long x) :: r) st S post := by
  subst hq
  intro p e R s m args below meth c Q F Rt hf hlc H locs cells slots LS hc hs hR hS hL
  exact lv_lload_n F.1 F.2.1 hd rfl (hL.at (i := 3) rfl) (k p e R s m args below meth c Q F Rt hf hlc H locs cells slots LS hc hs hR hS hL)
theorem ev_aload3 {o0 o1 o2 : Option Value} {x : Nat} {r : List (Option Value)} (hd : decode K.1 pc = .ok (.aload_n 3, 1)) (hq : pc + 1 = q) (k : EV G l K d bc bs q (o0 :: o1 :: o2 :: some (.ref x) :: r) (.ref x :: st) S post) : EV G l K d bc bs pc (o0 :: o1 :: o2 :: some (.ref x) :: r) st S post := by
  subst hq
  intro p e R s m args below meth c Q F Rt hf hlc H locs cells slots LS hc hs hR hS hL
  exact lv_aload_n F.1 F.2.1 hd rfl (hL.at (i := 3) rfl) (k p e R s m args below meth c Q F Rt hf hlc H locs cells slots LS hc hs hR hS hL)
theorem ev_aloadN3 {o0 o1 o2 : Option Value} {r : List (Option Value)} (hd : decode K.1 pc = .ok (.aload_n 3, 1)) (hq : pc + 1 = q) (k : EV G l K d bc bs q (o0 :: o1 :: o2 :: some (.null) :: r) (.null :: st) S post) : EV G l K d bc bs pc (o0 :: o1 :: o2 :: some (.null) :: r) st S post := by
  subst hq
  intro p e R s m args below meth c Q F Rt hf hlc H locs cells slots LS hc hs hR hS hL
  exact lv_aload_nN F.1 F.2.1 hd rfl (hL.at (i := 3) rfl) (k p e R s m args below meth c Q F Rt hf hlc H locs cells slots LS hc hs hR hS hL)
theorem ev_istore3 {o0 o1 o2 : Option Value} {o3 : Option Value} {x : Int32} {r : List (Option Value)} (hd : decode K.1 pc = .ok (.istore_n 3, 1)) (hq : pc + 1 = q) (hn : 3 < K.2.2.1) (h1 : th_c1 (o0 :: o1 :: o2 :: o3 :: r) = true) (k : EV G l K d bc bs q (o0 :: o1 :: o2 :: some (.int x) :: r) st S post) : EV G l K d bc bs pc (o0 :: o1 :: o2 :: o3 :: r) (.int x :: st) S post := by
  subst hq
  intro p e R s m args below meth c Q F Rt hf hlc H locs cells slots LS hc hs hR hS hL
  exact lv_istore_n F.1 F.2.1 hd rfl hL hn rfl (fun LS1 h => k p e R s m args below meth c Q F Rt hf hlc H locs cells slots LS1 hc hs hR hS (th_L.set (i := 3) (v := .int x) h1 h))
theorem ev_astore3 {o0 o1 o2 : Option Value} {o3 : Option Value} {x : Nat} {r : List (Option Value)} (hd : decode K.1 pc = .ok (.astore_n 3, 1)) (hq : pc + 1 = q) (hn : 3 < K.2.2.1) (h1 : th_c1 (o0 :: o1 :: o2 :: o3 :: r) = true) (k : EV G l K d bc bs q (o0 :: o1 :: o2 :: some (.ref x) :: r) st S post) : EV G l K d bc bs pc (o0 :: o1 :: o2 :: o3 :: r) (.ref x :: st) S post := by
  subst hq
  intro p e R s m args below meth c Q F Rt hf hlc H locs cells slots LS hc hs hR hS hL
  exact lv_astore_n F.1 F.2.1 hd rfl hL hn rfl (fun LS1 h => k p e R s m args below meth c Q F Rt hf hlc H locs cells slots LS1 hc hs hR hS (th_L.set (i := 3) (v := .ref x) h1 h))
theorem ev_astoreN3 {o0 o1 o2 : Option Value} {o3 : Option Value} {r : List (Option Value)} (hd : decode K.1 pc = .ok (.astore_n 3, 1)) (hq : pc + 1 = q) (hn : 3 < K.2.2.1) (h1 : th_c1 (o0 :: o1 :: o2 :: o3 :: r) = true) (k : EV G l K d bc bs q (o0 :: o1 :: o2 :: some (.null) :: r) st S post) : EV G l K d bc bs pc (o0 :: o1 :: o2 :: o3 :: r) (.null :: st) S post := by
  subst hq
  intro p e R s m args below meth c Q F Rt hf hlc H locs cells slots LS hc hs hR hS hL
  exact lv_astore_nN F.1 F.2.1 hd rfl hL hn rfl (fun LS1 h => k p e R s m args below meth c Q F Rt hf hlc H locs cells slots LS1 hc hs hR hS (th_L.set (i := 3) (v := .null) h1 h))
theorem ev_iinc3 {o0 o1 o2 : Option Value} {x v : Int32} {n : Int} {r : List (Option Value)} (hd : decode K.1 pc = .ok (.iinc 3 n, 3)) (hq : pc + 3 = q) (hn : 3 < K.2.2.1) (h1 : th_c1 (o0 :: o1 :: o2 :: some (.int x) :: r) = true) (hv : x + Int32.ofInt n = v) (k : EV G l K d bc bs q (o0 :: o1 :: o2 :: some (.int v) :: r) st S post) : EV G l K d bc bs pc (o0 :: o1 :: o2 :: some (.int x) :: r) st S post := by
  subst hq
  intro p e R s m args below meth c Q F Rt hf hlc H locs cells slots LS hc hs hR hS hL
  obtain ⟨kk, hkk⟩ := List.getElem?_of_mem ((th_l_mem (G := G) (o0 :: o1 :: o2 :: some (.int x) :: r) 0 3 (.int x)).mpr ⟨3, .int x, rfl, by omega, rfl⟩)
  exact lv_iinc F.1 F.2.1 hd hL hkk hv hn rfl (fun LS1 h => k p e R s m args below meth c Q F Rt hf hlc H locs cells slots LS1 hc hs hR hS (th_L.set (i := 3) (v := .int v) h1 h))
theorem ev_iload4 {o0 o1 o2 o3 : Option Value} {x : Int32} {r : List (Option Value)} (hd : decode K.1 pc = .ok (.iload 4, 2)) (hq : pc + 2 = q) (k : EV G l K d bc bs q (o0 :: o1 :: o2 :: o3 :: some (.int x) :: r) (.int x :: st) S post) : EV G l K d bc bs pc (o0 :: o1 :: o2 :: o3 :: some (.int x) :: r) st S post := by
  subst hq
  intro p e R s m args below meth c Q F Rt hf hlc H locs cells slots LS hc hs hR hS hL
  exact lv_iload F.1 F.2.1 hd (hL.at (i := 4) rfl) (k p e R s m args below meth c Q F Rt hf hlc H locs cells slots LS hc hs hR hS hL)
theorem ev_lload4 {o0 o1 o2 o3 : Option Value} {x : Int64} {r : List (Option Value)} (hd : decode K.1 pc = .ok (.lload 4, 2)) (hq : pc + 2 = q) (k : EV G l K d bc bs q (o0 :: o1 :: o2 :: o3 :: some (.long x) :: r) (.long x :: st) S post) : EV G l K d bc bs pc (o0 :: o1 :: o2 :: o3 :: some (.long x) :: r) st S post := by
  subst hq
  intro p e R s m args below meth c Q F Rt hf hlc H locs cells slots LS hc hs hR hS hL
  exact lv_lload F.1 F.2.1 hd (hL.at (i := 4) rfl) (k p e R s m args below meth c Q F Rt hf hlc H locs cells slots LS hc hs hR hS hL)
theorem ev_aload4 {o0 o1 o2 o3 : Option Value} {x : Nat} {r : List (Option Value)} (hd : decode K.1 pc = .ok (.aload 4, 2)) (hq : pc + 2 = q) (k : EV G l K d bc bs q (o0 :: o1 :: o2 :: o3 :: some (.ref x) :: r) (.ref x :: st) S post) : EV G l K d bc bs pc (o0 :: o1 :: o2 :: o3 :: some (.ref x) :: r) st S post := by
  subst hq
  intro p e R s m args below meth c Q F Rt hf hlc H locs cells slots LS hc hs hR hS hL
  exact lv_aload F.1 F.2.1 hd (hL.at (i := 4) rfl) (k p e R s m args below meth c Q F Rt hf hlc H locs cells slots LS hc hs hR hS hL)
theorem ev_aloadN4 {o0 o1 o2 o3 : Option Value} {r : List (Option Value)} (hd : decode K.1 pc = .ok (.aload 4, 2)) (hq : pc + 2 = q) (k : EV G l K d bc bs q (o0 :: o1 :: o2 :: o3 :: some (.null) :: r) (.null :: st) S post) : EV G l K d bc bs pc (o0 :: o1 :: o2 :: o3 :: some (.null) :: r) st S post := by
  subst hq
  intro p e R s m args below meth c Q F Rt hf hlc H locs cells slots LS hc hs hR hS hL
  exact lv_aloadN F.1 F.2.1 hd (hL.at (i := 4) rfl) (k p e R s m args below meth c Q F Rt hf hlc H locs cells slots LS hc hs hR hS hL)
theorem ev_istore4 {o0 o1 o2 o3 : Option Value} {o4 : Option Value} {x : Int32} {r : List (Option Value)} (hd : decode K.1 pc = .ok (.istore 4, 2)) (hq : pc + 2 = q) (hn : 4 < K.2.2.1) (h1 : th_c1 (o0 :: o1 :: o2 :: o3 :: o4 :: r) = true) (k : EV G l K d bc bs q (o0 :: o1 :: o2 :: o3 :: some (.int x) :: r) st S post) : EV G l K d bc bs pc (o0 :: o1 :: o2 :: o3 :: o4 :: r) (.int x :: st) S post := by
  subst hq
  intro p e R s m args below meth c Q F Rt hf hlc H locs cells slots LS hc hs hR hS hL
  exact lv_istore F.1 F.2.1 hd hL hn rfl (fun LS1 h => k p e R s m args below meth c Q F Rt hf hlc H locs cells slots LS1 hc hs hR hS (th_L.set (i := 4) (v := .int x) h1 h))
theorem ev_astore4 {o0 o1 o2 o3 : Option Value} {o4 : Option Value} {x : Nat} {r : List (Option Value)} (hd : decode K.1 pc = .ok (.astore 4, 2)) (hq : pc + 2 = q) (hn : 4 < K.2.2.1) (h1 : th_c1 (o0 :: o1 :: o2 :: o3 :: o4 :: r) = true) (k : EV G l K d bc bs q (o0 :: o1 :: o2 :: o3 :: some (.ref x) :: r) st S post) : EV G l K d bc bs pc (o0 :: o1 :: o2 :: o3 :: o4 :: r) (.ref x :: st) S post := by
  subst hq
  intro p e R s m args below meth c Q F Rt hf hlc H locs cells slots LS hc hs hR hS hL
  exact lv_astore F.1 F.2.1 hd hL hn rfl (fun LS1 h => k p e R s m args below meth c Q F Rt hf hlc H locs cells slots LS1 hc hs hR hS (th_L.set (i := 4) (v := .ref x) h1 h))
theorem ev_astoreN4 {o0 o1 o2 o3 : Option Value} {o4 : Option Value} {r : List (Option Value)} (hd : decode K.1 pc = .ok (.astore 4, 2)) (hq : pc + 2 = q) (hn : 4 < K.2.2.1) (h1 : th_c1 (o0 :: o1 :: o2 :: o3 :: o4 :: r) = true) (k : EV G l K d bc bs q (o0 :: o1 :: o2 :: o3 :: some (.null) :: r) st S post) : EV G l K d bc bs pc (o0 :: o1 :: o2 :: o3 :: o4 :: r) (.null :: st) S post := by
  subst hq
  intro p e R s m args below meth c Q F Rt hf hlc H locs cells slots LS hc hs hR hS hL
  exact lv_astoreN F.1 F.2.1 hd hL hn rfl (fun LS1 h => k p e R s m args below meth c Q F Rt hf hlc H locs cells slots LS1 hc hs hR hS (th_L.set (i := 4) (v := .null) h1 h))
theorem ev_iinc4 {o0 o1 o2 o3 : Option Value} {x v : Int32} {n : Int} {r : List (Option Value)} (hd : decode K.1 pc = .ok (.iinc 4 n, 3)) (hq : pc + 3 = q) (hn : 4 < K.2.2.1) (h1 : th_c1 (o0 :: o1 :: o2 :: o3 :: some (.int x) :: r) = true) (hv : x + Int32.ofInt n = v) (k : EV G l K d bc bs q (o0 :: o1 :: o2 :: o3 :: some (.int v) :: r) st S post) : EV G l K d bc bs pc (o0 :: o1 :: o2 :: o3 :: some (.int x) :: r) st S post := by
  subst hq
  intro p e R s m args below meth c Q F Rt hf hlc H locs cells slots LS hc hs hR hS hL
  obtain ⟨kk, hkk⟩ := List.getElem?_of_mem ((th_l_mem (G := G) (o0 :: o1 :: o2 :: o3 :: some (.int x) :: r) 0 4 (.int x)).mpr ⟨4, .int x, rfl, by omega, rfl⟩)
  exact lv_iinc F.1 F.2.1 hd hL hkk hv hn rfl (fun LS1 h => k p e R s m args below meth c Q F Rt hf hlc H locs cells slots LS1 hc hs hR hS (th_L.set (i := 4) (v := .int v) h1 h))
theorem ev_iload5 {o0 o1 o2 o3 o4 : Option Value} {x : Int32} {r : List (Option Value)} (hd : decode K.1 pc = .ok (.iload 5, 2)) (hq : pc + 2 = q) (k : EV G l K d bc bs q (o0 :: o1 :: o2 :: o3 :: o4 :: some (.int x) :: r) (.int x :: st) S post) : EV G l K d bc bs pc (o0 :: o1 :: o2 :: o3 :: o4 :: some (.int x) :: r) st S post := by
  subst hq
  intro p e R s m args below meth c Q F Rt hf hlc H locs cells slots LS hc hs hR hS hL
  exact lv_iload F.1 F.2.1 hd (hL.at (i := 5) rfl) (k p e R s m args below meth c Q F Rt hf hlc H locs cells slots LS hc hs hR hS hL)
theorem ev_lload5 {o0 o1 o2 o3 o4 : Option Value} {x : Int64} {r : List (Option Value)} (hd : decode K.1 pc = .ok (.lload 5, 2)) (hq : pc + 2 = q) (k : EV G l K d bc bs q (o0 :: o1 :: o2 :: o3 :: o4 :: some (.long x) :: r) (.long x :: st) S post) : EV G l K d bc bs pc (o0 :: o1 :: o2 :: o3 :: o4 :: some (.long x) :: r) st S post := by
  subst hq
  intro p e R s m args below meth c Q F Rt hf hlc H locs cells slots LS hc hs hR hS hL
  exact lv_lload F.1 F.2.1 hd (hL.at (i := 5) rfl) (k p e R s m args below meth c Q F Rt hf hlc H locs cells slots LS hc hs hR hS hL)
theorem ev_aload5 {o0 o1 o2 o3 o4 : Option Value} {x : Nat} {r : List (Option Value)} (hd : decode K.1 pc = .ok (.aload 5, 2)) (hq : pc + 2 = q) (k : EV G l K d bc bs q (o0 :: o1 :: o2 :: o3 :: o4 :: some (.ref x) :: r) (.ref x :: st) S post) : EV G l K d bc bs pc (o0 :: o1 :: o2 :: o3 :: o4 :: some (.ref x) :: r) st S post := by
  subst hq
  intro p e R s m args below meth c Q F Rt hf hlc H locs cells slots LS hc hs hR hS hL
  exact lv_aload F.1 F.2.1 hd (hL.at (i := 5) rfl) (k p e R s m args below meth c Q F Rt hf hlc H locs cells slots LS hc hs hR hS hL)
theorem ev_aloadN5 {o0 o1 o2 o3 o4 : Option Value} {r : List (Option Value)} (hd : decode K.1 pc = .ok (.aload 5, 2)) (hq : pc + 2 = q) (k : EV G l K d bc bs q (o0 :: o1 :: o2 :: o3 :: o4 :: some (.null) :: r) (.null :: st) S post) : EV G l K d bc bs pc (o0 :: o1 :: o2 :: o3 :: o4 :: some (.null) :: r) st S post := by
  subst hq
  intro p e R s m args below meth c Q F Rt hf hlc H locs cells slots LS hc hs hR hS hL
  exact lv_aloadN F.1 F.2.1 hd (hL.at (i := 5) rfl) (k p e R s m args below meth c Q F Rt hf hlc H locs cells slots LS hc hs hR hS hL)
theorem ev_istore5 {o0 o1 o2 o3 o4 : Option Value} {o5 : Option Value} {x : Int32} {r : List (Option Value)} (hd : decode K.1 pc = .ok (.istore 5, 2)) (hq : pc + 2 = q) (hn : 5 < K.2.2.1) (h1 : th_c1 (o0 :: o1 :: o2 :: o3 :: o4 :: o5 :: r) = true) (k : EV G l K d bc bs q (o0 :: o1 :: o2 :: o3 :: o4 :: some (.int x) :: r) st S post) : EV G l K d bc bs pc (o0 :: o1 :: o2 :: o3 :: o4 :: o5 :: r) (.int x :: st) S post := by
  subst hq
  intro p e R s m args below meth c Q F Rt hf hlc H locs cells slots LS hc hs hR hS hL
  exact lv_istore F.1 F.2.1 hd hL hn rfl (fun LS1 h => k p e R s m args below meth c Q F Rt hf hlc H locs cells slots LS1 hc hs hR hS (th_L.set (i := 5) (v := .int x) h1 h))
theorem ev_astore5 {o0 o1 o2 o3 o4 : Option Value} {o5 : Option Value} {x : Nat} {r : List (Option Value)} (hd : decode K.1 pc = .ok (.astore 5, 2)) (hq : pc + 2 = q) (hn : 5 < K.2.2.1) (h1 : th_c1 (o0 :: o1 :: o2 :: o3 :: o4 :: o5 :: r) = true) (k : EV G l K d bc bs q (o0 :: o1 :: o2 :: o3 :: o4 :: some (.ref x) :: r) st S post) : EV G l K d bc bs pc (o0 :: o1 :: o2 :: o3 :: o4 :: o5 :: r) (.ref x :: st) S post := by
  subst hq
  intro p e R s m args below meth c Q F Rt hf hlc H locs cells slots LS hc hs hR hS hL
  exact lv_astore F.1 F.2.1 hd hL hn rfl (fun LS1 h => k p e R s m args below meth c Q F Rt hf hlc H locs cells slots LS1 hc hs hR hS (th_L.set (i := 5) (v := .ref x) h1 h))
theorem ev_astoreN5 {o0 o1 o2 o3 o4 : Option Value} {o5 : Option Value} {r : List (Option Value)} (hd : decode K.1 pc = .ok (.astore 5, 2)) (hq : pc + 2 = q) (hn : 5 < K.2.2.1) (h1 : th_c1 (o0 :: o1 :: o2 :: o3 :: o4 :: o5 :: r) = true) (k : EV G l K d bc bs q (o0 :: o1 :: o2 :: o3 :: o4 :: some (.null) :: r) st S post) : EV G l K d bc bs pc (o0 :: o1 :: o2 :: o3 :: o4 :: o5 :: r) (.null :: st) S post := by
  subst hq
  intro p e R s m args below meth c Q F Rt hf hlc H locs cells slots LS hc hs hR hS hL
  exact lv_astoreN F.1 F.2.1 hd hL hn rfl (fun LS1 h => k p e R s m args below meth c Q F Rt hf hlc H locs cells slots LS1 hc hs hR hS (th_L.set (i := 5) (v := .null) h1 h))
theorem ev_iinc5 {o0 o1 o2 o3 o4 : Option Value} {x v : Int32} {n : Int} {r : List (Option Value)} (hd : decode K.1 pc = .ok (.iinc 5 n, 3)) (hq : pc + 3 = q) (hn : 5 < K.2.2.1) (h1 : th_c1 (o0 :: o1 :: o2 :: o3 :: o4 :: some (.int x) :: r) = true) (hv : x + Int32.ofInt n = v) (k : EV G l K d bc bs q (o0 :: o1 :: o2 :: o3 :: o4 :: some (.int v) :: r) st S post) : EV G l K d bc bs pc (o0 :: o1 :: o2 :: o3 :: o4 :: some (.int x) :: r) st S post := by
  subst hq
  intro p e R s m args below meth c Q F Rt hf hlc H locs cells slots LS hc hs hR hS hL
  obtain ⟨kk, hkk⟩ := List.getElem?_of_mem ((th_l_mem (G := G) (o0 :: o1 :: o2 :: o3 :: o4 :: some (.int x) :: r) 0 5 (.int x)).mpr ⟨5, .int x, rfl, by omega, rfl⟩)
  exact lv_iinc F.1 F.2.1 hd hL hkk hv hn rfl (fun LS1 h => k p e R s m args below meth c Q F Rt hf hlc H locs cells slots LS1 hc hs hR hS (th_L.set (i := 5) (v := .int v) h1 h))
theorem ev_iload6 {o0 o1 o2 o3 o4 o5 : Option Value} {x : Int32} {r : List (Option Value)} (hd : decode K.1 pc = .ok (.iload 6, 2)) (hq : pc + 2 = q) (k : EV G l K d bc bs q (o0 :: o1 :: o2 :: o3 :: o4 :: o5 :: some (.int x) :: r) (.int x :: st) S post) : EV G l K d bc bs pc (o0 :: o1 :: o2 :: o3 :: o4 :: o5 :: some (.int x) :: r) st S post := by
  subst hq
  intro p e R s m args below meth c Q F Rt hf hlc H locs cells slots LS hc hs hR hS hL
  exact lv_iload F.1 F.2.1 hd (hL.at (i := 6) rfl) (k p e R s m args below meth c Q F Rt hf hlc H locs cells slots LS hc hs hR hS hL)
theorem ev_lload6 {o0 o1 o2 o3 o4 o5 : Option Value} {x : Int64} {r : List (Option Value)} (hd : decode K.1 pc = .ok (.lload 6, 2)) (hq : pc + 2 = q) (k : EV G l K d bc bs q (o0 :: o1 :: o2 :: o3 :: o4 :: o5 :: some (.long x) :: r) (.long x :: st) S post) : EV G l K d bc bs pc (o0 :: o1 :: o2 :: o3 :: o4 :: o5 :: some (.long x) :: r) st S post := by
  subst hq
  intro p e R s m args below meth c Q F Rt hf hlc H locs cells slots LS hc hs hR hS hL
  exact lv_lload F.1 F.2.1 hd (hL.at (i := 6) rfl) (k p e R s m args below meth c Q F Rt hf hlc H locs cells slots LS hc hs hR hS hL)
theorem ev_aload6 {o0 o1 o2 o3 o4 o5 : Option Value} {x : Nat} {r : List (Option Value)} (hd : decode K.1 pc = .ok (.aload 6, 2)) (hq : pc + 2 = q) (k : EV G l K d bc bs q (o0 :: o1 :: o2 :: o3 :: o4 :: o5 :: some (.ref x) :: r) (.ref x :: st) S post) : EV G l K d bc bs pc (o0 :: o1 :: o2 :: o3 :: o4 :: o5 :: some (.ref x) :: r) st S post := by
  subst hq
  intro p e R s m args below meth c Q F Rt hf hlc H locs cells slots LS hc hs hR hS hL
  exact lv_aload F.1 F.2.1 hd (hL.at (i := 6) rfl) (k p e R s m args below meth c Q F Rt hf hlc H locs cells slots LS hc hs hR hS hL)
theorem ev_aloadN6 {o0 o1 o2 o3 o4 o5 : Option Value} {r : List (Option Value)} (hd : decode K.1 pc = .ok (.aload 6, 2)) (hq : pc + 2 = q) (k : EV G l K d bc bs q (o0 :: o1 :: o2 :: o3 :: o4 :: o5 :: some (.null) :: r) (.null :: st) S post) : EV G l K d bc bs pc (o0 :: o1 :: o2 :: o3 :: o4 :: o5 :: some (.null) :: r) st S post := by
  subst hq
  intro p e R s m args below meth c Q F Rt hf hlc H locs cells slots LS hc hs hR hS hL
  exact lv_aloadN F.1 F.2.1 hd (hL.at (i := 6) rfl) (k p e R s m args below meth c Q F Rt hf hlc H locs cells slots LS hc hs hR hS hL)
theorem ev_istore6 {o0 o1 o2 o3 o4 o5 : Option Value} {o6 : Option Value} {x : Int32} {r : List (Option Value)} (hd : decode K.1 pc = .ok (.istore 6, 2)) (hq : pc + 2 = q) (hn : 6 < K.2.2.1) (h1 : th_c1 (o0 :: o1 :: o2 :: o3 :: o4 :: o5 :: o6 :: r) = true) (k : EV G l K d bc bs q (o0 :: o1 :: o2 :: o3 :: o4 :: o5 :: some (.int x) :: r) st S post) : EV G l K d bc bs pc (o0 :: o1 :: o2 :: o3 :: o4 :: o5 :: o6 :: r) (.int x :: st) S post := by
  subst hq
  intro p e R s m args below meth c Q F Rt hf hlc H locs cells slots LS hc hs hR hS hL
  exact lv_istore F.1 F.2.1 hd hL hn rfl (fun LS1 h => k p e R s m args below meth c Q F Rt hf hlc H locs cells slots LS1 hc hs hR hS (th_L.set (i := 6) (v := .int x) h1 h))
theorem ev_astore6 {o0 o1 o2 o3 o4 o5 : Option Value} {o6 : Option Value} {x : Nat} {r : List (Option Value)} (hd : decode K.1 pc = .ok (.astore 6, 2)) (hq : pc + 2 = q) (hn : 6 < K.2.2.1) (h1 : th_c1 (o0 :: o1 :: o2 :: o3 :: o4 :: o5 :: o6 :: r) = true) (k : EV G l K d bc bs q (o0 :: o1 :: o2 :: o3 :: o4 :: o5 :: some (.ref x) :: r) st S post) : EV G l K d bc bs pc (o0 :: o1 :: o2 :: o3 :: o4 :: o5 :: o6 :: r) (.ref x :: st) S post := by
  subst hq
  intro p e R s m args below meth c Q F Rt hf hlc H locs cells slots LS hc hs hR hS hL
  exact lv_astore F.1 F.2.1 hd hL hn rfl (fun LS1 h => k p e R s m args below meth c Q F Rt hf hlc H locs cells slots LS1 hc hs hR hS (th_L.set (i := 6) (v := .ref x) h1 h))
theorem ev_astoreN6 {o0 o1 o2 o3 o4 o5 : Option Value} {o6 : Option Value} {r : List (Option Value)} (hd : decode K.1 pc = .ok (.astore 6, 2)) (hq : pc + 2 = q) (hn : 6 < K.2.2.1) (h1 : th_c1 (o0 :: o1 :: o2 :: o3 :: o4 :: o5 :: o6 :: r) = true) (k : EV G l K d bc bs q (o0 :: o1 :: o2 :: o3 :: o4 :: o5 :: some (.null) :: r) st S post) : EV G l K d bc bs pc (o0 :: o1 :: o2 :: o3 :: o4 :: o5 :: o6 :: r) (.null :: st) S post := by
  subst hq
  intro p e R s m args below meth c Q F Rt hf hlc H locs cells slots LS hc hs hR hS hL
  exact lv_astoreN F.1 F.2.1 hd hL hn rfl (fun LS1 h => k p e R s m args below meth c Q F Rt hf hlc H locs cells slots LS1 hc hs hR hS (th_L.set (i := 6) (v := .null) h1 h))
theorem ev_iinc6 {o0 o1 o2 o3 o4 o5 : Option Value} {x v : Int32} {n : Int} {r : List (Option Value)} (hd : decode K.1 pc = .ok (.iinc 6 n, 3)) (hq : pc + 3 = q) (hn : 6 < K.2.2.1) (h1 : th_c1 (o0 :: o1 :: o2 :: o3 :: o4 :: o5 :: some (.int x) :: r) = true) (hv : x + Int32.ofInt n = v) (k : EV G l K d bc bs q (o0 :: o1 :: o2 :: o3 :: o4 :: o5 :: some (.int v) :: r) st S post) : EV G l K d bc bs pc (o0 :: o1 :: o2 :: o3 :: o4 :: o5 :: some (.int x) :: r) st S post := by
  subst hq
  intro p e R s m args below meth c Q F Rt hf hlc H locs cells slots LS hc hs hR hS hL
  obtain ⟨kk, hkk⟩ := List.getElem?_of_mem ((th_l_mem (G := G) (o0 :: o1 :: o2 :: o3 :: o4 :: o5 :: some (.int x) :: r) 0 6 (.int x)).mpr ⟨6, .int x, rfl, by omega, rfl⟩)
  exact lv_iinc F.1 F.2.1 hd hL hkk hv hn rfl (fun LS1 h => k p e R s m args below meth c Q F Rt hf hlc H locs cells slots LS1 hc hs hR hS (th_L.set (i := 6) (v := .int v) h1 h))
theorem ev_iload7 {o0 o1 o2 o3 o4 o5 o6 : Option Value} {x : Int32} {r : List (Option Value)} (hd : decode K.1 pc = .ok (.iload 7, 2)) (hq : pc + 2 = q) (k : EV G l K d bc bs q (o0 :: o1 :: o2 :: o3 :: o4 :: o5 :: o6 :: some (.int x) :: r) (.int x :: st) S post) : EV G l K d bc bs pc (o0 :: o1 :: o2 :: o3 :: o4 :: o5 :: o6 :: some (.int x) :: r) st S post := by
  subst hq
  intro p e R s m args below meth c Q F Rt hf hlc H locs cells slots LS hc hs hR hS hL
  exact lv_iload F.1 F.2.1 hd (hL.at (i := 7) rfl) (k p e R s m args below meth c Q F Rt hf hlc H locs cells slots LS hc hs hR hS hL)
theorem ev_lload7 {o0 o1 o2 o3 o4 o5 o6 : Option Value} {x : Int64} {r : List (Option Value)} (hd : decode K.1 pc = .ok (.lload 7, 2)) (hq : pc + 2 = q) (k : EV G l K d bc bs q (o0 :: o1 :: o2 :: o3 :: o4 :: o5 :: o6 :: some (.long x) :: r) (.long x :: st) S post) : EV G l K d bc bs pc (o0 :: o1 :: o2 :: o3 :: o4 :: o5 :: o6 :: some (.long x) :: r) st S post := by
  subst hq
  intro p e R s m args below meth c Q F Rt hf hlc H locs cells slots LS hc hs hR hS hL
  exact lv_lload F.1 F.2.1 hd (hL.at (i := 7) rfl) (k p e R s m args below meth c Q F Rt hf hlc H locs cells slots LS hc hs hR hS hL)
theorem ev_aload7 {o0 o1 o2 o3 o4 o5 o6 : Option Value} {x : Nat} {r : List (Option Value)} (hd : decode K.1 pc = .ok (.aload 7, 2)) (hq : pc + 2 = q) (k : EV G l K d bc bs q (o0 :: o1 :: o2 :: o3 :: o4 :: o5 :: o6 :: some (.ref x) :: r) (.ref x :: st) S post) : EV G l K d bc bs pc (o0 :: o1 :: o2 :: o3 :: o4 :: o5 :: o6 :: some (.ref x) :: r) st S post := by
  subst hq
  intro p e R s m args below meth c Q F Rt hf hlc H locs cells slots LS hc hs hR hS hL
  exact lv_aload F.1 F.2.1 hd (hL.at (i := 7) rfl) (k p e R s m args below meth c Q F Rt hf hlc H locs cells slots LS hc hs hR hS hL)
theorem ev_aloadN7 {o0 o1 o2 o3 o4 o5 o6 : Option Value} {r : List (Option Value)} (hd : decode K.1 pc = .ok (.aload 7, 2)) (hq : pc + 2 = q) (k : EV G l K d bc bs q (o0 :: o1 :: o2 :: o3 :: o4 :: o5 :: o6 :: some (.null) :: r) (.null :: st) S post) : EV G l K d bc bs pc (o0 :: o1 :: o2 :: o3 :: o4 :: o5 :: o6 :: some (.null) :: r) st S post := by
  subst hq
  intro p e R s m args below meth c Q F Rt hf hlc H locs cells slots LS hc hs hR hS hL
  exact lv_aloadN F.1 F.2.1 hd (hL.at (i := 7) rfl) (k p e R s m args below meth c Q F Rt hf hlc H locs cells slots LS hc hs hR hS hL)
theorem ev_istore7 {o0 o1 o2 o3 o4 o5 o6 : Option Value} {o7 : Option Value} {x : Int32} {r : List (Option Value)} (hd : decode K.1 pc = .ok (.istore 7, 2)) (hq : pc + 2 = q) (hn : 7 < K.2.2.1) (h1 : th_c1 (o0 :: o1 :: o2 :: o3 :: o4 :: o5 :: o6 :: o7 :: r) = true) (k : EV G l K d bc bs q (o0 :: o1 :: o2 :: o3 :: o4 :: o5 :: o6 :: some (.int x) :: r) st S post) : EV G l K d bc bs pc (o0 :: o1 :: o2 :: o3 :: o4 :: o5 :: o6 :: o7 :: r) (.int x :: st) S post := by
  subst hq
  intro p e R s m args below meth c Q F Rt hf hlc H locs cells slots LS hc hs hR hS hL
  exact lv_istore F.1 F.2.1 hd hL hn rfl (fun LS1 h => k p e R s m args below meth c Q F Rt hf hlc H locs cells slots LS1 hc hs hR hS (th_L.set (i := 7) (v := .int x) h1 h))
theorem ev_astore7 {o0 o1 o2 o3 o4 o5 o6 : Option Value} {o7 : Option Value} {x : Nat} {r : List (Option Value)} (hd : decode K.1 pc = .ok (.astore 7, 2)) (hq : pc + 2 = q) (hn : 7 < K.2.2.1) (h1 : th_c1 (o0 :: o1 :: o2 :: o3 :: o4 :: o5 :: o6 :: o7 :: r) = true) (k : EV G l K d bc bs q (o0 :: o1 :: o2 :: o3 :: o4 :: o5 :: o6 :: some (.ref x) :: r) st S post) : EV G l K d bc bs pc (o0 :: o1 :: o2 :: o3 :: o4 :: o5 :: o6 :: o7 :: r) (.ref x :: st) S post := by
  subst hq
  intro p e R s m args below meth c Q F Rt hf hlc H locs cells slots LS hc hs hR hS hL
  exact lv_astore F.1 F.2.1 hd hL hn rfl (fun LS1 h => k p e R s m args below meth c Q F Rt hf hlc H locs cells slots LS1 hc hs hR hS (th_L.set (i := 7) (v := .ref x) h1 h))
theorem ev_astoreN7 {o0 o1 o2 o3 o4 o5 o6 : Option Value} {o7 : Option Value} {r : List (Option Value)} (hd : decode K.1 pc = .ok (.astore 7, 2)) (hq : pc + 2 = q) (hn : 7 < K.2.2.1) (h1 : th_c1 (o0 :: o1 :: o2 :: o3 :: o4 :: o5 :: o6 :: o7 :: r) = true) (k : EV G l K d bc bs q (o0 :: o1 :: o2 :: o3 :: o4 :: o5 :: o6 :: some (.null) :: r) st S post) : EV G l K d bc bs pc (o0 :: o1 :: o2 :: o3 :: o4 :: o5 :: o6 :: o7 :: r) (.null :: st) S post := by
  subst hq
  intro p e R s m args below meth c Q F Rt hf hlc H locs cells slots LS hc hs hR hS hL
  exact lv_astoreN F.1 F.2.1 hd hL hn rfl (fun LS1 h => k p e R s m args below meth c Q F Rt hf hlc H locs cells slots LS1 hc hs hR hS (th_L.set (i := 7) (v := .null) h1 h))
theorem ev_iinc7 {o0 o1 o2 o3 o4 o5 o6 : Option Value} {x v : Int32} {n : Int} {r : List (Option Value)} (hd : decode K.1 pc = .ok (.iinc 7 n, 3)) (hq : pc + 3 = q) (hn : 7 < K.2.2.1) (h1 : th_c1 (o0 :: o1 :: o2 :: o3 :: o4 :: o5 :: o6 :: some (.int x) :: r) = true) (hv : x + Int32.ofInt n = v) (k : EV G l K d bc bs q (o0 :: o1 :: o2 :: o3 :: o4 :: o5 :: o6 :: some (.int v) :: r) st S post) : EV G l K d bc bs pc (o0 :: o1 :: o2 :: o3 :: o4 :: o5 :: o6 :: some (.int x) :: r) st S post := by
  subst hq
  intro p e R s m args below meth c Q F Rt hf hlc H locs cells slots LS hc hs hR hS hL
  obtain ⟨kk, hkk⟩ := List.getElem?_of_mem ((th_l_mem (G := G) (o0 :: o1 :: o2 :: o3 :: o4 :: o5 :: o6 :: some (.int x) :: r) 0 7 (.int x)).mpr ⟨7, .int x, rfl, by omega, rfl⟩)
  exact lv_iinc F.1 F.2.1 hd hL hkk hv hn rfl (fun LS1 h => k p e R s m args below meth c Q F Rt hf hlc H locs cells slots LS1 hc hs hR hS (th_L.set (i := 7) (v := .int v) h1 h))
theorem ev_iload8 {o0 o1 o2 o3 o4 o5 o6 o7 : Option Value} {x : Int32} {r : List (Option Value)} (hd : decode K.1 pc = .ok (.iload 8, 2)) (hq : pc + 2 = q) (k : EV G l K d bc bs q (o0 :: o1 :: o2 :: o3 :: o4 :: o5 :: o6 :: o7 :: some (.int x) :: r) (.int x :: st) S post) : EV G l K d bc bs pc (o0 :: o1 :: o2 :: o3 :: o4 :: o5 :: o6 :: o7 :: some (.int x) :: r) st S post := by
  subst hq
  intro p e R s m args below meth c Q F Rt hf hlc H locs cells slots LS hc hs hR hS hL
  exact lv_iload F.1 F.2.1 hd (hL.at (i := 8) rfl) (k p e R s m args below meth c Q F Rt hf hlc H locs cells slots LS hc hs hR hS hL)
theorem ev_lload8 {o0 o1 o2 o3 o4 o5 o6 o7 : Option Value} {x : Int64} {r : List (Option Value)} (hd : decode K.1 pc = .ok (.lload 8, 2)) (hq : pc + 2 = q) (k : EV G l K d bc bs q (o0 :: o1 :: o2 :: o3 :: o4 :: o5 :: o6 :: o7 :: some (.long x) :: r) (.long x :: st) S post) : EV G l K d bc bs pc (o0 :: o1 :: o2 :: o3 :: o4 :: o5 :: o6 :: o7 :: some (.long x) :: r) st S post := by
  subst hq
  intro p e R s m args below meth c Q F Rt hf hlc H locs cells slots LS hc hs hR hS hL
  exact lv_lload F.1 F.2.1 hd (hL.at (i := 8) rfl) (k p e R s m args below meth c Q F Rt hf hlc H locs cells slots LS hc hs hR hS hL)
theorem ev_aload8 {o0 o1 o2 o3 o4 o5 o6 o7 : Option Value} {x : Nat} {r : List (Option Value)} (hd : decode K.1 pc = .ok (.aload 8, 2)) (hq : pc + 2 = q) (k : EV G l K d bc bs q (o0 :: o1 :: o2 :: o3 :: o4 :: o5 :: o6 :: o7 :: some (.ref x) :: r) (.ref x :: st) S post) : EV G l K d bc bs pc (o0 :: o1 :: o2 :: o3 :: o4 :: o5 :: o6 :: o7 :: some (.ref x) :: r) st S post := by
  subst hq
  intro p e R s m args below meth c Q F Rt hf hlc H locs cells slots LS hc hs hR hS hL
  exact lv_aload F.1 F.2.1 hd (hL.at (i := 8) rfl) (k p e R s m args below meth c Q F Rt hf hlc H locs cells slots LS hc hs hR hS hL)
theorem ev_aloadN8 {o0 o1 o2 o3 o4 o5 o6 o7 : Option Value} {r : List (Option Value)} (hd : decode K.1 pc = .ok (.aload 8, 2)) (hq : pc + 2 = q) (k : EV G l K d bc bs q (o0 :: o1 :: o2 :: o3 :: o4 :: o5 :: o6 :: o7 :: some (.null) :: r) (.null :: st) S post) : EV G l K d bc bs pc (o0 :: o1 :: o2 :: o3 :: o4 :: o5 :: o6 :: o7 :: some (.null) :: r) st S post := by
  subst hq
  intro p e R s m args below meth c Q F Rt hf hlc H locs cells slots LS hc hs hR hS hL
  exact lv_aloadN F.1 F.2.1 hd (hL.at (i := 8) rfl) (k p e R s m args below meth c Q F Rt hf hlc H locs cells slots LS hc hs hR hS hL)
theorem ev_istore8 {o0 o1 o2 o3 o4 o5 o6 o7 : Option Value} {o8 : Option Value} {x : Int32} {r : List (Option Value)} (hd : decode K.1 pc = .ok (.istore 8, 2)) (hq : pc + 2 = q) (hn : 8 < K.2.2.1) (h1 : th_c1 (o0 :: o1 :: o2 :: o3 :: o4 :: o5 :: o6 :: o7 :: o8 :: r) = true) (k : EV G l K d bc bs q (o0 :: o1 :: o2 :: o3 :: o4 :: o5 :: o6 :: o7 :: some (.int x) :: r) st S post) : EV G l K d bc bs pc (o0 :: o1 :: o2 :: o3 :: o4 :: o5 :: o6 :: o7 :: o8 :: r) (.int x :: st) S post := by
  subst hq
  intro p e R s m args below meth c Q F Rt hf hlc H locs cells slots LS hc hs hR hS hL
  exact lv_istore F.1 F.2.1 hd hL hn rfl (fun LS1 h => k p e R s m args below meth c Q F Rt hf hlc H locs cells slots LS1 hc hs hR hS (th_L.set (i := 8) (v := .int x) h1 h))
theorem ev_astore8 {o0 o1 o2 o3 o4 o5 o6 o7 : Option Value} {o8 : Option Value} {x : Nat} {r : List (Option Value)} (hd : decode K.1 pc = .ok (.astore 8, 2)) (hq : pc + 2 = q) (hn : 8 < K.2.2.1) (h1 : th_c1 (o0 :: o1 :: o2 :: o3 :: o4 :: o5 :: o6 :: o7 :: o8 :: r) = true) (k : EV G l K d bc bs q (o0 :: o1 :: o2 :: o3 :: o4 :: o5 :: o6 :: o7 :: some (.ref x) :: r) st S post) : EV G l K d bc bs pc (o0 :: o1 :: o2 :: o3 :: o4 :: o5 :: o6 :: o7 :: o8 :: r) (.ref x :: st) S post := by
  subst hq
  intro p e R s m args below meth c Q F Rt hf hlc H locs cells slots LS hc hs hR hS hL
  exact lv_astore F.1 F.2.1 hd hL hn rfl (fun LS1 h => k p e R s m args below meth c Q F Rt hf hlc H locs cells slots LS1 hc hs hR hS (th_L.set (i := 8) (v := .ref x) h1 h))
theorem ev_astoreN8 {o0 o1 o2 o3 o4 o5 o6 o7 : Option Value} {o8 : Option Value} {r : List (Option Value)} (hd : decode K.1 pc = .ok (.astore 8, 2)) (hq : pc + 2 = q) (hn : 8 < K.2.2.1) (h1 : th_c1 (o0 :: o1 :: o2 :: o3 :: o4 :: o5 :: o6 :: o7 :: o8 :: r) = true) (k : EV G l K d bc bs q (o0 :: o1 :: o2 :: o3 :: o4 :: o5 :: o6 :: o7 :: some (.null) :: r) st S post) : EV G l K d bc bs pc (o0 :: o1 :: o2 :: o3 :: o4 :: o5 :: o6 :: o7 :: o8 :: r) (.null :: st) S post := by
  subst hq
  intro p e R s m args below meth c Q F Rt hf hlc H locs cells slots LS hc hs hR hS hL
  exact lv_astoreN F.1 F.2.1 hd hL hn rfl (fun LS1 h => k p e R s m args below meth c Q F Rt hf hlc H locs cells slots LS1 hc hs hR hS (th_L.set (i := 8) (v := .null) h1 h))
theorem ev_iinc8 {o0 o1 o2 o3 o4 o5 o6 o7 : Option Value} {x v : Int32} {n : Int} {r : List (Option Value)} (hd : decode K.1 pc = .ok (.iinc 8 n, 3)) (hq : pc + 3 = q) (hn : 8 < K.2.2.1) (h1 : th_c1 (o0 :: o1 :: o2 :: o3 :: o4 :: o5 :: o6 :: o7 :: some (.int x) :: r) = true) (hv : x + Int32.ofInt n = v) (k : EV G l K d bc bs q (o0 :: o1 :: o2 :: o3 :: o4 :: o5 :: o6 :: o7 :: some (.int v) :: r) st S post) : EV G l K d bc bs pc (o0 :: o1 :: o2 :: o3 :: o4 :: o5 :: o6 :: o7 :: some (.int x) :: r) st S post := by
  subst hq
  intro p e R s m args below meth c Q F Rt hf hlc H locs cells slots LS hc hs hR hS hL
  obtain ⟨kk, hkk⟩ := List.getElem?_of_mem ((th_l_mem (G := G) (o0 :: o1 :: o2 :: o3 :: o4 :: o5 :: o6 :: o7 :: some (.int x) :: r) 0 8 (.int x)).mpr ⟨8, .int x, rfl, by omega, rfl⟩)
  exact lv_iinc F.1 F.2.1 hd hL hkk hv hn rfl (fun LS1 h => k p e R s m args below meth c Q F Rt hf hlc H locs cells slots LS1 hc hs hR hS (th_L.set (i := 8) (v := .int v) h1 h))
theorem ev_iload9 {o0 o1 o2 o3 o4 o5 o6 o7 o8 : Option Value} {x : Int32} {r : List (Option Value)} (hd : decode K.1 pc = .ok (.iload 9, 2)) (hq : pc + 2 = q) (k : EV G l K d bc bs q (o0 :: o1 :: o2 :: o3 :: o4 :: o5 :: o6 :: o7 :: o8 :: some (.int x) :: r) (.int x :: st) S post) : EV G l K d bc bs pc (o0 :: o1 :: o2 :: o3 :: o4 :: o5 :: o6 :: o7 :: o8 :: some (.int x) :: r) st S post := by
  subst hq
  intro p e R s m args below meth c Q F Rt hf hlc H locs cells slots LS hc hs hR hS hL
  exact lv_iload F.1 F.2.1 hd (hL.at (i := 9) rfl) (k p e R s m args below meth c Q F Rt hf hlc H locs cells slots LS hc hs hR hS hL)
theorem ev_lload9 {o0 o1 o2 o3 o4 o5 o6 o7 o8 : Option Value} {x : Int64} {r : List (Option Value)} (hd : decode K.1 pc = .ok (.lload 9, 2)) (hq : pc + 2 = q) (k : EV G l K d bc bs q (o0 :: o1 :: o2 :: o3 :: o4 :: o5 :: o6 :: o7 :: o8 :: some (.long x) :: r) (.long x :: st) S post) : EV G l K d bc bs pc (o0 :: o1 :: o2 :: o3 :: o4 :: o5 :: o6 :: o7 :: o8 :: some (.long x) :: r) st S post := by
  subst hq
  intro p e R s m args below meth c Q F Rt hf hlc H locs cells slots LS hc hs hR hS hL
  exact lv_lload F.1 F.2.1 hd (hL.at (i := 9) rfl) (k p e R s m args below meth c Q F Rt hf hlc H locs cells slots LS hc hs hR hS hL)
theorem ev_aload9 {o0 o1 o2 o3 o4 o5 o6 o7 o8 : Option Value} {x : Nat} {r : List (Option Value)} (hd : decode K.1 pc = .ok (.aload 9, 2)) (hq : pc + 2 = q) (k : EV G l K d bc bs q (o0 :: o1 :: o2 :: o3 :: o4 :: o5 :: o6 :: o7 :: o8 :: some (.ref x) :: r) (.ref x :: st) S post) : EV G l K d bc bs pc (o0 :: o1 :: o2 :: o3 :: o4 :: o5 :: o6 :: o7 :: o8 :: some (.ref x) :: r) st S post := by
  subst hq
  intro p e R s m args below meth c Q F Rt hf hlc H locs cells slots LS hc hs hR hS hL
  exact lv_aload F.1 F.2.1 hd (hL.at (i := 9) rfl) (k p e R s m args below meth c Q F Rt hf hlc H locs cells slots LS hc hs hR hS hL)
theorem ev_aloadN9 {o0 o1 o2 o3 o4 o5 o6 o7 o8 : Option Value} {r : List (Option Value)} (hd : decode K.1 pc = .ok (.aload 9, 2)) (hq : pc + 2 = q) (k : EV G l K d bc bs q (o0 :: o1 :: o2 :: o3 :: o4 :: o5 :: o6 :: o7 :: o8 :: some (.null) :: r) (.null :: st) S post) : EV G l K d bc bs pc (o0 :: o1 :: o2 :: o3 :: o4 :: o5 :: o6 :: o7 :: o8 :: some (.null) :: r) st S post := by
  subst hq
  intro p e R s m args below meth c Q F Rt hf hlc H locs cells slots LS hc hs hR hS hL
  exact lv_aloadN F.1 F.2.1 hd (hL.at (i := 9) rfl) (k p e R s m args below meth c Q F Rt hf hlc H locs cells slots LS hc hs hR hS hL)
theorem ev_istore9 {o0 o1 o2 o3 o4 o5 o6 o7 o8 : Option Value} {o9 : Option Value} {x : Int32} {r : List (Option Value)} (hd : decode K.1 pc = .ok (.istore 9, 2)) (hq : pc + 2 = q) (hn : 9 < K.2.2.1) (h1 : th_c1 (o0 :: o1 :: o2 :: o3 :: o4 :: o5 :: o6 :: o7 :: o8 :: o9 :: r) = true) (k : EV G l K d bc bs q (o0 :: o1 :: o2 :: o3 :: o4 :: o5 :: o6 :: o7 :: o8 :: some (.int x) :: r) st S post) : EV G l K d bc bs pc (o0 :: o1 :: o2 :: o3 :: o4 :: o5 :: o6 :: o7 :: o8 :: o9 :: r) (.int x :: st) S post := by
  subst hq
  intro p e R s m args below meth c Q F Rt hf hlc H locs cells slots LS hc hs hR hS hL
  exact lv_istore F.1 F.2.1 hd hL hn rfl (fun LS1 h => k p e R s m args below meth c Q F Rt hf hlc H locs cells slots LS1 hc hs hR hS (th_L.set (i := 9) (v := .int x) h1 h))
theorem ev_astore9 {o0 o1 o2 o3 o4 o5 o6 o7 o8 : Option Value} {o9 : Option Value} {x : Nat} {r : List (Option Value)} (hd : decode K.1 pc = .ok (.astore 9, 2)) (hq : pc + 2 = q) (hn : 9 < K.2.2.1) (h1 : th_c1 (o0 :: o1 :: o2 :: o3 :: o4 :: o5 :: o6 :: o7 :: o8 :: o9 :: r) = true) (k : EV G l K d bc bs q (o0 :: o1 :: o2 :: o3 :: o4 :: o5 :: o6 :: o7 :: o8 :: some (.ref x) :: r) st S post) : EV G l K d bc bs pc (o0 :: o1 :: o2 :: o3 :: o4 :: o5 :: o6 :: o7 :: o8 :: o9 :: r) (.ref x :: st) S post := by
  subst hq
  intro p e R s m args below meth c Q F Rt hf hlc H locs cells slots LS hc hs hR hS hL
  exact lv_astore F.1 F.2.1 hd hL hn rfl (fun LS1 h => k p e R s m args below meth c Q F Rt hf hlc H locs cells slots LS1 hc hs hR hS (th_L.set (i := 9) (v := .ref x) h1 h))
theorem ev_astoreN9 {o0 o1 o2 o3 o4 o5 o6 o7 o8 : Option Value} {o9 : Option Value} {r : List (Option Value)} (hd : decode K.1 pc = .ok (.astore 9, 2)) (hq : pc + 2 = q) (hn : 9 < K.2.2.1) (h1 : th_c1 (o0 :: o1 :: o2 :: o3 :: o4 :: o5 :: o6 :: o7 :: o8 :: o9 :: r) = true) (k : EV G l K d bc bs q (o0 :: o1 :: o2 :: o3 :: o4 :: o5 :: o6 :: o7 :: o8 :: some (.null) :: r) st S post) : EV G l K d bc bs pc (o0 :: o1 :: o2 :: o3 :: o4 :: o5 :: o6 :: o7 :: o8 :: o9 :: r) (.null :: st) S post := by
  subst hq
  intro p e R s m args below meth c Q F Rt hf hlc H locs cells slots LS hc hs hR hS hL
  exact lv_astoreN F.1 F.2.1 hd hL hn rfl (fun LS1 h => k p e R s m args below meth c Q F Rt hf hlc H locs cells slots LS1 hc hs hR hS (th_L.set (i := 9) (v := .null) h1 h))
theorem ev_iinc9 {o0 o1 o2 o3 o4 o5 o6 o7 o8 : Option Value} {x v : Int32} {n : Int} {r : List (Option Value)} (hd : decode K.1 pc = .ok (.iinc 9 n, 3)) (hq : pc + 3 = q) (hn : 9 < K.2.2.1) (h1 : th_c1 (o0 :: o1 :: o2 :: o3 :: o4 :: o5 :: o6 :: o7 :: o8 :: some (.int x) :: r) = true) (hv : x + Int32.ofInt n = v) (k : EV G l K d bc bs q (o0 :: o1 :: o2 :: o3 :: o4 :: o5 :: o6 :: o7 :: o8 :: some (.int v) :: r) st S post) : EV G l K d bc bs pc (o0 :: o1 :: o2 :: o3 :: o4 :: o5 :: o6 :: o7 :: o8 :: some (.int x) :: r) st S post := by
  subst hq
  intro p e R s m args below meth c Q F Rt hf hlc H locs cells slots LS hc hs hR hS hL
  obtain ⟨kk, hkk⟩ := List.getElem?_of_mem ((th_l_mem (G := G) (o0 :: o1 :: o2 :: o3 :: o4 :: o5 :: o6 :: o7 :: o8 :: some (.int x) :: r) 0 9 (.int x)).mpr ⟨9, .int x, rfl, by omega, rfl⟩)
  exact lv_iinc F.1 F.2.1 hd hL hkk hv hn rfl (fun LS1 h => k p e R s m args below meth c Q F Rt hf hlc H locs cells slots LS1 hc hs hR hS (th_L.set (i := 9) (v := .int v) h1 h))
theorem ev_iload10 {o0 o1 o2 o3 o4 o5 o6 o7 o8 o9 : Option Value} {x : Int32} {r : List (Option Value)} (hd : decode K.1 pc = .ok (.iload 10, 2)) (hq : pc + 2 = q) (k : EV G l K d bc bs q (o0 :: o1 :: o2 :: o3 :: o4 :: o5 :: o6 :: o7 :: o8 :: o9 :: some (.int x) :: r) (.int x :: st) S post) : EV G l K d bc bs pc (o0 :: o1 :: o2 :: o3 :: o4 :: o5 :: o6 :: o7 :: o8 :: o9 :: some (.int x) :: r) st S post := by
  subst hq
  intro p e R s m args below meth c Q F Rt hf hlc H locs cells slots LS hc hs hR hS hL
  exact lv_iload F.1 F.2.1 hd (hL.at (i := 10) rfl) (k p e R s m args below meth c Q F Rt hf hlc H locs cells slots LS hc hs hR hS hL)
theorem ev_lload10 {o0 o1 o2 o3 o4 o5 o6 o7 o8 o9 : Option Value} {x : Int64} {r : List (Option Value)} (hd : decode K.1 pc = .ok (.lload 10, 2)) (hq : pc + 2 = q) (k : EV G l K d bc bs q (o0 :: o1 :: o2 :: o3 :: o4 :: o5 :: o6 :: o7 :: o8 :: o9 :: some (.long x) :: r) (.long x :: st) S post) : EV G l K d bc bs pc (o0 :: o1 :: o2 :: o3 :: o4 :: o5 :: o6 :: o7 :: o8 :: o9 :: some (.long x) :: r) st S post := by
  subst hq
  intro p e R s m args below meth c Q F Rt hf hlc H locs cells slots LS hc hs hR hS hL
  exact lv_lload F.1 F.2.1 hd (hL.at (i := 10) rfl) (k p e R s m args below meth c Q F Rt hf hlc H locs cells slots LS hc hs hR hS hL)
theorem ev_aload10 {o0 o1 o2 o3 o4 o5 o6 o7 o8 o9 : Option Value} {x : Nat} {r : List (Option Value)} (hd : decode K.1 pc = .ok (.aload 10, 2)) (hq : pc + 2 = q) (k : EV G l K d bc bs q (o0 :: o1 :: o2 :: o3 :: o4 :: o5 :: o6 :: o7 :: o8 :: o9 :: some (.ref x) :: r) (.ref x :: st) S post) : EV G l K d bc bs pc (o0 :: o1 :: o2 :: o3 :: o4 :: o5 :: o6 :: o7 :: o8 :: o9 :: some (.ref x) :: r) st S post := by
  subst hq
  intro p e R s m args below meth c Q F Rt hf hlc H locs cells slots LS hc hs hR hS hL
  exact lv_aload F.1 F.2.1 hd (hL.at (i := 10) rfl) (k p e R s m args below meth c Q F Rt hf hlc H locs cells slots LS hc hs hR hS hL)
theorem ev_aloadN10 {o0 o1 o2 o3 o4 o5 o6 o7 o8 o9 : Option Value} {r : List (Option Value)} (hd : decode K.1 pc = .ok (.aload 10, 2)) (hq : pc + 2 = q) (k : EV G l K d bc bs q (o0 :: o1 :: o2 :: o3 :: o4 :: o5 :: o6 :: o7 :: o8 :: o9 :: some (.null) :: r) (.null :: st) S post) : EV G l K d bc bs pc (o0 :: o1 :: o2 :: o3 :: o4 :: o5 :: o6 :: o7 :: o8 :: o9 :: some (.null) :: r) st S post := by
  subst hq
  intro p e R s m args below meth c Q F Rt hf hlc H locs cells slots LS hc hs hR hS hL
  exact lv_aloadN F.1 F.2.1 hd (hL.at (i := 10) rfl) (k p e R s m args below meth c Q F Rt hf hlc H locs cells slots LS hc hs hR hS hL)
theorem ev_istore10 {o0 o1 o2 o3 o4 o5 o6 o7 o8 o9 : Option Value} {o10 : Option Value} {x : Int32} {r : List (Option Value)} (hd : decode K.1 pc = .ok (.istore 10, 2)) (hq : pc + 2 = q) (hn : 10 < K.2.2.1) (h1 : th_c1 (o0 :: o1 :: o2 :: o3 :: o4 :: o5 :: o6 :: o7 :: o8 :: o9 :: o10 :: r) = true) (k : EV G l K d bc bs q (o0 :: o1 :: o2 :: o3 :: o4 :: o5 :: o6 :: o7 :: o8 :: o9 :: some (.int x) :: r) st S post) : EV G l K d bc bs pc (o0 :: o1 :: o2 :: o3 :: o4 :: o5 :: o6 :: o7 :: o8 :: o9 :: o10 :: r) (.int x :: st) S post := by
  subst hq
  intro p e R s m args below meth c Q F Rt hf hlc H locs cells slots LS hc hs hR hS hL
  exact lv_istore F.1 F.2.1 hd hL hn rfl (fun LS1 h => k p e R s m args below meth c Q F Rt hf hlc H locs cells slots LS1 hc hs hR hS (th_L.set (i := 10) (v := .int x) h1 h))
theorem ev_astore10 {o0 o1 o2 o3 o4 o5 o6 o7 o8 o9 : Option Value} {o10 : Option Value} {x : Nat} {r : List (Option Value)} (hd : decode K.1 pc = .ok (.astore 10, 2)) (hq : pc + 2 = q) (hn : 10 < K.2.2.1) (h1 : th_c1 (o0 :: o1 :: o2 :: o3 :: o4 :: o5 :: o6 :: o7 :: o8 :: o9 :: o10 :: r) = true) (k : EV G l K d bc bs q (o0 :: o1 :: o2 :: o3 :: o4 :: o5 :: o6 :: o7 :: o8 :: o9 :: some (.ref x) :: r) st S post) : EV G l K d bc bs pc (o0 :: o1 :: o2 :: o3 :: o4 :: o5 :: o6 :: o7 :: o8 :: o9 :: o10 :: r) (.ref x :: st) S post := by
  subst hq
  intro p e R s m args below meth c Q F Rt hf hlc H locs cells slots LS hc hs hR hS hL
  exact lv_astore F.1 F.2.1 hd hL hn rfl (fun LS1 h => k p e R s m args below meth c Q F Rt hf hlc H locs cells slots LS1 hc hs hR hS (th_L.set (i := 10) (v := .ref x) h1 h))
theorem ev_astoreN10 {o0 o1 o2 o3 o4 o5 o6 o7 o8 o9 : Option Value} {o10 : Option Value} {r : List (Option Value)} (hd : decode K.1 pc = .ok (.astore 10, 2)) (hq : pc + 2 = q) (hn : 10 < K.2.2.1) (h1 : th_c1 (o0 :: o1 :: o2 :: o3 :: o4 :: o5 :: o6 :: o7 :: o8 :: o9 :: o10 :: r) = true) (k : EV G l K d bc bs q (o0 :: o1 :: o2 :: o3 :: o4 :: o5 :: o6 :: o7 :: o8 :: o9 :: some (.null) :: r) st S post) : EV G l K d bc bs pc (o0 :: o1 :: o2 :: o3 :: o4 :: o5 :: o6 :: o7 :: o8 :: o9 :: o10 :: r) (.null :: st) S post := by
  subst hq
  intro p e R s m args below meth c Q F Rt hf hlc H locs cells slots LS hc hs hR hS hL
  exact lv_astoreN F.1 F.2.1 hd hL hn rfl (fun LS1 h => k p e R s m args below meth c Q F Rt hf hlc H locs cells slots LS1 hc hs hR hS (th_L.set (i := 10) (v := .null) h1 h))
theorem ev_iinc10 {o0 o1 o2 o3 o4 o5 o6 o7 o8 o9 : Option Value} {x v : Int32} {n : Int} {r : List (Option Value)} (hd : decode K.1 pc = .ok (.iinc 10 n, 3)) (hq : pc + 3 = q) (hn : 10 < K.2.2.1) (h1 : th_c1 (o0 :: o1 :: o2 :: o3 :: o4 :: o5 :: o6 :: o7 :: o8 :: o9 :: some (.int x) :: r) = true) (hv : x + Int32.ofInt n = v) (k : EV G l K d bc bs q (o0 :: o1 :: o2 :: o3 :: o4 :: o5 :: o6 :: o7 :: o8 :: o9 :: some (.int v) :: r) st S post) : EV G l K d bc bs pc (o0 :: o1 :: o2 :: o3 :: o4 :: o5 :: o6 :: o7 :: o8 :: o9 :: some (.int x) :: r) st S post := by
  subst hq
  intro p e R s m args below meth c Q F Rt hf hlc H locs cells slots LS hc hs hR hS hL
  obtain ⟨kk, hkk⟩ := List.getElem?_of_mem ((th_l_mem (G := G) (o0 :: o1 :: o2 :: o3 :: o4 :: o5 :: o6 :: o7 :: o8 :: o9 :: some (.int x) :: r) 0 10 (.int x)).mpr ⟨10, .int x, rfl, by omega, rfl⟩)
  exact lv_iinc F.1 F.2.1 hd hL hkk hv hn rfl (fun LS1 h => k p e R s m args below meth c Q F Rt hf hlc H locs cells slots LS1 hc hs hR hS (th_L.set (i := 10) (v := .int v) h1 h))
theorem ev_if_eq {x : Int32} {off : Int} {t : Nat} (hd : decode K.1 pc = .ok (.ifCond .eq off, 3)) (hq : pc + 3 = q) (ht : (pc : Int) + off = (t : Int)) (kt : x = 0 → EV G l K d bc bs t ls st S post) (kf : ¬ x = 0 → EV G l K d bc bs q ls st S post) : EV G l K d bc bs pc ls (.int x :: st) S post := by
  subst hq
  intro p e R s m args below meth c Q F Rt hf hlc H locs cells slots LS hc hs hR hS hL
  exact lv_if_eq F.1 F.2.1 hd ht (fun h => kt h p e R s m args below meth c Q F Rt hf hlc H locs cells slots LS hc hs hR hS hL) (fun h => kf h p e R s m args below meth c Q F Rt hf hlc H locs cells slots LS hc hs hR hS hL)
theorem ev_if_ne {x : Int32} {off : Int} {t : Nat} (hd : decode K.1 pc = .ok (.ifCond .ne off, 3)) (hq : pc + 3 = q) (ht : (pc : Int) + off = (t : Int)) (kt : x ≠ 0 → EV G l K d bc bs t ls st S post) (kf : x = 0 → EV G l K d bc bs q ls st S post) : EV G l K d bc bs pc ls (.int x :: st) S post := by
  subst hq
  intro p e R s m args below meth c Q F Rt hf hlc H locs cells slots LS hc hs hR hS hL
  exact lv_if_ne F.1 F.2.1 hd ht (fun h => kt h p e R s m args below meth c Q F Rt hf hlc H locs cells slots LS hc hs hR hS hL) (fun h => kf h p e R s m args below meth c Q F Rt hf hlc H locs cells slots LS hc hs hR hS hL)
theorem ev_if_lt {x : Int32} {off : Int} {t : Nat} (hd : decode K.1 pc = .ok (.ifCond .lt off, 3)) (hq : pc + 3 = q) (ht : (pc : Int) + off = (t : Int)) (kt : x < 0 → EV G l K d bc bs t ls st S post) (kf : ¬ x < 0 → EV G l K d bc bs q ls st S post) : EV G l K d bc bs pc ls (.int x :: st) S post := by
  subst hq
  intro p e R s m args below meth c Q F Rt hf hlc H locs cells slots LS hc hs hR hS hL
  exact lv_if_lt F.1 F.2.1 hd ht (fun h => kt h p e R s m args below meth c Q F Rt hf hlc H locs cells slots LS hc hs hR hS hL) (fun h => kf h p e R s m args below meth c Q F Rt hf hlc H locs cells slots LS hc hs hR hS hL)
theorem ev_if_ge {x : Int32} {off : Int} {t : Nat} (hd : decode K.1 pc = .ok (.ifCond .ge off, 3)) (hq : pc + 3 = q) (ht : (pc : Int) + off = (t : Int)) (kt : 0 ≤ x → EV G l K d bc bs t ls st S post) (kf : ¬ 0 ≤ x → EV G l K d bc bs q ls st S post) : EV G l K d bc bs pc ls (.int x :: st) S post := by
  subst hq
  intro p e R s m args below meth c Q F Rt hf hlc H locs cells slots LS hc hs hR hS hL
  exact lv_if_ge F.1 F.2.1 hd ht (fun h => kt h p e R s m args below meth c Q F Rt hf hlc H locs cells slots LS hc hs hR hS hL) (fun h => kf h p e R s m args below meth c Q F Rt hf hlc H locs cells slots LS hc hs hR hS hL)
theorem ev_if_gt {x : Int32} {off : Int} {t : Nat} (hd : decode K.1 pc = .ok (.ifCond .gt off, 3)) (hq : pc + 3 = q) (ht : (pc : Int) + off = (t : Int)) (kt : 0 < x → EV G l K d bc bs t ls st S post) (kf : ¬ 0 < x → EV G l K d bc bs q ls st S post) : EV G l K d bc bs pc ls (.int x :: st) S post := by
  subst hq
  intro p e R s m args below meth c Q F Rt hf hlc H locs cells slots LS hc hs hR hS hL
  exact lv_if_gt F.1 F.2.1 hd ht (fun h => kt h p e R s m args below meth c Q F Rt hf hlc H locs cells slots LS hc hs hR hS hL) (fun h => kf h p e R s m args below meth c Q F Rt hf hlc H locs cells slots LS hc hs hR hS hL)
theorem ev_if_le {x : Int32} {off : Int} {t : Nat} (hd : decode K.1 pc = .ok (.ifCond .le off, 3)) (hq : pc + 3 = q) (ht : (pc : Int) + off = (t : Int)) (kt : x ≤ 0 → EV G l K d bc bs t ls st S post) (kf : ¬ x ≤ 0 → EV G l K d bc bs q ls st S post) : EV G l K d bc bs pc ls (.int x :: st) S post := by
  subst hq
  intro p e R s m args below meth c Q F Rt hf hlc H locs cells slots LS hc hs hR hS hL
  exact lv_if_le F.1 F.2.1 hd ht (fun h => kt h p e R s m args below meth c Q F Rt hf hlc H locs cells slots LS hc hs hR hS hL) (fun h => kf h p e R s m args below meth c Q F Rt hf hlc H locs cells slots LS hc hs hR hS hL)
theorem ev_icmp_eq {x y : Int32} {off : Int} {t : Nat} (hd : decode K.1 pc = .ok (.if_icmp .eq off, 3)) (hq : pc + 3 = q) (ht : (pc : Int) + off = (t : Int)) (kt : x = y → EV G l K d bc bs t ls st S post) (kf : ¬ x = y → EV G l K d bc bs q ls st S post) : EV G l K d bc bs pc ls (.int y :: .int x :: st) S post := by
  subst hq
  intro p e R s m args below meth c Q F Rt hf hlc H locs cells slots LS hc hs hR hS hL
  exact lv_icmp_eq F.1 F.2.1 hd ht (fun h => kt h p e R s m args below meth c Q F Rt hf hlc H locs cells slots LS hc hs hR hS hL) (fun h => kf h p e R s m args below meth c Q F Rt hf hlc H locs cells slots LS hc hs hR hS hL)
theorem ev_icmp_ne {x y : Int32} {off : Int} {t : Nat} (hd : decode K.1 pc = .ok (.if_icmp .ne off, 3)) (hq : pc + 3 = q) (ht : (pc : Int) + off = (t : Int)) (kt : x ≠ y → EV G l K d bc bs t ls st S post) (kf : x = y → EV G l K d bc bs q ls st S post) : EV G l K d bc bs pc ls (.int y :: .int x :: st) S post := by
  subst hq
  intro p e R s m args below meth c Q F Rt hf hlc H locs cells slots LS hc hs hR hS hL
  exact lv_icmp_ne F.1 F.2.1 hd ht (fun h => kt h p e R s m args below meth c Q F Rt hf hlc H locs cells slots LS hc hs hR hS hL) (fun h => kf h p e R s m args below meth c Q F Rt hf hlc H locs cells slots LS hc hs hR hS hL)
theorem ev_icmp_lt {x y : Int32} {off : Int} {t : Nat} (hd : decode K.1 pc = .ok (.if_icmp .lt off, 3)) (hq : pc + 3 = q) (ht : (pc : Int) + off = (t : Int)) (kt : x < y → EV G l K d bc bs t ls st S post) (kf : ¬ x < y → EV G l K d bc bs q ls st S post) : EV G l K d bc bs pc ls (.int y :: .int x :: st) S post := by
  subst hq
  intro p e R s m args below meth c Q F Rt hf hlc H locs cells slots LS hc hs hR hS hL
  exact lv_icmp_lt F.1 F.2.1 hd ht (fun h => kt h p e R s m args below meth c Q F Rt hf hlc H locs cells slots LS hc hs hR hS hL) (fun h => kf h p e R s m args below meth c Q F Rt hf hlc H locs cells slots LS hc hs hR hS hL)
theorem ev_icmp_ge {x y : Int32} {off : Int} {t : Nat} (hd : decode K.1 pc = .ok (.if_icmp .ge off, 3)) (hq : pc + 3 = q) (ht : (pc : Int) + off = (t : Int)) (kt : y ≤ x → EV G l K d bc bs t ls st S post) (kf : ¬ y ≤ x → EV G l K d bc bs q ls st S post) : EV G l K d bc bs pc ls (.int y :: .int x :: st) S post := by
  subst hq
  intro p e R s m args below meth c Q F Rt hf hlc H locs cells slots LS hc hs hR hS hL
  exact lv_icmp_ge F.1 F.2.1 hd ht (fun h => kt h p e R s m args below meth c Q F Rt hf hlc H locs cells slots LS hc hs hR hS hL) (fun h => kf h p e R s m args below meth c Q F Rt hf hlc H locs cells slots LS hc hs hR hS hL)
theorem ev_icmp_gt {x y : Int32} {off : Int} {t : Nat} (hd : decode K.1 pc = .ok (.if_icmp .gt off, 3)) (hq : pc + 3 = q) (ht : (pc : Int) + off = (t : Int)) (kt : y < x → EV G l K d bc bs t ls st S post) (kf : ¬ y < x → EV G l K d bc bs q ls st S post) : EV G l K d bc bs pc ls (.int y :: .int x :: st) S post := by
  subst hq
  intro p e R s m args below meth c Q F Rt hf hlc H locs cells slots LS hc hs hR hS hL
  exact lv_icmp_gt F.1 F.2.1 hd ht (fun h => kt h p e R s m args below meth c Q F Rt hf hlc H locs cells slots LS hc hs hR hS hL) (fun h => kf h p e R s m args below meth c Q F Rt hf hlc H locs cells slots LS hc hs hR hS hL)
theorem ev_icmp_le {x y : Int32} {off : Int} {t : Nat} (hd : decode K.1 pc = .ok (.if_icmp .le off, 3)) (hq : pc + 3 = q) (ht : (pc : Int) + off = (t : Int)) (kt : x ≤ y → EV G l K d bc bs t ls st S post) (kf : ¬ x ≤ y → EV G l K d bc bs q ls st S post) : EV G l K d bc bs pc ls (.int y :: .int x :: st) S post := by
  subst hq
  intro p e R s m args below meth c Q F Rt hf hlc H locs cells slots LS hc hs hR hS hL
  exact lv_icmp_le F.1 F.2.1 hd ht (fun h => kt h p e R s m args below meth c Q F Rt hf hlc H locs cells slots LS hc hs hR hS hL) (fun h => kf h p e R s m args below meth c Q F Rt hf hlc H locs cells slots LS hc hs hR hS hL)
theorem ev_goto {off : Int} (hd : decode K.1 pc = .ok (.goto off, 3)) (ht : (pc : Int) + off = (q : Int)) (k : EV G l K d bc bs q ls st S post) : EV G l K d bc bs pc ls st S post := by
  intro p e R s m args below meth c Q F Rt hf hlc H locs cells slots LS hc hs hR hS hL
  exact lv_goto F.1 F.2.1 hd ht (k p e R s m args below meth c Q F Rt hf hlc H locs cells slots LS hc hs hR hS hL)
theorem ev_ifnonnull {a : Nat} {off : Int} (hd : decode K.1 pc = .ok (.ifnonnull off, 3)) (ht : (pc : Int) + off = (q : Int)) (k : EV G l K d bc bs q ls st S post) : EV G l K d bc bs pc ls (.ref a :: st) S post := by
  intro p e R s m args below meth c Q F Rt hf hlc H locs cells slots LS hc hs hR hS hL
  exact lv_ifnonnull F.1 F.2.1 hd ht (k p e R s m args below meth c Q F Rt hf hlc H locs cells slots LS hc hs hR hS hL)
theorem ev_ifnonnullN {off : Int} (hd : decode K.1 pc = .ok (.ifnonnull off, 3)) (hq : pc + 3 = q) (k : EV G l K d bc bs q ls st S post) : EV G l K d bc bs pc ls (.null :: st) S post := by
  subst hq
  intro p e R s m args below meth c Q F Rt hf hlc H locs cells slots LS hc hs hR hS hL
  exact lv_ifnonnullN F.1 F.2.1 hd (k p e R s m args below meth c Q F Rt hf hlc H locs cells slots LS hc hs hR hS hL)
theorem ev_ifnull {a : Nat} {off : Int} (hd : decode K.1 pc = .ok (.ifnull off, 3)) (hq : pc + 3 = q) (k : EV G l K d bc bs q ls st S post) : EV G l K d bc bs pc ls (.ref a :: st) S post := by
  subst hq
  intro p e R s m args below meth c Q F Rt hf hlc H locs cells slots LS hc hs hR hS hL
  exact lv_ifnull F.1 F.2.1 hd (k p e R s m args below meth c Q F Rt hf hlc H locs cells slots LS hc hs hR hS hL)
theorem ev_ifnullN {off : Int} (hd : decode K.1 pc = .ok (.ifnull off, 3)) (ht : (pc : Int) + off = (q : Int)) (k : EV G l K d bc bs q ls st S post) : EV G l K d bc bs pc ls (.null :: st) S post := by
  intro p e R s m args below meth c Q F Rt hf hlc H locs cells slots LS hc hs hR hS hL
  exact lv_ifnullN F.1 F.2.1 hd ht (k p e R s m args below meth c Q F Rt hf hlc H locs cells slots LS hc hs hR hS hL)
theorem ev_lookup {dflt : Int} {ps : Array (Int × Int)} {len : Nat} {x : Int32} {off : Int} (hd : decode K.1 pc = .ok (.lookupswitch dflt ps, len)) (hp : (ps.toList.zip (ps.toList.drop 1)).all (fun (a, next) => a.1 < next.1) = true) (ho : Op.lookupswitch.offset ps.toList dflt x.toInt = off) (ht : (pc : Int) + off = (q : Int)) (k : EV G l K d bc bs q ls st S post) : EV G l K d bc bs pc ls (.int x :: st) S post := by
  intro p e R s m args below meth c Q F Rt hf hlc H locs cells slots LS hc hs hR hS hL
  exact lv_lookup F.1 F.2.1 hd hp ho ht (k p e R s m args below meth c Q F Rt hf hlc H locs cells slots LS hc hs hR hS hL)
theorem ev_tableOut {dflt lo hi : Int} {offs : Array Int} {len : Nat} {x : Int32} (hd : decode K.1 pc = .ok (.tableswitch dflt lo hi offs, len)) (h : x.toInt < lo ∨ hi < x.toInt) (ht : (pc : Int) + dflt = (q : Int)) (k : EV G l K d bc bs q ls st S post) : EV G l K d bc bs pc ls (.int x :: st) S post := by
  intro p e R s m args below meth c Q F Rt hf hlc H locs cells slots LS hc hs hR hS hL
  exact lv_tableOut F.1 F.2.1 hd h ht (k p e R s m args below meth c Q F Rt hf hlc H locs cells slots LS hc hs hR hS hL)
theorem ev_tableIn {dflt lo hi : Int} {offs : Array Int} {len : Nat} {x : Int32} {off : Int} (hd : decode K.1 pc = .ok (.tableswitch dflt lo hi offs, len)) (h1 : ¬ x.toInt < lo) (h2 : ¬ hi < x.toInt) (ho : offs[(x.toInt - lo).toNat]? = some off) (ht : (pc : Int) + off = (q : Int)) (k : EV G l K d bc bs q ls st S post) : EV G l K d bc bs pc ls (.int x :: st) S post := by
  intro p e R s m args below meth c Q F Rt hf hlc H locs cells slots LS hc hs hR hS hL
  exact lv_tableIn F.1 F.2.1 hd h1 h2 ho ht (k p e R s m args below meth c Q F Rt hf hlc H locs cells slots LS hc hs hR hS hL)
theorem ev_return (hd : decode K.1 pc = .ok (.return_, 1)) (hr : K.2.2.2.1 = none) (hp : post none S) : EV G l K d bc bs pc ls [] S post := by
  intro p e R s m args below meth c Q F Rt hf hlc H locs cells slots LS hc hs hR hS hL
  exact Rt none S H locs cells slots pc LS hp hR hS (by omega) (by omega) (Or.inl ⟨rfl, hr, hd⟩)
theorem ev_ireturn {v : Int32} {ty : FieldType} (hd : decode K.1 pc = .ok (.ireturn, 1)) (hr : K.2.2.2.1 = some ty) (hn : narrow ty (.int v) = .int v) (hp : post (some (.int v)) S) : EV G l K d bc bs pc ls [.int v] S post := by
  intro p e R s m args below meth c Q F Rt hf hlc H locs cells slots LS hc hs hR hS hL
  exact Rt (some (.int v)) S H locs cells slots pc LS hp hR hS (by omega) (by omega) (Or.inr (Or.inl ⟨v, ty, rfl, hr, hn, hd⟩))
theorem ev_areturn {a : Nat} {rt : FieldType} (hd : decode K.1 pc = .ok (.areturn, 1)) (hr : K.2.2.2.1 = some rt) (hrt : (∃ n, rt = .object n) ∨ ∃ t, rt = .array t) (hp : post (some (.ref a)) S) : EV G l K d bc bs pc ls [.ref a] S post := by
  intro p e R s m args below meth c Q F Rt hf hlc H locs cells slots LS hc hs hR hS hL
  exact Rt (some (.ref a)) S H locs cells slots pc LS hp hR hS (by omega) (by omega) (Or.inr (Or.inr ⟨rt, hr, hrt, Or.inr ⟨a, rfl⟩, hd⟩))
theorem ev_areturnN {rt : FieldType} (hd : decode K.1 pc = .ok (.areturn, 1)) (hr : K.2.2.2.1 = some rt) (hrt : (∃ n, rt = .object n) ∨ ∃ t, rt = .array t) (hp : post (some .null) S) : EV G l K d bc bs pc ls [.null] S post := by
  intro p e R s m args below meth c Q F Rt hf hlc H locs cells slots LS hc hs hR hS hL
  exact Rt (some .null) S H locs cells slots pc LS hp hR hS (by omega) (by omega) (Or.inr (Or.inr ⟨rt, hr, hrt, Or.inl rfl, hd⟩))
end EVR
end
section
/-! words of the tables by their places -/
theorem th_mW {w : Cond} (i : Nat) (h : tables_1[i]? = some w) (hg : goodWord w = true) : w ∈ th_W := List.mem_filter.mpr ⟨List.mem_append_right _ (List.mem_of_getElem? h), hg⟩
theorem th_mN {w : Cond} (i : Nat) (h : tables_1[i]? = some w) (hg : th_isN w = true) : w ∈ th_N := List.mem_filter.mpr ⟨List.mem_of_getElem? h, hg⟩
theorem th_mS {w : Cond} (i : Nat) (h : (k2_sels lw_privs)[i]? = some w) (hg : goodWord w = true) : w ∈ th_W := List.mem_filter.mpr ⟨List.mem_append_left _ (List.mem_of_getElem? h), hg⟩
theorem th_inW {ws : List Cond} (ps : List Nat) (hp : ws = ps.filterMap (fun i => tables_1[i]?)) (hg : ws.all goodWord = true) : ∀ w ∈ ws, w ∈ th_W := by
  intro w hw
  have hg := List.all_eq_true.mp hg w hw
  rw [hp] at hw
  obtain ⟨i, -, hi⟩ := List.mem_filterMap.mp hw
  exact th_mW i hi hg
theorem inW0 : ∀ w ∈ u_ws RX0 TX0 7, w ∈ th_W := th_inW [99, 101, 103, 105, 107, 109, 111] (by decide +kernel) (by decide +kernel)
theorem inW1 : ∀ w ∈ u_ws RX1 TX1 7, w ∈ th_W := th_inW [131, 133, 135, 137, 139, 141, 143] (by decide +kernel) (by decide +kernel)
theorem inW2 : ∀ w ∈ u_ws RX2 TX2 7, w ∈ th_W := th_inW [706, 708, 710, 712, 714, 716, 718] (by decide +kernel) (by decide +kernel)
theorem inW3 : ∀ w ∈ u_ws RX3 TX3 4, w ∈ th_W := th_inW [154, 156, 158, 160] (by decide +kernel) (by decide +kernel)
theorem inW4 : ∀ w ∈ u_ws RX4 TX4 4, w ∈ th_W := th_inW [210, 212, 214, 216] (by decide +kernel) (by decide +kernel)
theorem inW5 : ∀ w ∈ u_ws RX5 TX5 4, w ∈ th_W := th_inW [190, 192, 194, 196] (by decide +kernel) (by decide +kernel)
theorem inW6 : ∀ w ∈ u_ws RX6 TX6 3, w ∈ th_W := th_inW [359, 361, 363] (by decide +kernel) (by decide +kernel)
theorem inW7 : ∀ w ∈ u_ws RX7 TX7 4, w ∈ th_W := th_inW [42, 44, 46, 48] (by decide +kernel) (by decide +kernel)
theorem inW8 : ∀ w ∈ u_ws RX8 TX8 2, w ∈ th_W := th_inW [173, 175] (by decide +kernel) (by decide +kernel)
theorem inW9 : ∀ w ∈ u_ws RX9 TX9 16, w ∈ th_W := th_inW [235, 237, 239, 241, 243, 245, 247, 249, 251, 253, 255, 257, 259, 261, 263, 265] (by decide +kernel) (by decide +kernel)
theorem inW10 : ∀ w ∈ u_ws RX10 TX10 41, w ∈ th_W := th_inW [877, 879, 881, 883, 885, 887, 889, 891, 893, 895, 897, 899, 901, 903, 905, 907, 909, 911, 913, 915, 917, 919, 921, 923, 925, 927, 929, 931, 933, 935, 937, 939, 941, 943, 945, 947, 949, 951, 953, 955, 957] (by decide +kernel) (by decide +kernel)
theorem inW11 : ∀ w ∈ u_ws RJx4a65c TJx4a65c 3, w ∈ th_W := th_inW [75, 71, 73] (by decide +kernel) (by decide +kernel)
theorem th_cls {ci : Nat} {C : String} {T : u_T} {N : Nat} (h : th_cl[ci]? = some (C, T, N)) : (∀ w ∈ u_ws C T N, w ∈ th_W) ∧ (∀ k, k < N → parseFieldDescriptor (T k).2.2.1 = some (th_ft ci k)) ∧ (∀ a, a < N → ∀ b, b < N → a ≠ b → (T a).2.1 ≠ (T b).2.1) ∧ N = th_nf ci := by
  match ci, h with
  | 0, h => cases h; exact ⟨inW0, tyX0_ok, nmX0, rfl⟩
  | 1, h => cases h; exact ⟨inW1, tyX1_ok, nmX1, rfl⟩
  | 2, h => cases h; exact ⟨inW2, tyX2_ok, nmX2, rfl⟩
  | 3, h => cases h; exact ⟨inW3, tyX3_ok, nmX3, rfl⟩
  | 4, h => cases h; exact ⟨inW4, tyX4_ok, nmX4, rfl⟩
  | 5, h => cases h; exact ⟨inW5, tyX5_ok, nmX5, rfl⟩
  | 6, h => cases h; exact ⟨inW6, tyX6_ok, nmX6, rfl⟩
  | 7, h => cases h; exact ⟨inW7, tyX7_ok, nmX7, rfl⟩
  | 8, h => cases h; exact ⟨inW8, tyX8_ok, nmX8, rfl⟩
  | 9, h => cases h; exact ⟨inW9, tyX9_ok, nmX9, rfl⟩
  | 10, h => cases h; exact ⟨inW10, tyX10_ok, nmX10, rfl⟩
  | 11, h => cases h; exact ⟨inW11, tyJx4a65c_ok, nmJx4a65c, rfl⟩
  | n + 12, h => simp [th_cl] at h
/-! fields -/
def th_gl (own : String) (i : Nat) (o n d : String) : Prop := (Cond.fieldLink own i o n d ∈ th_W) ∨ (∃ ref, Cond.fieldLink own i ref n d ∈ th_W ∧ Cond.sameField ref o n d ∈ th_W) ∨ ∃ host, Cond.fieldLinkNest own i o n d host ∈ th_N
def th_gf (own : String) (i ci k : Nat) : Prop := ∃ (C : String) (T : u_T) (N : Nat), th_cl[ci]? = some (C, T, N) ∧ k < N ∧ th_gl own i (T k).1 (T k).2.1 (T k).2.2.1
def th_pf (own nm : String) (i ci k : Nat) : Prop := ∃ (C : String) (T : u_T) (N : Nat), th_cl[ci]? = some (C, T, N) ∧ k < N ∧ (((T k).2.2.2 = false ∧ th_gl own i (T k).1 (T k).2.1 (T k).2.2.1) ∨ ((T k).2.2.2 = true ∧ nm = "<init>" ∧ (T k).1 = own ∧ Cond.fieldLink own i (T k).1 (T k).2.1 (T k).2.2.1 ∈ th_W))
theorem th_w_j {V : Nat → Nat → Int32} {a k j : Nat} {x : Int32} (h : j ≠ k) : th_w V a k x a j = V a j := by
  have : Nat.beq j k = false := Bool.eq_false_iff.mpr (fun e => h (Nat.eq_of_beq_eq_true e))
  simp [th_w, this]
theorem th_fs_get {G : th_G} {ci k : Nat} {f : Nat → Option Nat} {v : Nat → Int32} (hk : k < th_nf ci) : ((List.range (th_nf ci)).map (th_fv G ci f v))[k]? = some (th_fv G ci f v k) := by
  rw [List.getElem?_map, List.getElem?_range hk]
  rfl
theorem th_P1 {G : th_G} {q : Nat × va_E} {H : Heap} (h : va_at G.2.2.1 th_cl q H) : va_P G.2.2.1 th_cl [q] H := by
  intro j x hj
  cases j with
  | zero => cases hj; exact h
  | succ j => simp at hj
section EVH
variable {G : th_G} {l : Launch} {K : th_M} {d bc bs pc q : Nat} {ls : List (Option Value)} {st : List Value} {S : th_S} {post : Option Value → th_S → Prop}
theorem ev_getF {a ci k i : Nat} {f : Nat → Option Nat} {v : Value} (hd : decode K.1 pc = .ok (.getfield i, 3)) (hg : th_gf K.2.1 i ci k) (ha : S.2.1 a = some (.inr (ci, f))) (hv : th_fv G ci f (S.2.2 a) k = th_v G v) (hq : pc + 3 = q) (kk : EV G l K d bc bs q ls (v :: st) S post) : EV G l K d bc bs pc ls (.ref a :: st) S post := by
  subst hq
  intro p e R s m args below meth c Q F Rt hf hlc H locs cells slots LS hc hs hR hS hL
  obtain ⟨C, T, N, hcl, hkN, hw⟩ := hg
  obtain ⟨h1, h2, h3, h4⟩ := th_cls hcl
  have hts := F.2.2.2.2.2.1
  have hP := th_P1 (hR.get ha)
  have hv1 : ((List.range (th_nf ci)).map (th_fv G ci f (S.2.2 a)))[k]? = some (th_v G v) := by
    rw [th_fs_get (by rw [← h4]; exact hkN), hv]
  have hK := F.2.2.2.2.2.2.1
  have kk := kk p e R s m args below meth c Q F Rt hf hlc H locs cells slots LS hc hs hR hS hL
  rcases hw with hw | ⟨ref, hw, hw2⟩ | ⟨host, hw⟩
  · exact va_get F.1 F.2.1 hts h1 F.2.2.2.1 hK hP 0 rfl hcl k hkN (hts _ hw) (fun _ h => h) hv1 hd kk
  · exact va_get F.1 F.2.1 hts h1 F.2.2.2.1 hK hP 0 rfl hcl k hkN (hts _ hw) (u_same (hts _ hw2)) hv1 hd kk
  · exact va_getN F.1 F.2.1 hts h1 F.2.2.2.1 hK hP 0 rfl hcl k hkN (va_Nw.use rfl (F.2.2.2.2.2.2.2.1 _ hw)) (fun _ h => h) hv1 hd kk
theorem ev_getI {a ci k i : Nat} {f : Nat → Option Nat} (hd : decode K.1 pc = .ok (.getfield i, 3)) (hg : th_gf K.2.1 i ci k) (ha : S.2.1 a = some (.inr (ci, f))) (hk : th_ir ci k = false) (hq : pc + 3 = q) (kk : EV G l K d bc bs q ls (.int (S.2.2 a k) :: st) S post) : EV G l K d bc bs pc ls (.ref a :: st) S post :=
  ev_getF hd hg ha (v := .int (S.2.2 a k)) (by simp [th_fv, hk, th_v]) hq kk
theorem ev_getR {a ci k i b : Nat} {f : Nat → Option Nat} (hd : decode K.1 pc = .ok (.getfield i, 3)) (hg : th_gf K.2.1 i ci k) (ha : S.2.1 a = some (.inr (ci, f))) (hk : th_ir ci k = true) (hb : f k = some b) (hq : pc + 3 = q) (kk : EV G l K d bc bs q ls (.ref b :: st) S post) : EV G l K d bc bs pc ls (.ref a :: st) S post :=
  ev_getF hd hg ha (v := .ref b) (by simp [th_fv, hk, hb, th_v, va_rf]) hq kk
/-- a field is written: what the machine does -/
theorem th_put {p : Program} {e : Env} {R : Room} {s : State} {m : MethodId} {args : Array Value} {below : List Frame} {meth : Method} {c : Code} {Q : State → Prop} {H : Heap} {locs : List Loc} {cells slots : Nat} {LS : Array Slot} {rest : List Value} (F : th_Fix G K p s m args meth c) {a ci k i : Nat} {fs : List Value} {v : Value} (hg : th_pf K.2.1 K.2.2.2.2 i ci k) (hat : va_at G.2.2.1 th_cl (a, .inr (ci, fs)) H) (haA : th_A G a) (hS : va_S (th_A G) s.heap H locs) (hn : narrow (th_ft ci k) v = v) (hfit : fits (th_ft ci k) v = true) (hl : k < fs.length) (hd : decode K.1 pc = .ok (.putfield i, 3))
    (kk : ∀ (H1 : Heap) (locs1 : List Loc), H1.size = H.size → (∀ q : Nat, q ≠ a → H1[q]? = H[q]?) → va_at G.2.2.1 th_cl (a, .inr (ci, fs.set k v)) H1 → va_S (th_A G) s.heap H1 locs1 → W p l e R s m args below meth c H1 locs1 cells slots Q (F0 m (pc + 3) LS rest)) : W p l e R s m args below meth c H locs cells slots Q (F0 m pc LS (v :: .ref a :: rest)) := by
  obtain ⟨C, T, N, hcl, hkN, hw⟩ := hg
  obtain ⟨hin, hty, hnm, h4⟩ := th_cls hcl
  have hts := F.2.2.2.2.2.1
  have hK := F.2.2.2.2.2.2.1
  have hown := F.2.2.2.1
  have hap := va_apart (own := K.2.1) hts hin (th_ft ci) hty hnm hK hcl
  obtain ⟨r, h1, cell, q1, q2, q3, q4⟩ := hat
  have hr : r = (C, T, N) := Option.some.inj (h1.symm.trans hcl)
  subst hr
  obtain ⟨hSl, hfc, kC, hkC, hkind⟩ := hK.1 ci _ hcl
  obtain ⟨cf, kf, fi, f, hi, hsl⟩ := hSl k hkN
  have hlay := hts _ (hin _ (u_in_lay hkN))
  unfold u_lay at hlay
  have hst := (u_facts hfc hkC (u_lays hts hin hkN) hi).1
  have fin : ∀ (H' : Heap) (locs' : List Loc), H'[a]? = some (cell.setSlot f.slot v) → H'.size = H.size → (∀ q : Nat, q ≠ a → H'[q]? = H[q]?) → va_S (th_A G) s.heap H' locs' → W p l e R s m args below meth c H' locs' cells slots Q (F0 m (pc + 3) LS rest) := by
    intro H' locs' e1 e2 e3 hS1
    rw [hsl] at e1
    exact kk H' locs' e2 e3 ⟨_, hcl, t_OB.to (V := updV (vp_V fs) k v) ⟨_, e1, q2, q3, t_set q4 hap hkN v⟩ (fun j _ => vp_updV_set hl v j)⟩ hS1
  rcases hw with ⟨hfin, hw⟩ | ⟨hfin, hnme, hdecl, hw⟩
  · rw [if_neg (by rw [hfin]; decide)] at hlay
    have h6 := u_store hfc hkC hkind hlay hi (hty k hkN) hn hfit
    rcases hw with hw | ⟨ref, hw, hw2⟩ | ⟨host, hw⟩
    · exact W.putK F.1 F.2.1 (f := f) ⟨hown, hts _ hw, ⟨_, _, _, hi⟩, hst⟩ (by rw [q2]; exact h6) q1 q3 (by rw [hsl]; exact k2_hasslot (q4 k hkN)) rfl rfl hd fun H' e1 e2 e3 => fin H' _ e1 e2 e3 (hS.put e2 e3 haA)
    · exact W.putK F.1 F.2.1 (f := f) ⟨hown, hts _ hw, ⟨_, _, _, u_same (hts _ hw2) _ hi⟩, hst⟩ (by rw [q2]; exact h6) q1 q3 (by rw [hsl]; exact k2_hasslot (q4 k hkN)) rfl rfl hd fun H' e1 e2 e3 => fin H' _ e1 e2 e3 (hS.put e2 e3 haA)
    · exact va_WputK F.1 F.2.1 (f := f) hown (va_Nw.use rfl (F.2.2.2.2.2.2.2.1 _ hw)) hi hst (by rw [q2]; exact h6) q1 q3 (by rw [hsl]; exact k2_hasslot (q4 k hkN)) rfl rfl hd fun H' e1 e2 e3 => fin H' _ e1 e2 e3 (hS.put e2 e3 haA)
  · rw [if_pos hfin] at hlay
    have hcf : m.cls = cf := by
      obtain ⟨_, _, c', _, _, _, -, -, hf', -, -, -, hown2, -⟩ := Cond.laysFinal_spec hlay
      have e1 : c' = cf := by have := hi.symm.trans hf'; simp at this; exact this.1.symm
      rw [hdecl] at hown2
      rw [← e1]; exact Option.some.inj (hown.symm.trans hown2)
    have h6 := u_fits hfc hkC hkind (Or.inr hlay) hi (hty k hkN) hn hfit
    exact W.putFinK F.1 F.2.1 hown (hts _ hw) hi hst hcf (by rw [F.2.2.2.2.1]; exact hnme) (by rw [q2]; exact h6) q1 q3 (by rw [hsl]; exact k2_hasslot (q4 k hkN)) rfl rfl hd fun H' e1 e2 e3 => fin H' _ e1 e2 e3 (hS.put e2 e3 haA)
theorem th_pf_lt {own nm : String} {i ci k : Nat} (h : th_pf own nm i ci k) : k < th_nf ci := by
  obtain ⟨C, T, N, hcl, hkN, -⟩ := h
  rw [← (th_cls hcl).2.2.2]
  exact hkN
theorem th_fs_set {G : th_G} {ci k : Nat} {f f' : Nat → Option Nat} {v v' : Nat → Int32} {w : Value} (hk : k < th_nf ci) (hw : th_fv G ci f' v' k = w) (hj : ∀ j, j ≠ k → th_fv G ci f' v' j = th_fv G ci f v j) : ((List.range (th_nf ci)).map (th_fv G ci f v)).set k w = (List.range (th_nf ci)).map (th_fv G ci f' v') := by
  apply List.ext_getElem?
  intro j
  by_cases hjk : j = k
  · subst hjk
    rw [List.getElem?_set_self (by simpa using hk), th_fs_get hk, hw]
  · rw [List.getElem?_set_ne (Ne.symm hjk)]
    by_cases hl : j < th_nf ci
    · rw [th_fs_get hl, th_fs_get hl, hj j hjk]
    · rw [List.getElem?_eq_none (by simpa using Nat.le_of_not_lt hl), List.getElem?_eq_none (by simpa using Nat.le_of_not_lt hl)]
theorem ev_putI {a ci k i : Nat} {f : Nat → Option Nat} {x : Int32} (hd : decode K.1 pc = .ok (.putfield i, 3)) (hg : th_pf K.2.1 K.2.2.2.2 i ci k) (ha : S.2.1 a = some (.inr (ci, f))) (hk : th_ir ci k = false) (hn : narrow (th_ft ci k) (.int x) = .int x) (hfit : fits (th_ft ci k) (.int x) = true) (hq : pc + 3 = q) (kk : EV G l K d bc bs q ls st (th_pI S a k x) post) : EV G l K d bc bs pc ls (.int x :: .ref a :: st) S post := by
  subst hq
  intro p e R s m args below meth c Q F Rt hf hlc H locs cells slots LS hc hs hR hS hL
  refine th_put F hg (hR.get ha) (hR.inA ha) hS hn hfit (by simpa using th_pf_lt hg) hd (fun H1 locs1 e1 e2 e3 hS1 => ?_)
  refine kk p e R s m args below meth c Q F Rt hf hlc H1 locs1 cells slots LS hc hs ?_ hS1 hL
  refine hR.set (S' := th_pI S a k x) ha e1 e2 rfl (fun _ _ => rfl) (fun b hb => th_w_ne hb) ha ?_
  have hw : th_e G (.inr (ci, f)) (th_w S.2.2 a k x a) = .inr (ci, ((List.range (th_nf ci)).map (th_fv G ci f (S.2.2 a))).set k (.int x)) := by
    show (Sum.inr (ci, (List.range (th_nf ci)).map (th_fv G ci f (th_w S.2.2 a k x a))) : va_E) = _
    rw [th_fs_set (th_pf_lt hg) (f' := f) (v' := th_w S.2.2 a k x a) (by simp [th_fv, hk, th_w_eq]) (fun j hj => by simp [th_fv, th_w_j hj])]
  show va_at G.2.2.1 th_cl (th_ad G a, th_e G (.inr (ci, f)) (th_w S.2.2 a k x a)) H1
  rw [hw]
  exact e3
theorem ev_putR {a ci k i b : Nat} {f : Nat → Option Nat} (hd : decode K.1 pc = .ok (.putfield i, 3)) (hg : th_pf K.2.1 K.2.2.2.2 i ci k) (ha : S.2.1 a = some (.inr (ci, f))) (hk : th_ir ci k = true) (hq : pc + 3 = q) (kk : EV G l K d bc bs q ls st (th_pC S a (.inr (ci, th_u f k b))) post) : EV G l K d bc bs pc ls (.ref b :: .ref a :: st) S post := by
  subst hq
  intro p e R s m args below meth c Q F Rt hf hlc H locs cells slots LS hc hs hR hS hL
  have hn : narrow (th_ft ci k) (.ref (th_ad G b)) = .ref (th_ad G b) := by
    unfold th_ir at hk
    cases h : th_ft ci k <;> simp [h] at hk <;> rfl
  have hfit : fits (th_ft ci k) (.ref (th_ad G b)) = true := by
    unfold th_ir at hk
    cases h : th_ft ci k <;> simp [h] at hk <;> rfl
  refine th_put F hg (hR.get ha) (hR.inA ha) hS hn hfit (by simpa using th_pf_lt hg) hd (fun H1 locs1 e1 e2 e3 hS1 => ?_)
  refine kk p e R s m args below meth c Q F Rt hf hlc H1 locs1 cells slots LS hc hs ?_ hS1 hL
  refine hR.set (S' := th_pC S a (.inr (ci, th_u f k b))) ha e1 e2 rfl (fun b hb => th_u_ne hb) (fun _ _ => rfl) th_u_eq ?_
  have hw : th_e G (.inr (ci, th_u f k b)) (S.2.2 a) = .inr (ci, ((List.range (th_nf ci)).map (th_fv G ci f (S.2.2 a))).set k (.ref (th_ad G b))) := by
    show (Sum.inr (ci, (List.range (th_nf ci)).map (th_fv G ci (th_u f k b) (S.2.2 a))) : va_E) = _
    rw [th_fs_set (th_pf_lt hg) (f' := th_u f k b) (v' := S.2.2 a) (by simp [th_fv, hk, th_u_eq, va_rf]) (fun j hj => by simp [th_fv, th_u_ne hj])]
  show va_at G.2.2.1 th_cl (th_ad G a, th_e G (.inr (ci, th_u f k b)) (S.2.2 a)) H1
  rw [hw]
  exact e3
end EVH
end
section
/-! arrays -/
theorem th_nI_in {i : Int32} {j n : Nat} (hi : i = nI j) (hj : j < n) (hn : n < 2 ^ 31) : ¬ (i < 0 ∨ n ≤ i.toNatClampNeg) := by rw [hi]; exact nI_in hj hn
theorem th_nI_cl {i : Int32} {j n : Nat} (hi : i = nI j) (hj : j < n) (hn : n < 2 ^ 31) : i.toNatClampNeg = j := by rw [hi]; exact nI_clamp (Nat.lt_trans hj hn)
theorem th_R.arr {G : th_G} {S : th_S} {H : Heap} {a t n : Nat} {f : Nat → Option Nat} (h : th_R G S H) (ha : S.2.1 a = some (.inl (t, n, f))) (ht : t < 4) : H[th_ad G a]? = some (arrV (G.2.2.2.1 t) n (fun j => .int (S.2.2 a j))) := by
  have h1 := h.get ha
  have : Nat.blt t 4 = true := Nat.ble_eq_true_of_le ht
  simp only [th_e, this, cond_true] at h1
  exact h1
theorem th_R.arq {G : th_G} {S : th_S} {H : Heap} {a t n : Nat} {f : Nat → Option Nat} (h : th_R G S H) (ha : S.2.1 a = some (.inl (t, n, f))) (ht : 4 ≤ t) : H[th_ad G a]? = some (arrV (G.2.2.2.1 t) n (fun j => va_rf ((f j).map (th_ad G)))) := by
  have h1 := h.get ha
  have : Nat.blt t 4 = false := by simp only [Nat.blt]; exact Bool.eq_false_iff.mpr (fun e => absurd (Nat.le_of_ble_eq_true e) (by omega))
  simp only [th_e, this, cond_false] at h1
  exact h1
theorem th_R.stI {G : th_G} {S : th_S} {H H1 : Heap} {a t n j : Nat} {f : Nat → Option Nat} {x : Int32} (h : th_R G S H) (ha : S.2.1 a = some (.inl (t, n, f))) (ht : t < 4) (z : H1.size = H.size) (oq : ∀ q : Nat, q ≠ th_ad G a → H1[q]? = H[q]?) (he : H1[th_ad G a]? = some ((arrV (G.2.2.2.1 t) n (fun j => .int (S.2.2 a j))).setSlot j (.int x))) : th_R G (th_pI S a j x) H1 := by
  refine h.set (S' := th_pI S a j x) ha z oq rfl (fun _ _ => rfl) (fun b hb => th_w_ne hb) ha ?_
  have hb : Nat.blt t 4 = true := Nat.ble_eq_true_of_le ht
  show va_at G.2.2.1 th_cl (th_ad G a, th_e G (.inl (t, n, f)) (th_w S.2.2 a j x a)) H1
  simp only [th_e, hb, cond_true]
  show H1[th_ad G a]? = some (vp_cell _ _)
  rw [he, vp_cell_i, arrV_store]
  congr 2
  funext q
  by_cases hq : q = j
  · subst hq
    simp [updV, th_w]
  · simp [updV, hq, th_w_j hq]
theorem th_R.stQ {G : th_G} {S : th_S} {H H1 : Heap} {a t n j b : Nat} {f : Nat → Option Nat} (h : th_R G S H) (ha : S.2.1 a = some (.inl (t, n, f))) (ht : 4 ≤ t) (z : H1.size = H.size) (oq : ∀ q : Nat, q ≠ th_ad G a → H1[q]? = H[q]?) (he : H1[th_ad G a]? = some ((arrV (G.2.2.2.1 t) n (fun j => va_rf ((f j).map (th_ad G)))).setSlot j (.ref (th_ad G b)))) : th_R G (th_pC S a (.inl (t, n, th_u f j b))) H1 := by
  refine h.set (S' := th_pC S a (.inl (t, n, th_u f j b))) ha z oq rfl (fun b hb => th_u_ne hb) (fun _ _ => rfl) th_u_eq ?_
  have hb : Nat.blt t 4 = false := by simp only [Nat.blt]; exact Bool.eq_false_iff.mpr (fun e => absurd (Nat.le_of_ble_eq_true e) (by omega))
  show va_at G.2.2.1 th_cl (th_ad G a, th_e G (.inl (t, n, th_u f j b)) (S.2.2 a)) H1
  simp only [th_e, hb, cond_false]
  show H1[th_ad G a]? = some (vp_cell _ _)
  rw [he, vp_cell_q, arrV_store]
  congr 2
  funext q
  by_cases hq : q = j
  · subst hq
    simp [updV, th_u, va_rf]
  · simp [updV, hq, th_u_ne hq]
theorem th_tyK {G : th_G} {s : State} (h : th_Amb G s) {t : Nat} (ht : t < 6) : ArrOfT s (G.2.2.2.1 t) (th_ty t) ∧ va_RA s (G.2.2.2.1 t) (th_ty t) := by
  match t, ht with
  | 0, _ => exact h.1.2 0 _ rfl
  | 1, _ => exact h.1.2 1 _ rfl
  | 2, _ => exact h.1.2 2 _ rfl
  | 3, _ => exact h.1.2 3 _ rfl
  | 4, _ => exact h.1.2 4 _ rfl
  | 5, _ => exact h.1.2 5 _ rfl
section EVA
variable {G : th_G} {l : Launch} {K : th_M} {d bc bs pc q : Nat} {ls : List (Option Value)} {st : List Value} {S : th_S} {post : Option Value → th_S → Prop}
theorem ev_iald {a n j : Nat} {f : Nat → Option Nat} {i : Int32} (hd : decode K.1 pc = .ok (.iaload, 1)) (ha : S.2.1 a = some (.inl (0, n, f))) (hi : i = nI j) (hj : j < n) (hn : n < 2 ^ 31) (hq : pc + 1 = q) (kk : EV G l K d bc bs q ls (.int (S.2.2 a j) :: st) S post) : EV G l K d bc bs pc ls (.int i :: .ref a :: st) S post := by
  subst hq
  intro p e R s m args below meth c Q F Rt hf hlc H locs cells slots LS hc hs hR hS hL
  exact W.iald (v := .int (S.2.2 a j)) F.1 F.2.1 (hR.arr ha (by decide)) ((th_tyK F.2.2.2.2.2.2 (t := 0) (by decide)).1 n (fun j => .int (S.2.2 a j))) (fun q => by cases q) (by rw [arrV_size]; exact th_nI_in hi hj hn) (by rw [th_nI_cl hi hj hn, arrV_read _ _ hj]) rfl rfl hd (kk p e R s m args below meth c Q F Rt hf hlc H locs cells slots LS hc hs hR hS hL)
theorem ev_bald {a n j : Nat} {f : Nat → Option Nat} {i : Int32} (hd : decode K.1 pc = .ok (.baload, 1)) (ha : S.2.1 a = some (.inl (1, n, f))) (hi : i = nI j) (hj : j < n) (hn : n < 2 ^ 31) (hq : pc + 1 = q) (kk : EV G l K d bc bs q ls (.int (S.2.2 a j) :: st) S post) : EV G l K d bc bs pc ls (.int i :: .ref a :: st) S post := by
  subst hq
  intro p e R s m args below meth c Q F Rt hf hlc H locs cells slots LS hc hs hR hS hL
  exact W.bald (v := .int (S.2.2 a j)) F.1 F.2.1 (hR.arr ha (by decide)) ((th_tyK F.2.2.2.2.2.2 (t := 1) (by decide)).1 n (fun j => .int (S.2.2 a j))) (fun q => by cases q) (by rw [arrV_size]; exact th_nI_in hi hj hn) (by rw [th_nI_cl hi hj hn, arrV_read _ _ hj]) rfl rfl hd (kk p e R s m args below meth c Q F Rt hf hlc H locs cells slots LS hc hs hR hS hL)
theorem ev_cald {a n j : Nat} {f : Nat → Option Nat} {i : Int32} (hd : decode K.1 pc = .ok (.caload, 1)) (ha : S.2.1 a = some (.inl (2, n, f))) (hi : i = nI j) (hj : j < n) (hn : n < 2 ^ 31) (hq : pc + 1 = q) (kk : EV G l K d bc bs q ls (.int (S.2.2 a j) :: st) S post) : EV G l K d bc bs pc ls (.int i :: .ref a :: st) S post := by
  subst hq
  intro p e R s m args below meth c Q F Rt hf hlc H locs cells slots LS hc hs hR hS hL
  exact W.cald (v := .int (S.2.2 a j)) F.1 F.2.1 (hR.arr ha (by decide)) ((th_tyK F.2.2.2.2.2.2 (t := 2) (by decide)).1 n (fun j => .int (S.2.2 a j))) (fun q => by cases q) (by rw [arrV_size]; exact th_nI_in hi hj hn) (by rw [th_nI_cl hi hj hn, arrV_read _ _ hj]) rfl rfl hd (kk p e R s m args below meth c Q F Rt hf hlc H locs cells slots LS hc hs hR hS hL)
theorem ev_zald {a n j : Nat} {f : Nat → Option Nat} {i : Int32} (hd : decode K.1 pc = .ok (.baload, 1)) (ha : S.2.1 a = some (.inl (3, n, f))) (hi : i = nI j) (hj : j < n) (hn : n < 2 ^ 31) (hq : pc + 1 = q) (kk : EV G l K d bc bs q ls (.int (S.2.2 a j) :: st) S post) : EV G l K d bc bs pc ls (.int i :: .ref a :: st) S post := by
  subst hq
  intro p e R s m args below meth c Q F Rt hf hlc H locs cells slots LS hc hs hR hS hL
  exact W.zald (v := .int (S.2.2 a j)) F.1 F.2.1 (hR.arr ha (by decide)) ((th_tyK F.2.2.2.2.2.2 (t := 3) (by decide)).1 n (fun j => .int (S.2.2 a j))) (fun q => by cases q) (by rw [arrV_size]; exact th_nI_in hi hj hn) (by rw [th_nI_cl hi hj hn, arrV_read _ _ hj]) rfl rfl hd (kk p e R s m args below meth c Q F Rt hf hlc H locs cells slots LS hc hs hR hS hL)
theorem ev_iast {a n j : Nat} {f : Nat → Option Nat} {i x : Int32} (hd : decode K.1 pc = .ok (.iastore, 1)) (ha : S.2.1 a = some (.inl (0, n, f))) (hi : i = nI j) (hj : j < n) (hn : n < 2 ^ 31) (hq : pc + 1 = q) (kk : EV G l K d bc bs q ls st (th_pI S a j x) post) : EV G l K d bc bs pc ls (.int x :: .int i :: .ref a :: st) S post := by
  subst hq
  intro p e R s m args below meth c Q F Rt hf hlc H locs cells slots LS hc hs hR hS hL
  refine W.iast F.1 F.2.1 (hR.arr ha (by decide)) ((th_tyK F.2.2.2.2.2.2 (t := 0) (by decide)).1 n (fun j => .int (S.2.2 a j))) (fun q => by cases q) (by rw [arrV_size]; exact th_nI_in hi hj hn) rfl rfl hd (fun H1 e1 e2 e3 => ?_)
  rw [th_nI_cl hi hj hn] at e1
  exact kk p e R s m args below meth c Q F Rt hf hlc H1 _ cells slots LS hc hs (hR.stI ha (by decide) e2 e3 e1) (hS.put e2 e3 (hR.inA ha)) hL
theorem ev_bast {a n j : Nat} {f : Nat → Option Nat} {i x : Int32} (hd : decode K.1 pc = .ok (.bastore, 1)) (ha : S.2.1 a = some (.inl (1, n, f))) (hi : i = nI j) (hj : j < n) (hn : n < 2 ^ 31) (hq : pc + 1 = q) (kk : EV G l K d bc bs q ls st (th_pI S a j (vp_nar .byte x)) post) : EV G l K d bc bs pc ls (.int x :: .int i :: .ref a :: st) S post := by
  subst hq
  intro p e R s m args below meth c Q F Rt hf hlc H locs cells slots LS hc hs hR hS hL
  refine W.bast F.1 F.2.1 (hR.arr ha (by decide)) ((th_tyK F.2.2.2.2.2.2 (t := 1) (by decide)).1 n (fun j => .int (S.2.2 a j))) (fun q => by cases q) (by rw [arrV_size]; exact th_nI_in hi hj hn) rfl rfl hd (fun H1 e1 e2 e3 => ?_)
  rw [th_nI_cl hi hj hn] at e1
  exact kk p e R s m args below meth c Q F Rt hf hlc H1 _ cells slots LS hc hs (hR.stI ha (by decide) e2 e3 e1) (hS.put e2 e3 (hR.inA ha)) hL
theorem ev_cast {a n j : Nat} {f : Nat → Option Nat} {i x : Int32} (hd : decode K.1 pc = .ok (.castore, 1)) (ha : S.2.1 a = some (.inl (2, n, f))) (hi : i = nI j) (hj : j < n) (hn : n < 2 ^ 31) (hq : pc + 1 = q) (kk : EV G l K d bc bs q ls st (th_pI S a j (vp_nar .char x)) post) : EV G l K d bc bs pc ls (.int x :: .int i :: .ref a :: st) S post := by
  subst hq
  intro p e R s m args below meth c Q F Rt hf hlc H locs cells slots LS hc hs hR hS hL
  refine W.cast F.1 F.2.1 (hR.arr ha (by decide)) ((th_tyK F.2.2.2.2.2.2 (t := 2) (by decide)).1 n (fun j => .int (S.2.2 a j))) (fun q => by cases q) (by rw [arrV_size]; exact th_nI_in hi hj hn) rfl rfl hd (fun H1 e1 e2 e3 => ?_)
  rw [th_nI_cl hi hj hn] at e1
  exact kk p e R s m args below meth c Q F Rt hf hlc H1 _ cells slots LS hc hs (hR.stI ha (by decide) e2 e3 e1) (hS.put e2 e3 (hR.inA ha)) hL
theorem ev_zast {a n j : Nat} {f : Nat → Option Nat} {i x : Int32} (hd : decode K.1 pc = .ok (.bastore, 1)) (ha : S.2.1 a = some (.inl (3, n, f))) (hi : i = nI j) (hj : j < n) (hn : n < 2 ^ 31) (hq : pc + 1 = q) (kk : EV G l K d bc bs q ls st (th_pI S a j (vp_nar .boolean x)) post) : EV G l K d bc bs pc ls (.int x :: .int i :: .ref a :: st) S post := by
  subst hq
  intro p e R s m args below meth c Q F Rt hf hlc H locs cells slots LS hc hs hR hS hL
  refine W.zast F.1 F.2.1 (hR.arr ha (by decide)) ((th_tyK F.2.2.2.2.2.2 (t := 3) (by decide)).1 n (fun j => .int (S.2.2 a j))) (fun q => by cases q) (by rw [arrV_size]; exact th_nI_in hi hj hn) rfl rfl hd (fun H1 e1 e2 e3 => ?_)
  rw [th_nI_cl hi hj hn] at e1
  exact kk p e R s m args below meth c Q F Rt hf hlc H1 _ cells slots LS hc hs (hR.stI ha (by decide) e2 e3 e1) (hS.put e2 e3 (hR.inA ha)) hL
theorem ev_aald {a n j b t : Nat} {f : Nat → Option Nat} {i : Int32} (hd : decode K.1 pc = .ok (.aaload, 1)) (ha : S.2.1 a = some (.inl (t, n, f))) (h4 : 4 ≤ t) (h6 : t < 6) (hi : i = nI j) (hj : j < n) (hn : n < 2 ^ 31) (hb : f j = some b) (hq : pc + 1 = q) (kk : EV G l K d bc bs q ls (.ref b :: st) S post) : EV G l K d bc bs pc ls (.int i :: .ref a :: st) S post := by
  subst hq
  intro p e R s m args below meth c Q F Rt hf hlc H locs cells slots LS hc hs hR hS hL
  have hty : (th_ty t).isReference = true := by
    rcases (show t = 4 ∨ t = 5 by omega) with rfl | rfl <;> rfl
  exact W.aald (v := .ref (th_ad G b)) (ty := th_ty t) F.1 F.2.1 (hR.arq ha h4) ((th_tyK F.2.2.2.2.2.2 h6).1 n (fun j => va_rf ((f j).map (th_ad G)))) hty (fun q => by cases q) (by rw [arrV_size]; exact th_nI_in hi hj hn) (by rw [th_nI_cl hi hj hn, arrV_read _ _ hj, hb]; rfl) rfl rfl hd (kk p e R s m args below meth c Q F Rt hf hlc H locs cells slots LS hc hs hR hS hL)
/-- a reference is stored: the object's class goes into the array's -/
def th_as (ci t : Nat) : Prop := (ci = 7 ∧ t = 4) ∨ (t = 5 ∧ ∃ (C : String) (T : u_T) (N : Nat), th_cl[ci]? = some (C, T, N) ∧ Cond.castable C "java/lang/Object" ∈ th_N)
theorem ev_aast {a n j b t ci : Nat} {f g : Nat → Option Nat} {i : Int32} (hd : decode K.1 pc = .ok (.aastore, 1)) (ha : S.2.1 a = some (.inl (t, n, f))) (hb : S.2.1 b = some (.inr (ci, g))) (has : th_as ci t) (hi : i = nI j) (hj : j < n) (hn : n < 2 ^ 31) (hq : pc + 1 = q) (kk : EV G l K d bc bs q ls st (th_pC S a (.inl (t, n, th_u f j b))) post) : EV G l K d bc bs pc ls (.ref b :: .int i :: .ref a :: st) S post := by
  subst hq
  intro p e R s m args below meth c Q F Rt hf hlc H locs cells slots LS hc hs hR hS hL
  have h4 : 4 ≤ t := by
    rcases has with ⟨-, rfl⟩ | ⟨rfl, -⟩ <;> decide
  have h6 : t < 6 := by
    rcases has with ⟨-, rfl⟩ | ⟨rfl, -⟩ <;> decide
  have hK := F.2.2.2.2.2.2.1
  have hob := hR.get hb
  obtain ⟨r, hr, cellV, g1, g2, g3, -⟩ := hob
  have hcls := (hK.1 ci r hr).2
  obtain ⟨C, hC, kA, comp, k1, k2, k3, hasg⟩ : ∃ (C : String), th_ty t = .object C ∧ ∃ (kA : Class) (comp : ClassId), s.vm.classes[G.2.2.2.1 t]? = some kA ∧ kA.kind = .array comp (.object C) ∧ s.vm.findClass C = some comp ∧ s.vm.assignable (G.2.2.1.1 ci) comp = true := by
    rcases has with ⟨rfl, rfl⟩ | ⟨rfl, C1, T1, N1, hcl1, hca⟩
    · obtain ⟨kA, comp, k1, k2, k3, -⟩ := (th_tyK F.2.2.2.2.2.2 h6).2
      have hr7 : r = (RX7, TX7, 4) := Option.some.inj (hr.symm.trans rfl)
      subst hr7
      have hcomp : comp = G.2.2.1.1 7 := Option.some.inj (k3.symm.trans hcls.1)
      subst hcomp
      exact ⟨_, rfl, kA, _, k1, k2, k3, va_assign hcls⟩
    · obtain ⟨kA, comp, k1, k2, k3, -⟩ := (th_tyK F.2.2.2.2.2.2 h6).2
      have hr1 : r = (C1, T1, N1) := Option.some.inj (hr.symm.trans hcl1)
      subst hr1
      obtain ⟨c0, t1, f1, f2, f3⟩ := Cond.castable_spec (va_Nw.use (A := args) rfl (F.2.2.2.2.2.2.2.1 _ hca))
      cases hcls.1.symm.trans f1
      cases k3.symm.trans f2
      exact ⟨_, rfl, kA, comp, k1, k2, k3, f3⟩
  obtain ⟨kE, hkE, -⟩ := Vm.findClass_spec k3
  obtain ⟨kC, hkC, -⟩ := hcls.2
  refine W.aast F.1 F.2.1 (hR.arq ha h4) (fun q h => by cases h) (fun h => by cases h) k1 k2 rfl hkE ⟨by rw [hi]; exact nI_pos (Nat.lt_trans hj hn), by rw [th_nI_cl hi hj hn, arrV_size]; exact hj⟩ g1 (fun q h => by rw [g3] at h; cases h) (by rw [g2]; exact hkC) (by rw [g2]; exact hasg) rfl rfl hd (fun H1 e1 e2 e3 => ?_)
  rw [th_nI_cl hi hj hn] at e1
  exact kk p e R s m args below meth c Q F Rt hf hlc H1 _ cells slots LS hc hs (hR.stQ ha h4 e2 e3 e1) (hS.put e2 e3 (hR.inA ha)) hL
theorem ev_alen {a n t : Nat} {f : Nat → Option Nat} (hd : decode K.1 pc = .ok (.arraylength, 1)) (ha : S.2.1 a = some (.inl (t, n, f))) (h6 : t < 6) (hq : pc + 1 = q) (kk : EV G l K d bc bs q ls (.int (nI n) :: st) S post) : EV G l K d bc bs pc ls (.ref a :: st) S post := by
  subst hq
  intro p e R s m args below meth c Q F Rt hf hlc H locs cells slots LS hc hs hR hS hL
  by_cases h4 : t < 4
  · exact W.alen (n := nI n) F.1 F.2.1 (hR.arr ha h4) ((th_tyK F.2.2.2.2.2.2 h6).1 n (fun j => .int (S.2.2 a j))) (by rw [arrV_size]; rfl) rfl rfl hd (kk p e R s m args below meth c Q F Rt hf hlc H locs cells slots LS hc hs hR hS hL)
  · exact W.alen (n := nI n) F.1 F.2.1 (hR.arq ha (Nat.le_of_not_lt h4)) ((th_tyK F.2.2.2.2.2.2 h6).1 n (fun j => va_rf ((f j).map (th_ad G)))) (by rw [arrV_size]; rfl) rfl rfl hd (kk p e R s m args below meth c Q F Rt hf hlc H locs cells slots LS hc hs hR hS hL)
/-! the old arrays: the script (0), NO_CELLS (1), the lists' empty array (2) -/
theorem ev_xalen {a n : Nat} (hd : decode K.1 pc = .ok (.arraylength, 1)) (ha : (a = 0 ∧ n = G.2.2.2.2.1) ∨ (a = 2 ∧ n = 0)) (hq : pc + 1 = q) (kk : EV G l K d bc bs q ls (.int (nI n) :: st) S post) : EV G l K d bc bs pc ls (.ref a :: st) S post := by
  subst hq
  intro p e R s m args below meth c Q F Rt hf hlc H locs cells slots LS hc hs hR hS hL
  obtain ⟨-, -, -, -, ⟨t0, t1, t2⟩, -⟩ := F.2.2.2.2.2.2
  have kept : ∀ (ty : FieldType) (t N : Nat) (f : Nat → Value), va_T ty t N f (th_A G) s s.heap → va_T ty t N f (th_A G) s H := fun ty t N f h => h.kept hS.2.1
  rcases ha with ⟨rfl, rfl⟩ | ⟨rfl, rfl⟩
  · obtain ⟨cell, h1, h2, h3, h4, h5, -⟩ := kept _ _ _ _ t0
    exact W.alen F.1 F.2.1 h1 h2 h5 rfl rfl hd (kk p e R s m args below meth c Q F Rt hf hlc H locs cells slots LS hc hs hR hS hL)
  · obtain ⟨cell, h1, h2, h3, h4, h5, -⟩ := kept _ _ _ _ t2
    exact W.alen F.1 F.2.1 h1 h2 h5 rfl rfl hd (kk p e R s m args below meth c Q F Rt hf hlc H locs cells slots LS hc hs hR hS hL)
theorem ev_xald {a n j : Nat} {g : Nat → Int32} {i : Int32} (hd : decode K.1 pc = .ok (.iaload, 1)) (ha : (a = 0 ∧ n = G.2.2.2.2.1 ∧ g = G.2.2.2.2.2) ∨ (a = 1 ∧ n = 5 ∧ g = fun _ => 0)) (hi : i = nI j) (hj : j < n) (hn : n < 2 ^ 31) (hq : pc + 1 = q) (kk : EV G l K d bc bs q ls (.int (g j) :: st) S post) : EV G l K d bc bs pc ls (.int i :: .ref a :: st) S post := by
  subst hq
  intro p e R s m args below meth c Q F Rt hf hlc H locs cells slots LS hc hs hR hS hL
  obtain ⟨-, -, -, -, ⟨t0, t1, t2⟩, -⟩ := F.2.2.2.2.2.2
  have kept : ∀ (ty : FieldType) (t N : Nat) (f : Nat → Value), va_T ty t N f (th_A G) s s.heap → va_T ty t N f (th_A G) s H := fun ty t N f h => h.kept hS.2.1
  rcases ha with ⟨rfl, rfl, rfl⟩ | ⟨rfl, rfl, rfl⟩
  · obtain ⟨cell, h1, h2, h3, h4, h5, h6, -⟩ := kept _ _ _ _ t0
    exact W.iald F.1 F.2.1 h1 h2 h3 (by rw [hi]; exact fun z => z.elim (nI_pos (Nat.lt_trans hj hn)) (fun y => by rw [nI_clamp (Nat.lt_trans hj hn)] at y; omega)) (by rw [th_nI_cl hi hj hn]; exact h6 j hj) rfl rfl hd (kk p e R s m args below meth c Q F Rt hf hlc H locs cells slots LS hc hs hR hS hL)
  · obtain ⟨cell, h1, h2, h3, h4, h5, h6, -⟩ := kept _ _ _ _ t1
    exact W.iald F.1 F.2.1 h1 h2 h3 (by rw [hi]; exact fun z => z.elim (nI_pos (Nat.lt_trans hj hn)) (fun y => by rw [nI_clamp (Nat.lt_trans hj hn)] at y; omega)) (by rw [th_nI_cl hi hj hn]; exact h6 j hj) rfl rfl hd (kk p e R s m args below meth c Q F Rt hf hlc H locs cells slots LS hc hs hR hS hL)
theorem ev_getNC {i : Nat} (hd : decode K.1 pc = .ok (.getstatic i, 3)) (hw : Cond.fieldLink K.2.1 i "TriggerHall" "NO_CELLS" "[I" ∈ th_W) (hq : pc + 3 = q) (kk : EV G l K d bc bs q ls (.ref 1 :: st) S post) : EV G l K d bc bs pc ls st S post := by
  subst hq
  intro p e R s m args below meth c Q F Rt hf hlc H locs cells slots LS hc hs hR hS hL
  obtain ⟨-, -, -, -, -, ⟨z1, z2⟩, -⟩ := F.2.2.2.2.2.2
  exact va_gets F.1 F.2.1 z1 hS F.2.2.2.1 (F.2.2.2.2.2.1 _ hw) (fun _ h => h) hd (kk p e R s m args below meth c Q F Rt hf hlc H locs cells slots LS hc hs hR hS hL)
theorem ev_getDC {i : Nat} (hd : decode K.1 pc = .ok (.getstatic i, 3)) (hw : Cond.fieldLink K.2.1 i th_AL "DEFAULTCAPACITY_EMPTY_ELEMENTDATA" "[Ljava/lang/Object;" ∈ th_W) (hq : pc + 3 = q) (kk : EV G l K d bc bs q ls (.ref 2 :: st) S post) : EV G l K d bc bs pc ls st S post := by
  subst hq
  intro p e R s m args below meth c Q F Rt hf hlc H locs cells slots LS hc hs hR hS hL
  obtain ⟨-, -, -, -, -, ⟨z1, z2⟩, -⟩ := F.2.2.2.2.2.2
  exact va_gets F.1 F.2.1 z2 hS F.2.2.2.1 (F.2.2.2.2.2.1 _ hw) (fun _ h => h) hd (kk p e R s m args below meth c Q F Rt hf hlc H locs cells slots LS hc hs hR hS hL)
/-! cells that are made -/
theorem ev_newa {t n : Nat} {i : Int32} {at0 : ArrayType} (hd : decode K.1 pc = .ok (.newarray at0, 2)) (hty : newarray.typeOf at0 = th_ty t) (ht : t < 4) (hw : Cond.arrayClass (th_ty t) ∈ th_W) (hi : i = nI n) (hn : n ≤ 1000) (hq : pc + 2 = q) (kk : EV G l K d bc bs q ls (.ref S.1 :: st) (th_nw S (.inl (t, n, fun _ => none))) post) : EV G l K d (bc + 1) (bs + n) pc ls (.int i :: st) S post := by
  subst hq
  intro p e R s m args below meth c Q F Rt hf hlc H locs cells slots LS hc hs hR hS hL
  have hnc : i.toNatClampNeg = n := by rw [hi]; exact nI_clamp (by omega)
  have hbig : n * componentBytes (newarray.typeOf at0) ≤ 536870912 := by
    have : componentBytes (newarray.typeOf at0) ≤ 8 := by
      rw [hty]
      rcases (show t = 0 ∨ t = 1 ∨ t = 2 ∨ t = 3 by omega) with rfl | rfl | rfl | rfl <;> decide
    exact Nat.le_trans (Nat.mul_le_mul hn this) (by decide)
  refine va_newaK F.1 F.2.1 (by rw [hty]; exact F.2.2.2.2.2.1 _ hw) rfl hd rfl (by rw [hi]; exact nI_pos (by omega)) hnc hbig (by omega) (by omega) rfl (fun H1 cA e1 z1 o1 hAr hNm => ?_)
  have hcA : cA = G.2.2.2.1 t := by
    have h2 := (th_tyK F.2.2.2.2.2.2 (t := t) (by omega)).2
    rw [hty] at hNm
    rcases (show t = 0 ∨ t = 1 ∨ t = 2 ∨ t = 3 by omega) with rfl | rfl | rfl | rfl <;> exact Option.some.inj (hNm.symm.trans h2)
  subst hcA
  obtain ⟨hR1, had⟩ := hR.push (c := .inl (t, n, fun _ => none)) z1 o1 (by
    have hb : Nat.blt t 4 = true := Nat.ble_eq_true_of_le ht
    simp only [th_e, hb, cond_true]
    show H1[H.size]? = some (vp_cell _ _)
    rw [e1, vp_cell_i, hty]
    rcases (show t = 0 ∨ t = 1 ∨ t = 2 ∨ t = 3 by omega) with rfl | rfl | rfl | rfl <;> rfl)
  have k1 := kk p e R s m args below meth c Q F Rt hf hlc H1 locs (cells + 1) (slots + n) LS (by omega) (by omega) hR1 (th_S_push hS z1 o1) hL
  simp only [List.map_cons, th_v, had] at k1
  exact k1
theorem ev_newq {t n i0 : Nat} {i : Int32} {C : String} (hd : decode K.1 pc = .ok (.anewarray i0, 3)) (ht : (t = 4 ∧ C = "TriggerHall$Sheet") ∨ (t = 5 ∧ C = "java/lang/Object")) (hw : Cond.classLink K.2.1 i0 C ∈ th_W) (hi : i = nI n) (hn : n ≤ 1000) (hq : pc + 3 = q) (kk : EV G l K d bc bs q ls (.ref S.1 :: st) (th_nw S (.inl (t, n, fun _ => none))) post) : EV G l K d (bc + 1) (bs + n) pc ls (.int i :: st) S post := by
  subst hq
  intro p e R s m args below meth c Q F Rt hf hlc H locs cells slots LS hc hs hR hS hL
  have hnc : i.toNatClampNeg = n := by rw [hi]; exact nI_clamp (by omega)
  have hAO : va_AO C s := by
    rcases ht with ⟨-, rfl⟩ | ⟨-, rfl⟩
    · exact F.2.2.2.2.2.2.2.2.2.1.2
    · exact F.2.2.2.2.2.2.2.2.2.1.1
  have htC : th_ty t = .object C := by rcases ht with ⟨rfl, rfl⟩ | ⟨rfl, rfl⟩ <;> rfl
  have h6 : t < 6 := by rcases ht with ⟨rfl, -⟩ | ⟨rfl, -⟩ <;> decide
  have h4 : 4 ≤ t := by rcases ht with ⟨rfl, -⟩ | ⟨rfl, -⟩ <;> decide
  refine W.anew F.1 F.2.1 F.2.2.2.1 (F.2.2.2.2.2.1 _ hw) (va_AO.use hAO) rfl hd rfl (by rw [hi]; exact nI_pos (by omega)) (by rw [hnc]; omega) (by omega) (by rw [hnc]; omega) (fun cA kA comp f1 f2 f3 f4 => ?_)
  have hcA : cA = G.2.2.2.1 t := by
    have h2 := (th_tyK F.2.2.2.2.2.2 (t := t) h6).2
    rw [htC] at h2
    obtain ⟨-, -, -, -, -, h3⟩ := h2
    exact Option.some.inj (f1.symm.trans h3)
  subst hcA
  rw [hnc]
  generalize hH1 : H.push ({ cls := G.2.2.2.1 t, slots := Array.replicate n .null, vm := .none } : Cell) = H1
  have z1 : H1.size = H.size + 1 := by rw [← hH1, Array.size_push]
  have e1 : H1[H.size]? = some (arrV (G.2.2.2.1 t) n (fun _ => .null)) := by rw [← hH1, Array.getElem?_push_size, ← arrV_new]
  have o1 : ∀ q : Nat, q < H.size → H1[q]? = H[q]? := fun q hq => by rw [← hH1, Array.getElem?_push, if_neg (Nat.ne_of_lt hq)]
  obtain ⟨hR1, had⟩ := hR.push (c := .inl (t, n, fun _ => none)) z1 o1 (by
    have hb : Nat.blt t 4 = false := by simp only [Nat.blt]; exact Bool.eq_false_iff.mpr (fun e => absurd (Nat.le_of_ble_eq_true e) (by omega))
    simp only [th_e, hb, cond_false]
    show H1[H.size]? = some (vp_cell _ _)
    rw [e1, vp_cell_q]
    rfl)
  have k1 := kk p e R s m args below meth c Q F Rt hf hlc H1 locs (cells + 1) (slots + n) LS (by omega) (by omega) hR1 (th_S_push hS z1 o1) hL
  simp only [List.map_cons, th_v, had] at k1
  exact k1
theorem th_dv : ∀ ci, ci < 12 → ∀ j, j < th_nf ci → defaultValue (th_ft ci j) = cond (th_ir ci j) .null (.int 0) := by decide
theorem ev_new {ci i N : Nat} {C : String} {T : u_T} (hd : decode K.1 pc = .ok (.new i, 3)) (hcl : th_cl[ci]? = some (C, T, N)) (w1 : Cond.classLink K.2.1 i C ∈ th_W) (w2 : Cond.instantiable C N ∈ th_W) (w3 : Cond.initialized C ∈ th_W) (hq : pc + 3 = q) (kk : EV G l K d bc bs q ls (.ref S.1 :: st) (th_nw S (.inr (ci, fun _ => none))) post) : EV G l K d (bc + 1) (bs + N) pc ls st S post := by
  subst hq
  intro p e R s m args below meth c Q F Rt hf hlc H locs cells slots LS hc hs hR hS hL
  have hts := F.2.2.2.2.2.1
  have hK := F.2.2.2.2.2.2.1
  obtain ⟨hin, hty, hnm, h4⟩ := th_cls hcl
  have hKn := hK.1 ci _ hcl
  refine W.newcK F.1 F.2.1 F.2.2.2.1 (hts _ w1) (hts _ w2) (hts _ w3) rfl hd (by omega) (by omega) hKn.2.1 rfl (fun H1 kC hkC e1 z1 o1 => ?_)
  have hci : ci < 12 := (List.getElem?_eq_some_iff.mp hcl).1
  obtain ⟨hR1, had⟩ := hR.push (c := .inr (ci, fun _ => none)) z1 o1 ⟨_, hcl, (u_born (th_ft ci) hts hin hKn hkC e1 hty).to (fun j hj => by
    have hj : j < N := hj
    show defaultValue (th_ft ci j) = ((List.range (th_nf ci)).map (th_fv G ci (fun _ => none) (fun _ => 0))).getD j .null
    rw [List.getD_eq_getElem?_getD, th_fs_get (by rw [← h4]; exact hj), th_dv ci hci j (by rw [← h4]; exact hj)]
    rfl)⟩
  have k1 := kk p e R s m args below meth c Q F Rt hf hlc H1 locs (cells + 1) (slots + N) LS (by omega) (by omega) hR1 (th_S_push hS z1 o1) hL
  simp only [List.map_cons, th_v, had] at k1
  exact k1
theorem ev_acmp_eq {a b : Nat} {off : Int} {t : Nat} (hd : decode K.1 pc = .ok (.if_acmp .eq off, 3)) (hq : pc + 3 = q) (ht : (pc : Int) + off = (t : Int)) (kt : th_ad G a = th_ad G b → EV G l K d bc bs t ls st S post) (kf : ¬ th_ad G a = th_ad G b → EV G l K d bc bs q ls st S post) : EV G l K d bc bs pc ls (.ref b :: .ref a :: st) S post := by
  subst hq
  intro p e R s m args below meth c Q F Rt hf hlc H locs cells slots LS hc hs hR hS hL
  exact lv_acmp_eq (rx := some (th_ad G a)) (ry := some (th_ad G b)) F.1 F.2.1 hd ht (fun h => kt (Option.some.inj h) p e R s m args below meth c Q F Rt hf hlc H locs cells slots LS hc hs hR hS hL) (fun h => kf (fun z => h (congrArg some z)) p e R s m args below meth c Q F Rt hf hlc H locs cells slots LS hc hs hR hS hL)
theorem ev_acmp_ne {a b : Nat} {off : Int} {t : Nat} (hd : decode K.1 pc = .ok (.if_acmp .ne off, 3)) (hq : pc + 3 = q) (ht : (pc : Int) + off = (t : Int)) (kt : ¬ th_ad G a = th_ad G b → EV G l K d bc bs t ls st S post) (kf : th_ad G a = th_ad G b → EV G l K d bc bs q ls st S post) : EV G l K d bc bs pc ls (.ref b :: .ref a :: st) S post := by
  subst hq
  intro p e R s m args below meth c Q F Rt hf hlc H locs cells slots LS hc hs hR hS hL
  exact lv_acmp_ne (rx := some (th_ad G a)) (ry := some (th_ad G b)) F.1 F.2.1 hd ht (fun h => kt (fun z => h (congrArg some z)) p e R s m args below meth c Q F Rt hf hlc H locs cells slots LS hc hs hR hS hL) (fun h => kf (Option.some.inj h) p e R s m args below meth c Q F Rt hf hlc H locs cells slots LS hc hs hR hS hL)
theorem ev_chk {a ci i : Nat} {f : Nat → Option Nat} {C : String} {T : u_T} {N : Nat} (hd : decode K.1 pc = .ok (.checkcast i, 3)) (ha : S.2.1 a = some (.inr (ci, f))) (hcl : th_cl[ci]? = some (C, T, N)) (hw : Cond.classLink K.2.1 i C ∈ th_W) (hq : pc + 3 = q) (kk : EV G l K d bc bs q ls (.ref a :: st) S post) : EV G l K d bc bs pc ls (.ref a :: st) S post := by
  subst hq
  intro p e R s m args below meth c Q F Rt hf hlc H locs cells slots LS hc hs hR hS hL
  have hK := F.2.2.2.2.2.2.1
  exact va_castS F.1 F.2.1 F.2.2.2.1 (F.2.2.2.2.2.1 _ hw) (hK.1 ci _ hcl).2 (va_recv hK (th_P1 (hR.get ha)) (q0 := 0) hcl rfl) hd (kk p e R s m args below meth c Q F Rt hf hlc H locs cells slots LS hc hs hR hS hL)
end EVA
end
section
/-! calls -/
def th_post (G : th_G) (P : Option Value → th_S → Prop) : State → Outcome → State → Prop := fun st oc t => (∃ (r : Option Value) (S' : th_S), oc = .returned (r.map (th_v G)) ∧ P r S' ∧ th_R G S' t.heap) ∧ va_F (th_A G) st t
theorem th_blind {G : th_G} {S : th_S} {As : List Value} : FrameBlind (va_Pc (As.map (th_v G)) (fun U => th_R G S U.heap ∧ th_Amb G U)) := by
  intro a U g mk h
  obtain ⟨h1, h2, h3⟩ := h
  exact ⟨h1, h2, h3.moved (U := U.calling g mk a) (State.WarmedH.refl U) (fun _ _ _ => rfl) h3.2.2.2.2.2.2.2⟩
theorem th_good {y : MethodName} {Ky : th_M} (h : Cond.code y Ky.1 Ky.2.2.1 Ky.2.2.2.1 ∈ th_W) : GoodIn th_W (Cond.code y Ky.1 Ky.2.2.1 Ky.2.2.2.1 :: th_W) := by
  intro w hw
  rcases List.mem_cons.mp hw with rfl | hw
  · exact ⟨h, good_of_word (List.mem_filter.mp h).2⟩
  · exact ⟨hw, good_of_word (List.mem_filter.mp hw).2⟩
/-- what a call needs of its callee: its code, its class, how many parameters -/
def th_cB (y : MethodName) (Ky : th_M) (n : Nat) : Prop := Cond.code y Ky.1 Ky.2.2.1 Ky.2.2.2.1 ∈ th_W ∧ Cond.initialized y.cls ∈ th_W ∧ (y.cls ≠ "java/lang/invoke/MethodHandle" ∧ y.cls ≠ "java/lang/invoke/VarHandle" ∧ (parseMethodDescriptor y.desc).map (fun d => d.parameters.length) = some n) ∧ Ky.2.2.1 ≤ 21
def th_lk (own : String) (i : Nat) (y : MethodName) : Prop := Cond.methodLink own i y ∈ th_W ∨ ∃ host, Cond.methodLinkNest own i y host ∈ th_N
def th_cV (own : String) (i : Nat) (y : MethodName) (Ky : th_M) (n : Nat) : Prop := th_cB y Ky n ∧ th_lk own i y ∧ Cond.instanceMethod y ∈ th_W ∧ Cond.selects y.cls y y ∈ th_W
def th_cS (own : String) (i : Nat) (y : MethodName) (Ky : th_M) (n : Nat) : Prop := th_cB y Ky n ∧ th_lk own i y ∧ Cond.static y ∈ th_W
def th_cI (own : String) (i : Nat) (y : MethodName) (Ky : th_M) (n : Nat) : Prop := th_cB y Ky n ∧ th_lk own i y ∧ Cond.instanceMethod y ∈ th_W ∧ y.name = "<init>" ∧ Ky.2.2.2.1 = none
theorem th_mapS {G : th_G} (r : Option Value) (st : List Value) : (r.toList ++ st).map (th_v G) = (r.map (th_v G)).toList ++ st.map (th_v G) := by cases r <;> simp
theorem th_catS {G : th_G} {st : List Value} (h : (st.map fun v => v.category).sum ≤ 8) : ((st.map (th_v G)).map fun v => v.category).sum ≤ 8 := by
  rw [List.map_map]
  have : ((fun v : Value => v.category) ∘ th_v G) = fun v => v.category := by funext v; exact th_v_cat G v
  rw [this]
  exact h
section EVC
variable {G : th_G} {l : Launch} {K : th_M} {d bc bs pc q : Nat} {ls : List (Option Value)} {st : List Value} {S : th_S} {post : Option Value → th_S → Prop}
theorem th_pre {p : Program} {s : State} {m : MethodId} {args : Array Value} {meth : Method} {c : Code} {H : Heap} {locs : List Loc} (F : th_Fix G K p s m args meth c) (hR : th_R G S H) (hS : va_S (th_A G) s.heap H locs) (As : List Value) : ∀ U : State, U.heap = H → s.WarmedH U.vm → va_Pc (As.map (th_v G)) (fun U => th_R G S U.heap ∧ th_Amb G U) (As.map (th_v G)).toArray U := by
  intro U hU hW
  have hAmb := F.2.2.2.2.2.2
  exact ⟨rfl, by rw [hU]; exact hR, hAmb.moved hW (by rw [hU]; exact hS.2.1) (by rw [hU]; exact Nat.le_trans hAmb.2.2.2.2.2.2.2 hS.1)⟩
theorem th_goes {p : Program} {e : Env} {R : Room} {s : State} {m : MethodId} {args : Array Value} {below : List Frame} {meth : Method} {c : Code} {Q : State → Prop} {H : Heap} {locs : List Loc} {cells slots mc ms : Nat} {LS : Array Slot} {rest st0 : List Value} {P : Option Value → th_S → Prop} (hr : va_Run p l e R s m args below meth c H locs cells slots mc ms (F0 m pc LS st0) rest (th_post G P) (th_A G)) (hS : va_S (th_A G) s.heap H locs)
    (kk : ∀ (r : Option Value) (S' : th_S) (H1 : Heap) (locs1 : List Loc), P r S' → th_R G S' H1 → va_S (th_A G) s.heap H1 locs1 → W p l e R s m args below meth c H1 locs1 (cells + mc) (slots + ms) Q (F0 m (pc + 3) LS ((r.map (th_v G)).toList ++ rest))) : W p l e R s m args below meth c H locs cells slots Q (F0 m pc LS st0) := by
  intro T hT X
  obtain ⟨v, st₀, t, T', L, h0, X', hL, e1, e2, ⟨⟨r, S', hv, hp, hR1⟩, hz, hk⟩, st⟩ := hr T hT X
  cases hv
  rw [h0] at hz hk
  obtain ⟨t2, a1, b1⟩ := kk r S' T'.heap (locs ++ L) hp (by rw [e1]; exact hR1)
    ⟨Nat.le_trans hS.1 (by rw [e1]; exact hz), fun q h1 h2 => by rw [e1, hk q (Nat.lt_of_lt_of_le h1 hS.1) h2]; exact hS.2.1 q h1 h2, fun q hq => by
      rcases List.mem_append.mp hq with h | h
      · exact hS.2.2 q h
      · exact hL q h⟩ T' rfl X'
  exact ⟨t2, st t2 a1, b1⟩
theorem th_goes5 {p : Program} {e : Env} {R : Room} {s : State} {m : MethodId} {args : Array Value} {below : List Frame} {meth : Method} {c : Code} {Q : State → Prop} {H : Heap} {locs : List Loc} {cells slots mc ms : Nat} {LS : Array Slot} {rest st0 : List Value} {P : Option Value → th_S → Prop} (hr : va_Run5 p l e R s m args below meth c H locs cells slots mc ms (F0 m pc LS st0) rest (th_post G P) (th_A G)) (hS : va_S (th_A G) s.heap H locs)
    (kk : ∀ (r : Option Value) (S' : th_S) (H1 : Heap) (locs1 : List Loc), P r S' → th_R G S' H1 → va_S (th_A G) s.heap H1 locs1 → W p l e R s m args below meth c H1 locs1 (cells + mc) (slots + ms) Q (F0 m (pc + 5) LS ((r.map (th_v G)).toList ++ rest))) : W p l e R s m args below meth c H locs cells slots Q (F0 m pc LS st0) := by
  intro T hT X
  obtain ⟨v, st₀, t, T', L, h0, X', hL, e1, e2, ⟨⟨r, S', hv, hp, hR1⟩, hz, hk⟩, st⟩ := hr T hT X
  cases hv
  rw [h0] at hz hk
  obtain ⟨t2, a1, b1⟩ := kk r S' T'.heap (locs ++ L) hp (by rw [e1]; exact hR1)
    ⟨Nat.le_trans hS.1 (by rw [e1]; exact hz), fun q h1 h2 => by rw [e1, hk q (Nat.lt_of_lt_of_le h1 hS.1) h2]; exact hS.2.1 q h1 h2, fun q hq => by
      rcases List.mem_append.mp hq with h | h
      · exact hS.2.2 q h
      · exact hL q h⟩ T' rfl X'
  exact ⟨t2, st t2 a1, b1⟩
theorem ev_cV {a i n ci d1 c1 s1 : Nat} {y : MethodName} {Ky : th_M} {As : List Value} {f : Nat → Option Nat} {T : u_T} {N : Nat} {P : Option Value → th_S → Prop} (hM : MT G l y Ky d1 c1 s1 (.ref a :: As) S P) (hd : decode K.1 pc = .ok (.invokevirtual i, 3)) (hw : th_cV K.2.1 i y Ky n) (ha : S.2.1 a = some (.inr (ci, f))) (hcl : th_cl[ci]? = some (y.cls, T, N)) (hn : As.length = n) (hst : (st.map fun v => v.category).sum ≤ 8) (hd1 : d1 + 1 ≤ d) (hq : pc + 3 = q) {st0 : List Value} (hst0 : As.reverse ++ .ref a :: st = st0) (kk : ∀ (r : Option Value) (S1 : th_S), P r S1 → EV G l K d bc bs q ls (r.toList ++ st) S1 post) : EV G l K d (bc + c1) (bs + s1) pc ls st0 S post := by
  subst hq
  intro p e R s m args below meth c Q F Rt hf hlc H locs cells slots LS hc hs hR hS hL
  have hts := F.2.2.2.2.2.1
  obtain ⟨⟨w1, w2, w3, w4⟩, hw⟩ := hw
  have hroom : d1 + 1 ≤ R.frames ∧ 8 + (Ky.2.2.1 + 11) + 40 * d1 ≤ R.locals := ⟨by omega, by omega⟩
  have hG := th_good (Ky := Ky) w1
  subst hst0
  obtain ⟨hl, hin, hse⟩ := hw
  have hK := F.2.2.2.2.2.2.1
  have hrecv := va_recv hK (th_P1 (hR.get ha)) (q0 := 0) hcl rfl
  have hstk : (As.reverse ++ .ref a :: st).map (th_v G) = (As.map (th_v G)).reverse ++ .ref (th_ad G a) :: st.map (th_v G) := by simp [th_v]
  rw [hstk]
  refine th_goes (P := P) (rest := st.map (th_v G)) (mc := c1) (ms := s1) ?_ hS (fun r S1 H1 locs1 hp hR1 hS1 => ?_)
  · rcases hl with hl | ⟨host, hl⟩
    · exact va_runV (As := As.map (th_v G)) (rest := st.map (th_v G)) (n := n) ⟨F.1, F.2.1, F.2.2.1, F.2.2.2.1, hts⟩ hM ⟨callB_of n hts hG rfl rfl rfl (hts _ w2) (hts _ hl) w3 hroom, hts _ hin, hts _ hse⟩ ⟨th_blind, hrecv, th_pre F hR hS (.ref a :: As)⟩ rfl (by simpa using hn) hL.1 rfl (lv_room (th_catS hst)) hd ⟨by omega, by omega⟩
    · exact va_runVN (As := As.map (th_v G)) (rest := st.map (th_v G)) (n := n) ⟨F.1, F.2.1, F.2.2.1, F.2.2.2.1, hts⟩ hM ⟨va_cnB n hts hG rfl rfl rfl (F.2.2.2.2.2.2.2.1 _ hl) (hts _ w2) w3 hroom, hts _ hin, hts _ hse⟩ ⟨th_blind, hrecv, th_pre F hR hS (.ref a :: As)⟩ rfl (by simpa using hn) hL.1 rfl (lv_room (th_catS hst)) hd ⟨by omega, by omega⟩
  · rw [← th_mapS]
    exact kk r S1 hp p e R s m args below meth c Q F Rt hf hlc H1 locs1 (cells + c1) (slots + s1) LS (by omega) (by omega) hR1 hS1 hL
theorem ev_cS {i n d1 c1 s1 : Nat} {y : MethodName} {Ky : th_M} {As : List Value} {P : Option Value → th_S → Prop} (hM : MT G l y Ky d1 c1 s1 As S P) (hd : decode K.1 pc = .ok (.invokestatic i, 3)) (hw : th_cS K.2.1 i y Ky n) (hn : As.length = n) (hst : (st.map fun v => v.category).sum ≤ 8) (hd1 : d1 + 1 ≤ d) (hq : pc + 3 = q) {st0 : List Value} (hst0 : As.reverse ++ st = st0) (kk : ∀ (r : Option Value) (S1 : th_S), P r S1 → EV G l K d bc bs q ls (r.toList ++ st) S1 post) : EV G l K d (bc + c1) (bs + s1) pc ls st0 S post := by
  subst hq
  intro p e R s m args below meth c Q F Rt hf hlc H locs cells slots LS hc hs hR hS hL
  have hts := F.2.2.2.2.2.1
  obtain ⟨⟨w1, w2, w3, w4⟩, hw⟩ := hw
  have hroom : d1 + 1 ≤ R.frames ∧ 8 + (Ky.2.2.1 + 11) + 40 * d1 ≤ R.locals := ⟨by omega, by omega⟩
  have hG := th_good (Ky := Ky) w1
  subst hst0
  obtain ⟨hl, hse⟩ := hw
  have hstk : (As.reverse ++ st).map (th_v G) = (As.map (th_v G)).reverse ++ st.map (th_v G) := by simp
  rw [hstk]
  refine th_goes (P := P) (rest := st.map (th_v G)) (mc := c1) (ms := s1) ?_ hS (fun r S1 H1 locs1 hp hR1 hS1 => ?_)
  · rcases hl with hl | ⟨host, hl⟩
    · exact va_runS (As := As.map (th_v G)) (rest := st.map (th_v G)) (n := n) ⟨F.1, F.2.1, F.2.2.1, F.2.2.2.1, hts⟩ hM ⟨callB_of n hts hG rfl rfl rfl (hts _ w2) (hts _ hl) w3 hroom, hts _ hse⟩ ⟨th_blind, th_pre F hR hS As⟩ rfl (by simpa using hn) hL.1 rfl (lv_room (th_catS hst)) hd ⟨by omega, by omega⟩
    · exact va_runSN (As := As.map (th_v G)) (rest := st.map (th_v G)) (n := n) ⟨F.1, F.2.1, F.2.2.1, F.2.2.2.1, hts⟩ hM ⟨va_cnB n hts hG rfl rfl rfl (F.2.2.2.2.2.2.2.1 _ hl) (hts _ w2) w3 hroom, hts _ hse, trivial⟩ ⟨th_blind, th_pre F hR hS As⟩ rfl (by simpa using hn) hL.1 rfl (lv_room (th_catS hst)) hd ⟨by omega, by omega⟩
  · rw [← th_mapS]
    exact kk r S1 hp p e R s m args below meth c Q F Rt hf hlc H1 locs1 (cells + c1) (slots + s1) LS (by omega) (by omega) hR1 hS1 hL
theorem ev_cI {a i n d1 c1 s1 : Nat} {y : MethodName} {Ky : th_M} {As : List Value} {P : Option Value → th_S → Prop} (hM : MT G l y Ky d1 c1 s1 (.ref a :: As) S P) (hd : decode K.1 pc = .ok (.invokespecial i, 3)) (hw : th_cI K.2.1 i y Ky n) (hn : As.length = n) (hst : (st.map fun v => v.category).sum ≤ 8) (hd1 : d1 + 1 ≤ d) (hq : pc + 3 = q) {st0 : List Value} (hst0 : As.reverse ++ .ref a :: st = st0) (kk : ∀ (r : Option Value) (S1 : th_S), P r S1 → EV G l K d bc bs q ls (r.toList ++ st) S1 post) : EV G l K d (bc + c1) (bs + s1) pc ls st0 S post := by
  subst hq
  intro p e R s m args below meth c Q F Rt hf hlc H locs cells slots LS hc hs hR hS hL
  have hts := F.2.2.2.2.2.1
  obtain ⟨⟨w1, w2, w3, w4⟩, hw⟩ := hw
  have hroom : d1 + 1 ≤ R.frames ∧ 8 + (Ky.2.2.1 + 11) + 40 * d1 ≤ R.locals := ⟨by omega, by omega⟩
  have hG := th_good (Ky := Ky) w1
  subst hst0
  obtain ⟨hl, hin, hnm, hret⟩ := hw
  obtain ⟨Kb, Ko, Kn, Kr, Km⟩ := Ky
  dsimp only at hret hroom w1 w4 hM hG
  subst hret
  have hstk : (As.reverse ++ .ref a :: st).map (th_v G) = (As.map (th_v G)).reverse ++ .ref (th_ad G a) :: st.map (th_v G) := by simp [th_v]
  rw [hstk]
  refine th_goes (P := P) (rest := st.map (th_v G)) (mc := c1) (ms := s1) ?_ hS (fun r S1 H1 locs1 hp hR1 hS1 => ?_)
  · rcases hl with hl | ⟨host, hl⟩
    · exact va_runI (As := As.map (th_v G)) (rest := st.map (th_v G)) (n := n) ⟨F.1, F.2.1, F.2.2.1, F.2.2.2.1, hts⟩ hM ⟨callB_of n hts hG rfl rfl rfl (hts _ w2) (hts _ hl) w3 hroom, hnm, hts _ hin⟩ ⟨th_blind, th_pre F hR hS (.ref a :: As)⟩ rfl (by simpa using hn) hL.1 rfl (lv_room (th_catS hst)) hd ⟨by omega, by omega⟩
    · exact va_runIN (As := As.map (th_v G)) (rest := st.map (th_v G)) (n := n) ⟨F.1, F.2.1, F.2.2.1, F.2.2.2.1, hts⟩ hM ⟨va_cnB n hts hG rfl rfl rfl (F.2.2.2.2.2.2.2.1 _ hl) (hts _ w2) w3 hroom, hnm, hts _ hin⟩ ⟨th_blind, th_pre F hR hS (.ref a :: As)⟩ rfl (by simpa using hn) hL.1 rfl (lv_room (th_catS hst)) hd ⟨by omega, by omega⟩
  · rw [← th_mapS]
    exact kk r S1 hp p e R s m args below meth c Q F Rt hf hlc H1 locs1 (cells + c1) (slots + s1) LS (by omega) (by omega) hR1 hS1 hL
def th_cF (own : String) (i : Nat) (x y : MethodName) (Ky : th_M) (n : Nat) : Prop := th_cB y Ky n ∧ Cond.methodLink own i x ∈ th_W ∧ Cond.selects th_AL x y ∈ th_W ∧ Cond.instanceMethod y ∈ th_W ∧ ((x = yLi_size ∧ y = yJx4a65c_size_8abf5) ∨ (x = yLi_get ∧ y = yJx4a65c_get_915e3) ∨ (x = yLi_add ∧ y = yJx4a65c_add_9ea2d))
theorem ev_cF {a i n cnt d1 c1 s1 : Nat} {x y : MethodName} {Ky : th_M} {As : List Value} {f : Nat → Option Nat} {P : Option Value → th_S → Prop} (hM : MT G l y Ky d1 c1 s1 (.ref a :: As) S P) (hd : decode K.1 pc = .ok (.invokeinterface i cnt, 5)) (hw : th_cF K.2.1 i x y Ky n) (ha : S.2.1 a = some (.inr (11, f))) (hn : As.length = n) (hst : (st.map fun v => v.category).sum ≤ 8) (hd1 : d1 + 1 ≤ d) (hq : pc + 5 = q) {st0 : List Value} (hst0 : As.reverse ++ .ref a :: st = st0) (kk : ∀ (r : Option Value) (S1 : th_S), P r S1 → EV G l K d bc bs q ls (r.toList ++ st) S1 post) : EV G l K d (bc + c1) (bs + s1) pc ls st0 S post := by
  subst hq
  intro p e R s m args below meth c Q F Rt hf hlc H locs cells slots LS hc hs hR hS hL
  have hts := F.2.2.2.2.2.1
  obtain ⟨⟨w1, w2, w3, w4⟩, hw⟩ := hw
  have hroom : d1 + 1 ≤ R.frames ∧ 8 + (Ky.2.2.1 + 11) + 40 * d1 ≤ R.locals := ⟨by omega, by omega⟩
  have hG := th_good (Ky := Ky) w1
  subst hst0
  obtain ⟨hl, hse, hin, hxy⟩ := hw
  have hAmb := F.2.2.2.2.2.2
  have hK := hAmb.1
  have hrecv := va_recv hK (th_P1 (hR.get ha)) (q0 := 0) (ci := 11) (q := (RJx4a65c, TJx4a65c, 3)) rfl rfl
  have hF : va_Fw th_AL x y s := by
    rcases hxy with ⟨rfl, rfl⟩ | ⟨rfl, rfl⟩ | ⟨rfl, rfl⟩
    · exact hAmb.2.2.1.1
    · exact hAmb.2.2.1.2.1
    · exact hAmb.2.2.1.2.2
  have hx3 : x.cls ≠ "java/lang/invoke/MethodHandle" ∧ x.cls ≠ "java/lang/invoke/VarHandle" ∧ (parseMethodDescriptor x.desc).map (fun d => d.parameters.length) = some n := by
    have hd2 := w3.2.2
    rcases hxy with ⟨rfl, rfl⟩ | ⟨rfl, rfl⟩ | ⟨rfl, rfl⟩
    · exact ⟨by decide, by decide, hd2⟩
    · exact ⟨by decide, by decide, hd2⟩
    · exact ⟨by decide, by decide, hd2⟩
  have hT : GoodIn th_W (va_wsF K.2.1 i th_AL x y (Cond.code y Ky.1 Ky.2.2.1 Ky.2.2.2.1 :: th_W)) := by
    intro w hw
    unfold va_wsF at hw
    rcases List.mem_append.mp hw with hw | hw
    · have hm : w ∈ th_W := by
        simp only [List.mem_cons, List.not_mem_nil, or_false] at hw
        rcases hw with rfl | rfl | rfl | rfl
        · exact hl
        · exact hse
        · exact hin
        · exact w2
      exact ⟨hm, good_of_word (List.mem_filter.mp hm).2⟩
    · exact hG w hw
  have hstk : (As.reverse ++ .ref a :: st).map (th_v G) = (As.map (th_v G)).reverse ++ .ref (th_ad G a) :: st.map (th_v G) := by simp [th_v]
  rw [hstk]
  refine th_goes5 (P := P) (rest := st.map (th_v G)) (mc := c1) (ms := s1) ?_ hS (fun r S1 H1 locs1 hp hR1 hS1 => ?_)
  · exact va_runF (As := As.map (th_v G)) (rest := st.map (th_v G)) (n := n) (hK.1 11 _ rfl).2 ⟨F.1, F.2.1, F.2.2.1, F.2.2.2.1, hts⟩ hM (va_cwF n hts hT rfl rfl rfl hF hx3 hroom) ⟨th_blind, hrecv, th_pre F hR hS (.ref a :: As)⟩ rfl (by simpa using hn) hL.1 rfl (lv_room (th_catS hst)) hd ⟨by omega, by omega⟩
  · rw [← th_mapS]
    exact kk r S1 hp p e R s m args below meth c Q F Rt hf hlc H1 locs1 (cells + c1) (slots + s1) LS (by omega) (by omega) hR1 hS1 hL
theorem ev_oI {a i : Nat} (hd : decode K.1 pc = .ok (.invokespecial i, 3)) (h1 : Cond.methodLink K.2.1 i objectInit ∈ th_W) (h2 : Cond.instanceMethod objectInit ∈ th_W) (h3 : Cond.code objectInit ⟨#[0xb1]⟩ 1 none ∈ th_W) (hst : (st.map fun v => v.category).sum ≤ 8) (hd1 : 1 ≤ d) (hq : pc + 3 = q) (kk : EV G l K d bc bs q ls st S post) : EV G l K d bc bs pc ls (.ref a :: st) S post := by
  subst hq
  intro p e R s m args below meth c Q F Rt hf hlc H locs cells slots LS hc hs hR hS hL
  have hts := F.2.2.2.2.2.1
  have h8 := lv_room (m := m) (pc := pc) (ls := LS) (rest := []) (th_catS (G := G) hst)
  exact W.objInit F.1 F.2.1 F.2.2.2.1 (hts _ h1) (hts _ h2) (hts _ h3) rfl (by rw [F.2.2.1]; exact hL.1) rfl hd (by omega) (by
    have : 2 * (F0 m pc LS (List.map (th_v G) (Value.ref a :: st))).monitorRoom + ((st.map (th_v G)).map fun v => v.category).sum ≤ 8 := lv_room (th_catS hst)
    omega) (kk p e R s m args below meth c Q F Rt hf hlc H locs cells slots LS hc hs hR hS hL)
end EVC
end
section
/-! the methods, and what their instructions link: printed by program -/
abbrev kX0_init : th_M := (cX0_init, RX0, 1, none, "<init>")
set_option maxRecDepth 20000 in
theorem bX0_init : th_cB yX0_init kX0_init 0 := ⟨(th_mW 88 (by decide +kernel) rfl), (th_mW 7 (by decide +kernel) rfl), ⟨by decide, by decide, (by decide +kernel)⟩, by decide⟩
abbrev kX0_along : th_M := (cX0_along, RX0, 5, none, "along")
set_option maxRecDepth 20000 in
theorem bX0_along : th_cB yX0_along kX0_along 2 := ⟨(th_mW 517 (by decide +kernel) rfl), (th_mW 7 (by decide +kernel) rfl), ⟨by decide, by decide, (by decide +kernel)⟩, by decide⟩
abbrev kX0_tryCells : th_M := (cX0_tryCells, RX0, 7, none, "tryCells")
set_option maxRecDepth 20000 in
theorem bX0_tryCells : th_cB yX0_tryCells kX0_tryCells 4 := ⟨(th_mW 523 (by decide +kernel) rfl), (th_mW 7 (by decide +kernel) rfl), ⟨by decide, by decide, (by decide +kernel)⟩, by decide⟩
abbrev kX0_isPerfect : th_M := (cX0_isPerfect, RX0, 1, (some .boolean), "isPerfect")
set_option maxRecDepth 20000 in
theorem bX0_isPerfect : th_cB yX0_isPerfect kX0_isPerfect 0 := ⟨(th_mW 535 (by decide +kernel) rfl), (th_mW 7 (by decide +kernel) rfl), ⟨by decide, by decide, (by decide +kernel)⟩, by decide⟩
abbrev kX0_takeTrial : th_M := (cX0_takeTrial, RX0, 7, none, "takeTrial")
set_option maxRecDepth 20000 in
theorem bX0_takeTrial : th_cB yX0_takeTrial kX0_takeTrial 3 := ⟨(th_mW 527 (by decide +kernel) rfl), (th_mW 7 (by decide +kernel) rfl), ⟨by decide, by decide, (by decide +kernel)⟩, by decide⟩
abbrev kX0_above : th_M := (cX0_above, RX0, 1, (some .int), "above")
set_option maxRecDepth 20000 in
theorem bX0_above : th_cB yX0_above kX0_above 0 := ⟨(th_mW 543 (by decide +kernel) rfl), (th_mW 7 (by decide +kernel) rfl), ⟨by decide, by decide, (by decide +kernel)⟩, by decide⟩
abbrev kX0_below : th_M := (cX0_below, RX0, 1, (some .int), "below")
set_option maxRecDepth 20000 in
theorem bX0_below : th_cB yX0_below kX0_below 0 := ⟨(th_mW 547 (by decide +kernel) rfl), (th_mW 7 (by decide +kernel) rfl), ⟨by decide, by decide, (by decide +kernel)⟩, by decide⟩
abbrev kX0_worth : th_M := (cX0_worth, RX0, 1, (some .int), "worth")
set_option maxRecDepth 20000 in
theorem bX0_worth : th_cB yX0_worth kX0_worth 0 := ⟨(th_mW 560 (by decide +kernel) rfl), (th_mW 7 (by decide +kernel) rfl), ⟨by decide, by decide, (by decide +kernel)⟩, by decide⟩
abbrev kX1_init : th_M := (cX1_init, RX1, 1, none, "<init>")
set_option maxRecDepth 20000 in
theorem bX1_init : th_cB yX1_init kX1_init 0 := ⟨(th_mW 118 (by decide +kernel) rfl), (th_mW 8 (by decide +kernel) rfl), ⟨by decide, by decide, (by decide +kernel)⟩, by decide⟩
abbrev kX1_empty : th_M := (cX1_empty, RX1, 1, none, "empty")
set_option maxRecDepth 20000 in
theorem bX1_empty : th_cB yX1_empty kX1_empty 0 := ⟨(th_mW 577 (by decide +kernel) rfl), (th_mW 8 (by decide +kernel) rfl), ⟨by decide, by decide, (by decide +kernel)⟩, by decide⟩
abbrev kX1_put : th_M := (cX1_put, RX1, 4, none, "put")
set_option maxRecDepth 20000 in
theorem bX1_put : th_cB yX1_put kX1_put 2 := ⟨(th_mW 583 (by decide +kernel) rfl), (th_mW 8 (by decide +kernel) rfl), ⟨by decide, by decide, (by decide +kernel)⟩, by decide⟩
abbrev kX1_clash : th_M := (cX1_clash, RX1, 5, (some .boolean), "clash")
set_option maxRecDepth 20000 in
theorem bX1_clash : th_cB yX1_clash kX1_clash 2 := ⟨(th_mW 587 (by decide +kernel) rfl), (th_mW 8 (by decide +kernel) rfl), ⟨by decide, by decide, (by decide +kernel)⟩, by decide⟩
abbrev kX1_choose : th_M := (cX1_choose, RX1, 1, none, "choose")
set_option maxRecDepth 20000 in
theorem bX1_choose : th_cB yX1_choose kX1_choose 0 := ⟨(th_mW 591 (by decide +kernel) rfl), (th_mW 8 (by decide +kernel) rfl), ⟨by decide, by decide, (by decide +kernel)⟩, by decide⟩
abbrev kX1_chooseFrom : th_M := (cX1_chooseFrom, RX1, 4, none, "chooseFrom")
set_option maxRecDepth 20000 in
theorem bX1_chooseFrom : th_cB yX1_chooseFrom kX1_chooseFrom 3 := ⟨(th_mW 595 (by decide +kernel) rfl), (th_mW 8 (by decide +kernel) rfl), ⟨by decide, by decide, (by decide +kernel)⟩, by decide⟩
abbrev kX2_init : th_M := (cX2_init, RX2, 4, none, "<init>")
set_option maxRecDepth 20000 in
theorem bX2_init : th_cB yX2_init kX2_init 3 := ⟨(th_mW 683 (by decide +kernel) rfl), (th_mW 21 (by decide +kernel) rfl), ⟨by decide, by decide, (by decide +kernel)⟩, by decide⟩
abbrev kX2_countPasses : th_M := (cX2_countPasses, RX2, 1, (some .boolean), "countPasses")
set_option maxRecDepth 20000 in
theorem bX2_countPasses : th_cB yX2_countPasses kX2_countPasses 0 := ⟨(th_mW 760 (by decide +kernel) rfl), (th_mW 21 (by decide +kernel) rfl), ⟨by decide, by decide, (by decide +kernel)⟩, by decide⟩
abbrev kX2_credit : th_M := (cX2_credit, RX2, 2, none, "credit")
set_option maxRecDepth 20000 in
theorem bX2_credit : th_cB yX2_credit kX2_credit 1 := ⟨(th_mW 772 (by decide +kernel) rfl), (th_mW 21 (by decide +kernel) rfl), ⟨by decide, by decide, (by decide +kernel)⟩, by decide⟩
abbrev kX2_forget : th_M := (cX2_forget, RX2, 1, none, "forget")
set_option maxRecDepth 20000 in
theorem bX2_forget : th_cB yX2_forget kX2_forget 0 := ⟨(th_mW 829 (by decide +kernel) rfl), (th_mW 21 (by decide +kernel) rfl), ⟨by decide, by decide, (by decide +kernel)⟩, by decide⟩
abbrev kX3_init : th_M := (cX3_init, RX3, 1, none, "<init>")
set_option maxRecDepth 20000 in
theorem bX3_init : th_cB yX3_init kX3_init 0 := ⟨(th_mW 82 (by decide +kernel) rfl), (th_mW 6 (by decide +kernel) rfl), ⟨by decide, by decide, (by decide +kernel)⟩, by decide⟩
abbrev kX3_see : th_M := (cX3_see, RX3, 5, none, "see")
set_option maxRecDepth 20000 in
theorem bX3_see : th_cB yX3_see kX3_see 3 := ⟨(th_mW 474 (by decide +kernel) rfl), (th_mW 6 (by decide +kernel) rfl), ⟨by decide, by decide, (by decide +kernel)⟩, by decide⟩
abbrev kX3_light : th_M := (cX3_light, RX3, 3, none, "light")
set_option maxRecDepth 20000 in
theorem bX3_light : th_cB yX3_light kX3_light 1 := ⟨(th_mW 478 (by decide +kernel) rfl), (th_mW 6 (by decide +kernel) rfl), ⟨by decide, by decide, (by decide +kernel)⟩, by decide⟩
abbrev kX3_fitAlong : th_M := (cX3_fitAlong, RX3, 2, (some .boolean), "fitAlong")
set_option maxRecDepth 20000 in
theorem bX3_fitAlong : th_cB yX3_fitAlong kX3_fitAlong 1 := ⟨(th_mW 513 (by decide +kernel) rfl), (th_mW 6 (by decide +kernel) rfl), ⟨by decide, by decide, (by decide +kernel)⟩, by decide⟩
abbrev kX3_pile : th_M := (cX3_pile, RX3, 4, none, "pile")
set_option maxRecDepth 20000 in
theorem bX3_pile : th_cB yX3_pile kX3_pile 1 := ⟨(th_mW 573 (by decide +kernel) rfl), (th_mW 6 (by decide +kernel) rfl), ⟨by decide, by decide, (by decide +kernel)⟩, by decide⟩
abbrev kX3_layersSeen : th_M := (cX3_layersSeen, RX3, 6, (some .int), "layersSeen")
set_option maxRecDepth 20000 in
theorem bX3_layersSeen : th_cB yX3_layersSeen kX3_layersSeen 0 := ⟨(th_mW 674 (by decide +kernel) rfl), (th_mW 6 (by decide +kernel) rfl), ⟨by decide, by decide, (by decide +kernel)⟩, by decide⟩
abbrev kX3_answers : th_M := (cX3_answers, RX3, 3, (some .boolean), "answers")
set_option maxRecDepth 20000 in
theorem bX3_answers : th_cB yX3_answers kX3_answers 2 := ⟨(th_mW 668 (by decide +kernel) rfl), (th_mW 6 (by decide +kernel) rfl), ⟨by decide, by decide, (by decide +kernel)⟩, by decide⟩
abbrev kX4_init : th_M := (cX4_init, RX4, 1, none, "<init>")
set_option maxRecDepth 20000 in
theorem bX4_init : th_cB yX4_init kX4_init 0 := ⟨(th_mW 203 (by decide +kernel) rfl), (th_mW 11 (by decide +kernel) rfl), ⟨by decide, by decide, (by decide +kernel)⟩, by decide⟩
abbrev kX4_size : th_M := (cX4_size, RX4, 1, (some .int), "size")
set_option maxRecDepth 20000 in
theorem bX4_size : th_cB yX4_size kX4_size 0 := ⟨(th_mW 795 (by decide +kernel) rfl), (th_mW 11 (by decide +kernel) rfl), ⟨by decide, by decide, (by decide +kernel)⟩, by decide⟩
abbrev kX4_has : th_M := (cX4_has, RX4, 2, (some .boolean), "has")
set_option maxRecDepth 20000 in
theorem bX4_has : th_cB yX4_has kX4_has 1 := ⟨(th_mW 804 (by decide +kernel) rfl), (th_mW 11 (by decide +kernel) rfl), ⟨by decide, by decide, (by decide +kernel)⟩, by decide⟩
abbrev kX4_slotOf : th_M := (cX4_slotOf, RX4, 2, (some .int), "slotOf")
set_option maxRecDepth 20000 in
theorem bX4_slotOf : th_cB yX4_slotOf kX4_slotOf 1 := ⟨(th_mW 780 (by decide +kernel) rfl), (th_mW 11 (by decide +kernel) rfl), ⟨by decide, by decide, (by decide +kernel)⟩, by decide⟩
abbrev kX4_keep : th_M := (cX4_keep, RX4, 6, none, "keep")
set_option maxRecDepth 20000 in
theorem bX4_keep : th_cB yX4_keep kX4_keep 3 := ⟨(th_mW 776 (by decide +kernel) rfl), (th_mW 11 (by decide +kernel) rfl), ⟨by decide, by decide, (by decide +kernel)⟩, by decide⟩
abbrev kX4_numberOf : th_M := (cX4_numberOf, RX4, 2, (some .int), "numberOf")
set_option maxRecDepth 20000 in
theorem bX4_numberOf : th_cB yX4_numberOf kX4_numberOf 1 := ⟨(th_mW 809 (by decide +kernel) rfl), (th_mW 11 (by decide +kernel) rfl), ⟨by decide, by decide, (by decide +kernel)⟩, by decide⟩
abbrev kX4_passedAt : th_M := (cX4_passedAt, RX4, 2, (some .int), "passedAt")
set_option maxRecDepth 20000 in
theorem bX4_passedAt : th_cB yX4_passedAt kX4_passedAt 1 := ⟨(th_mW 813 (by decide +kernel) rfl), (th_mW 11 (by decide +kernel) rfl), ⟨by decide, by decide, (by decide +kernel)⟩, by decide⟩
abbrev kX4_copyHits : th_M := (cX4_copyHits, RX4, 5, none, "copyHits")
set_option maxRecDepth 20000 in
theorem bX4_copyHits : th_cB yX4_copyHits kX4_copyHits 2 := ⟨(th_mW 817 (by decide +kernel) rfl), (th_mW 11 (by decide +kernel) rfl), ⟨by decide, by decide, (by decide +kernel)⟩, by decide⟩
abbrev kX5_init : th_M := (cX5_init, RX5, 1, none, "<init>")
set_option maxRecDepth 20000 in
theorem bX5_init : th_cB yX5_init kX5_init 0 := ⟨(th_mW 183 (by decide +kernel) rfl), (th_mW 10 (by decide +kernel) rfl), ⟨by decide, by decide, (by decide +kernel)⟩, by decide⟩
abbrev kX5_read : th_M := (cX5_read, RX5, 4, (some .boolean), "read")
set_option maxRecDepth 20000 in
theorem bX5_read : th_cB yX5_read kX5_read 2 := ⟨(th_mW 630 (by decide +kernel) rfl), (th_mW 10 (by decide +kernel) rfl), ⟨by decide, by decide, (by decide +kernel)⟩, by decide⟩
abbrev kX5_readAny : th_M := (cX5_readAny, RX5, 5, (some .boolean), "readAny")
set_option maxRecDepth 20000 in
theorem bX5_readAny : th_cB yX5_readAny kX5_readAny 1 := ⟨(th_mW 634 (by decide +kernel) rfl), (th_mW 10 (by decide +kernel) rfl), ⟨by decide, by decide, (by decide +kernel)⟩, by decide⟩
abbrev kX5_readBoth : th_M := (cX5_readBoth, RX5, 5, (some .boolean), "readBoth")
set_option maxRecDepth 20000 in
theorem bX5_readBoth : th_cB yX5_readBoth kX5_readBoth 1 := ⟨(th_mW 638 (by decide +kernel) rfl), (th_mW 10 (by decide +kernel) rfl), ⟨by decide, by decide, (by decide +kernel)⟩, by decide⟩
abbrev kX5_readOne : th_M := (cX5_readOne, RX5, 4, (some .boolean), "readOne")
set_option maxRecDepth 20000 in
theorem bX5_readOne : th_cB yX5_readOne kX5_readOne 1 := ⟨(th_mW 642 (by decide +kernel) rfl), (th_mW 10 (by decide +kernel) rfl), ⟨by decide, by decide, (by decide +kernel)⟩, by decide⟩
abbrev kX5_readAsked : th_M := (cX5_readAsked, RX5, 3, (some .boolean), "readAsked")
set_option maxRecDepth 20000 in
theorem bX5_readAsked : th_cB yX5_readAsked kX5_readAsked 0 := ⟨(th_mW 650 (by decide +kernel) rfl), (th_mW 10 (by decide +kernel) rfl), ⟨by decide, by decide, (by decide +kernel)⟩, by decide⟩
abbrev kX5_canAsk : th_M := (cX5_canAsk, RX5, 1, (some .boolean), "canAsk")
set_option maxRecDepth 20000 in
theorem bX5_canAsk : th_cB yX5_canAsk kX5_canAsk 1 := ⟨(th_mW 653 (by decide +kernel) rfl), (th_mW 10 (by decide +kernel) rfl), ⟨by decide, by decide, (by decide +kernel)⟩, by decide⟩
abbrev kX5_readNumber : th_M := (cX5_readNumber, RX5, 3, (some .int), "readNumber")
set_option maxRecDepth 20000 in
theorem bX5_readNumber : th_cB yX5_readNumber kX5_readNumber 0 := ⟨(th_mW 661 (by decide +kernel) rfl), (th_mW 10 (by decide +kernel) rfl), ⟨by decide, by decide, (by decide +kernel)⟩, by decide⟩
abbrev kX5_isFigure : th_M := (cX5_isFigure, RX5, 1, (some .boolean), "isFigure")
set_option maxRecDepth 20000 in
theorem bX5_isFigure : th_cB yX5_isFigure kX5_isFigure 1 := ⟨(th_mW 664 (by decide +kernel) rfl), (th_mW 10 (by decide +kernel) rfl), ⟨by decide, by decide, (by decide +kernel)⟩, by decide⟩
abbrev kX5_passOver : th_M := (cX5_passOver, RX5, 2, (some .boolean), "passOver")
set_option maxRecDepth 20000 in
theorem bX5_passOver : th_cB yX5_passOver kX5_passOver 1 := ⟨(th_mW 678 (by decide +kernel) rfl), (th_mW 10 (by decide +kernel) rfl), ⟨by decide, by decide, (by decide +kernel)⟩, by decide⟩
abbrev kX5_fail : th_M := (cX5_fail, RX5, 1, (some .boolean), "fail")
set_option maxRecDepth 20000 in
theorem bX5_fail : th_cB yX5_fail kX5_fail 0 := ⟨(th_mW 657 (by decide +kernel) rfl), (th_mW 10 (by decide +kernel) rfl), ⟨by decide, by decide, (by decide +kernel)⟩, by decide⟩
abbrev kX6_init : th_M := (cX6_init, RX6, 2, none, "<init>")
set_option maxRecDepth 20000 in
theorem bX6_init : th_cB yX6_init kX6_init 1 := ⟨(th_mW 354 (by decide +kernel) rfl), (th_mW 14 (by decide +kernel) rfl), ⟨by decide, by decide, (by decide +kernel)⟩, by decide⟩
abbrev kX6_setSpan : th_M := (cX6_setSpan, RX6, 3, none, "setSpan")
set_option maxRecDepth 20000 in
theorem bX6_setSpan : th_cB yX6_setSpan kX6_setSpan 2 := ⟨(th_mW 369 (by decide +kernel) rfl), (th_mW 14 (by decide +kernel) rfl), ⟨by decide, by decide, (by decide +kernel)⟩, by decide⟩
abbrev kX6_spanTold : th_M := (cX6_spanTold, RX6, 2, (some .int), "spanTold")
set_option maxRecDepth 20000 in
theorem bX6_spanTold : th_cB yX6_spanTold kX6_spanTold 1 := ⟨(th_mW 466 (by decide +kernel) rfl), (th_mW 14 (by decide +kernel) rfl), ⟨by decide, by decide, (by decide +kernel)⟩, by decide⟩
abbrev kX6_seenIn : th_M := (cX6_seenIn, RX6, 5, (some .int), "seenIn")
set_option maxRecDepth 20000 in
theorem bX6_seenIn : th_cB yX6_seenIn kX6_seenIn 2 := ⟨(th_mW 495 (by decide +kernel) rfl), (th_mW 14 (by decide +kernel) rfl), ⟨by decide, by decide, (by decide +kernel)⟩, by decide⟩
abbrev kX6_layersHeld : th_M := (cX6_layersHeld, RX6, 4, (some .int), "layersHeld")
set_option maxRecDepth 20000 in
theorem bX6_layersHeld : th_cB yX6_layersHeld kX6_layersHeld 1 := ⟨(th_mW 491 (by decide +kernel) rfl), (th_mW 14 (by decide +kernel) rfl), ⟨by decide, by decide, (by decide +kernel)⟩, by decide⟩
abbrev kX6_isLit : th_M := (cX6_isLit, RX6, 2, (some .boolean), "isLit")
set_option maxRecDepth 20000 in
theorem bX6_isLit : th_cB yX6_isLit kX6_isLit 1 := ⟨(th_mW 487 (by decide +kernel) rfl), (th_mW 14 (by decide +kernel) rfl), ⟨by decide, by decide, (by decide +kernel)⟩, by decide⟩
abbrev kX7_init : th_M := (cX7_init, RX7, 1, none, "<init>")
set_option maxRecDepth 20000 in
theorem bX7_init : th_cB yX7_init kX7_init 0 := ⟨(th_mW 35 (by decide +kernel) rfl), (th_mW 2 (by decide +kernel) rfl), ⟨by decide, by decide, (by decide +kernel)⟩, by decide⟩
abbrev kX7_lay : th_M := (cX7_lay, RX7, 4, none, "lay")
set_option maxRecDepth 20000 in
theorem bX7_lay : th_cB yX7_lay kX7_lay 2 := ⟨(th_mW 279 (by decide +kernel) rfl), (th_mW 2 (by decide +kernel) rfl), ⟨by decide, by decide, (by decide +kernel)⟩, by decide⟩
abbrev kX7_has : th_M := (cX7_has, RX7, 2, (some .boolean), "has")
set_option maxRecDepth 20000 in
theorem bX7_has : th_cB yX7_has kX7_has 1 := ⟨(th_mW 287 (by decide +kernel) rfl), (th_mW 2 (by decide +kernel) rfl), ⟨by decide, by decide, (by decide +kernel)⟩, by decide⟩
abbrev kX7_numberAt : th_M := (cX7_numberAt, RX7, 2, (some .int), "numberAt")
set_option maxRecDepth 20000 in
theorem bX7_numberAt : th_cB yX7_numberAt kX7_numberAt 1 := ⟨(th_mW 321 (by decide +kernel) rfl), (th_mW 2 (by decide +kernel) rfl), ⟨by decide, by decide, (by decide +kernel)⟩, by decide⟩
abbrev kX7_put : th_M := (cX7_put, RX7, 3, none, "put")
set_option maxRecDepth 20000 in
theorem bX7_put : th_cB yX7_put kX7_put 2 := ⟨(th_mW 291 (by decide +kernel) rfl), (th_mW 2 (by decide +kernel) rfl), ⟨by decide, by decide, (by decide +kernel)⟩, by decide⟩
abbrev kX8_init : th_M := (cX8_init, RX8, 1, none, "<init>")
set_option maxRecDepth 20000 in
theorem bX8_init : th_cB yX8_init kX8_init 0 := ⟨(th_mW 167 (by decide +kernel) rfl), (th_mW 9 (by decide +kernel) rfl), ⟨by decide, by decide, (by decide +kernel)⟩, by decide⟩
abbrev kX8_put : th_M := (cX8_put, RX8, 2, none, "put")
set_option maxRecDepth 20000 in
theorem bX8_put : th_cB yX8_put kX8_put 1 := ⟨(th_mW 615 (by decide +kernel) rfl), (th_mW 9 (by decide +kernel) rfl), ⟨by decide, by decide, (by decide +kernel)⟩, by decide⟩
abbrev kX8_copy : th_M := (cX8_copy, RX8, 3, none, "copy")
set_option maxRecDepth 20000 in
theorem bX8_copy : th_cB yX8_copy kX8_copy 1 := ⟨(th_mW 690 (by decide +kernel) rfl), (th_mW 9 (by decide +kernel) rfl), ⟨by decide, by decide, (by decide +kernel)⟩, by decide⟩
abbrev kX8_letterAt : th_M := (cX8_letterAt, RX8, 2, (some .int), "letterAt")
set_option maxRecDepth 20000 in
theorem bX8_letterAt : th_cB yX8_letterAt kX8_letterAt 1 := ⟨(th_mW 646 (by decide +kernel) rfl), (th_mW 9 (by decide +kernel) rfl), ⟨by decide, by decide, (by decide +kernel)⟩, by decide⟩
abbrev kX9_init : th_M := (cX9_init, RX9, 1, none, "<init>")
set_option maxRecDepth 20000 in
theorem bX9_init : th_cB yX9_init kX9_init 0 := ⟨(th_mW 26 (by decide +kernel) rfl), (th_mW 1 (by decide +kernel) rfl), ⟨by decide, by decide, (by decide +kernel)⟩, by decide⟩
abbrev kX9_sheet : th_M := (cX9_sheet, RX9, 5, (some .int), "sheet")
set_option maxRecDepth 20000 in
theorem bX9_sheet : th_cB yX9_sheet kX9_sheet 3 := ⟨(th_mW 271 (by decide +kernel) rfl), (th_mW 1 (by decide +kernel) rfl), ⟨by decide, by decide, (by decide +kernel)⟩, by decide⟩
abbrev kX9_cell : th_M := (cX9_cell, RX9, 5, (some .int), "cell")
set_option maxRecDepth 20000 in
theorem bX9_cell : th_cB yX9_cell kX9_cell 3 := ⟨(th_mW 283 (by decide +kernel) rfl), (th_mW 1 (by decide +kernel) rfl), ⟨by decide, by decide, (by decide +kernel)⟩, by decide⟩
abbrev kX9_lose : th_M := (cX9_lose, RX9, 3, (some .int), "lose")
set_option maxRecDepth 20000 in
theorem bX9_lose : th_cB yX9_lose kX9_lose 1 := ⟨(th_mW 296 (by decide +kernel) rfl), (th_mW 1 (by decide +kernel) rfl), ⟨by decide, by decide, (by decide +kernel)⟩, by decide⟩
abbrev kX9_hits : th_M := (cX9_hits, RX9, 3, (some .int), "hits")
set_option maxRecDepth 20000 in
theorem bX9_hits : th_cB yX9_hits kX9_hits 2 := ⟨(th_mW 300 (by decide +kernel) rfl), (th_mW 1 (by decide +kernel) rfl), ⟨by decide, by decide, (by decide +kernel)⟩, by decide⟩
abbrev kX9_load : th_M := (cX9_load, RX9, 5, (some .int), "load")
set_option maxRecDepth 20000 in
theorem bX9_load : th_cB yX9_load kX9_load 2 := ⟨(th_mW 317 (by decide +kernel) rfl), (th_mW 1 (by decide +kernel) rfl), ⟨by decide, by decide, (by decide +kernel)⟩, by decide⟩
abbrev kX9_mask : th_M := (cX9_mask, RX9, 6, (some .int), "mask")
set_option maxRecDepth 20000 in
theorem bX9_mask : th_cB yX9_mask kX9_mask 3 := ⟨(th_mW 328 (by decide +kernel) rfl), (th_mW 1 (by decide +kernel) rfl), ⟨by decide, by decide, (by decide +kernel)⟩, by decide⟩
abbrev kX9_layer : th_M := (cX9_layer, RX9, 3, (some .int), "layer")
set_option maxRecDepth 20000 in
theorem bX9_layer : th_cB yX9_layer kX9_layer 2 := ⟨(th_mW 332 (by decide +kernel) rfl), (th_mW 1 (by decide +kernel) rfl), ⟨by decide, by decide, (by decide +kernel)⟩, by decide⟩
abbrev kX9_road : th_M := (cX9_road, RX9, 9, (some .int), "road")
set_option maxRecDepth 20000 in
theorem bX9_road : th_cB yX9_road kX9_road 6 := ⟨(th_mW 336 (by decide +kernel) rfl), (th_mW 1 (by decide +kernel) rfl), ⟨by decide, by decide, (by decide +kernel)⟩, by decide⟩
abbrev kX9_span : th_M := (cX9_span, RX9, 6, (some .int), "span")
set_option maxRecDepth 20000 in
theorem bX9_span : th_cB yX9_span kX9_span 3 := ⟨(th_mW 439 (by decide +kernel) rfl), (th_mW 1 (by decide +kernel) rfl), ⟨by decide, by decide, (by decide +kernel)⟩, by decide⟩
abbrev kX9_lit : th_M := (cX9_lit, RX9, 1, (some .int), "lit")
set_option maxRecDepth 20000 in
theorem bX9_lit : th_cB yX9_lit kX9_lit 0 := ⟨(th_mW 470 (by decide +kernel) rfl), (th_mW 1 (by decide +kernel) rfl), ⟨by decide, by decide, (by decide +kernel)⟩, by decide⟩
abbrev kX9_held : th_M := (cX9_held, RX9, 3, (some .int), "held")
set_option maxRecDepth 20000 in
theorem bX9_held : th_cB yX9_held kX9_held 1 := ⟨(th_mW 500 (by decide +kernel) rfl), (th_mW 1 (by decide +kernel) rfl), ⟨by decide, by decide, (by decide +kernel)⟩, by decide⟩
abbrev kX9_track : th_M := (cX9_track, RX9, 5, (some .int), "track")
set_option maxRecDepth 20000 in
theorem bX9_track : th_cB yX9_track kX9_track 2 := ⟨(th_mW 505 (by decide +kernel) rfl), (th_mW 1 (by decide +kernel) rfl), ⟨by decide, by decide, (by decide +kernel)⟩, by decide⟩
abbrev kX9_miss : th_M := (cX9_miss, RX9, 7, (some .int), "miss")
set_option maxRecDepth 20000 in
theorem bX9_miss : th_cB yX9_miss kX9_miss 2 := ⟨(th_mW 539 (by decide +kernel) rfl), (th_mW 1 (by decide +kernel) rfl), ⟨by decide, by decide, (by decide +kernel)⟩, by decide⟩
abbrev kX9_weight : th_M := (cX9_weight, RX9, 3, (some .int), "weight")
set_option maxRecDepth 20000 in
theorem bX9_weight : th_cB yX9_weight kX9_weight 1 := ⟨(th_mW 556 (by decide +kernel) rfl), (th_mW 1 (by decide +kernel) rfl), ⟨by decide, by decide, (by decide +kernel)⟩, by decide⟩
abbrev kX9_heap : th_M := (cX9_heap, RX9, 2, (some .int), "heap")
set_option maxRecDepth 20000 in
theorem bX9_heap : th_cB yX9_heap kX9_heap 1 := ⟨(th_mW 565 (by decide +kernel) rfl), (th_mW 1 (by decide +kernel) rfl), ⟨by decide, by decide, (by decide +kernel)⟩, by decide⟩
abbrev kX9_blind : th_M := (cX9_blind, RX9, 2, (some .int), "blind")
set_option maxRecDepth 20000 in
theorem bX9_blind : th_cB yX9_blind kX9_blind 0 := ⟨(th_mW 599 (by decide +kernel) rfl), (th_mW 1 (by decide +kernel) rfl), ⟨by decide, by decide, (by decide +kernel)⟩, by decide⟩
abbrev kX9_feed : th_M := (cX9_feed, RX9, 4, (some .int), "feed")
set_option maxRecDepth 20000 in
theorem bX9_feed : th_cB yX9_feed kX9_feed 1 := ⟨(th_mW 605 (by decide +kernel) rfl), (th_mW 1 (by decide +kernel) rfl), ⟨by decide, by decide, (by decide +kernel)⟩, by decide⟩
abbrev kX9_clear : th_M := (cX9_clear, RX9, 2, (some .int), "clear")
set_option maxRecDepth 20000 in
theorem bX9_clear : th_cB yX9_clear kX9_clear 0 := ⟨(th_mW 619 (by decide +kernel) rfl), (th_mW 1 (by decide +kernel) rfl), ⟨by decide, by decide, (by decide +kernel)⟩, by decide⟩
abbrev kX9_line : th_M := (cX9_line, RX9, 3, (some .int), "line")
set_option maxRecDepth 20000 in
theorem bX9_line : th_cB yX9_line kX9_line 2 := ⟨(th_mW 623 (by decide +kernel) rfl), (th_mW 1 (by decide +kernel) rfl), ⟨by decide, by decide, (by decide +kernel)⟩, by decide⟩
abbrev kX9_thin : th_M := (cX9_thin, RX9, 5, (some .int), "thin")
set_option maxRecDepth 20000 in
theorem bX9_thin : th_cB yX9_thin kX9_thin 2 := ⟨(th_mW 724 (by decide +kernel) rfl), (th_mW 1 (by decide +kernel) rfl), ⟨by decide, by decide, (by decide +kernel)⟩, by decide⟩
abbrev kX9_holds : th_M := (cX9_holds, RX9, 3, (some .int), "holds")
set_option maxRecDepth 20000 in
theorem bX9_holds : th_cB yX9_holds kX9_holds 1 := ⟨(th_mW 732 (by decide +kernel) rfl), (th_mW 1 (by decide +kernel) rfl), ⟨by decide, by decide, (by decide +kernel)⟩, by decide⟩
abbrev kX9_of : th_M := (cX9_of, RX9, 4, (some .int), "of")
set_option maxRecDepth 20000 in
theorem bX9_of : th_cB yX9_of kX9_of 2 := ⟨(th_mW 736 (by decide +kernel) rfl), (th_mW 1 (by decide +kernel) rfl), ⟨by decide, by decide, (by decide +kernel)⟩, by decide⟩
abbrev kX9_fire : th_M := (cX9_fire, RX9, 4, (some .int), "fire")
set_option maxRecDepth 20000 in
theorem bX9_fire : th_cB yX9_fire kX9_fire 0 := ⟨(th_mW 740 (by decide +kernel) rfl), (th_mW 1 (by decide +kernel) rfl), ⟨by decide, by decide, (by decide +kernel)⟩, by decide⟩
abbrev kX9_rest : th_M := (cX9_rest, RX9, 3, (some .int), "rest")
set_option maxRecDepth 20000 in
theorem bX9_rest : th_cB yX9_rest kX9_rest 1 := ⟨(th_mW 787 (by decide +kernel) rfl), (th_mW 1 (by decide +kernel) rfl), ⟨by decide, by decide, (by decide +kernel)⟩, by decide⟩
abbrev kX9_many : th_M := (cX9_many, RX9, 2, (some .int), "many")
set_option maxRecDepth 20000 in
theorem bX9_many : th_cB yX9_many kX9_many 1 := ⟨(th_mW 791 (by decide +kernel) rfl), (th_mW 1 (by decide +kernel) rfl), ⟨by decide, by decide, (by decide +kernel)⟩, by decide⟩
abbrev kX9_raw : th_M := (cX9_raw, RX9, 3, (some .int), "raw")
set_option maxRecDepth 20000 in
theorem bX9_raw : th_cB yX9_raw kX9_raw 2 := ⟨(th_mW 800 (by decide +kernel) rfl), (th_mW 1 (by decide +kernel) rfl), ⟨by decide, by decide, (by decide +kernel)⟩, by decide⟩
abbrev kX9_again : th_M := (cX9_again, RX9, 2, (some .int), "again")
set_option maxRecDepth 20000 in
theorem bX9_again : th_cB yX9_again kX9_again 1 := ⟨(th_mW 821 (by decide +kernel) rfl), (th_mW 1 (by decide +kernel) rfl), ⟨by decide, by decide, (by decide +kernel)⟩, by decide⟩
abbrev kX9_anew : th_M := (cX9_anew, RX9, 3, (some .int), "anew")
set_option maxRecDepth 20000 in
theorem bX9_anew : th_cB yX9_anew kX9_anew 0 := ⟨(th_mW 825 (by decide +kernel) rfl), (th_mW 1 (by decide +kernel) rfl), ⟨by decide, by decide, (by decide +kernel)⟩, by decide⟩
abbrev kX9_isLayer : th_M := (cX9_isLayer, RX9, 1, (some .boolean), "isLayer")
set_option maxRecDepth 20000 in
theorem bX9_isLayer : th_cB yX9_isLayer kX9_isLayer 1 := ⟨(th_mW 303 (by decide +kernel) rfl), (th_mW 1 (by decide +kernel) rfl), ⟨by decide, by decide, (by decide +kernel)⟩, by decide⟩
abbrev kX9_areCells : th_M := (cX9_areCells, RX9, 1, (some .boolean), "areCells")
set_option maxRecDepth 20000 in
theorem bX9_areCells : th_cB yX9_areCells kX9_areCells 1 := ⟨(th_mW 306 (by decide +kernel) rfl), (th_mW 1 (by decide +kernel) rfl), ⟨by decide, by decide, (by decide +kernel)⟩, by decide⟩
abbrev kX9_isShare : th_M := (cX9_isShare, RX9, 1, (some .boolean), "isShare")
set_option maxRecDepth 20000 in
theorem bX9_isShare : th_cB yX9_isShare kX9_isShare 1 := ⟨(th_mW 626 (by decide +kernel) rfl), (th_mW 1 (by decide +kernel) rfl), ⟨by decide, by decide, (by decide +kernel)⟩, by decide⟩
abbrev kX9_isSpan : th_M := (cX9_isSpan, RX9, 3, (some .boolean), "isSpan")
set_option maxRecDepth 20000 in
theorem bX9_isSpan : th_cB yX9_isSpan kX9_isSpan 1 := ⟨(th_mW 339 (by decide +kernel) rfl), (th_mW 1 (by decide +kernel) rfl), ⟨by decide, by decide, (by decide +kernel)⟩, by decide⟩
abbrev kX9_cellsIn : th_M := (cX9_cellsIn, RX9, 6, (some .int), "cellsIn")
set_option maxRecDepth 20000 in
theorem bX9_cellsIn : th_cB yX9_cellsIn kX9_cellsIn 1 := ⟨(th_mW 324 (by decide +kernel) rfl), (th_mW 1 (by decide +kernel) rfl), ⟨by decide, by decide, (by decide +kernel)⟩, by decide⟩
abbrev kX9_letterIn : th_M := (cX9_letterIn, RX9, 2, (some .char), "letterIn")
set_option maxRecDepth 20000 in
theorem bX9_letterIn : th_cB yX9_letterIn kX9_letterIn 2 := ⟨(th_mW 611 (by decide +kernel) rfl), (th_mW 1 (by decide +kernel) rfl), ⟨by decide, by decide, (by decide +kernel)⟩, by decide⟩
abbrev kX9_lettersIn : th_M := (cX9_lettersIn, RX9, 2, (some .int), "lettersIn")
set_option maxRecDepth 20000 in
theorem bX9_lettersIn : th_cB yX9_lettersIn kX9_lettersIn 1 := ⟨(th_mW 608 (by decide +kernel) rfl), (th_mW 1 (by decide +kernel) rfl), ⟨by decide, by decide, (by decide +kernel)⟩, by decide⟩
abbrev kX9_greatestDivisor : th_M := (cX9_greatestDivisor, RX9, 6, (some .int), "greatestDivisor")
set_option maxRecDepth 20000 in
theorem bX9_greatestDivisor : th_cB yX9_greatestDivisor kX9_greatestDivisor 2 := ⟨(th_mW 551 (by decide +kernel) rfl), (th_mW 1 (by decide +kernel) rfl), ⟨by decide, by decide, (by decide +kernel)⟩, by decide⟩
abbrev kX9_sheetAt : th_M := (cX9_sheetAt, RX9, 2, (some (.object "TriggerHall$Sheet")), "sheetAt")
set_option maxRecDepth 20000 in
theorem bX9_sheetAt : th_cB yX9_sheetAt kX9_sheetAt 1 := ⟨(th_mW 275 (by decide +kernel) rfl), (th_mW 1 (by decide +kernel) rfl), ⟨by decide, by decide, (by decide +kernel)⟩, by decide⟩
abbrev kX9_roadAt : th_M := (cX9_roadAt, RX9, 2, (some (.object "TriggerHall$Road")), "roadAt")
set_option maxRecDepth 20000 in
theorem bX9_roadAt : th_cB yX9_roadAt kX9_roadAt 1 := ⟨(th_mW 443 (by decide +kernel) rfl), (th_mW 1 (by decide +kernel) rfl), ⟨by decide, by decide, (by decide +kernel)⟩, by decide⟩
abbrev kX9_lineAt : th_M := (cX9_lineAt, RX9, 2, (some (.object "TriggerHall$Line")), "lineAt")
set_option maxRecDepth 20000 in
theorem bX9_lineAt : th_cB yX9_lineAt kX9_lineAt 1 := ⟨(th_mW 728 (by decide +kernel) rfl), (th_mW 1 (by decide +kernel) rfl), ⟨by decide, by decide, (by decide +kernel)⟩, by decide⟩
abbrev kX9_fitInHand : th_M := (cX9_fitInHand, RX9, 2, (some .boolean), "fitInHand")
set_option maxRecDepth 20000 in
theorem bX9_fitInHand : th_cB yX9_fitInHand kX9_fitInHand 1 := ⟨(th_mW 509 (by decide +kernel) rfl), (th_mW 1 (by decide +kernel) rfl), ⟨by decide, by decide, (by decide +kernel)⟩, by decide⟩
abbrev kX9_lookAt : th_M := (cX9_lookAt, RX9, 2, none, "lookAt")
set_option maxRecDepth 20000 in
theorem bX9_lookAt : th_cB yX9_lookAt kX9_lookAt 1 := ⟨(th_mW 569 (by decide +kernel) rfl), (th_mW 1 (by decide +kernel) rfl), ⟨by decide, by decide, (by decide +kernel)⟩, by decide⟩
abbrev kX9_holdingLines : th_M := (cX9_holdingLines, RX9, 3, (some .int), "holdingLines")
set_option maxRecDepth 20000 in
theorem bX9_holdingLines : th_cB yX9_holdingLines kX9_holdingLines 0 := ⟨(th_mW 752 (by decide +kernel) rfl), (th_mW 1 (by decide +kernel) rfl), ⟨by decide, by decide, (by decide +kernel)⟩, by decide⟩
abbrev kX9_loseCrossing : th_M := (cX9_loseCrossing, RX9, 1, (some .int), "loseCrossing")
set_option maxRecDepth 20000 in
theorem bX9_loseCrossing : th_cB yX9_loseCrossing kX9_loseCrossing 0 := ⟨(th_mW 744 (by decide +kernel) rfl), (th_mW 1 (by decide +kernel) rfl), ⟨by decide, by decide, (by decide +kernel)⟩, by decide⟩
abbrev kX9_judgeCrossing : th_M := (cX9_judgeCrossing, RX9, 5, (some .int), "judgeCrossing")
set_option maxRecDepth 20000 in
theorem bX9_judgeCrossing : th_cB yX9_judgeCrossing kX9_judgeCrossing 1 := ⟨(th_mW 748 (by decide +kernel) rfl), (th_mW 1 (by decide +kernel) rfl), ⟨by decide, by decide, (by decide +kernel)⟩, by decide⟩
abbrev kX9_passLines : th_M := (cX9_passLines, RX9, 4, (some .int), "passLines")
set_option maxRecDepth 20000 in
theorem bX9_passLines : th_cB yX9_passLines kX9_passLines 1 := ⟨(th_mW 756 (by decide +kernel) rfl), (th_mW 1 (by decide +kernel) rfl), ⟨by decide, by decide, (by decide +kernel)⟩, by decide⟩
abbrev kX9_barLines : th_M := (cX9_barLines, RX9, 3, (some .int), "barLines")
set_option maxRecDepth 20000 in
theorem bX9_barLines : th_cB yX9_barLines kX9_barLines 0 := ⟨(th_mW 764 (by decide +kernel) rfl), (th_mW 1 (by decide +kernel) rfl), ⟨by decide, by decide, (by decide +kernel)⟩, by decide⟩
abbrev kX9_creditLines : th_M := (cX9_creditLines, RX9, 4, none, "creditLines")
set_option maxRecDepth 20000 in
theorem bX9_creditLines : th_cB yX9_creditLines kX9_creditLines 1 := ⟨(th_mW 768 (by decide +kernel) rfl), (th_mW 1 (by decide +kernel) rfl), ⟨by decide, by decide, (by decide +kernel)⟩, by decide⟩
abbrev kX10_init : th_M := (cX10_init, RX10, 2, none, "<init>")
set_option maxRecDepth 20000 in
theorem bX10_init : th_cB yX10_init kX10_init 0 := ⟨(th_mW 834 (by decide +kernel) rfl), (th_mW 12 (by decide +kernel) rfl), ⟨by decide, by decide, (by decide +kernel)⟩, by decide⟩
abbrev kX10_in : th_M := (cX10_in, RX10, 6, (some .boolean), "in")
set_option maxRecDepth 20000 in
theorem bX10_in : th_cB yX10_in kX10_in 3 := ⟨(th_mW 969 (by decide +kernel) rfl), (th_mW 12 (by decide +kernel) rfl), ⟨by decide, by decide, (by decide +kernel)⟩, by decide⟩
abbrev kX10_bitsOf : th_M := (cX10_bitsOf, RX10, 3, (some .int), "bitsOf")
set_option maxRecDepth 20000 in
theorem bX10_bitsOf : th_cB yX10_bitsOf kX10_bitsOf 1 := ⟨(th_mW 989 (by decide +kernel) rfl), (th_mW 12 (by decide +kernel) rfl), ⟨by decide, by decide, (by decide +kernel)⟩, by decide⟩
abbrev kX10_isLayer : th_M := (cX10_isLayer, RX10, 1, (some .boolean), "isLayer")
set_option maxRecDepth 20000 in
theorem bX10_isLayer : th_cB yX10_isLayer kX10_isLayer 1 := ⟨(th_mW 984 (by decide +kernel) rfl), (th_mW 12 (by decide +kernel) rfl), ⟨by decide, by decide, (by decide +kernel)⟩, by decide⟩
abbrev kX10_sheet : th_M := (cX10_sheet, RX10, 5, (some .int), "sheet")
set_option maxRecDepth 20000 in
theorem bX10_sheet : th_cB yX10_sheet kX10_sheet 3 := ⟨(th_mW 965 (by decide +kernel) rfl), (th_mW 12 (by decide +kernel) rfl), ⟨by decide, by decide, (by decide +kernel)⟩, by decide⟩
abbrev kX10_cell : th_M := (cX10_cell, RX10, 4, (some .int), "cell")
set_option maxRecDepth 20000 in
theorem bX10_cell : th_cB yX10_cell kX10_cell 3 := ⟨(th_mW 973 (by decide +kernel) rfl), (th_mW 12 (by decide +kernel) rfl), ⟨by decide, by decide, (by decide +kernel)⟩, by decide⟩
abbrev kX10_lose : th_M := (cX10_lose, RX10, 2, (some .int), "lose")
set_option maxRecDepth 20000 in
theorem bX10_lose : th_cB yX10_lose kX10_lose 1 := ⟨(th_mW 977 (by decide +kernel) rfl), (th_mW 12 (by decide +kernel) rfl), ⟨by decide, by decide, (by decide +kernel)⟩, by decide⟩
abbrev kX10_allHits : th_M := (cX10_allHits, RX10, 3, (some .int), "allHits")
set_option maxRecDepth 20000 in
theorem bX10_allHits : th_cB yX10_allHits kX10_allHits 0 := ⟨(th_mW 998 (by decide +kernel) rfl), (th_mW 12 (by decide +kernel) rfl), ⟨by decide, by decide, (by decide +kernel)⟩, by decide⟩
abbrev kX10_hits : th_M := (cX10_hits, RX10, 3, (some .int), "hits")
set_option maxRecDepth 20000 in
theorem bX10_hits : th_cB yX10_hits kX10_hits 2 := ⟨(th_mW 981 (by decide +kernel) rfl), (th_mW 12 (by decide +kernel) rfl), ⟨by decide, by decide, (by decide +kernel)⟩, by decide⟩
abbrev kX10_load : th_M := (cX10_load, RX10, 4, (some .int), "load")
set_option maxRecDepth 20000 in
theorem bX10_load : th_cB yX10_load kX10_load 2 := ⟨(th_mW 993 (by decide +kernel) rfl), (th_mW 12 (by decide +kernel) rfl), ⟨by decide, by decide, (by decide +kernel)⟩, by decide⟩
abbrev kX10_mask : th_M := (cX10_mask, RX10, 5, (some .int), "mask")
set_option maxRecDepth 20000 in
theorem bX10_mask : th_cB yX10_mask kX10_mask 3 := ⟨(th_mW 1002 (by decide +kernel) rfl), (th_mW 12 (by decide +kernel) rfl), ⟨by decide, by decide, (by decide +kernel)⟩, by decide⟩
abbrev kX10_seen : th_M := (cX10_seen, RX10, 2, (some .int), "seen")
set_option maxRecDepth 20000 in
theorem bX10_seen : th_cB yX10_seen kX10_seen 1 := ⟨(th_mW 1010 (by decide +kernel) rfl), (th_mW 12 (by decide +kernel) rfl), ⟨by decide, by decide, (by decide +kernel)⟩, by decide⟩
abbrev kX10_layer : th_M := (cX10_layer, RX10, 3, (some .int), "layer")
set_option maxRecDepth 20000 in
theorem bX10_layer : th_cB yX10_layer kX10_layer 2 := ⟨(th_mW 1006 (by decide +kernel) rfl), (th_mW 12 (by decide +kernel) rfl), ⟨by decide, by decide, (by decide +kernel)⟩, by decide⟩
abbrev kX10_isSpan : th_M := (cX10_isSpan, RX10, 1, (some .boolean), "isSpan")
set_option maxRecDepth 20000 in
theorem bX10_isSpan : th_cB yX10_isSpan kX10_isSpan 1 := ⟨(th_mW 1017 (by decide +kernel) rfl), (th_mW 12 (by decide +kernel) rfl), ⟨by decide, by decide, (by decide +kernel)⟩, by decide⟩
abbrev kX10_road : th_M := (cX10_road, RX10, 8, (some .int), "road")
set_option maxRecDepth 20000 in
theorem bX10_road : th_cB yX10_road kX10_road 6 := ⟨(th_mW 1014 (by decide +kernel) rfl), (th_mW 12 (by decide +kernel) rfl), ⟨by decide, by decide, (by decide +kernel)⟩, by decide⟩
abbrev kX10_isRoad : th_M := (cX10_isRoad, RX10, 2, (some .boolean), "isRoad")
set_option maxRecDepth 20000 in
theorem bX10_isRoad : th_cB yX10_isRoad kX10_isRoad 1 := ⟨(th_mW 1026 (by decide +kernel) rfl), (th_mW 12 (by decide +kernel) rfl), ⟨by decide, by decide, (by decide +kernel)⟩, by decide⟩
abbrev kX10_span : th_M := (cX10_span, RX10, 5, (some .int), "span")
set_option maxRecDepth 20000 in
theorem bX10_span : th_cB yX10_span kX10_span 3 := ⟨(th_mW 1022 (by decide +kernel) rfl), (th_mW 12 (by decide +kernel) rfl), ⟨by decide, by decide, (by decide +kernel)⟩, by decide⟩
abbrev kX10_isIn : th_M := (cX10_isIn, RX10, 5, (some .boolean), "isIn")
set_option maxRecDepth 20000 in
theorem bX10_isIn : th_cB yX10_isIn kX10_isIn 3 := ⟨(th_mW 1042 (by decide +kernel) rfl), (th_mW 12 (by decide +kernel) rfl), ⟨by decide, by decide, (by decide +kernel)⟩, by decide⟩
abbrev kX10_heldBy : th_M := (cX10_heldBy, RX10, 7, (some .int), "heldBy")
set_option maxRecDepth 20000 in
theorem bX10_heldBy : th_cB yX10_heldBy kX10_heldBy 2 := ⟨(th_mW 1038 (by decide +kernel) rfl), (th_mW 12 (by decide +kernel) rfl), ⟨by decide, by decide, (by decide +kernel)⟩, by decide⟩
abbrev kX10_isLit : th_M := (cX10_isLit, RX10, 2, (some .boolean), "isLit")
set_option maxRecDepth 20000 in
theorem bX10_isLit : th_cB yX10_isLit kX10_isLit 1 := ⟨(th_mW 1034 (by decide +kernel) rfl), (th_mW 12 (by decide +kernel) rfl), ⟨by decide, by decide, (by decide +kernel)⟩, by decide⟩
abbrev kX10_lit : th_M := (cX10_lit, RX10, 3, (some .int), "lit")
set_option maxRecDepth 20000 in
theorem bX10_lit : th_cB yX10_lit kX10_lit 0 := ⟨(th_mW 1030 (by decide +kernel) rfl), (th_mW 12 (by decide +kernel) rfl), ⟨by decide, by decide, (by decide +kernel)⟩, by decide⟩
abbrev kX10_held : th_M := (cX10_held, RX10, 2, (some .int), "held")
set_option maxRecDepth 20000 in
theorem bX10_held : th_cB yX10_held kX10_held 1 := ⟨(th_mW 1046 (by decide +kernel) rfl), (th_mW 12 (by decide +kernel) rfl), ⟨by decide, by decide, (by decide +kernel)⟩, by decide⟩
abbrev kX10_miss : th_M := (cX10_miss, RX10, 11, (some .int), "miss")
set_option maxRecDepth 20000 in
theorem bX10_miss : th_cB yX10_miss kX10_miss 1 := ⟨(th_mW 1062 (by decide +kernel) rfl), (th_mW 12 (by decide +kernel) rfl), ⟨by decide, by decide, (by decide +kernel)⟩, by decide⟩
abbrev kX10_findFrom : th_M := (cX10_findFrom, RX10, 6, none, "findFrom")
set_option maxRecDepth 20000 in
theorem bX10_findFrom : th_cB yX10_findFrom kX10_findFrom 3 := ⟨(th_mW 1058 (by decide +kernel) rfl), (th_mW 12 (by decide +kernel) rfl), ⟨by decide, by decide, (by decide +kernel)⟩, by decide⟩
abbrev kX10_findTrack : th_M := (cX10_findTrack, RX10, 2, (some .boolean), "findTrack")
set_option maxRecDepth 20000 in
theorem bX10_findTrack : th_cB yX10_findTrack kX10_findTrack 1 := ⟨(th_mW 1054 (by decide +kernel) rfl), (th_mW 12 (by decide +kernel) rfl), ⟨by decide, by decide, (by decide +kernel)⟩, by decide⟩
abbrev kX10_track : th_M := (cX10_track, RX10, 3, (some .int), "track")
set_option maxRecDepth 20000 in
theorem bX10_track : th_cB yX10_track kX10_track 2 := ⟨(th_mW 1050 (by decide +kernel) rfl), (th_mW 12 (by decide +kernel) rfl), ⟨by decide, by decide, (by decide +kernel)⟩, by decide⟩
abbrev kX10_common : th_M := (cX10_common, RX10, 5, (some .int), "common")
set_option maxRecDepth 20000 in
theorem bX10_common : th_cB yX10_common kX10_common 2 := ⟨(th_mW 1069 (by decide +kernel) rfl), (th_mW 12 (by decide +kernel) rfl), ⟨by decide, by decide, (by decide +kernel)⟩, by decide⟩
abbrev kX10_miss_ : th_M := (cX10_miss_, RX10, 4, (some .int), "miss")
set_option maxRecDepth 20000 in
theorem bX10_miss_ : th_cB yX10_miss_ kX10_miss_ 2 := ⟨(th_mW 1066 (by decide +kernel) rfl), (th_mW 12 (by decide +kernel) rfl), ⟨by decide, by decide, (by decide +kernel)⟩, by decide⟩
abbrev kX10_weightOf : th_M := (cX10_weightOf, RX10, 3, (some .int), "weightOf")
set_option maxRecDepth 20000 in
theorem bX10_weightOf : th_cB yX10_weightOf kX10_weightOf 1 := ⟨(th_mW 1077 (by decide +kernel) rfl), (th_mW 12 (by decide +kernel) rfl), ⟨by decide, by decide, (by decide +kernel)⟩, by decide⟩
abbrev kX10_weight : th_M := (cX10_weight, RX10, 2, (some .int), "weight")
set_option maxRecDepth 20000 in
theorem bX10_weight : th_cB yX10_weight kX10_weight 1 := ⟨(th_mW 1073 (by decide +kernel) rfl), (th_mW 12 (by decide +kernel) rfl), ⟨by decide, by decide, (by decide +kernel)⟩, by decide⟩
abbrev kX10_areApart : th_M := (cX10_areApart, RX10, 5, (some .boolean), "areApart")
set_option maxRecDepth 20000 in
theorem bX10_areApart : th_cB yX10_areApart kX10_areApart 2 := ⟨(th_mW 1089 (by decide +kernel) rfl), (th_mW 12 (by decide +kernel) rfl), ⟨by decide, by decide, (by decide +kernel)⟩, by decide⟩
abbrev kX10_findHeap : th_M := (cX10_findHeap, RX10, 7, none, "findHeap")
set_option maxRecDepth 20000 in
theorem bX10_findHeap : th_cB yX10_findHeap kX10_findHeap 0 := ⟨(th_mW 1085 (by decide +kernel) rfl), (th_mW 12 (by decide +kernel) rfl), ⟨by decide, by decide, (by decide +kernel)⟩, by decide⟩
abbrev kX10_heap : th_M := (cX10_heap, RX10, 2, (some .int), "heap")
set_option maxRecDepth 20000 in
theorem bX10_heap : th_cB yX10_heap kX10_heap 1 := ⟨(th_mW 1081 (by decide +kernel) rfl), (th_mW 12 (by decide +kernel) rfl), ⟨by decide, by decide, (by decide +kernel)⟩, by decide⟩
abbrev kX10_blind : th_M := (cX10_blind, RX10, 3, (some .int), "blind")
set_option maxRecDepth 20000 in
theorem bX10_blind : th_cB yX10_blind kX10_blind 0 := ⟨(th_mW 1093 (by decide +kernel) rfl), (th_mW 12 (by decide +kernel) rfl), ⟨by decide, by decide, (by decide +kernel)⟩, by decide⟩
abbrev kX10_feed : th_M := (cX10_feed, RX10, 4, (some .int), "feed")
set_option maxRecDepth 20000 in
theorem bX10_feed : th_cB yX10_feed kX10_feed 1 := ⟨(th_mW 1097 (by decide +kernel) rfl), (th_mW 12 (by decide +kernel) rfl), ⟨by decide, by decide, (by decide +kernel)⟩, by decide⟩
abbrev kX10_clear : th_M := (cX10_clear, RX10, 2, (some .int), "clear")
set_option maxRecDepth 20000 in
theorem bX10_clear : th_cB yX10_clear kX10_clear 0 := ⟨(th_mW 1101 (by decide +kernel) rfl), (th_mW 12 (by decide +kernel) rfl), ⟨by decide, by decide, (by decide +kernel)⟩, by decide⟩
abbrev kX10_isFigure : th_M := (cX10_isFigure, RX10, 1, (some .boolean), "isFigure")
set_option maxRecDepth 20000 in
theorem bX10_isFigure : th_cB yX10_isFigure kX10_isFigure 1 := ⟨(th_mW 1116 (by decide +kernel) rfl), (th_mW 12 (by decide +kernel) rfl), ⟨by decide, by decide, (by decide +kernel)⟩, by decide⟩
abbrev kX10_isName : th_M := (cX10_isName, RX10, 1, (some .boolean), "isName")
set_option maxRecDepth 20000 in
theorem bX10_isName : th_cB yX10_isName kX10_isName 1 := ⟨(th_mW 1113 (by decide +kernel) rfl), (th_mW 12 (by decide +kernel) rfl), ⟨by decide, by decide, (by decide +kernel)⟩, by decide⟩
abbrev kX10_faultOf : th_M := (cX10_faultOf, RX10, 6, (some .int), "faultOf")
set_option maxRecDepth 20000 in
theorem bX10_faultOf : th_cB yX10_faultOf kX10_faultOf 0 := ⟨(th_mW 1110 (by decide +kernel) rfl), (th_mW 12 (by decide +kernel) rfl), ⟨by decide, by decide, (by decide +kernel)⟩, by decide⟩
abbrev kX10_line : th_M := (cX10_line, RX10, 5, (some .int), "line")
set_option maxRecDepth 20000 in
theorem bX10_line : th_cB yX10_line kX10_line 2 := ⟨(th_mW 1105 (by decide +kernel) rfl), (th_mW 12 (by decide +kernel) rfl), ⟨by decide, by decide, (by decide +kernel)⟩, by decide⟩
abbrev kX10_isLine : th_M := (cX10_isLine, RX10, 2, (some .boolean), "isLine")
set_option maxRecDepth 20000 in
theorem bX10_isLine : th_cB yX10_isLine kX10_isLine 1 := ⟨(th_mW 1124 (by decide +kernel) rfl), (th_mW 12 (by decide +kernel) rfl), ⟨by decide, by decide, (by decide +kernel)⟩, by decide⟩
abbrev kX10_thin : th_M := (cX10_thin, RX10, 4, (some .int), "thin")
set_option maxRecDepth 20000 in
theorem bX10_thin : th_cB yX10_thin kX10_thin 2 := ⟨(th_mW 1120 (by decide +kernel) rfl), (th_mW 12 (by decide +kernel) rfl), ⟨by decide, by decide, (by decide +kernel)⟩, by decide⟩
abbrev kX10_letter : th_M := (cX10_letter, RX10, 1, (some .int), "letter")
set_option maxRecDepth 20000 in
theorem bX10_letter : th_cB yX10_letter kX10_letter 0 := ⟨(th_mW 1148 (by decide +kernel) rfl), (th_mW 12 (by decide +kernel) rfl), ⟨by decide, by decide, (by decide +kernel)⟩, by decide⟩
abbrev kX10_any : th_M := (cX10_any, RX10, 3, (some .boolean), "any")
set_option maxRecDepth 20000 in
theorem bX10_any : th_cB yX10_any kX10_any 0 := ⟨(th_mW 1136 (by decide +kernel) rfl), (th_mW 12 (by decide +kernel) rfl), ⟨by decide, by decide, (by decide +kernel)⟩, by decide⟩
abbrev kX10_both : th_M := (cX10_both, RX10, 3, (some .boolean), "both")
set_option maxRecDepth 20000 in
theorem bX10_both : th_cB yX10_both kX10_both 0 := ⟨(th_mW 1140 (by decide +kernel) rfl), (th_mW 12 (by decide +kernel) rfl), ⟨by decide, by decide, (by decide +kernel)⟩, by decide⟩
abbrev kX10_one : th_M := (cX10_one, RX10, 3, (some .boolean), "one")
set_option maxRecDepth 20000 in
theorem bX10_one : th_cB yX10_one kX10_one 0 := ⟨(th_mW 1144 (by decide +kernel) rfl), (th_mW 12 (by decide +kernel) rfl), ⟨by decide, by decide, (by decide +kernel)⟩, by decide⟩
abbrev kX10_is : th_M := (cX10_is, RX10, 5, (some .boolean), "is")
set_option maxRecDepth 20000 in
theorem bX10_is : th_cB yX10_is kX10_is 2 := ⟨(th_mW 1152 (by decide +kernel) rfl), (th_mW 12 (by decide +kernel) rfl), ⟨by decide, by decide, (by decide +kernel)⟩, by decide⟩
abbrev kX10_holding : th_M := (cX10_holding, RX10, 2, (some .int), "holding")
set_option maxRecDepth 20000 in
theorem bX10_holding : th_cB yX10_holding kX10_holding 0 := ⟨(th_mW 1132 (by decide +kernel) rfl), (th_mW 12 (by decide +kernel) rfl), ⟨by decide, by decide, (by decide +kernel)⟩, by decide⟩
abbrev kX10_holds : th_M := (cX10_holds, RX10, 2, (some .int), "holds")
set_option maxRecDepth 20000 in
theorem bX10_holds : th_cB yX10_holds kX10_holds 1 := ⟨(th_mW 1128 (by decide +kernel) rfl), (th_mW 12 (by decide +kernel) rfl), ⟨by decide, by decide, (by decide +kernel)⟩, by decide⟩
abbrev kX10_of : th_M := (cX10_of, RX10, 3, (some .int), "of")
set_option maxRecDepth 20000 in
theorem bX10_of : th_cB yX10_of kX10_of 2 := ⟨(th_mW 1156 (by decide +kernel) rfl), (th_mW 12 (by decide +kernel) rfl), ⟨by decide, by decide, (by decide +kernel)⟩, by decide⟩
abbrev kX10_noHits : th_M := (cX10_noHits, RX10, 2, none, "noHits")
set_option maxRecDepth 20000 in
theorem bX10_noHits : th_cB yX10_noHits kX10_noHits 0 := ⟨(th_mW 1168 (by decide +kernel) rfl), (th_mW 12 (by decide +kernel) rfl), ⟨by decide, by decide, (by decide +kernel)⟩, by decide⟩
abbrev kX10_look : th_M := (cX10_look, RX10, 7, (some .int), "look")
set_option maxRecDepth 20000 in
theorem bX10_look : th_cB yX10_look kX10_look 0 := ⟨(th_mW 1164 (by decide +kernel) rfl), (th_mW 12 (by decide +kernel) rfl), ⟨by decide, by decide, (by decide +kernel)⟩, by decide⟩
abbrev kX10_fire : th_M := (cX10_fire, RX10, 2, (some .int), "fire")
set_option maxRecDepth 20000 in
theorem bX10_fire : th_cB yX10_fire kX10_fire 0 := ⟨(th_mW 1160 (by decide +kernel) rfl), (th_mW 12 (by decide +kernel) rfl), ⟨by decide, by decide, (by decide +kernel)⟩, by decide⟩
abbrev kX10_rest : th_M := (cX10_rest, RX10, 3, (some .int), "rest")
set_option maxRecDepth 20000 in
theorem bX10_rest : th_cB yX10_rest kX10_rest 1 := ⟨(th_mW 1172 (by decide +kernel) rfl), (th_mW 12 (by decide +kernel) rfl), ⟨by decide, by decide, (by decide +kernel)⟩, by decide⟩
abbrev kX10_raws : th_M := (cX10_raws, RX10, 1, (some .int), "raws")
set_option maxRecDepth 20000 in
theorem bX10_raws : th_cB yX10_raws kX10_raws 0 := ⟨(th_mW 1181 (by decide +kernel) rfl), (th_mW 12 (by decide +kernel) rfl), ⟨by decide, by decide, (by decide +kernel)⟩, by decide⟩
abbrev kX10_many : th_M := (cX10_many, RX10, 2, (some .int), "many")
set_option maxRecDepth 20000 in
theorem bX10_many : th_cB yX10_many kX10_many 1 := ⟨(th_mW 1177 (by decide +kernel) rfl), (th_mW 12 (by decide +kernel) rfl), ⟨by decide, by decide, (by decide +kernel)⟩, by decide⟩
abbrev kX10_rawAt : th_M := (cX10_rawAt, RX10, 2, (some .int), "rawAt")
set_option maxRecDepth 20000 in
theorem bX10_rawAt : th_cB yX10_rawAt kX10_rawAt 1 := ⟨(th_mW 1190 (by decide +kernel) rfl), (th_mW 12 (by decide +kernel) rfl), ⟨by decide, by decide, (by decide +kernel)⟩, by decide⟩
abbrev kX10_raw : th_M := (cX10_raw, RX10, 6, (some .int), "raw")
set_option maxRecDepth 20000 in
theorem bX10_raw : th_cB yX10_raw kX10_raw 2 := ⟨(th_mW 1185 (by decide +kernel) rfl), (th_mW 12 (by decide +kernel) rfl), ⟨by decide, by decide, (by decide +kernel)⟩, by decide⟩
abbrev kX10_again : th_M := (cX10_again, RX10, 4, (some .int), "again")
set_option maxRecDepth 20000 in
theorem bX10_again : th_cB yX10_again kX10_again 1 := ⟨(th_mW 1194 (by decide +kernel) rfl), (th_mW 12 (by decide +kernel) rfl), ⟨by decide, by decide, (by decide +kernel)⟩, by decide⟩
abbrev kX10_anew : th_M := (cX10_anew, RX10, 3, (some .int), "anew")
set_option maxRecDepth 20000 in
theorem bX10_anew : th_cB yX10_anew kX10_anew 0 := ⟨(th_mW 1198 (by decide +kernel) rfl), (th_mW 12 (by decide +kernel) rfl), ⟨by decide, by decide, (by decide +kernel)⟩, by decide⟩
abbrev kJ6_numberOfTrailingZeros_0f7a4 : th_M := (cJ6_numberOfTrailingZeros_0f7a4, RJ6, 2, (some .int), "numberOfTrailingZeros")
set_option maxRecDepth 20000 in
theorem bJ6_numberOfTrailingZeros_0f7a4 : th_cB yJ6_numberOfTrailingZeros_0f7a4 kJ6_numberOfTrailingZeros_0f7a4 1 := ⟨(th_mW 530 (by decide +kernel) rfl), (th_mW 13 (by decide +kernel) rfl), ⟨by decide, by decide, (by decide +kernel)⟩, by decide⟩
abbrev kJ6_bitCount_0f7a4 : th_M := (cJ6_bitCount_0f7a4, RJ6, 1, (some .int), "bitCount")
set_option maxRecDepth 20000 in
theorem bJ6_bitCount_0f7a4 : th_cB yJ6_bitCount_0f7a4 kJ6_bitCount_0f7a4 1 := ⟨(th_mW 310 (by decide +kernel) rfl), (th_mW 13 (by decide +kernel) rfl), ⟨by decide, by decide, (by decide +kernel)⟩, by decide⟩
abbrev kJ9_floorMod_7cf53 : th_M := (cJ9_floorMod_7cf53, RJ9, 3, (some .int), "floorMod")
set_option maxRecDepth 20000 in
theorem bJ9_floorMod_7cf53 : th_cB yJ9_floorMod_7cf53 kJ9_floorMod_7cf53 2 := ⟨(th_mW 783 (by decide +kernel) rfl), (th_mW 16 (by decide +kernel) rfl), ⟨by decide, by decide, (by decide +kernel)⟩, by decide⟩
abbrev kJ9_max_7cf53 : th_M := (cJ9_max_7cf53, RJ9, 2, (some .int), "max")
set_option maxRecDepth 20000 in
theorem bJ9_max_7cf53 : th_cB yJ9_max_7cf53 kJ9_max_7cf53 2 := ⟨(th_mW 398 (by decide +kernel) rfl), (th_mW 16 (by decide +kernel) rfl), ⟨by decide, by decide, (by decide +kernel)⟩, by decide⟩
abbrev kJ9_min_7cf53 : th_M := (cJ9_min_7cf53, RJ9, 2, (some .int), "min")
set_option maxRecDepth 20000 in
theorem bJ9_min_7cf53 : th_cB yJ9_min_7cf53 kJ9_min_7cf53 2 := ⟨(th_mW 430 (by decide +kernel) rfl), (th_mW 16 (by decide +kernel) rfl), ⟨by decide, by decide, (by decide +kernel)⟩, by decide⟩
abbrev kJxa1e45_init_da8c8 : th_M := (cJxa1e45_init_da8c8, RJxa1e45, 1, none, "<init>")
set_option maxRecDepth 20000 in
theorem bJxa1e45_init_da8c8 : th_cB yJxa1e45_init_da8c8 kJxa1e45_init_da8c8 0 := ⟨(th_mW 62 (by decide +kernel) rfl), (th_mW 3 (by decide +kernel) rfl), ⟨by decide, by decide, (by decide +kernel)⟩, by decide⟩
abbrev kJxc12de_init_da8c8 : th_M := (cJxc12de_init_da8c8, RJxc12de, 1, none, "<init>")
set_option maxRecDepth 20000 in
theorem bJxc12de_init_da8c8 : th_cB yJxc12de_init_da8c8 kJxc12de_init_da8c8 0 := ⟨(th_mW 59 (by decide +kernel) rfl), (th_mW 4 (by decide +kernel) rfl), ⟨by decide, by decide, (by decide +kernel)⟩, by decide⟩
abbrev kJx4a65c_init_da8c8 : th_M := (cJx4a65c_init_da8c8, RJx4a65c, 1, none, "<init>")
set_option maxRecDepth 20000 in
theorem bJx4a65c_init_da8c8 : th_cB yJx4a65c_init_da8c8 kJx4a65c_init_da8c8 0 := ⟨(th_mW 56 (by decide +kernel) rfl), (th_mW 5 (by decide +kernel) rfl), ⟨by decide, by decide, (by decide +kernel)⟩, by decide⟩
abbrev kJx4a65c_grow_92f84 : th_M := (cJx4a65c_grow_92f84, RJx4a65c, 4, (some (.array (.object "java/lang/Object"))), "grow")
set_option maxRecDepth 20000 in
theorem bJx4a65c_grow_92f84 : th_cB yJx4a65c_grow_92f84 kJx4a65c_grow_92f84 1 := ⟨(th_mW 392 (by decide +kernel) rfl), (th_mW 5 (by decide +kernel) rfl), ⟨by decide, by decide, (by decide +kernel)⟩, by decide⟩
abbrev kJx4a65c_grow_d5877 : th_M := (cJx4a65c_grow_d5877, RJx4a65c, 1, (some (.array (.object "java/lang/Object"))), "grow")
set_option maxRecDepth 20000 in
theorem bJx4a65c_grow_d5877 : th_cB yJx4a65c_grow_d5877 kJx4a65c_grow_d5877 0 := ⟨(th_mW 388 (by decide +kernel) rfl), (th_mW 5 (by decide +kernel) rfl), ⟨by decide, by decide, (by decide +kernel)⟩, by decide⟩
abbrev kJx4a65c_size_8abf5 : th_M := (cJx4a65c_size_8abf5, RJx4a65c, 1, (some .int), "size")
set_option maxRecDepth 20000 in
theorem bJx4a65c_size_8abf5 : th_cB yJx4a65c_size_8abf5 kJx4a65c_size_8abf5 0 := ⟨(th_mW 349 (by decide +kernel) rfl), (th_mW 5 (by decide +kernel) rfl), ⟨by decide, by decide, (by decide +kernel)⟩, by decide⟩
abbrev kJx4a65c_elementData_915e3 : th_M := (cJx4a65c_elementData_915e3, RJx4a65c, 2, (some (.object "java/lang/Object")), "elementData")
set_option maxRecDepth 20000 in
theorem bJx4a65c_elementData_915e3 : th_cB yJx4a65c_elementData_915e3 kJx4a65c_elementData_915e3 1 := ⟨(th_mW 462 (by decide +kernel) rfl), (th_mW 5 (by decide +kernel) rfl), ⟨by decide, by decide, (by decide +kernel)⟩, by decide⟩
abbrev kJx4a65c_get_915e3 : th_M := (cJx4a65c_get_915e3, RJx4a65c, 2, (some (.object "java/lang/Object")), "get")
set_option maxRecDepth 20000 in
theorem bJx4a65c_get_915e3 : th_cB yJx4a65c_get_915e3 kJx4a65c_get_915e3 1 := ⟨(th_mW 452 (by decide +kernel) rfl), (th_mW 5 (by decide +kernel) rfl), ⟨by decide, by decide, (by decide +kernel)⟩, by decide⟩
abbrev kJx4a65c_add_72be8 : th_M := (cJx4a65c_add_72be8, RJx4a65c, 4, none, "add")
set_option maxRecDepth 20000 in
theorem bJx4a65c_add_72be8 : th_cB yJx4a65c_add_72be8 kJx4a65c_add_72be8 3 := ⟨(th_mW 384 (by decide +kernel) rfl), (th_mW 5 (by decide +kernel) rfl), ⟨by decide, by decide, (by decide +kernel)⟩, by decide⟩
abbrev kJx4a65c_add_9ea2d : th_M := (cJx4a65c_add_9ea2d, RJx4a65c, 2, (some .boolean), "add")
set_option maxRecDepth 20000 in
theorem bJx4a65c_add_9ea2d : th_cB yJx4a65c_add_9ea2d kJx4a65c_add_9ea2d 1 := ⟨(th_mW 380 (by decide +kernel) rfl), (th_mW 5 (by decide +kernel) rfl), ⟨by decide, by decide, (by decide +kernel)⟩, by decide⟩
abbrev kJ7_copyOf_1904c : th_M := (cJ7_copyOf_1904c, RJ7, 2, (some (.array (.object "java/lang/Object"))), "copyOf")
set_option maxRecDepth 20000 in
theorem bJ7_copyOf_1904c : th_cB yJ7_copyOf_1904c kJ7_copyOf_1904c 2 := ⟨(th_mW 405 (by decide +kernel) rfl), (th_mW 17 (by decide +kernel) rfl), ⟨by decide, by decide, (by decide +kernel)⟩, by decide⟩
abbrev kJ7_copyOf_6403c : th_M := (cJ7_copyOf_6403c, RJ7, 4, (some (.array (.object "java/lang/Object"))), "copyOf")
set_option maxRecDepth 20000 in
theorem bJ7_copyOf_6403c : th_cB yJ7_copyOf_6403c kJ7_copyOf_6403c 3 := ⟨(th_mW 424 (by decide +kernel) rfl), (th_mW 17 (by decide +kernel) rfl), ⟨by decide, by decide, (by decide +kernel)⟩, by decide⟩
abbrev kJ15_checkIndex_7cf53 : th_M := (cJ15_checkIndex_7cf53, RJ15, 2, (some .int), "checkIndex")
set_option maxRecDepth 20000 in
theorem bJ15_checkIndex_7cf53 : th_cB yJ15_checkIndex_7cf53 kJ15_checkIndex_7cf53 2 := ⟨(th_mW 455 (by decide +kernel) rfl), (th_mW 19 (by decide +kernel) rfl), ⟨by decide, by decide, (by decide +kernel)⟩, by decide⟩
abbrev kJ8_newLength_cabcc : th_M := (cJ8_newLength_cabcc, RJ8, 4, (some .int), "newLength")
set_option maxRecDepth 20000 in
theorem bJ8_newLength_cabcc : th_cB yJ8_newLength_cabcc kJ8_newLength_cabcc 3 := ⟨(th_mW 395 (by decide +kernel) rfl), (th_mW 15 (by decide +kernel) rfl), ⟨by decide, by decide, (by decide +kernel)⟩, by decide⟩
abbrev kJ8_hugeLength_7cf53 : th_M := (cJ8_hugeLength_7cf53, RJ8, 3, (some .int), "hugeLength")
set_option maxRecDepth 20000 in
theorem bJ8_hugeLength_7cf53 : th_cB yJ8_hugeLength_7cf53 kJ8_hugeLength_7cf53 2 := ⟨(th_mW 402 (by decide +kernel) rfl), (th_mW 15 (by decide +kernel) rfl), ⟨by decide, by decide, (by decide +kernel)⟩, by decide⟩
abbrev kJ3_checkIndex_8e157 : th_M := (cJ3_checkIndex_8e157, RJ3, 3, (some .int), "checkIndex")
set_option maxRecDepth 20000 in
theorem bJ3_checkIndex_8e157 : th_cB yJ3_checkIndex_8e157 kJ3_checkIndex_8e157 3 := ⟨(th_mW 458 (by decide +kernel) rfl), (th_mW 20 (by decide +kernel) rfl), ⟨by decide, by decide, (by decide +kernel)⟩, by decide⟩
abbrev kL_law : th_M := (cL_law, RL, 4, ret, "law")
theorem g_X7_9 : th_gf RX7 9 7 0 := ⟨_, _, _, rfl, by decide, (Or.inl (th_mW 37 (by decide +kernel) rfl))⟩
theorem p_X7_9 : th_pf RX7 "<init>" 9 7 0 := ⟨_, _, _, rfl, by decide, Or.inr ⟨rfl, rfl, rfl, (th_mW 37 (by decide +kernel) rfl)⟩⟩
theorem g_X7_15 : th_gf RX7 15 7 1 := ⟨_, _, _, rfl, by decide, (Or.inl (th_mW 38 (by decide +kernel) rfl))⟩
theorem p_X7_15 (nm : String) : th_pf RX7 nm 15 7 1 := ⟨_, _, _, rfl, by decide, Or.inl ⟨rfl, (Or.inl (th_mW 38 (by decide +kernel) rfl))⟩⟩
theorem g_X9_75 : th_gf RX9 75 7 1 := ⟨_, _, _, rfl, by decide, (Or.inr (Or.inr ⟨"TriggerHall", (th_mN 39 (by decide +kernel) rfl)⟩))⟩
theorem p_X9_75 (nm : String) : th_pf RX9 nm 75 7 1 := ⟨_, _, _, rfl, by decide, Or.inl ⟨rfl, (Or.inr (Or.inr ⟨"TriggerHall", (th_mN 39 (by decide +kernel) rfl)⟩))⟩⟩
theorem g_X7_19 : th_gf RX7 19 7 2 := ⟨_, _, _, rfl, by decide, (Or.inl (th_mW 40 (by decide +kernel) rfl))⟩
theorem p_X7_19 (nm : String) : th_pf RX7 nm 19 7 2 := ⟨_, _, _, rfl, by decide, Or.inl ⟨rfl, (Or.inl (th_mW 40 (by decide +kernel) rfl))⟩⟩
theorem g_X7_23 : th_gf RX7 23 7 3 := ⟨_, _, _, rfl, by decide, (Or.inl (th_mW 41 (by decide +kernel) rfl))⟩
theorem p_X7_23 (nm : String) : th_pf RX7 nm 23 7 3 := ⟨_, _, _, rfl, by decide, Or.inl ⟨rfl, (Or.inl (th_mW 41 (by decide +kernel) rfl))⟩⟩
theorem sl_Jx4a65c_39 : Cond.fieldLink RJx4a65c 39 "java/util/ArrayList" "DEFAULTCAPACITY_EMPTY_ELEMENTDATA" "[Ljava/lang/Object;" ∈ th_W := (th_mW 64 (by decide +kernel) rfl)
theorem g_Jx4a65c_9 : th_gf RJx4a65c 9 11 1 := ⟨_, _, _, rfl, by decide, (Or.inl (th_mW 66 (by decide +kernel) rfl))⟩
theorem p_Jx4a65c_9 (nm : String) : th_pf RJx4a65c nm 9 11 1 := ⟨_, _, _, rfl, by decide, Or.inl ⟨rfl, (Or.inl (th_mW 66 (by decide +kernel) rfl))⟩⟩
theorem g_Jx4a65c_48 : th_gf RJx4a65c 48 11 2 := ⟨_, _, _, rfl, by decide, (Or.inl (th_mW 67 (by decide +kernel) rfl))⟩
theorem p_Jx4a65c_48 (nm : String) : th_pf RJx4a65c nm 48 11 2 := ⟨_, _, _, rfl, by decide, Or.inl ⟨rfl, (Or.inl (th_mW 67 (by decide +kernel) rfl))⟩⟩
theorem g_Jxc12de_7 : th_gf RJxc12de 7 11 0 := ⟨_, _, _, rfl, by decide, (Or.inl (th_mW 68 (by decide +kernel) rfl))⟩
theorem p_Jxc12de_7 (nm : String) : th_pf RJxc12de nm 7 11 0 := ⟨_, _, _, rfl, by decide, Or.inl ⟨rfl, (Or.inl (th_mW 68 (by decide +kernel) rfl))⟩⟩
theorem g_Jx4a65c_63 : th_gf RJx4a65c 63 11 0 := ⟨_, _, _, rfl, by decide, (Or.inr (Or.inl ⟨"java/util/ArrayList", (th_mW 69 (by decide +kernel) rfl), (th_mW 70 (by decide +kernel) rfl)⟩))⟩
theorem p_Jx4a65c_63 (nm : String) : th_pf RJx4a65c nm 63 11 0 := ⟨_, _, _, rfl, by decide, Or.inl ⟨rfl, (Or.inr (Or.inl ⟨"java/util/ArrayList", (th_mW 69 (by decide +kernel) rfl), (th_mW 70 (by decide +kernel) rfl)⟩))⟩⟩
theorem g_X0_9 : th_gf RX0 9 0 0 := ⟨_, _, _, rfl, by decide, (Or.inl (th_mW 90 (by decide +kernel) rfl))⟩
theorem p_X0_9 : th_pf RX0 "<init>" 9 0 0 := ⟨_, _, _, rfl, by decide, Or.inr ⟨rfl, rfl, rfl, (th_mW 90 (by decide +kernel) rfl)⟩⟩
theorem g_X0_15 : th_gf RX0 15 0 1 := ⟨_, _, _, rfl, by decide, (Or.inl (th_mW 91 (by decide +kernel) rfl))⟩
theorem p_X0_15 : th_pf RX0 "<init>" 15 0 1 := ⟨_, _, _, rfl, by decide, Or.inr ⟨rfl, rfl, rfl, (th_mW 91 (by decide +kernel) rfl)⟩⟩
theorem g_X0_18 : th_gf RX0 18 0 2 := ⟨_, _, _, rfl, by decide, (Or.inl (th_mW 92 (by decide +kernel) rfl))⟩
theorem p_X0_18 : th_pf RX0 "<init>" 18 0 2 := ⟨_, _, _, rfl, by decide, Or.inr ⟨rfl, rfl, rfl, (th_mW 92 (by decide +kernel) rfl)⟩⟩
theorem g_X3_63 : th_gf RX3 63 0 2 := ⟨_, _, _, rfl, by decide, (Or.inr (Or.inr ⟨"TriggerHall", (th_mN 93 (by decide +kernel) rfl)⟩))⟩
theorem g_X9_160 : th_gf RX9 160 0 2 := ⟨_, _, _, rfl, by decide, (Or.inr (Or.inr ⟨"TriggerHall", (th_mN 94 (by decide +kernel) rfl)⟩))⟩
theorem g_X0_21 : th_gf RX0 21 0 3 := ⟨_, _, _, rfl, by decide, (Or.inl (th_mW 95 (by decide +kernel) rfl))⟩
theorem p_X0_21 (nm : String) : th_pf RX0 nm 21 0 3 := ⟨_, _, _, rfl, by decide, Or.inl ⟨rfl, (Or.inl (th_mW 95 (by decide +kernel) rfl))⟩⟩
theorem g_X0_25 : th_gf RX0 25 0 4 := ⟨_, _, _, rfl, by decide, (Or.inl (th_mW 96 (by decide +kernel) rfl))⟩
theorem p_X0_25 (nm : String) : th_pf RX0 nm 25 0 4 := ⟨_, _, _, rfl, by decide, Or.inl ⟨rfl, (Or.inl (th_mW 96 (by decide +kernel) rfl))⟩⟩
theorem g_X0_34 : th_gf RX0 34 0 5 := ⟨_, _, _, rfl, by decide, (Or.inl (th_mW 97 (by decide +kernel) rfl))⟩
theorem p_X0_34 (nm : String) : th_pf RX0 nm 34 0 5 := ⟨_, _, _, rfl, by decide, Or.inl ⟨rfl, (Or.inl (th_mW 97 (by decide +kernel) rfl))⟩⟩
theorem g_X0_38 : th_gf RX0 38 0 6 := ⟨_, _, _, rfl, by decide, (Or.inl (th_mW 98 (by decide +kernel) rfl))⟩
theorem p_X0_38 (nm : String) : th_pf RX0 nm 38 0 6 := ⟨_, _, _, rfl, by decide, Or.inl ⟨rfl, (Or.inl (th_mW 98 (by decide +kernel) rfl))⟩⟩
theorem g_X1_9 : th_gf RX1 9 1 0 := ⟨_, _, _, rfl, by decide, (Or.inl (th_mW 120 (by decide +kernel) rfl))⟩
theorem p_X1_9 : th_pf RX1 "<init>" 9 1 0 := ⟨_, _, _, rfl, by decide, Or.inr ⟨rfl, rfl, rfl, (th_mW 120 (by decide +kernel) rfl)⟩⟩
theorem g_X1_15 : th_gf RX1 15 1 1 := ⟨_, _, _, rfl, by decide, (Or.inl (th_mW 121 (by decide +kernel) rfl))⟩
theorem p_X1_15 : th_pf RX1 "<init>" 15 1 1 := ⟨_, _, _, rfl, by decide, Or.inr ⟨rfl, rfl, rfl, (th_mW 121 (by decide +kernel) rfl)⟩⟩
theorem g_X1_18 : th_gf RX1 18 1 2 := ⟨_, _, _, rfl, by decide, (Or.inl (th_mW 122 (by decide +kernel) rfl))⟩
theorem p_X1_18 : th_pf RX1 "<init>" 18 1 2 := ⟨_, _, _, rfl, by decide, Or.inr ⟨rfl, rfl, rfl, (th_mW 122 (by decide +kernel) rfl)⟩⟩
theorem g_X1_21 : th_gf RX1 21 1 3 := ⟨_, _, _, rfl, by decide, (Or.inl (th_mW 123 (by decide +kernel) rfl))⟩
theorem p_X1_21 : th_pf RX1 "<init>" 21 1 3 := ⟨_, _, _, rfl, by decide, Or.inr ⟨rfl, rfl, rfl, (th_mW 123 (by decide +kernel) rfl)⟩⟩
theorem g_X1_24 : th_gf RX1 24 1 4 := ⟨_, _, _, rfl, by decide, (Or.inl (th_mW 124 (by decide +kernel) rfl))⟩
theorem p_X1_24 (nm : String) : th_pf RX1 nm 24 1 4 := ⟨_, _, _, rfl, by decide, Or.inl ⟨rfl, (Or.inl (th_mW 124 (by decide +kernel) rfl))⟩⟩
theorem g_X1_28 : th_gf RX1 28 1 5 := ⟨_, _, _, rfl, by decide, (Or.inl (th_mW 125 (by decide +kernel) rfl))⟩
theorem p_X1_28 (nm : String) : th_pf RX1 nm 28 1 5 := ⟨_, _, _, rfl, by decide, Or.inl ⟨rfl, (Or.inl (th_mW 125 (by decide +kernel) rfl))⟩⟩
theorem g_X3_73 : th_gf RX3 73 1 5 := ⟨_, _, _, rfl, by decide, (Or.inr (Or.inr ⟨"TriggerHall", (th_mN 126 (by decide +kernel) rfl)⟩))⟩
theorem p_X3_73 (nm : String) : th_pf RX3 nm 73 1 5 := ⟨_, _, _, rfl, by decide, Or.inl ⟨rfl, (Or.inr (Or.inr ⟨"TriggerHall", (th_mN 126 (by decide +kernel) rfl)⟩))⟩⟩
theorem g_X9_186 : th_gf RX9 186 1 5 := ⟨_, _, _, rfl, by decide, (Or.inr (Or.inr ⟨"TriggerHall", (th_mN 127 (by decide +kernel) rfl)⟩))⟩
theorem p_X9_186 (nm : String) : th_pf RX9 nm 186 1 5 := ⟨_, _, _, rfl, by decide, Or.inl ⟨rfl, (Or.inr (Or.inr ⟨"TriggerHall", (th_mN 127 (by decide +kernel) rfl)⟩))⟩⟩
theorem g_X1_31 : th_gf RX1 31 1 6 := ⟨_, _, _, rfl, by decide, (Or.inl (th_mW 128 (by decide +kernel) rfl))⟩
theorem p_X1_31 (nm : String) : th_pf RX1 nm 31 1 6 := ⟨_, _, _, rfl, by decide, Or.inl ⟨rfl, (Or.inl (th_mW 128 (by decide +kernel) rfl))⟩⟩
theorem g_X3_86 : th_gf RX3 86 1 6 := ⟨_, _, _, rfl, by decide, (Or.inr (Or.inr ⟨"TriggerHall", (th_mN 129 (by decide +kernel) rfl)⟩))⟩
theorem p_X3_86 (nm : String) : th_pf RX3 nm 86 1 6 := ⟨_, _, _, rfl, by decide, Or.inl ⟨rfl, (Or.inr (Or.inr ⟨"TriggerHall", (th_mN 129 (by decide +kernel) rfl)⟩))⟩⟩
theorem g_X9_191 : th_gf RX9 191 1 6 := ⟨_, _, _, rfl, by decide, (Or.inr (Or.inr ⟨"TriggerHall", (th_mN 130 (by decide +kernel) rfl)⟩))⟩
theorem p_X9_191 (nm : String) : th_pf RX9 nm 191 1 6 := ⟨_, _, _, rfl, by decide, Or.inl ⟨rfl, (Or.inr (Or.inr ⟨"TriggerHall", (th_mN 130 (by decide +kernel) rfl)⟩))⟩⟩
theorem g_X3_9 : th_gf RX3 9 3 0 := ⟨_, _, _, rfl, by decide, (Or.inl (th_mW 146 (by decide +kernel) rfl))⟩
theorem p_X3_9 : th_pf RX3 "<init>" 9 3 0 := ⟨_, _, _, rfl, by decide, Or.inr ⟨rfl, rfl, rfl, (th_mW 146 (by decide +kernel) rfl)⟩⟩
theorem g_X9_146 : th_gf RX9 146 3 0 := ⟨_, _, _, rfl, by decide, (Or.inr (Or.inr ⟨"TriggerHall", (th_mN 147 (by decide +kernel) rfl)⟩))⟩
theorem g_X3_18 : th_gf RX3 18 3 1 := ⟨_, _, _, rfl, by decide, (Or.inl (th_mW 148 (by decide +kernel) rfl))⟩
theorem p_X3_18 : th_pf RX3 "<init>" 18 3 1 := ⟨_, _, _, rfl, by decide, Or.inr ⟨rfl, rfl, rfl, (th_mW 148 (by decide +kernel) rfl)⟩⟩
theorem g_X9_156 : th_gf RX9 156 3 1 := ⟨_, _, _, rfl, by decide, (Or.inr (Or.inr ⟨"TriggerHall", (th_mN 149 (by decide +kernel) rfl)⟩))⟩
theorem g_X3_25 : th_gf RX3 25 3 2 := ⟨_, _, _, rfl, by decide, (Or.inl (th_mW 150 (by decide +kernel) rfl))⟩
theorem p_X3_25 : th_pf RX3 "<init>" 25 3 2 := ⟨_, _, _, rfl, by decide, Or.inr ⟨rfl, rfl, rfl, (th_mW 150 (by decide +kernel) rfl)⟩⟩
theorem g_X9_182 : th_gf RX9 182 3 2 := ⟨_, _, _, rfl, by decide, (Or.inr (Or.inr ⟨"TriggerHall", (th_mN 151 (by decide +kernel) rfl)⟩))⟩
theorem g_X3_29 : th_gf RX3 29 3 3 := ⟨_, _, _, rfl, by decide, (Or.inl (th_mW 152 (by decide +kernel) rfl))⟩
theorem p_X3_29 (nm : String) : th_pf RX3 nm 29 3 3 := ⟨_, _, _, rfl, by decide, Or.inl ⟨rfl, (Or.inl (th_mW 152 (by decide +kernel) rfl))⟩⟩
theorem g_X9_142 : th_gf RX9 142 3 3 := ⟨_, _, _, rfl, by decide, (Or.inr (Or.inr ⟨"TriggerHall", (th_mN 153 (by decide +kernel) rfl)⟩))⟩
theorem p_X9_142 (nm : String) : th_pf RX9 nm 142 3 3 := ⟨_, _, _, rfl, by decide, Or.inl ⟨rfl, (Or.inr (Or.inr ⟨"TriggerHall", (th_mN 153 (by decide +kernel) rfl)⟩))⟩⟩
theorem g_X8_9 : th_gf RX8 9 8 0 := ⟨_, _, _, rfl, by decide, (Or.inl (th_mW 169 (by decide +kernel) rfl))⟩
theorem p_X8_9 : th_pf RX8 "<init>" 9 8 0 := ⟨_, _, _, rfl, by decide, Or.inr ⟨rfl, rfl, rfl, (th_mW 169 (by decide +kernel) rfl)⟩⟩
theorem g_X8_15 : th_gf RX8 15 8 1 := ⟨_, _, _, rfl, by decide, (Or.inl (th_mW 170 (by decide +kernel) rfl))⟩
theorem p_X8_15 (nm : String) : th_pf RX8 nm 15 8 1 := ⟨_, _, _, rfl, by decide, Or.inl ⟨rfl, (Or.inl (th_mW 170 (by decide +kernel) rfl))⟩⟩
theorem g_X5_30 : th_gf RX5 30 8 1 := ⟨_, _, _, rfl, by decide, (Or.inr (Or.inr ⟨"TriggerHall", (th_mN 171 (by decide +kernel) rfl)⟩))⟩
theorem p_X5_30 (nm : String) : th_pf RX5 nm 30 8 1 := ⟨_, _, _, rfl, by decide, Or.inl ⟨rfl, (Or.inr (Or.inr ⟨"TriggerHall", (th_mN 171 (by decide +kernel) rfl)⟩))⟩⟩
theorem g_X9_200 : th_gf RX9 200 8 1 := ⟨_, _, _, rfl, by decide, (Or.inr (Or.inr ⟨"TriggerHall", (th_mN 172 (by decide +kernel) rfl)⟩))⟩
theorem p_X9_200 (nm : String) : th_pf RX9 nm 200 8 1 := ⟨_, _, _, rfl, by decide, Or.inl ⟨rfl, (Or.inr (Or.inr ⟨"TriggerHall", (th_mN 172 (by decide +kernel) rfl)⟩))⟩⟩
theorem g_X5_9 : th_gf RX5 9 5 0 := ⟨_, _, _, rfl, by decide, (Or.inl (th_mW 185 (by decide +kernel) rfl))⟩
theorem p_X5_9 (nm : String) : th_pf RX5 nm 9 5 0 := ⟨_, _, _, rfl, by decide, Or.inl ⟨rfl, (Or.inl (th_mW 185 (by decide +kernel) rfl))⟩⟩
theorem g_X5_15 : th_gf RX5 15 5 1 := ⟨_, _, _, rfl, by decide, (Or.inl (th_mW 186 (by decide +kernel) rfl))⟩
theorem p_X5_15 (nm : String) : th_pf RX5 nm 15 5 1 := ⟨_, _, _, rfl, by decide, Or.inl ⟨rfl, (Or.inl (th_mW 186 (by decide +kernel) rfl))⟩⟩
theorem g_X5_19 : th_gf RX5 19 5 2 := ⟨_, _, _, rfl, by decide, (Or.inl (th_mW 187 (by decide +kernel) rfl))⟩
theorem p_X5_19 (nm : String) : th_pf RX5 nm 19 5 2 := ⟨_, _, _, rfl, by decide, Or.inl ⟨rfl, (Or.inl (th_mW 187 (by decide +kernel) rfl))⟩⟩
theorem g_X5_23 : th_gf RX5 23 5 3 := ⟨_, _, _, rfl, by decide, (Or.inl (th_mW 188 (by decide +kernel) rfl))⟩
theorem p_X5_23 (nm : String) : th_pf RX5 nm 23 5 3 := ⟨_, _, _, rfl, by decide, Or.inl ⟨rfl, (Or.inl (th_mW 188 (by decide +kernel) rfl))⟩⟩
theorem g_X9_217 : th_gf RX9 217 5 3 := ⟨_, _, _, rfl, by decide, (Or.inr (Or.inr ⟨"TriggerHall", (th_mN 189 (by decide +kernel) rfl)⟩))⟩
theorem p_X9_217 (nm : String) : th_pf RX9 nm 217 5 3 := ⟨_, _, _, rfl, by decide, Or.inl ⟨rfl, (Or.inr (Or.inr ⟨"TriggerHall", (th_mN 189 (by decide +kernel) rfl)⟩))⟩⟩
theorem g_X4_9 : th_gf RX4 9 4 0 := ⟨_, _, _, rfl, by decide, (Or.inl (th_mW 205 (by decide +kernel) rfl))⟩
theorem p_X4_9 : th_pf RX4 "<init>" 9 4 0 := ⟨_, _, _, rfl, by decide, Or.inr ⟨rfl, rfl, rfl, (th_mW 205 (by decide +kernel) rfl)⟩⟩
theorem g_X4_15 : th_gf RX4 15 4 1 := ⟨_, _, _, rfl, by decide, (Or.inl (th_mW 206 (by decide +kernel) rfl))⟩
theorem p_X4_15 : th_pf RX4 "<init>" 15 4 1 := ⟨_, _, _, rfl, by decide, Or.inr ⟨rfl, rfl, rfl, (th_mW 206 (by decide +kernel) rfl)⟩⟩
theorem g_X4_18 : th_gf RX4 18 4 2 := ⟨_, _, _, rfl, by decide, (Or.inl (th_mW 207 (by decide +kernel) rfl))⟩
theorem p_X4_18 : th_pf RX4 "<init>" 18 4 2 := ⟨_, _, _, rfl, by decide, Or.inr ⟨rfl, rfl, rfl, (th_mW 207 (by decide +kernel) rfl)⟩⟩
theorem g_X4_21 : th_gf RX4 21 4 3 := ⟨_, _, _, rfl, by decide, (Or.inl (th_mW 208 (by decide +kernel) rfl))⟩
theorem p_X4_21 (nm : String) : th_pf RX4 nm 21 4 3 := ⟨_, _, _, rfl, by decide, Or.inl ⟨rfl, (Or.inl (th_mW 208 (by decide +kernel) rfl))⟩⟩
theorem g_X9_268 : th_gf RX9 268 4 3 := ⟨_, _, _, rfl, by decide, (Or.inr (Or.inr ⟨"TriggerHall", (th_mN 209 (by decide +kernel) rfl)⟩))⟩
theorem p_X9_268 (nm : String) : th_pf RX9 nm 268 4 3 := ⟨_, _, _, rfl, by decide, Or.inl ⟨rfl, (Or.inr (Or.inr ⟨"TriggerHall", (th_mN 209 (by decide +kernel) rfl)⟩))⟩⟩
theorem g_X9_10 : th_gf RX9 10 9 0 := ⟨_, _, _, rfl, by decide, (Or.inl (th_mW 219 (by decide +kernel) rfl))⟩
theorem p_X9_10 : th_pf RX9 "<init>" 10 9 0 := ⟨_, _, _, rfl, by decide, Or.inr ⟨rfl, rfl, rfl, (th_mW 219 (by decide +kernel) rfl)⟩⟩
theorem g_X9_16 : th_gf RX9 16 9 1 := ⟨_, _, _, rfl, by decide, (Or.inl (th_mW 220 (by decide +kernel) rfl))⟩
theorem p_X9_16 : th_pf RX9 "<init>" 16 9 1 := ⟨_, _, _, rfl, by decide, Or.inr ⟨rfl, rfl, rfl, (th_mW 220 (by decide +kernel) rfl)⟩⟩
theorem g_X9_20 : th_gf RX9 20 9 2 := ⟨_, _, _, rfl, by decide, (Or.inl (th_mW 221 (by decide +kernel) rfl))⟩
theorem p_X9_20 : th_pf RX9 "<init>" 20 9 2 := ⟨_, _, _, rfl, by decide, Or.inr ⟨rfl, rfl, rfl, (th_mW 221 (by decide +kernel) rfl)⟩⟩
theorem g_X9_23 : th_gf RX9 23 9 3 := ⟨_, _, _, rfl, by decide, (Or.inl (th_mW 222 (by decide +kernel) rfl))⟩
theorem p_X9_23 : th_pf RX9 "<init>" 23 9 3 := ⟨_, _, _, rfl, by decide, Or.inr ⟨rfl, rfl, rfl, (th_mW 222 (by decide +kernel) rfl)⟩⟩
theorem g_X9_29 : th_gf RX9 29 9 4 := ⟨_, _, _, rfl, by decide, (Or.inl (th_mW 223 (by decide +kernel) rfl))⟩
theorem p_X9_29 : th_pf RX9 "<init>" 29 9 4 := ⟨_, _, _, rfl, by decide, Or.inr ⟨rfl, rfl, rfl, (th_mW 223 (by decide +kernel) rfl)⟩⟩
theorem g_X9_36 : th_gf RX9 36 9 5 := ⟨_, _, _, rfl, by decide, (Or.inl (th_mW 224 (by decide +kernel) rfl))⟩
theorem p_X9_36 : th_pf RX9 "<init>" 36 9 5 := ⟨_, _, _, rfl, by decide, Or.inr ⟨rfl, rfl, rfl, (th_mW 224 (by decide +kernel) rfl)⟩⟩
theorem g_X9_43 : th_gf RX9 43 9 6 := ⟨_, _, _, rfl, by decide, (Or.inl (th_mW 225 (by decide +kernel) rfl))⟩
theorem p_X9_43 : th_pf RX9 "<init>" 43 9 6 := ⟨_, _, _, rfl, by decide, Or.inr ⟨rfl, rfl, rfl, (th_mW 225 (by decide +kernel) rfl)⟩⟩
theorem g_X9_50 : th_gf RX9 50 9 7 := ⟨_, _, _, rfl, by decide, (Or.inl (th_mW 226 (by decide +kernel) rfl))⟩
theorem p_X9_50 : th_pf RX9 "<init>" 50 9 7 := ⟨_, _, _, rfl, by decide, Or.inr ⟨rfl, rfl, rfl, (th_mW 226 (by decide +kernel) rfl)⟩⟩
theorem g_X9_54 : th_gf RX9 54 9 8 := ⟨_, _, _, rfl, by decide, (Or.inl (th_mW 227 (by decide +kernel) rfl))⟩
theorem p_X9_54 : th_pf RX9 "<init>" 54 9 8 := ⟨_, _, _, rfl, by decide, Or.inr ⟨rfl, rfl, rfl, (th_mW 227 (by decide +kernel) rfl)⟩⟩
theorem g_X9_60 : th_gf RX9 60 9 9 := ⟨_, _, _, rfl, by decide, (Or.inl (th_mW 228 (by decide +kernel) rfl))⟩
theorem p_X9_60 : th_pf RX9 "<init>" 60 9 9 := ⟨_, _, _, rfl, by decide, Or.inr ⟨rfl, rfl, rfl, (th_mW 228 (by decide +kernel) rfl)⟩⟩
theorem g_X9_64 : th_gf RX9 64 9 10 := ⟨_, _, _, rfl, by decide, (Or.inl (th_mW 229 (by decide +kernel) rfl))⟩
theorem p_X9_64 : th_pf RX9 "<init>" 64 9 10 := ⟨_, _, _, rfl, by decide, Or.inr ⟨rfl, rfl, rfl, (th_mW 229 (by decide +kernel) rfl)⟩⟩
theorem g_X9_262 : th_gf RX9 262 9 11 := ⟨_, _, _, rfl, by decide, (Or.inl (th_mW 230 (by decide +kernel) rfl))⟩
theorem p_X9_262 (nm : String) : th_pf RX9 nm 262 9 11 := ⟨_, _, _, rfl, by decide, Or.inl ⟨rfl, (Or.inl (th_mW 230 (by decide +kernel) rfl))⟩⟩
theorem g_X9_253 : th_gf RX9 253 9 12 := ⟨_, _, _, rfl, by decide, (Or.inl (th_mW 231 (by decide +kernel) rfl))⟩
theorem p_X9_253 (nm : String) : th_pf RX9 nm 253 9 12 := ⟨_, _, _, rfl, by decide, Or.inl ⟨rfl, (Or.inl (th_mW 231 (by decide +kernel) rfl))⟩⟩
theorem g_X9_250 : th_gf RX9 250 9 13 := ⟨_, _, _, rfl, by decide, (Or.inl (th_mW 232 (by decide +kernel) rfl))⟩
theorem p_X9_250 (nm : String) : th_pf RX9 nm 250 9 13 := ⟨_, _, _, rfl, by decide, Or.inl ⟨rfl, (Or.inl (th_mW 232 (by decide +kernel) rfl))⟩⟩
theorem g_X9_265 : th_gf RX9 265 9 14 := ⟨_, _, _, rfl, by decide, (Or.inl (th_mW 233 (by decide +kernel) rfl))⟩
theorem p_X9_265 (nm : String) : th_pf RX9 nm 265 9 14 := ⟨_, _, _, rfl, by decide, Or.inl ⟨rfl, (Or.inl (th_mW 233 (by decide +kernel) rfl))⟩⟩
theorem g_X9_269 : th_gf RX9 269 9 15 := ⟨_, _, _, rfl, by decide, (Or.inl (th_mW 234 (by decide +kernel) rfl))⟩
theorem p_X9_269 (nm : String) : th_pf RX9 nm 269 9 15 := ⟨_, _, _, rfl, by decide, Or.inl ⟨rfl, (Or.inl (th_mW 234 (by decide +kernel) rfl))⟩⟩
theorem g_X6_9 : th_gf RX6 9 6 0 := ⟨_, _, _, rfl, by decide, (Or.inl (th_mW 356 (by decide +kernel) rfl))⟩
theorem p_X6_9 : th_pf RX6 "<init>" 9 6 0 := ⟨_, _, _, rfl, by decide, Or.inr ⟨rfl, rfl, rfl, (th_mW 356 (by decide +kernel) rfl)⟩⟩
theorem g_X6_15 : th_gf RX6 15 6 1 := ⟨_, _, _, rfl, by decide, (Or.inl (th_mW 357 (by decide +kernel) rfl))⟩
theorem p_X6_15 : th_pf RX6 "<init>" 15 6 1 := ⟨_, _, _, rfl, by decide, Or.inr ⟨rfl, rfl, rfl, (th_mW 357 (by decide +kernel) rfl)⟩⟩
theorem g_X6_18 : th_gf RX6 18 6 2 := ⟨_, _, _, rfl, by decide, (Or.inl (th_mW 358 (by decide +kernel) rfl))⟩
theorem p_X6_18 : th_pf RX6 "<init>" 18 6 2 := ⟨_, _, _, rfl, by decide, Or.inr ⟨rfl, rfl, rfl, (th_mW 358 (by decide +kernel) rfl)⟩⟩
theorem sl_X9_194 : Cond.fieldLink RX9 194 "TriggerHall" "NO_CELLS" "[I" ∈ th_W := (th_mW 600 (by decide +kernel) rfl)
theorem g_X2_10 : th_gf RX2 10 2 0 := ⟨_, _, _, rfl, by decide, (Or.inl (th_mW 692 (by decide +kernel) rfl))⟩
theorem p_X2_10 : th_pf RX2 "<init>" 10 2 0 := ⟨_, _, _, rfl, by decide, Or.inr ⟨rfl, rfl, rfl, (th_mW 692 (by decide +kernel) rfl)⟩⟩
theorem g_X9_232 : th_gf RX9 232 2 0 := ⟨_, _, _, rfl, by decide, (Or.inr (Or.inr ⟨"TriggerHall", (th_mN 693 (by decide +kernel) rfl)⟩))⟩
theorem g_X2_24 : th_gf RX2 24 2 1 := ⟨_, _, _, rfl, by decide, (Or.inl (th_mW 694 (by decide +kernel) rfl))⟩
theorem p_X2_24 : th_pf RX2 "<init>" 24 2 1 := ⟨_, _, _, rfl, by decide, Or.inr ⟨rfl, rfl, rfl, (th_mW 694 (by decide +kernel) rfl)⟩⟩
theorem g_X9_235 : th_gf RX9 235 2 1 := ⟨_, _, _, rfl, by decide, (Or.inr (Or.inr ⟨"TriggerHall", (th_mN 695 (by decide +kernel) rfl)⟩))⟩
theorem g_X2_20 : th_gf RX2 20 2 2 := ⟨_, _, _, rfl, by decide, (Or.inl (th_mW 696 (by decide +kernel) rfl))⟩
theorem p_X2_20 (nm : String) : th_pf RX2 nm 20 2 2 := ⟨_, _, _, rfl, by decide, Or.inl ⟨rfl, (Or.inl (th_mW 696 (by decide +kernel) rfl))⟩⟩
theorem g_X9_229 : th_gf RX9 229 2 2 := ⟨_, _, _, rfl, by decide, (Or.inr (Or.inr ⟨"TriggerHall", (th_mN 697 (by decide +kernel) rfl)⟩))⟩
theorem p_X9_229 (nm : String) : th_pf RX9 nm 229 2 2 := ⟨_, _, _, rfl, by decide, Or.inl ⟨rfl, (Or.inr (Or.inr ⟨"TriggerHall", (th_mN 697 (by decide +kernel) rfl)⟩))⟩⟩
theorem g_X2_28 : th_gf RX2 28 2 3 := ⟨_, _, _, rfl, by decide, (Or.inl (th_mW 698 (by decide +kernel) rfl))⟩
theorem p_X2_28 (nm : String) : th_pf RX2 nm 28 2 3 := ⟨_, _, _, rfl, by decide, Or.inl ⟨rfl, (Or.inl (th_mW 698 (by decide +kernel) rfl))⟩⟩
theorem g_X9_238 : th_gf RX9 238 2 3 := ⟨_, _, _, rfl, by decide, (Or.inr (Or.inr ⟨"TriggerHall", (th_mN 699 (by decide +kernel) rfl)⟩))⟩
theorem p_X9_238 (nm : String) : th_pf RX9 nm 238 2 3 := ⟨_, _, _, rfl, by decide, Or.inl ⟨rfl, (Or.inr (Or.inr ⟨"TriggerHall", (th_mN 699 (by decide +kernel) rfl)⟩))⟩⟩
theorem g_X2_31 : th_gf RX2 31 2 4 := ⟨_, _, _, rfl, by decide, (Or.inl (th_mW 700 (by decide +kernel) rfl))⟩
theorem p_X2_31 (nm : String) : th_pf RX2 nm 31 2 4 := ⟨_, _, _, rfl, by decide, Or.inl ⟨rfl, (Or.inl (th_mW 700 (by decide +kernel) rfl))⟩⟩
theorem g_X9_241 : th_gf RX9 241 2 4 := ⟨_, _, _, rfl, by decide, (Or.inr (Or.inr ⟨"TriggerHall", (th_mN 701 (by decide +kernel) rfl)⟩))⟩
theorem p_X9_241 (nm : String) : th_pf RX9 nm 241 2 4 := ⟨_, _, _, rfl, by decide, Or.inl ⟨rfl, (Or.inr (Or.inr ⟨"TriggerHall", (th_mN 701 (by decide +kernel) rfl)⟩))⟩⟩
theorem g_X2_34 : th_gf RX2 34 2 5 := ⟨_, _, _, rfl, by decide, (Or.inl (th_mW 702 (by decide +kernel) rfl))⟩
theorem p_X2_34 (nm : String) : th_pf RX2 nm 34 2 5 := ⟨_, _, _, rfl, by decide, Or.inl ⟨rfl, (Or.inl (th_mW 702 (by decide +kernel) rfl))⟩⟩
theorem g_X9_244 : th_gf RX9 244 2 5 := ⟨_, _, _, rfl, by decide, (Or.inr (Or.inr ⟨"TriggerHall", (th_mN 703 (by decide +kernel) rfl)⟩))⟩
theorem p_X9_244 (nm : String) : th_pf RX9 nm 244 2 5 := ⟨_, _, _, rfl, by decide, Or.inl ⟨rfl, (Or.inr (Or.inr ⟨"TriggerHall", (th_mN 703 (by decide +kernel) rfl)⟩))⟩⟩
theorem g_X2_37 : th_gf RX2 37 2 6 := ⟨_, _, _, rfl, by decide, (Or.inl (th_mW 704 (by decide +kernel) rfl))⟩
theorem p_X2_37 (nm : String) : th_pf RX2 nm 37 2 6 := ⟨_, _, _, rfl, by decide, Or.inl ⟨rfl, (Or.inl (th_mW 704 (by decide +kernel) rfl))⟩⟩
theorem g_X9_247 : th_gf RX9 247 2 6 := ⟨_, _, _, rfl, by decide, (Or.inr (Or.inr ⟨"TriggerHall", (th_mN 705 (by decide +kernel) rfl)⟩))⟩
theorem p_X9_247 (nm : String) : th_pf RX9 nm 247 2 6 := ⟨_, _, _, rfl, by decide, Or.inl ⟨rfl, (Or.inr (Or.inr ⟨"TriggerHall", (th_mN 705 (by decide +kernel) rfl)⟩))⟩⟩
theorem g_X10_9 : th_gf RX10 9 10 0 := ⟨_, _, _, rfl, by decide, (Or.inl (th_mW 836 (by decide +kernel) rfl))⟩
theorem p_X10_9 : th_pf RX10 "<init>" 9 10 0 := ⟨_, _, _, rfl, by decide, Or.inr ⟨rfl, rfl, rfl, (th_mW 836 (by decide +kernel) rfl)⟩⟩
theorem g_X10_13 : th_gf RX10 13 10 1 := ⟨_, _, _, rfl, by decide, (Or.inl (th_mW 837 (by decide +kernel) rfl))⟩
theorem p_X10_13 : th_pf RX10 "<init>" 13 10 1 := ⟨_, _, _, rfl, by decide, Or.inr ⟨rfl, rfl, rfl, (th_mW 837 (by decide +kernel) rfl)⟩⟩
theorem g_X10_16 : th_gf RX10 16 10 2 := ⟨_, _, _, rfl, by decide, (Or.inl (th_mW 838 (by decide +kernel) rfl))⟩
theorem p_X10_16 : th_pf RX10 "<init>" 16 10 2 := ⟨_, _, _, rfl, by decide, Or.inr ⟨rfl, rfl, rfl, (th_mW 838 (by decide +kernel) rfl)⟩⟩
theorem g_X10_19 : th_gf RX10 19 10 3 := ⟨_, _, _, rfl, by decide, (Or.inl (th_mW 839 (by decide +kernel) rfl))⟩
theorem p_X10_19 : th_pf RX10 "<init>" 19 10 3 := ⟨_, _, _, rfl, by decide, Or.inr ⟨rfl, rfl, rfl, (th_mW 839 (by decide +kernel) rfl)⟩⟩
theorem g_X10_22 : th_gf RX10 22 10 4 := ⟨_, _, _, rfl, by decide, (Or.inl (th_mW 840 (by decide +kernel) rfl))⟩
theorem p_X10_22 : th_pf RX10 "<init>" 22 10 4 := ⟨_, _, _, rfl, by decide, Or.inr ⟨rfl, rfl, rfl, (th_mW 840 (by decide +kernel) rfl)⟩⟩
theorem g_X10_25 : th_gf RX10 25 10 5 := ⟨_, _, _, rfl, by decide, (Or.inl (th_mW 841 (by decide +kernel) rfl))⟩
theorem p_X10_25 : th_pf RX10 "<init>" 25 10 5 := ⟨_, _, _, rfl, by decide, Or.inr ⟨rfl, rfl, rfl, (th_mW 841 (by decide +kernel) rfl)⟩⟩
theorem g_X10_124 : th_gf RX10 124 10 6 := ⟨_, _, _, rfl, by decide, (Or.inl (th_mW 842 (by decide +kernel) rfl))⟩
theorem p_X10_124 (nm : String) : th_pf RX10 nm 124 10 6 := ⟨_, _, _, rfl, by decide, Or.inl ⟨rfl, (Or.inl (th_mW 842 (by decide +kernel) rfl))⟩⟩
theorem g_X10_28 : th_gf RX10 28 10 7 := ⟨_, _, _, rfl, by decide, (Or.inl (th_mW 843 (by decide +kernel) rfl))⟩
theorem p_X10_28 : th_pf RX10 "<init>" 28 10 7 := ⟨_, _, _, rfl, by decide, Or.inr ⟨rfl, rfl, rfl, (th_mW 843 (by decide +kernel) rfl)⟩⟩
theorem g_X10_31 : th_gf RX10 31 10 8 := ⟨_, _, _, rfl, by decide, (Or.inl (th_mW 844 (by decide +kernel) rfl))⟩
theorem p_X10_31 : th_pf RX10 "<init>" 31 10 8 := ⟨_, _, _, rfl, by decide, Or.inr ⟨rfl, rfl, rfl, (th_mW 844 (by decide +kernel) rfl)⟩⟩
theorem g_X10_34 : th_gf RX10 34 10 9 := ⟨_, _, _, rfl, by decide, (Or.inl (th_mW 845 (by decide +kernel) rfl))⟩
theorem p_X10_34 : th_pf RX10 "<init>" 34 10 9 := ⟨_, _, _, rfl, by decide, Or.inr ⟨rfl, rfl, rfl, (th_mW 845 (by decide +kernel) rfl)⟩⟩
theorem g_X10_175 : th_gf RX10 175 10 10 := ⟨_, _, _, rfl, by decide, (Or.inl (th_mW 846 (by decide +kernel) rfl))⟩
theorem p_X10_175 (nm : String) : th_pf RX10 nm 175 10 10 := ⟨_, _, _, rfl, by decide, Or.inl ⟨rfl, (Or.inl (th_mW 846 (by decide +kernel) rfl))⟩⟩
theorem g_X10_186 : th_gf RX10 186 10 11 := ⟨_, _, _, rfl, by decide, (Or.inl (th_mW 847 (by decide +kernel) rfl))⟩
theorem p_X10_186 (nm : String) : th_pf RX10 nm 186 10 11 := ⟨_, _, _, rfl, by decide, Or.inl ⟨rfl, (Or.inl (th_mW 847 (by decide +kernel) rfl))⟩⟩
theorem g_X10_38 : th_gf RX10 38 10 12 := ⟨_, _, _, rfl, by decide, (Or.inl (th_mW 848 (by decide +kernel) rfl))⟩
theorem p_X10_38 : th_pf RX10 "<init>" 38 10 12 := ⟨_, _, _, rfl, by decide, Or.inr ⟨rfl, rfl, rfl, (th_mW 848 (by decide +kernel) rfl)⟩⟩
theorem g_X10_41 : th_gf RX10 41 10 13 := ⟨_, _, _, rfl, by decide, (Or.inl (th_mW 849 (by decide +kernel) rfl))⟩
theorem p_X10_41 : th_pf RX10 "<init>" 41 10 13 := ⟨_, _, _, rfl, by decide, Or.inr ⟨rfl, rfl, rfl, (th_mW 849 (by decide +kernel) rfl)⟩⟩
theorem g_X10_44 : th_gf RX10 44 10 14 := ⟨_, _, _, rfl, by decide, (Or.inl (th_mW 850 (by decide +kernel) rfl))⟩
theorem p_X10_44 : th_pf RX10 "<init>" 44 10 14 := ⟨_, _, _, rfl, by decide, Or.inr ⟨rfl, rfl, rfl, (th_mW 850 (by decide +kernel) rfl)⟩⟩
theorem g_X10_47 : th_gf RX10 47 10 15 := ⟨_, _, _, rfl, by decide, (Or.inl (th_mW 851 (by decide +kernel) rfl))⟩
theorem p_X10_47 : th_pf RX10 "<init>" 47 10 15 := ⟨_, _, _, rfl, by decide, Or.inr ⟨rfl, rfl, rfl, (th_mW 851 (by decide +kernel) rfl)⟩⟩
theorem g_X10_51 : th_gf RX10 51 10 16 := ⟨_, _, _, rfl, by decide, (Or.inl (th_mW 852 (by decide +kernel) rfl))⟩
theorem p_X10_51 : th_pf RX10 "<init>" 51 10 16 := ⟨_, _, _, rfl, by decide, Or.inr ⟨rfl, rfl, rfl, (th_mW 852 (by decide +kernel) rfl)⟩⟩
theorem g_X10_54 : th_gf RX10 54 10 17 := ⟨_, _, _, rfl, by decide, (Or.inl (th_mW 853 (by decide +kernel) rfl))⟩
theorem p_X10_54 : th_pf RX10 "<init>" 54 10 17 := ⟨_, _, _, rfl, by decide, Or.inr ⟨rfl, rfl, rfl, (th_mW 853 (by decide +kernel) rfl)⟩⟩
theorem g_X10_57 : th_gf RX10 57 10 18 := ⟨_, _, _, rfl, by decide, (Or.inl (th_mW 854 (by decide +kernel) rfl))⟩
theorem p_X10_57 : th_pf RX10 "<init>" 57 10 18 := ⟨_, _, _, rfl, by decide, Or.inr ⟨rfl, rfl, rfl, (th_mW 854 (by decide +kernel) rfl)⟩⟩
theorem g_X10_60 : th_gf RX10 60 10 19 := ⟨_, _, _, rfl, by decide, (Or.inl (th_mW 855 (by decide +kernel) rfl))⟩
theorem p_X10_60 : th_pf RX10 "<init>" 60 10 19 := ⟨_, _, _, rfl, by decide, Or.inr ⟨rfl, rfl, rfl, (th_mW 855 (by decide +kernel) rfl)⟩⟩
theorem g_X10_226 : th_gf RX10 226 10 20 := ⟨_, _, _, rfl, by decide, (Or.inl (th_mW 856 (by decide +kernel) rfl))⟩
theorem p_X10_226 (nm : String) : th_pf RX10 nm 226 10 20 := ⟨_, _, _, rfl, by decide, Or.inl ⟨rfl, (Or.inl (th_mW 856 (by decide +kernel) rfl))⟩⟩
theorem g_X10_235 : th_gf RX10 235 10 21 := ⟨_, _, _, rfl, by decide, (Or.inl (th_mW 857 (by decide +kernel) rfl))⟩
theorem p_X10_235 (nm : String) : th_pf RX10 nm 235 10 21 := ⟨_, _, _, rfl, by decide, Or.inl ⟨rfl, (Or.inl (th_mW 857 (by decide +kernel) rfl))⟩⟩
theorem g_X10_223 : th_gf RX10 223 10 22 := ⟨_, _, _, rfl, by decide, (Or.inl (th_mW 858 (by decide +kernel) rfl))⟩
theorem p_X10_223 (nm : String) : th_pf RX10 nm 223 10 22 := ⟨_, _, _, rfl, by decide, Or.inl ⟨rfl, (Or.inl (th_mW 858 (by decide +kernel) rfl))⟩⟩
theorem g_X10_220 : th_gf RX10 220 10 23 := ⟨_, _, _, rfl, by decide, (Or.inl (th_mW 859 (by decide +kernel) rfl))⟩
theorem p_X10_220 (nm : String) : th_pf RX10 nm 220 10 23 := ⟨_, _, _, rfl, by decide, Or.inl ⟨rfl, (Or.inl (th_mW 859 (by decide +kernel) rfl))⟩⟩
theorem g_X10_229 : th_gf RX10 229 10 24 := ⟨_, _, _, rfl, by decide, (Or.inl (th_mW 860 (by decide +kernel) rfl))⟩
theorem p_X10_229 (nm : String) : th_pf RX10 nm 229 10 24 := ⟨_, _, _, rfl, by decide, Or.inl ⟨rfl, (Or.inl (th_mW 860 (by decide +kernel) rfl))⟩⟩
theorem g_X10_232 : th_gf RX10 232 10 25 := ⟨_, _, _, rfl, by decide, (Or.inl (th_mW 861 (by decide +kernel) rfl))⟩
theorem p_X10_232 (nm : String) : th_pf RX10 nm 232 10 25 := ⟨_, _, _, rfl, by decide, Or.inl ⟨rfl, (Or.inl (th_mW 861 (by decide +kernel) rfl))⟩⟩
theorem g_X10_63 : th_gf RX10 63 10 26 := ⟨_, _, _, rfl, by decide, (Or.inl (th_mW 862 (by decide +kernel) rfl))⟩
theorem p_X10_63 : th_pf RX10 "<init>" 63 10 26 := ⟨_, _, _, rfl, by decide, Or.inr ⟨rfl, rfl, rfl, (th_mW 862 (by decide +kernel) rfl)⟩⟩
theorem g_X10_66 : th_gf RX10 66 10 27 := ⟨_, _, _, rfl, by decide, (Or.inl (th_mW 863 (by decide +kernel) rfl))⟩
theorem p_X10_66 : th_pf RX10 "<init>" 66 10 27 := ⟨_, _, _, rfl, by decide, Or.inr ⟨rfl, rfl, rfl, (th_mW 863 (by decide +kernel) rfl)⟩⟩
theorem g_X10_69 : th_gf RX10 69 10 28 := ⟨_, _, _, rfl, by decide, (Or.inl (th_mW 864 (by decide +kernel) rfl))⟩
theorem p_X10_69 : th_pf RX10 "<init>" 69 10 28 := ⟨_, _, _, rfl, by decide, Or.inr ⟨rfl, rfl, rfl, (th_mW 864 (by decide +kernel) rfl)⟩⟩
theorem g_X10_72 : th_gf RX10 72 10 29 := ⟨_, _, _, rfl, by decide, (Or.inl (th_mW 865 (by decide +kernel) rfl))⟩
theorem p_X10_72 : th_pf RX10 "<init>" 72 10 29 := ⟨_, _, _, rfl, by decide, Or.inr ⟨rfl, rfl, rfl, (th_mW 865 (by decide +kernel) rfl)⟩⟩
theorem g_X10_75 : th_gf RX10 75 10 30 := ⟨_, _, _, rfl, by decide, (Or.inl (th_mW 866 (by decide +kernel) rfl))⟩
theorem p_X10_75 : th_pf RX10 "<init>" 75 10 30 := ⟨_, _, _, rfl, by decide, Or.inr ⟨rfl, rfl, rfl, (th_mW 866 (by decide +kernel) rfl)⟩⟩
theorem g_X10_78 : th_gf RX10 78 10 31 := ⟨_, _, _, rfl, by decide, (Or.inl (th_mW 867 (by decide +kernel) rfl))⟩
theorem p_X10_78 : th_pf RX10 "<init>" 78 10 31 := ⟨_, _, _, rfl, by decide, Or.inr ⟨rfl, rfl, rfl, (th_mW 867 (by decide +kernel) rfl)⟩⟩
theorem g_X10_81 : th_gf RX10 81 10 32 := ⟨_, _, _, rfl, by decide, (Or.inl (th_mW 868 (by decide +kernel) rfl))⟩
theorem p_X10_81 : th_pf RX10 "<init>" 81 10 32 := ⟨_, _, _, rfl, by decide, Or.inr ⟨rfl, rfl, rfl, (th_mW 868 (by decide +kernel) rfl)⟩⟩
theorem g_X10_84 : th_gf RX10 84 10 33 := ⟨_, _, _, rfl, by decide, (Or.inl (th_mW 869 (by decide +kernel) rfl))⟩
theorem p_X10_84 : th_pf RX10 "<init>" 84 10 33 := ⟨_, _, _, rfl, by decide, Or.inr ⟨rfl, rfl, rfl, (th_mW 869 (by decide +kernel) rfl)⟩⟩
theorem g_X10_142 : th_gf RX10 142 10 34 := ⟨_, _, _, rfl, by decide, (Or.inl (th_mW 870 (by decide +kernel) rfl))⟩
theorem p_X10_142 (nm : String) : th_pf RX10 nm 142 10 34 := ⟨_, _, _, rfl, by decide, Or.inl ⟨rfl, (Or.inl (th_mW 870 (by decide +kernel) rfl))⟩⟩
theorem g_X10_162 : th_gf RX10 162 10 35 := ⟨_, _, _, rfl, by decide, (Or.inl (th_mW 871 (by decide +kernel) rfl))⟩
theorem p_X10_162 (nm : String) : th_pf RX10 nm 162 10 35 := ⟨_, _, _, rfl, by decide, Or.inl ⟨rfl, (Or.inl (th_mW 871 (by decide +kernel) rfl))⟩⟩
theorem g_X10_165 : th_gf RX10 165 10 36 := ⟨_, _, _, rfl, by decide, (Or.inl (th_mW 872 (by decide +kernel) rfl))⟩
theorem p_X10_165 (nm : String) : th_pf RX10 nm 165 10 36 := ⟨_, _, _, rfl, by decide, Or.inl ⟨rfl, (Or.inl (th_mW 872 (by decide +kernel) rfl))⟩⟩
theorem g_X10_87 : th_gf RX10 87 10 37 := ⟨_, _, _, rfl, by decide, (Or.inl (th_mW 873 (by decide +kernel) rfl))⟩
theorem p_X10_87 : th_pf RX10 "<init>" 87 10 37 := ⟨_, _, _, rfl, by decide, Or.inr ⟨rfl, rfl, rfl, (th_mW 873 (by decide +kernel) rfl)⟩⟩
theorem g_X10_198 : th_gf RX10 198 10 38 := ⟨_, _, _, rfl, by decide, (Or.inl (th_mW 874 (by decide +kernel) rfl))⟩
theorem p_X10_198 (nm : String) : th_pf RX10 nm 198 10 38 := ⟨_, _, _, rfl, by decide, Or.inl ⟨rfl, (Or.inl (th_mW 874 (by decide +kernel) rfl))⟩⟩
theorem g_X10_195 : th_gf RX10 195 10 39 := ⟨_, _, _, rfl, by decide, (Or.inl (th_mW 875 (by decide +kernel) rfl))⟩
theorem p_X10_195 (nm : String) : th_pf RX10 nm 195 10 39 := ⟨_, _, _, rfl, by decide, Or.inl ⟨rfl, (Or.inl (th_mW 875 (by decide +kernel) rfl))⟩⟩
theorem g_X10_90 : th_gf RX10 90 10 40 := ⟨_, _, _, rfl, by decide, (Or.inl (th_mW 876 (by decide +kernel) rfl))⟩
theorem p_X10_90 : th_pf RX10 "<init>" 90 10 40 := ⟨_, _, _, rfl, by decide, Or.inr ⟨rfl, rfl, rfl, (th_mW 876 (by decide +kernel) rfl)⟩⟩
theorem l_L_9 : th_cI RL 9 yX9_init kX9_init 0 := ⟨bX9_init, (Or.inl (th_mW 24 (by decide +kernel) rfl)), (th_mW 25 (by decide +kernel) rfl), rfl, rfl⟩
theorem l_X9_1 : Cond.methodLink RX9 1 objectInit ∈ th_W := (th_mW 27 (by decide +kernel) rfl)
theorem l_X9_9 : th_cI RX9 9 yX7_init kX7_init 0 := ⟨bX7_init, (Or.inr ⟨"TriggerHall", (th_mN 33 (by decide +kernel) rfl)⟩), (th_mW 34 (by decide +kernel) rfl), rfl, rfl⟩
theorem l_X7_3 : Cond.methodLink RX7 3 objectInit ∈ th_W := (th_mW 36 (by decide +kernel) rfl)
theorem l_X9_28 : th_cI RX9 28 yJx4a65c_init_da8c8 kJx4a65c_init_da8c8 0 := ⟨bJx4a65c_init_da8c8, (Or.inl (th_mW 54 (by decide +kernel) rfl)), (th_mW 55 (by decide +kernel) rfl), rfl, rfl⟩
theorem l_Jx4a65c_1 : th_cI RJx4a65c 1 yJxc12de_init_da8c8 kJxc12de_init_da8c8 0 := ⟨bJxc12de_init_da8c8, (Or.inl (th_mW 57 (by decide +kernel) rfl)), (th_mW 58 (by decide +kernel) rfl), rfl, rfl⟩
theorem l_Jxc12de_1 : th_cI RJxc12de 1 yJxa1e45_init_da8c8 kJxa1e45_init_da8c8 0 := ⟨bJxa1e45_init_da8c8, (Or.inl (th_mW 60 (by decide +kernel) rfl)), (th_mW 61 (by decide +kernel) rfl), rfl, rfl⟩
theorem l_Jxa1e45_1 : Cond.methodLink RJxa1e45 1 objectInit ∈ th_W := (th_mW 63 (by decide +kernel) rfl)
theorem l_X9_35 : th_cI RX9 35 yX3_init kX3_init 0 := ⟨bX3_init, (Or.inr ⟨"TriggerHall", (th_mN 80 (by decide +kernel) rfl)⟩), (th_mW 81 (by decide +kernel) rfl), rfl, rfl⟩
theorem l_X3_3 : Cond.methodLink RX3 3 objectInit ∈ th_W := (th_mW 83 (by decide +kernel) rfl)
theorem l_X3_17 : th_cI RX3 17 yX0_init kX0_init 0 := ⟨bX0_init, (Or.inr ⟨"TriggerHall", (th_mN 86 (by decide +kernel) rfl)⟩), (th_mW 87 (by decide +kernel) rfl), rfl, rfl⟩
theorem l_X0_3 : Cond.methodLink RX0 3 objectInit ∈ th_W := (th_mW 89 (by decide +kernel) rfl)
theorem l_X3_24 : th_cI RX3 24 yX1_init kX1_init 0 := ⟨bX1_init, (Or.inr ⟨"TriggerHall", (th_mN 116 (by decide +kernel) rfl)⟩), (th_mW 117 (by decide +kernel) rfl), rfl, rfl⟩
theorem l_X1_3 : Cond.methodLink RX1 3 objectInit ∈ th_W := (th_mW 119 (by decide +kernel) rfl)
theorem l_X9_42 : th_cI RX9 42 yX8_init kX8_init 0 := ⟨bX8_init, (Or.inr ⟨"TriggerHall", (th_mN 165 (by decide +kernel) rfl)⟩), (th_mW 166 (by decide +kernel) rfl), rfl, rfl⟩
theorem l_X8_3 : Cond.methodLink RX8 3 objectInit ∈ th_W := (th_mW 168 (by decide +kernel) rfl)
theorem l_X9_49 : th_cI RX9 49 yX5_init kX5_init 0 := ⟨bX5_init, (Or.inr ⟨"TriggerHall", (th_mN 181 (by decide +kernel) rfl)⟩), (th_mW 182 (by decide +kernel) rfl), rfl, rfl⟩
theorem l_X5_3 : Cond.methodLink RX5 3 objectInit ∈ th_W := (th_mW 184 (by decide +kernel) rfl)
theorem l_X9_59 : th_cI RX9 59 yX4_init kX4_init 0 := ⟨bX4_init, (Or.inr ⟨"TriggerHall", (th_mN 201 (by decide +kernel) rfl)⟩), (th_mW 202 (by decide +kernel) rfl), rfl, rfl⟩
theorem l_X4_3 : Cond.methodLink RX4 3 objectInit ∈ th_W := (th_mW 204 (by decide +kernel) rfl)
theorem l_L_13 : th_cV RL 13 yX9_sheet kX9_sheet 3 := ⟨bX9_sheet, (Or.inl (th_mW 268 (by decide +kernel) rfl)), (th_mW 269 (by decide +kernel) rfl), (th_mW 270 (by decide +kernel) rfl)⟩
theorem l_X9_67 : th_cV RX9 67 yX9_sheetAt kX9_sheetAt 1 := ⟨bX9_sheetAt, (Or.inl (th_mW 272 (by decide +kernel) rfl)), (th_mW 274 (by decide +kernel) rfl), (th_mS 0 (by decide +kernel) rfl)⟩
theorem l_X9_71 : th_cV RX9 71 yX7_lay kX7_lay 2 := ⟨bX7_lay, (Or.inr ⟨"TriggerHall", (th_mN 276 (by decide +kernel) rfl)⟩), (th_mW 278 (by decide +kernel) rfl), (th_mS 1 (by decide +kernel) rfl)⟩
theorem l_L_18 : th_cV RL 18 yX9_cell kX9_cell 3 := ⟨bX9_cell, (Or.inl (th_mW 280 (by decide +kernel) rfl)), (th_mW 281 (by decide +kernel) rfl), (th_mW 282 (by decide +kernel) rfl)⟩
theorem l_X9_79 : th_cV RX9 79 yX7_has kX7_has 1 := ⟨bX7_has, (Or.inr ⟨"TriggerHall", (th_mN 284 (by decide +kernel) rfl)⟩), (th_mW 286 (by decide +kernel) rfl), (th_mS 2 (by decide +kernel) rfl)⟩
theorem l_X9_83 : th_cV RX9 83 yX7_put kX7_put 2 := ⟨bX7_put, (Or.inr ⟨"TriggerHall", (th_mN 288 (by decide +kernel) rfl)⟩), (th_mW 290 (by decide +kernel) rfl), (th_mS 3 (by decide +kernel) rfl)⟩
theorem l_X7_26 : th_cV RX7 26 yX7_has kX7_has 1 := ⟨bX7_has, (Or.inl (th_mW 292 (by decide +kernel) rfl)), (th_mW 286 (by decide +kernel) rfl), (th_mS 2 (by decide +kernel) rfl)⟩
theorem l_L_22 : th_cV RL 22 yX9_lose kX9_lose 1 := ⟨bX9_lose, (Or.inl (th_mW 293 (by decide +kernel) rfl)), (th_mW 294 (by decide +kernel) rfl), (th_mW 295 (by decide +kernel) rfl)⟩
theorem l_L_27 : th_cV RL 27 yX9_hits kX9_hits 2 := ⟨bX9_hits, (Or.inl (th_mW 297 (by decide +kernel) rfl)), (th_mW 298 (by decide +kernel) rfl), (th_mW 299 (by decide +kernel) rfl)⟩
theorem l_X9_86 : th_cS RX9 86 yX9_isLayer kX9_isLayer 1 := ⟨bX9_isLayer, (Or.inl (th_mW 301 (by decide +kernel) rfl)), (th_mW 302 (by decide +kernel) rfl)⟩
theorem l_X9_89 : th_cS RX9 89 yX9_areCells kX9_areCells 1 := ⟨bX9_areCells, (Or.inl (th_mW 304 (by decide +kernel) rfl)), (th_mW 305 (by decide +kernel) rfl)⟩
theorem l_X9_92 : th_cS RX9 92 yJ6_bitCount_0f7a4 kJ6_bitCount_0f7a4 1 := ⟨bJ6_bitCount_0f7a4, (Or.inl (th_mW 308 (by decide +kernel) rfl)), (th_mW 309 (by decide +kernel) rfl)⟩
theorem l_L_32 : th_cV RL 32 yX9_load kX9_load 2 := ⟨bX9_load, (Or.inl (th_mW 314 (by decide +kernel) rfl)), (th_mW 315 (by decide +kernel) rfl), (th_mW 316 (by decide +kernel) rfl)⟩
theorem l_X9_98 : th_cV RX9 98 yX7_numberAt kX7_numberAt 1 := ⟨bX7_numberAt, (Or.inr ⟨"TriggerHall", (th_mN 318 (by decide +kernel) rfl)⟩), (th_mW 320 (by decide +kernel) rfl), (th_mS 4 (by decide +kernel) rfl)⟩
theorem l_X9_102 : th_cS RX9 102 yX9_cellsIn kX9_cellsIn 1 := ⟨bX9_cellsIn, (Or.inl (th_mW 322 (by decide +kernel) rfl)), (th_mW 323 (by decide +kernel) rfl)⟩
theorem l_L_36 : th_cV RL 36 yX9_mask kX9_mask 3 := ⟨bX9_mask, (Or.inl (th_mW 325 (by decide +kernel) rfl)), (th_mW 326 (by decide +kernel) rfl), (th_mW 327 (by decide +kernel) rfl)⟩
theorem l_L_40 : th_cV RL 40 yX9_layer kX9_layer 2 := ⟨bX9_layer, (Or.inl (th_mW 329 (by decide +kernel) rfl)), (th_mW 330 (by decide +kernel) rfl), (th_mW 331 (by decide +kernel) rfl)⟩
theorem l_L_44 : th_cV RL 44 yX9_road kX9_road 6 := ⟨bX9_road, (Or.inl (th_mW 333 (by decide +kernel) rfl)), (th_mW 334 (by decide +kernel) rfl), (th_mW 335 (by decide +kernel) rfl)⟩
theorem l_X9_106 : th_cS RX9 106 yX9_isSpan kX9_isSpan 1 := ⟨bX9_isSpan, (Or.inl (th_mW 337 (by decide +kernel) rfl)), (th_mW 338 (by decide +kernel) rfl)⟩
theorem l_X9_109 : th_cF RX9 109 yLi_size yJx4a65c_size_8abf5 kJx4a65c_size_8abf5 0 := ⟨bJx4a65c_size_8abf5, (th_mW 341 (by decide +kernel) rfl), (th_mW 345 (by decide +kernel) rfl), (th_mW 347 (by decide +kernel) rfl), Or.inl ⟨rfl, rfl⟩⟩
theorem l_X9_117 : th_cI RX9 117 yX6_init kX6_init 1 := ⟨bX6_init, (Or.inr ⟨"TriggerHall", (th_mN 352 (by decide +kernel) rfl)⟩), (th_mW 353 (by decide +kernel) rfl), rfl, rfl⟩
theorem l_X6_3 : Cond.methodLink RX6 3 objectInit ∈ th_W := (th_mW 355 (by decide +kernel) rfl)
theorem l_X9_120 : th_cV RX9 120 yX6_setSpan kX6_setSpan 2 := ⟨bX6_setSpan, (Or.inr ⟨"TriggerHall", (th_mN 366 (by decide +kernel) rfl)⟩), (th_mW 368 (by decide +kernel) rfl), (th_mS 5 (by decide +kernel) rfl)⟩
theorem l_X6_22 : th_cS RX6 22 yX9_isLayer kX9_isLayer 1 := ⟨bX9_isLayer, (Or.inr ⟨"TriggerHall", (th_mN 370 (by decide +kernel) rfl)⟩), (th_mW 302 (by decide +kernel) rfl)⟩
theorem l_X6_26 : th_cS RX6 26 yX9_isSpan kX9_isSpan 1 := ⟨bX9_isSpan, (Or.inr ⟨"TriggerHall", (th_mN 371 (by decide +kernel) rfl)⟩), (th_mW 338 (by decide +kernel) rfl)⟩
theorem l_X9_123 : th_cF RX9 123 yLi_add yJx4a65c_add_9ea2d kJx4a65c_add_9ea2d 1 := ⟨bJx4a65c_add_9ea2d, (th_mW 373 (by decide +kernel) rfl), (th_mW 376 (by decide +kernel) rfl), (th_mW 378 (by decide +kernel) rfl), Or.inr (Or.inr ⟨rfl, rfl⟩)⟩
theorem l_Jx4a65c_131 : th_cV RJx4a65c 131 yJx4a65c_add_72be8 kJx4a65c_add_72be8 3 := ⟨bJx4a65c_add_72be8, (Or.inl (th_mW 381 (by decide +kernel) rfl)), (th_mW 383 (by decide +kernel) rfl), (th_mS 6 (by decide +kernel) rfl)⟩
theorem l_Jx4a65c_129 : th_cV RJx4a65c 129 yJx4a65c_grow_d5877 kJx4a65c_grow_d5877 0 := ⟨bJx4a65c_grow_d5877, (Or.inl (th_mW 385 (by decide +kernel) rfl)), (th_mW 387 (by decide +kernel) rfl), (th_mS 7 (by decide +kernel) rfl)⟩
theorem l_Jx4a65c_69 : th_cV RJx4a65c 69 yJx4a65c_grow_92f84 kJx4a65c_grow_92f84 1 := ⟨bJx4a65c_grow_92f84, (Or.inl (th_mW 389 (by decide +kernel) rfl)), (th_mW 391 (by decide +kernel) rfl), (th_mS 8 (by decide +kernel) rfl)⟩
theorem l_Jx4a65c_73 : th_cS RJx4a65c 73 yJ8_newLength_cabcc kJ8_newLength_cabcc 3 := ⟨bJ8_newLength_cabcc, (Or.inl (th_mW 393 (by decide +kernel) rfl)), (th_mW 394 (by decide +kernel) rfl)⟩
theorem l_J8_194 : th_cS RJ8 194 yJ9_max_7cf53 kJ9_max_7cf53 2 := ⟨bJ9_max_7cf53, (Or.inl (th_mW 396 (by decide +kernel) rfl)), (th_mW 397 (by decide +kernel) rfl)⟩
theorem l_J8_201 : th_cS RJ8 201 yJ8_hugeLength_7cf53 kJ8_hugeLength_7cf53 2 := ⟨bJ8_hugeLength_7cf53, (Or.inl (th_mW 400 (by decide +kernel) rfl)), (th_mW 401 (by decide +kernel) rfl)⟩
theorem l_Jx4a65c_66 : th_cS RJx4a65c 66 yJ7_copyOf_1904c kJ7_copyOf_1904c 2 := ⟨bJ7_copyOf_1904c, (Or.inl (th_mW 403 (by decide +kernel) rfl)), (th_mW 404 (by decide +kernel) rfl)⟩
theorem l_J7_300 : th_cS RJ7 300 yJ7_copyOf_6403c kJ7_copyOf_6403c 3 := ⟨bJ7_copyOf_6403c, (Or.inl (th_mW 422 (by decide +kernel) rfl)), (th_mW 423 (by decide +kernel) rfl)⟩
theorem l_J7_304 : th_cS RJ7 304 yJ9_min_7cf53 kJ9_min_7cf53 2 := ⟨bJ9_min_7cf53, (Or.inl (th_mW 428 (by decide +kernel) rfl)), (th_mW 429 (by decide +kernel) rfl)⟩
theorem l_Jx4a65c_79 : th_cS RJx4a65c 79 yJ9_max_7cf53 kJ9_max_7cf53 2 := ⟨bJ9_max_7cf53, (Or.inl (th_mW 434 (by decide +kernel) rfl)), (th_mW 397 (by decide +kernel) rfl)⟩
theorem l_L_49 : th_cV RL 49 yX9_span kX9_span 3 := ⟨bX9_span, (Or.inl (th_mW 436 (by decide +kernel) rfl)), (th_mW 437 (by decide +kernel) rfl), (th_mW 438 (by decide +kernel) rfl)⟩
theorem l_X9_127 : th_cV RX9 127 yX9_roadAt kX9_roadAt 1 := ⟨bX9_roadAt, (Or.inl (th_mW 440 (by decide +kernel) rfl)), (th_mW 442 (by decide +kernel) rfl), (th_mS 9 (by decide +kernel) rfl)⟩
theorem l_X9_287 : th_cF RX9 287 yLi_get yJx4a65c_get_915e3 kJx4a65c_get_915e3 1 := ⟨bJx4a65c_get_915e3, (th_mW 445 (by decide +kernel) rfl), (th_mW 448 (by decide +kernel) rfl), (th_mW 450 (by decide +kernel) rfl), Or.inr (Or.inl ⟨rfl, rfl⟩)⟩
theorem l_Jx4a65c_118 : th_cS RJx4a65c 118 yJ15_checkIndex_7cf53 kJ15_checkIndex_7cf53 2 := ⟨bJ15_checkIndex_7cf53, (Or.inl (th_mW 453 (by decide +kernel) rfl)), (th_mW 454 (by decide +kernel) rfl)⟩
theorem l_J15_105 : th_cS RJ15 105 yJ3_checkIndex_8e157 kJ3_checkIndex_8e157 3 := ⟨bJ3_checkIndex_8e157, (Or.inl (th_mW 456 (by decide +kernel) rfl)), (th_mW 457 (by decide +kernel) rfl)⟩
theorem l_Jx4a65c_123 : th_cV RJx4a65c 123 yJx4a65c_elementData_915e3 kJx4a65c_elementData_915e3 1 := ⟨bJx4a65c_elementData_915e3, (Or.inl (th_mW 459 (by decide +kernel) rfl)), (th_mW 460 (by decide +kernel) rfl), (th_mW 461 (by decide +kernel) rfl)⟩
theorem l_X9_131 : th_cV RX9 131 yX6_spanTold kX6_spanTold 1 := ⟨bX6_spanTold, (Or.inr ⟨"TriggerHall", (th_mN 463 (by decide +kernel) rfl)⟩), (th_mW 465 (by decide +kernel) rfl), (th_mS 10 (by decide +kernel) rfl)⟩
theorem l_L_53 : th_cV RL 53 yX9_lit kX9_lit 0 := ⟨bX9_lit, (Or.inl (th_mW 467 (by decide +kernel) rfl)), (th_mW 468 (by decide +kernel) rfl), (th_mW 469 (by decide +kernel) rfl)⟩
theorem l_X9_134 : th_cV RX9 134 yX3_see kX3_see 3 := ⟨bX3_see, (Or.inr ⟨"TriggerHall", (th_mN 471 (by decide +kernel) rfl)⟩), (th_mW 473 (by decide +kernel) rfl), (th_mS 11 (by decide +kernel) rfl)⟩
theorem l_X9_138 : th_cV RX9 138 yX3_light kX3_light 1 := ⟨bX3_light, (Or.inr ⟨"TriggerHall", (th_mN 475 (by decide +kernel) rfl)⟩), (th_mW 477 (by decide +kernel) rfl), (th_mS 12 (by decide +kernel) rfl)⟩
theorem l_X3_33 : th_cF RX3 33 yLi_size yJx4a65c_size_8abf5 kJx4a65c_size_8abf5 0 := ⟨bJx4a65c_size_8abf5, (th_mW 480 (by decide +kernel) rfl), (th_mW 345 (by decide +kernel) rfl), (th_mW 347 (by decide +kernel) rfl), Or.inl ⟨rfl, rfl⟩⟩
theorem l_X3_39 : th_cF RX3 39 yLi_get yJx4a65c_get_915e3 kJx4a65c_get_915e3 1 := ⟨bJx4a65c_get_915e3, (th_mW 482 (by decide +kernel) rfl), (th_mW 448 (by decide +kernel) rfl), (th_mW 450 (by decide +kernel) rfl), Or.inr (Or.inl ⟨rfl, rfl⟩)⟩
theorem l_X3_45 : th_cV RX3 45 yX6_isLit kX6_isLit 1 := ⟨bX6_isLit, (Or.inr ⟨"TriggerHall", (th_mN 484 (by decide +kernel) rfl)⟩), (th_mW 486 (by decide +kernel) rfl), (th_mS 13 (by decide +kernel) rfl)⟩
theorem l_X6_33 : th_cV RX6 33 yX6_layersHeld kX6_layersHeld 1 := ⟨bX6_layersHeld, (Or.inl (th_mW 488 (by decide +kernel) rfl)), (th_mW 490 (by decide +kernel) rfl), (th_mS 14 (by decide +kernel) rfl)⟩
theorem l_X6_29 : th_cV RX6 29 yX6_seenIn kX6_seenIn 2 := ⟨bX6_seenIn, (Or.inl (th_mW 492 (by decide +kernel) rfl)), (th_mW 494 (by decide +kernel) rfl), (th_mS 15 (by decide +kernel) rfl)⟩
theorem l_X6_37 : th_cS RX6 37 yJ6_bitCount_0f7a4 kJ6_bitCount_0f7a4 1 := ⟨bJ6_bitCount_0f7a4, (Or.inl (th_mW 496 (by decide +kernel) rfl)), (th_mW 309 (by decide +kernel) rfl)⟩
theorem l_L_58 : th_cV RL 58 yX9_held kX9_held 1 := ⟨bX9_held, (Or.inl (th_mW 497 (by decide +kernel) rfl)), (th_mW 498 (by decide +kernel) rfl), (th_mW 499 (by decide +kernel) rfl)⟩
theorem l_X9_149 : th_cV RX9 149 yX6_layersHeld kX6_layersHeld 1 := ⟨bX6_layersHeld, (Or.inr ⟨"TriggerHall", (th_mN 501 (by decide +kernel) rfl)⟩), (th_mW 490 (by decide +kernel) rfl), (th_mS 14 (by decide +kernel) rfl)⟩
theorem l_L_62 : th_cV RL 62 yX9_track kX9_track 2 := ⟨bX9_track, (Or.inl (th_mW 502 (by decide +kernel) rfl)), (th_mW 503 (by decide +kernel) rfl), (th_mW 504 (by decide +kernel) rfl)⟩
theorem l_X9_152 : th_cV RX9 152 yX9_fitInHand kX9_fitInHand 1 := ⟨bX9_fitInHand, (Or.inl (th_mW 506 (by decide +kernel) rfl)), (th_mW 508 (by decide +kernel) rfl), (th_mS 16 (by decide +kernel) rfl)⟩
theorem l_X9_299 : th_cV RX9 299 yX3_fitAlong kX3_fitAlong 1 := ⟨bX3_fitAlong, (Or.inr ⟨"TriggerHall", (th_mN 510 (by decide +kernel) rfl)⟩), (th_mW 512 (by decide +kernel) rfl), (th_mS 17 (by decide +kernel) rfl)⟩
theorem l_X3_49 : th_cV RX3 49 yX0_along kX0_along 2 := ⟨bX0_along, (Or.inr ⟨"TriggerHall", (th_mN 514 (by decide +kernel) rfl)⟩), (th_mW 516 (by decide +kernel) rfl), (th_mS 18 (by decide +kernel) rfl)⟩
theorem l_X0_28 : th_cV RX0 28 yX6_seenIn kX6_seenIn 2 := ⟨bX6_seenIn, (Or.inr ⟨"TriggerHall", (th_mN 518 (by decide +kernel) rfl)⟩), (th_mW 494 (by decide +kernel) rfl), (th_mS 15 (by decide +kernel) rfl)⟩
theorem l_X0_41 : th_cV RX0 41 yX0_tryCells kX0_tryCells 4 := ⟨bX0_tryCells, (Or.inl (th_mW 520 (by decide +kernel) rfl)), (th_mW 522 (by decide +kernel) rfl), (th_mS 19 (by decide +kernel) rfl)⟩
theorem l_X0_45 : th_cV RX0 45 yX0_takeTrial kX0_takeTrial 3 := ⟨bX0_takeTrial, (Or.inl (th_mW 524 (by decide +kernel) rfl)), (th_mW 526 (by decide +kernel) rfl), (th_mS 20 (by decide +kernel) rfl)⟩
theorem l_X0_49 : th_cS RX0 49 yJ6_numberOfTrailingZeros_0f7a4 kJ6_numberOfTrailingZeros_0f7a4 1 := ⟨bJ6_numberOfTrailingZeros_0f7a4, (Or.inl (th_mW 528 (by decide +kernel) rfl)), (th_mW 529 (by decide +kernel) rfl)⟩
theorem l_X0_55 : th_cV RX0 55 yX0_isPerfect kX0_isPerfect 0 := ⟨bX0_isPerfect, (Or.inl (th_mW 532 (by decide +kernel) rfl)), (th_mW 534 (by decide +kernel) rfl), (th_mS 21 (by decide +kernel) rfl)⟩
theorem l_L_66 : th_cV RL 66 yX9_miss kX9_miss 2 := ⟨bX9_miss, (Or.inl (th_mW 536 (by decide +kernel) rfl)), (th_mW 537 (by decide +kernel) rfl), (th_mW 538 (by decide +kernel) rfl)⟩
theorem l_X9_165 : th_cV RX9 165 yX0_above kX0_above 0 := ⟨bX0_above, (Or.inr ⟨"TriggerHall", (th_mN 540 (by decide +kernel) rfl)⟩), (th_mW 542 (by decide +kernel) rfl), (th_mS 22 (by decide +kernel) rfl)⟩
theorem l_X9_168 : th_cV RX9 168 yX0_below kX0_below 0 := ⟨bX0_below, (Or.inr ⟨"TriggerHall", (th_mN 544 (by decide +kernel) rfl)⟩), (th_mW 546 (by decide +kernel) rfl), (th_mS 23 (by decide +kernel) rfl)⟩
theorem l_X0_59 : th_cS RX0 59 yJ9_max_7cf53 kJ9_max_7cf53 2 := ⟨bJ9_max_7cf53, (Or.inl (th_mW 548 (by decide +kernel) rfl)), (th_mW 397 (by decide +kernel) rfl)⟩
theorem l_X9_171 : th_cS RX9 171 yX9_greatestDivisor kX9_greatestDivisor 2 := ⟨bX9_greatestDivisor, (Or.inl (th_mW 549 (by decide +kernel) rfl)), (th_mW 550 (by decide +kernel) rfl)⟩
theorem l_X9_294 : th_cS RX9 294 yJ9_max_7cf53 kJ9_max_7cf53 2 := ⟨bJ9_max_7cf53, (Or.inl (th_mW 552 (by decide +kernel) rfl)), (th_mW 397 (by decide +kernel) rfl)⟩
theorem l_L_70 : th_cV RL 70 yX9_weight kX9_weight 1 := ⟨bX9_weight, (Or.inl (th_mW 553 (by decide +kernel) rfl)), (th_mW 554 (by decide +kernel) rfl), (th_mW 555 (by decide +kernel) rfl)⟩
theorem l_X9_175 : th_cV RX9 175 yX0_worth kX0_worth 0 := ⟨bX0_worth, (Or.inr ⟨"TriggerHall", (th_mN 557 (by decide +kernel) rfl)⟩), (th_mW 559 (by decide +kernel) rfl), (th_mS 24 (by decide +kernel) rfl)⟩
theorem l_X0_65 : th_cV RX0 65 yX0_below kX0_below 0 := ⟨bX0_below, (Or.inl (th_mW 561 (by decide +kernel) rfl)), (th_mW 546 (by decide +kernel) rfl), (th_mS 23 (by decide +kernel) rfl)⟩
theorem l_L_74 : th_cV RL 74 yX9_heap kX9_heap 1 := ⟨bX9_heap, (Or.inl (th_mW 562 (by decide +kernel) rfl)), (th_mW 563 (by decide +kernel) rfl), (th_mW 564 (by decide +kernel) rfl)⟩
theorem l_X9_178 : th_cV RX9 178 yX9_lookAt kX9_lookAt 1 := ⟨bX9_lookAt, (Or.inl (th_mW 566 (by decide +kernel) rfl)), (th_mW 568 (by decide +kernel) rfl), (th_mS 25 (by decide +kernel) rfl)⟩
theorem l_X9_302 : th_cV RX9 302 yX3_pile kX3_pile 1 := ⟨bX3_pile, (Or.inr ⟨"TriggerHall", (th_mN 570 (by decide +kernel) rfl)⟩), (th_mW 572 (by decide +kernel) rfl), (th_mS 26 (by decide +kernel) rfl)⟩
theorem l_X3_53 : th_cV RX3 53 yX1_empty kX1_empty 0 := ⟨bX1_empty, (Or.inr ⟨"TriggerHall", (th_mN 574 (by decide +kernel) rfl)⟩), (th_mW 576 (by decide +kernel) rfl), (th_mS 27 (by decide +kernel) rfl)⟩
theorem l_X3_56 : th_cV RX3 56 yX3_fitAlong kX3_fitAlong 1 := ⟨bX3_fitAlong, (Or.inl (th_mW 578 (by decide +kernel) rfl)), (th_mW 512 (by decide +kernel) rfl), (th_mS 17 (by decide +kernel) rfl)⟩
theorem l_X3_60 : th_cV RX3 60 yX0_worth kX0_worth 0 := ⟨bX0_worth, (Or.inr ⟨"TriggerHall", (th_mN 579 (by decide +kernel) rfl)⟩), (th_mW 559 (by decide +kernel) rfl), (th_mS 24 (by decide +kernel) rfl)⟩
theorem l_X3_66 : th_cV RX3 66 yX1_put kX1_put 2 := ⟨bX1_put, (Or.inr ⟨"TriggerHall", (th_mN 580 (by decide +kernel) rfl)⟩), (th_mW 582 (by decide +kernel) rfl), (th_mS 28 (by decide +kernel) rfl)⟩
theorem l_X1_34 : th_cV RX1 34 yX1_clash kX1_clash 2 := ⟨bX1_clash, (Or.inl (th_mW 584 (by decide +kernel) rfl)), (th_mW 586 (by decide +kernel) rfl), (th_mS 29 (by decide +kernel) rfl)⟩
theorem l_X3_70 : th_cV RX3 70 yX1_choose kX1_choose 0 := ⟨bX1_choose, (Or.inr ⟨"TriggerHall", (th_mN 588 (by decide +kernel) rfl)⟩), (th_mW 590 (by decide +kernel) rfl), (th_mS 30 (by decide +kernel) rfl)⟩
theorem l_X1_38 : th_cV RX1 38 yX1_chooseFrom kX1_chooseFrom 3 := ⟨bX1_chooseFrom, (Or.inl (th_mW 592 (by decide +kernel) rfl)), (th_mW 594 (by decide +kernel) rfl), (th_mS 31 (by decide +kernel) rfl)⟩
theorem l_L_78 : th_cV RL 78 yX9_blind kX9_blind 0 := ⟨bX9_blind, (Or.inl (th_mW 596 (by decide +kernel) rfl)), (th_mW 597 (by decide +kernel) rfl), (th_mW 598 (by decide +kernel) rfl)⟩
theorem l_L_82 : th_cV RL 82 yX9_feed kX9_feed 1 := ⟨bX9_feed, (Or.inl (th_mW 602 (by decide +kernel) rfl)), (th_mW 603 (by decide +kernel) rfl), (th_mW 604 (by decide +kernel) rfl)⟩
theorem l_X9_197 : th_cS RX9 197 yX9_lettersIn kX9_lettersIn 1 := ⟨bX9_lettersIn, (Or.inl (th_mW 606 (by decide +kernel) rfl)), (th_mW 607 (by decide +kernel) rfl)⟩
theorem l_X9_203 : th_cS RX9 203 yX9_letterIn kX9_letterIn 2 := ⟨bX9_letterIn, (Or.inl (th_mW 609 (by decide +kernel) rfl)), (th_mW 610 (by decide +kernel) rfl)⟩
theorem l_X9_207 : th_cV RX9 207 yX8_put kX8_put 1 := ⟨bX8_put, (Or.inr ⟨"TriggerHall", (th_mN 612 (by decide +kernel) rfl)⟩), (th_mW 614 (by decide +kernel) rfl), (th_mS 32 (by decide +kernel) rfl)⟩
theorem l_L_86 : th_cV RL 86 yX9_clear kX9_clear 0 := ⟨bX9_clear, (Or.inl (th_mW 616 (by decide +kernel) rfl)), (th_mW 617 (by decide +kernel) rfl), (th_mW 618 (by decide +kernel) rfl)⟩
theorem l_L_90 : th_cV RL 90 yX9_line kX9_line 2 := ⟨bX9_line, (Or.inl (th_mW 620 (by decide +kernel) rfl)), (th_mW 621 (by decide +kernel) rfl), (th_mW 622 (by decide +kernel) rfl)⟩
theorem l_X9_210 : th_cS RX9 210 yX9_isShare kX9_isShare 1 := ⟨bX9_isShare, (Or.inl (th_mW 624 (by decide +kernel) rfl)), (th_mW 625 (by decide +kernel) rfl)⟩
theorem l_X9_213 : th_cV RX9 213 yX5_read kX5_read 2 := ⟨bX5_read, (Or.inr ⟨"TriggerHall", (th_mN 627 (by decide +kernel) rfl)⟩), (th_mW 629 (by decide +kernel) rfl), (th_mS 33 (by decide +kernel) rfl)⟩
theorem l_X5_26 : th_cV RX5 26 yX5_readAny kX5_readAny 1 := ⟨bX5_readAny, (Or.inl (th_mW 631 (by decide +kernel) rfl)), (th_mW 633 (by decide +kernel) rfl), (th_mS 34 (by decide +kernel) rfl)⟩
theorem l_X5_39 : th_cV RX5 39 yX5_readBoth kX5_readBoth 1 := ⟨bX5_readBoth, (Or.inl (th_mW 635 (by decide +kernel) rfl)), (th_mW 637 (by decide +kernel) rfl), (th_mS 35 (by decide +kernel) rfl)⟩
theorem l_X5_46 : th_cV RX5 46 yX5_readOne kX5_readOne 1 := ⟨bX5_readOne, (Or.inl (th_mW 639 (by decide +kernel) rfl)), (th_mW 641 (by decide +kernel) rfl), (th_mS 36 (by decide +kernel) rfl)⟩
theorem l_X5_49 : th_cV RX5 49 yX8_letterAt kX8_letterAt 1 := ⟨bX8_letterAt, (Or.inr ⟨"TriggerHall", (th_mN 643 (by decide +kernel) rfl)⟩), (th_mW 645 (by decide +kernel) rfl), (th_mS 37 (by decide +kernel) rfl)⟩
theorem l_X5_53 : th_cV RX5 53 yX5_readAsked kX5_readAsked 0 := ⟨bX5_readAsked, (Or.inl (th_mW 647 (by decide +kernel) rfl)), (th_mW 649 (by decide +kernel) rfl), (th_mS 38 (by decide +kernel) rfl)⟩
theorem l_X5_56 : th_cS RX5 56 yX5_canAsk kX5_canAsk 1 := ⟨bX5_canAsk, (Or.inl (th_mW 651 (by decide +kernel) rfl)), (th_mW 652 (by decide +kernel) rfl)⟩
theorem l_X5_35 : th_cV RX5 35 yX5_fail kX5_fail 0 := ⟨bX5_fail, (Or.inl (th_mW 654 (by decide +kernel) rfl)), (th_mW 656 (by decide +kernel) rfl), (th_mS 39 (by decide +kernel) rfl)⟩
theorem l_X5_59 : th_cV RX5 59 yX5_readNumber kX5_readNumber 0 := ⟨bX5_readNumber, (Or.inl (th_mW 658 (by decide +kernel) rfl)), (th_mW 660 (by decide +kernel) rfl), (th_mS 40 (by decide +kernel) rfl)⟩
theorem l_X5_69 : th_cS RX5 69 yX5_isFigure kX5_isFigure 1 := ⟨bX5_isFigure, (Or.inl (th_mW 662 (by decide +kernel) rfl)), (th_mW 663 (by decide +kernel) rfl)⟩
theorem l_X5_63 : th_cV RX5 63 yX3_answers kX3_answers 2 := ⟨bX3_answers, (Or.inr ⟨"TriggerHall", (th_mN 665 (by decide +kernel) rfl)⟩), (th_mW 667 (by decide +kernel) rfl), (th_mS 41 (by decide +kernel) rfl)⟩
theorem l_X3_76 : th_cS RX3 76 yJ6_bitCount_0f7a4 kJ6_bitCount_0f7a4 1 := ⟨bJ6_bitCount_0f7a4, (Or.inl (th_mW 669 (by decide +kernel) rfl)), (th_mW 309 (by decide +kernel) rfl)⟩
theorem l_X3_82 : th_cS RX3 82 yX9_cellsIn kX9_cellsIn 1 := ⟨bX9_cellsIn, (Or.inr ⟨"TriggerHall", (th_mN 670 (by decide +kernel) rfl)⟩), (th_mW 323 (by decide +kernel) rfl)⟩
theorem l_X3_89 : th_cV RX3 89 yX3_layersSeen kX3_layersSeen 0 := ⟨bX3_layersSeen, (Or.inl (th_mW 671 (by decide +kernel) rfl)), (th_mW 673 (by decide +kernel) rfl), (th_mS 42 (by decide +kernel) rfl)⟩
theorem l_X5_42 : th_cV RX5 42 yX5_passOver kX5_passOver 1 := ⟨bX5_passOver, (Or.inl (th_mW 675 (by decide +kernel) rfl)), (th_mW 677 (by decide +kernel) rfl), (th_mS 43 (by decide +kernel) rfl)⟩
theorem l_X9_222 : th_cI RX9 222 yX2_init kX2_init 3 := ⟨bX2_init, (Or.inr ⟨"TriggerHall", (th_mN 681 (by decide +kernel) rfl)⟩), (th_mW 682 (by decide +kernel) rfl), rfl, rfl⟩
theorem l_X2_1 : Cond.methodLink RX2 1 objectInit ∈ th_W := (th_mW 684 (by decide +kernel) rfl)
theorem l_X2_9 : th_cI RX2 9 yX8_init kX8_init 0 := ⟨bX8_init, (Or.inr ⟨"TriggerHall", (th_mN 686 (by decide +kernel) rfl)⟩), (th_mW 166 (by decide +kernel) rfl), rfl, rfl⟩
theorem l_X2_16 : th_cV RX2 16 yX8_copy kX8_copy 1 := ⟨bX8_copy, (Or.inr ⟨"TriggerHall", (th_mN 687 (by decide +kernel) rfl)⟩), (th_mW 689 (by decide +kernel) rfl), (th_mS 44 (by decide +kernel) rfl)⟩
theorem l_X8_19 : th_cV RX8 19 yX8_put kX8_put 1 := ⟨bX8_put, (Or.inl (th_mW 691 (by decide +kernel) rfl)), (th_mW 614 (by decide +kernel) rfl), (th_mS 32 (by decide +kernel) rfl)⟩
theorem l_L_95 : th_cV RL 95 yX9_thin kX9_thin 2 := ⟨bX9_thin, (Or.inl (th_mW 721 (by decide +kernel) rfl)), (th_mW 722 (by decide +kernel) rfl), (th_mW 723 (by decide +kernel) rfl)⟩
theorem l_X9_225 : th_cV RX9 225 yX9_lineAt kX9_lineAt 1 := ⟨bX9_lineAt, (Or.inl (th_mW 725 (by decide +kernel) rfl)), (th_mW 727 (by decide +kernel) rfl), (th_mS 45 (by decide +kernel) rfl)⟩
theorem l_L_99 : th_cV RL 99 yX9_holds kX9_holds 1 := ⟨bX9_holds, (Or.inl (th_mW 729 (by decide +kernel) rfl)), (th_mW 730 (by decide +kernel) rfl), (th_mW 731 (by decide +kernel) rfl)⟩
theorem l_L_103 : th_cV RL 103 yX9_of kX9_of 2 := ⟨bX9_of, (Or.inl (th_mW 733 (by decide +kernel) rfl)), (th_mW 734 (by decide +kernel) rfl), (th_mW 735 (by decide +kernel) rfl)⟩
theorem l_L_107 : th_cV RL 107 yX9_fire kX9_fire 0 := ⟨bX9_fire, (Or.inl (th_mW 737 (by decide +kernel) rfl)), (th_mW 738 (by decide +kernel) rfl), (th_mW 739 (by decide +kernel) rfl)⟩
theorem l_X9_256 : th_cV RX9 256 yX9_loseCrossing kX9_loseCrossing 0 := ⟨bX9_loseCrossing, (Or.inl (th_mW 741 (by decide +kernel) rfl)), (th_mW 743 (by decide +kernel) rfl), (th_mS 46 (by decide +kernel) rfl)⟩
theorem l_X9_259 : th_cV RX9 259 yX9_judgeCrossing kX9_judgeCrossing 1 := ⟨bX9_judgeCrossing, (Or.inl (th_mW 745 (by decide +kernel) rfl)), (th_mW 747 (by decide +kernel) rfl), (th_mS 47 (by decide +kernel) rfl)⟩
theorem l_X9_284 : th_cV RX9 284 yX9_holdingLines kX9_holdingLines 0 := ⟨bX9_holdingLines, (Or.inl (th_mW 749 (by decide +kernel) rfl)), (th_mW 751 (by decide +kernel) rfl), (th_mS 48 (by decide +kernel) rfl)⟩
theorem l_X9_305 : th_cV RX9 305 yX9_passLines kX9_passLines 1 := ⟨bX9_passLines, (Or.inl (th_mW 753 (by decide +kernel) rfl)), (th_mW 755 (by decide +kernel) rfl), (th_mS 49 (by decide +kernel) rfl)⟩
theorem l_X9_318 : th_cV RX9 318 yX2_countPasses kX2_countPasses 0 := ⟨bX2_countPasses, (Or.inr ⟨"TriggerHall", (th_mN 757 (by decide +kernel) rfl)⟩), (th_mW 759 (by decide +kernel) rfl), (th_mS 50 (by decide +kernel) rfl)⟩
theorem l_X9_308 : th_cV RX9 308 yX9_barLines kX9_barLines 0 := ⟨bX9_barLines, (Or.inl (th_mW 761 (by decide +kernel) rfl)), (th_mW 763 (by decide +kernel) rfl), (th_mS 51 (by decide +kernel) rfl)⟩
theorem l_X9_311 : th_cV RX9 311 yX9_creditLines kX9_creditLines 1 := ⟨bX9_creditLines, (Or.inl (th_mW 765 (by decide +kernel) rfl)), (th_mW 767 (by decide +kernel) rfl), (th_mS 52 (by decide +kernel) rfl)⟩
theorem l_X9_322 : th_cV RX9 322 yX2_credit kX2_credit 1 := ⟨bX2_credit, (Or.inr ⟨"TriggerHall", (th_mN 769 (by decide +kernel) rfl)⟩), (th_mW 771 (by decide +kernel) rfl), (th_mS 53 (by decide +kernel) rfl)⟩
theorem l_X9_314 : th_cV RX9 314 yX4_keep kX4_keep 3 := ⟨bX4_keep, (Or.inr ⟨"TriggerHall", (th_mN 773 (by decide +kernel) rfl)⟩), (th_mW 775 (by decide +kernel) rfl), (th_mS 54 (by decide +kernel) rfl)⟩
theorem l_X4_38 : th_cV RX4 38 yX4_slotOf kX4_slotOf 1 := ⟨bX4_slotOf, (Or.inl (th_mW 777 (by decide +kernel) rfl)), (th_mW 779 (by decide +kernel) rfl), (th_mS 55 (by decide +kernel) rfl)⟩
theorem l_X4_35 : th_cS RX4 35 yJ9_floorMod_7cf53 kJ9_floorMod_7cf53 2 := ⟨bJ9_floorMod_7cf53, (Or.inl (th_mW 781 (by decide +kernel) rfl)), (th_mW 782 (by decide +kernel) rfl)⟩
theorem l_L_111 : th_cV RL 111 yX9_rest kX9_rest 1 := ⟨bX9_rest, (Or.inl (th_mW 784 (by decide +kernel) rfl)), (th_mW 785 (by decide +kernel) rfl), (th_mW 786 (by decide +kernel) rfl)⟩
theorem l_L_115 : th_cV RL 115 yX9_many kX9_many 1 := ⟨bX9_many, (Or.inl (th_mW 788 (by decide +kernel) rfl)), (th_mW 789 (by decide +kernel) rfl), (th_mW 790 (by decide +kernel) rfl)⟩
theorem l_X9_272 : th_cV RX9 272 yX4_size kX4_size 0 := ⟨bX4_size, (Or.inr ⟨"TriggerHall", (th_mN 792 (by decide +kernel) rfl)⟩), (th_mW 794 (by decide +kernel) rfl), (th_mS 56 (by decide +kernel) rfl)⟩
theorem l_X4_25 : th_cS RX4 25 yJ9_min_7cf53 kJ9_min_7cf53 2 := ⟨bJ9_min_7cf53, (Or.inl (th_mW 796 (by decide +kernel) rfl)), (th_mW 429 (by decide +kernel) rfl)⟩
theorem l_L_119 : th_cV RL 119 yX9_raw kX9_raw 2 := ⟨bX9_raw, (Or.inl (th_mW 797 (by decide +kernel) rfl)), (th_mW 798 (by decide +kernel) rfl), (th_mW 799 (by decide +kernel) rfl)⟩
theorem l_X9_273 : th_cV RX9 273 yX4_has kX4_has 1 := ⟨bX4_has, (Or.inr ⟨"TriggerHall", (th_mN 801 (by decide +kernel) rfl)⟩), (th_mW 803 (by decide +kernel) rfl), (th_mS 57 (by decide +kernel) rfl)⟩
theorem l_X4_31 : th_cV RX4 31 yX4_size kX4_size 0 := ⟨bX4_size, (Or.inl (th_mW 805 (by decide +kernel) rfl)), (th_mW 794 (by decide +kernel) rfl), (th_mS 56 (by decide +kernel) rfl)⟩
theorem l_X9_274 : th_cV RX9 274 yX4_numberOf kX4_numberOf 1 := ⟨bX4_numberOf, (Or.inr ⟨"TriggerHall", (th_mN 806 (by decide +kernel) rfl)⟩), (th_mW 808 (by decide +kernel) rfl), (th_mS 58 (by decide +kernel) rfl)⟩
theorem l_X9_277 : th_cV RX9 277 yX4_passedAt kX4_passedAt 1 := ⟨bX4_passedAt, (Or.inr ⟨"TriggerHall", (th_mN 810 (by decide +kernel) rfl)⟩), (th_mW 812 (by decide +kernel) rfl), (th_mS 59 (by decide +kernel) rfl)⟩
theorem l_X9_280 : th_cV RX9 280 yX4_copyHits kX4_copyHits 2 := ⟨bX4_copyHits, (Or.inr ⟨"TriggerHall", (th_mN 814 (by decide +kernel) rfl)⟩), (th_mW 816 (by decide +kernel) rfl), (th_mS 60 (by decide +kernel) rfl)⟩
theorem l_L_123 : th_cV RL 123 yX9_again kX9_again 1 := ⟨bX9_again, (Or.inl (th_mW 818 (by decide +kernel) rfl)), (th_mW 819 (by decide +kernel) rfl), (th_mW 820 (by decide +kernel) rfl)⟩
theorem l_L_127 : th_cV RL 127 yX9_anew kX9_anew 0 := ⟨bX9_anew, (Or.inl (th_mW 822 (by decide +kernel) rfl)), (th_mW 823 (by decide +kernel) rfl), (th_mW 824 (by decide +kernel) rfl)⟩
theorem l_X9_291 : th_cV RX9 291 yX2_forget kX2_forget 0 := ⟨bX2_forget, (Or.inr ⟨"TriggerHall", (th_mN 826 (by decide +kernel) rfl)⟩), (th_mW 828 (by decide +kernel) rfl), (th_mS 61 (by decide +kernel) rfl)⟩
theorem l_L_12 : th_cI RL 12 yX10_init kX10_init 0 := ⟨bX10_init, (Or.inl (th_mW 832 (by decide +kernel) rfl)), (th_mW 833 (by decide +kernel) rfl), rfl, rfl⟩
theorem l_X10_1 : Cond.methodLink RX10 1 objectInit ∈ th_W := (th_mW 835 (by decide +kernel) rfl)
theorem l_L_17 : th_cV RL 17 yX10_sheet kX10_sheet 3 := ⟨bX10_sheet, (Or.inl (th_mW 962 (by decide +kernel) rfl)), (th_mW 963 (by decide +kernel) rfl), (th_mW 964 (by decide +kernel) rfl)⟩
theorem l_X10_95 : th_cS RX10 95 yX10_in kX10_in 3 := ⟨bX10_in, (Or.inl (th_mW 967 (by decide +kernel) rfl)), (th_mW 968 (by decide +kernel) rfl)⟩
theorem l_L_21 : th_cV RL 21 yX10_cell kX10_cell 3 := ⟨bX10_cell, (Or.inl (th_mW 970 (by decide +kernel) rfl)), (th_mW 971 (by decide +kernel) rfl), (th_mW 972 (by decide +kernel) rfl)⟩
theorem l_L_26 : th_cV RL 26 yX10_lose kX10_lose 1 := ⟨bX10_lose, (Or.inl (th_mW 974 (by decide +kernel) rfl)), (th_mW 975 (by decide +kernel) rfl), (th_mW 976 (by decide +kernel) rfl)⟩
theorem l_L_31 : th_cV RL 31 yX10_hits kX10_hits 2 := ⟨bX10_hits, (Or.inl (th_mW 978 (by decide +kernel) rfl)), (th_mW 979 (by decide +kernel) rfl), (th_mW 980 (by decide +kernel) rfl)⟩
theorem l_X10_105 : th_cS RX10 105 yX10_isLayer kX10_isLayer 1 := ⟨bX10_isLayer, (Or.inl (th_mW 982 (by decide +kernel) rfl)), (th_mW 983 (by decide +kernel) rfl)⟩
theorem l_X10_101 : th_cS RX10 101 yX10_bitsOf kX10_bitsOf 1 := ⟨bX10_bitsOf, (Or.inl (th_mW 987 (by decide +kernel) rfl)), (th_mW 988 (by decide +kernel) rfl)⟩
theorem l_L_35 : th_cV RL 35 yX10_load kX10_load 2 := ⟨bX10_load, (Or.inl (th_mW 990 (by decide +kernel) rfl)), (th_mW 991 (by decide +kernel) rfl), (th_mW 992 (by decide +kernel) rfl)⟩
theorem l_X10_112 : th_cV RX10 112 yX10_allHits kX10_allHits 0 := ⟨bX10_allHits, (Or.inl (th_mW 995 (by decide +kernel) rfl)), (th_mW 997 (by decide +kernel) rfl), (th_mS 62 (by decide +kernel) rfl)⟩
theorem l_L_39 : th_cV RL 39 yX10_mask kX10_mask 3 := ⟨bX10_mask, (Or.inl (th_mW 999 (by decide +kernel) rfl)), (th_mW 1000 (by decide +kernel) rfl), (th_mW 1001 (by decide +kernel) rfl)⟩
theorem l_L_43 : th_cV RL 43 yX10_layer kX10_layer 2 := ⟨bX10_layer, (Or.inl (th_mW 1003 (by decide +kernel) rfl)), (th_mW 1004 (by decide +kernel) rfl), (th_mW 1005 (by decide +kernel) rfl)⟩
theorem l_X10_116 : th_cV RX10 116 yX10_seen kX10_seen 1 := ⟨bX10_seen, (Or.inl (th_mW 1007 (by decide +kernel) rfl)), (th_mW 1009 (by decide +kernel) rfl), (th_mS 63 (by decide +kernel) rfl)⟩
theorem l_L_48 : th_cV RL 48 yX10_road kX10_road 6 := ⟨bX10_road, (Or.inl (th_mW 1011 (by decide +kernel) rfl)), (th_mW 1012 (by decide +kernel) rfl), (th_mW 1013 (by decide +kernel) rfl)⟩
theorem l_X10_119 : th_cS RX10 119 yX10_isSpan kX10_isSpan 1 := ⟨bX10_isSpan, (Or.inl (th_mW 1015 (by decide +kernel) rfl)), (th_mW 1016 (by decide +kernel) rfl)⟩
theorem l_L_52 : th_cV RL 52 yX10_span kX10_span 3 := ⟨bX10_span, (Or.inl (th_mW 1019 (by decide +kernel) rfl)), (th_mW 1020 (by decide +kernel) rfl), (th_mW 1021 (by decide +kernel) rfl)⟩
theorem l_X10_128 : th_cV RX10 128 yX10_isRoad kX10_isRoad 1 := ⟨bX10_isRoad, (Or.inl (th_mW 1023 (by decide +kernel) rfl)), (th_mW 1025 (by decide +kernel) rfl), (th_mS 64 (by decide +kernel) rfl)⟩
theorem l_L_57 : th_cV RL 57 yX10_lit kX10_lit 0 := ⟨bX10_lit, (Or.inl (th_mW 1027 (by decide +kernel) rfl)), (th_mW 1028 (by decide +kernel) rfl), (th_mW 1029 (by decide +kernel) rfl)⟩
theorem l_X10_139 : th_cV RX10 139 yX10_isLit kX10_isLit 1 := ⟨bX10_isLit, (Or.inl (th_mW 1031 (by decide +kernel) rfl)), (th_mW 1033 (by decide +kernel) rfl), (th_mS 65 (by decide +kernel) rfl)⟩
theorem l_X10_135 : th_cV RX10 135 yX10_heldBy kX10_heldBy 2 := ⟨bX10_heldBy, (Or.inl (th_mW 1035 (by decide +kernel) rfl)), (th_mW 1037 (by decide +kernel) rfl), (th_mS 66 (by decide +kernel) rfl)⟩
theorem l_X10_131 : th_cV RX10 131 yX10_isIn kX10_isIn 3 := ⟨bX10_isIn, (Or.inl (th_mW 1039 (by decide +kernel) rfl)), (th_mW 1041 (by decide +kernel) rfl), (th_mS 67 (by decide +kernel) rfl)⟩
theorem l_L_61 : th_cV RL 61 yX10_held kX10_held 1 := ⟨bX10_held, (Or.inl (th_mW 1043 (by decide +kernel) rfl)), (th_mW 1044 (by decide +kernel) rfl), (th_mW 1045 (by decide +kernel) rfl)⟩
theorem l_L_65 : th_cV RL 65 yX10_track kX10_track 2 := ⟨bX10_track, (Or.inl (th_mW 1047 (by decide +kernel) rfl)), (th_mW 1048 (by decide +kernel) rfl), (th_mW 1049 (by decide +kernel) rfl)⟩
theorem l_X10_152 : th_cV RX10 152 yX10_findTrack kX10_findTrack 1 := ⟨bX10_findTrack, (Or.inl (th_mW 1051 (by decide +kernel) rfl)), (th_mW 1053 (by decide +kernel) rfl), (th_mS 68 (by decide +kernel) rfl)⟩
theorem l_X10_148 : th_cV RX10 148 yX10_findFrom kX10_findFrom 3 := ⟨bX10_findFrom, (Or.inl (th_mW 1055 (by decide +kernel) rfl)), (th_mW 1057 (by decide +kernel) rfl), (th_mS 69 (by decide +kernel) rfl)⟩
theorem l_X10_145 : th_cV RX10 145 yX10_miss kX10_miss 1 := ⟨bX10_miss, (Or.inl (th_mW 1059 (by decide +kernel) rfl)), (th_mW 1061 (by decide +kernel) rfl), (th_mS 70 (by decide +kernel) rfl)⟩
theorem l_L_69 : th_cV RL 69 yX10_miss_ kX10_miss_ 2 := ⟨bX10_miss_, (Or.inl (th_mW 1063 (by decide +kernel) rfl)), (th_mW 1064 (by decide +kernel) rfl), (th_mW 1065 (by decide +kernel) rfl)⟩
theorem l_X10_155 : th_cS RX10 155 yX10_common kX10_common 2 := ⟨bX10_common, (Or.inl (th_mW 1067 (by decide +kernel) rfl)), (th_mW 1068 (by decide +kernel) rfl)⟩
theorem l_L_73 : th_cV RL 73 yX10_weight kX10_weight 1 := ⟨bX10_weight, (Or.inl (th_mW 1070 (by decide +kernel) rfl)), (th_mW 1071 (by decide +kernel) rfl), (th_mW 1072 (by decide +kernel) rfl)⟩
theorem l_X10_159 : th_cV RX10 159 yX10_weightOf kX10_weightOf 1 := ⟨bX10_weightOf, (Or.inl (th_mW 1074 (by decide +kernel) rfl)), (th_mW 1076 (by decide +kernel) rfl), (th_mS 71 (by decide +kernel) rfl)⟩
theorem l_L_77 : th_cV RL 77 yX10_heap kX10_heap 1 := ⟨bX10_heap, (Or.inl (th_mW 1078 (by decide +kernel) rfl)), (th_mW 1079 (by decide +kernel) rfl), (th_mW 1080 (by decide +kernel) rfl)⟩
theorem l_X10_172 : th_cV RX10 172 yX10_findHeap kX10_findHeap 0 := ⟨bX10_findHeap, (Or.inl (th_mW 1082 (by decide +kernel) rfl)), (th_mW 1084 (by decide +kernel) rfl), (th_mS 72 (by decide +kernel) rfl)⟩
theorem l_X10_168 : th_cV RX10 168 yX10_areApart kX10_areApart 2 := ⟨bX10_areApart, (Or.inl (th_mW 1086 (by decide +kernel) rfl)), (th_mW 1088 (by decide +kernel) rfl), (th_mS 73 (by decide +kernel) rfl)⟩
theorem l_L_81 : th_cV RL 81 yX10_blind kX10_blind 0 := ⟨bX10_blind, (Or.inl (th_mW 1090 (by decide +kernel) rfl)), (th_mW 1091 (by decide +kernel) rfl), (th_mW 1092 (by decide +kernel) rfl)⟩
theorem l_L_85 : th_cV RL 85 yX10_feed kX10_feed 1 := ⟨bX10_feed, (Or.inl (th_mW 1094 (by decide +kernel) rfl)), (th_mW 1095 (by decide +kernel) rfl), (th_mW 1096 (by decide +kernel) rfl)⟩
theorem l_L_89 : th_cV RL 89 yX10_clear kX10_clear 0 := ⟨bX10_clear, (Or.inl (th_mW 1098 (by decide +kernel) rfl)), (th_mW 1099 (by decide +kernel) rfl), (th_mW 1100 (by decide +kernel) rfl)⟩
theorem l_L_94 : th_cV RL 94 yX10_line kX10_line 2 := ⟨bX10_line, (Or.inl (th_mW 1102 (by decide +kernel) rfl)), (th_mW 1103 (by decide +kernel) rfl), (th_mW 1104 (by decide +kernel) rfl)⟩
theorem l_X10_189 : th_cV RX10 189 yX10_faultOf kX10_faultOf 0 := ⟨bX10_faultOf, (Or.inl (th_mW 1107 (by decide +kernel) rfl)), (th_mW 1109 (by decide +kernel) rfl), (th_mS 74 (by decide +kernel) rfl)⟩
theorem l_X10_178 : th_cS RX10 178 yX10_isName kX10_isName 1 := ⟨bX10_isName, (Or.inl (th_mW 1111 (by decide +kernel) rfl)), (th_mW 1112 (by decide +kernel) rfl)⟩
theorem l_X10_181 : th_cS RX10 181 yX10_isFigure kX10_isFigure 1 := ⟨bX10_isFigure, (Or.inl (th_mW 1114 (by decide +kernel) rfl)), (th_mW 1115 (by decide +kernel) rfl)⟩
theorem l_L_98 : th_cV RL 98 yX10_thin kX10_thin 2 := ⟨bX10_thin, (Or.inl (th_mW 1117 (by decide +kernel) rfl)), (th_mW 1118 (by decide +kernel) rfl), (th_mW 1119 (by decide +kernel) rfl)⟩
theorem l_X10_192 : th_cV RX10 192 yX10_isLine kX10_isLine 1 := ⟨bX10_isLine, (Or.inl (th_mW 1121 (by decide +kernel) rfl)), (th_mW 1123 (by decide +kernel) rfl), (th_mS 75 (by decide +kernel) rfl)⟩
theorem l_L_102 : th_cV RL 102 yX10_holds kX10_holds 1 := ⟨bX10_holds, (Or.inl (th_mW 1125 (by decide +kernel) rfl)), (th_mW 1126 (by decide +kernel) rfl), (th_mW 1127 (by decide +kernel) rfl)⟩
theorem l_X10_217 : th_cV RX10 217 yX10_holding kX10_holding 0 := ⟨bX10_holding, (Or.inl (th_mW 1129 (by decide +kernel) rfl)), (th_mW 1131 (by decide +kernel) rfl), (th_mS 76 (by decide +kernel) rfl)⟩
theorem l_X10_211 : th_cV RX10 211 yX10_any kX10_any 0 := ⟨bX10_any, (Or.inl (th_mW 1133 (by decide +kernel) rfl)), (th_mW 1135 (by decide +kernel) rfl), (th_mS 77 (by decide +kernel) rfl)⟩
theorem l_X10_201 : th_cV RX10 201 yX10_both kX10_both 0 := ⟨bX10_both, (Or.inl (th_mW 1137 (by decide +kernel) rfl)), (th_mW 1139 (by decide +kernel) rfl), (th_mS 78 (by decide +kernel) rfl)⟩
theorem l_X10_208 : th_cV RX10 208 yX10_one kX10_one 0 := ⟨bX10_one, (Or.inl (th_mW 1141 (by decide +kernel) rfl)), (th_mW 1143 (by decide +kernel) rfl), (th_mS 79 (by decide +kernel) rfl)⟩
theorem l_X10_205 : th_cV RX10 205 yX10_letter kX10_letter 0 := ⟨bX10_letter, (Or.inl (th_mW 1145 (by decide +kernel) rfl)), (th_mW 1147 (by decide +kernel) rfl), (th_mS 80 (by decide +kernel) rfl)⟩
theorem l_X10_214 : th_cV RX10 214 yX10_is kX10_is 2 := ⟨bX10_is, (Or.inl (th_mW 1149 (by decide +kernel) rfl)), (th_mW 1151 (by decide +kernel) rfl), (th_mS 81 (by decide +kernel) rfl)⟩
theorem l_L_106 : th_cV RL 106 yX10_of kX10_of 2 := ⟨bX10_of, (Or.inl (th_mW 1153 (by decide +kernel) rfl)), (th_mW 1154 (by decide +kernel) rfl), (th_mW 1155 (by decide +kernel) rfl)⟩
theorem l_L_110 : th_cV RL 110 yX10_fire kX10_fire 0 := ⟨bX10_fire, (Or.inl (th_mW 1157 (by decide +kernel) rfl)), (th_mW 1158 (by decide +kernel) rfl), (th_mW 1159 (by decide +kernel) rfl)⟩
theorem l_X10_238 : th_cV RX10 238 yX10_look kX10_look 0 := ⟨bX10_look, (Or.inl (th_mW 1161 (by decide +kernel) rfl)), (th_mW 1163 (by decide +kernel) rfl), (th_mS 82 (by decide +kernel) rfl)⟩
theorem l_X10_241 : th_cV RX10 241 yX10_noHits kX10_noHits 0 := ⟨bX10_noHits, (Or.inl (th_mW 1165 (by decide +kernel) rfl)), (th_mW 1167 (by decide +kernel) rfl), (th_mS 83 (by decide +kernel) rfl)⟩
theorem l_L_114 : th_cV RL 114 yX10_rest kX10_rest 1 := ⟨bX10_rest, (Or.inl (th_mW 1169 (by decide +kernel) rfl)), (th_mW 1170 (by decide +kernel) rfl), (th_mW 1171 (by decide +kernel) rfl)⟩
theorem l_L_118 : th_cV RL 118 yX10_many kX10_many 1 := ⟨bX10_many, (Or.inl (th_mW 1174 (by decide +kernel) rfl)), (th_mW 1175 (by decide +kernel) rfl), (th_mW 1176 (by decide +kernel) rfl)⟩
theorem l_X10_246 : th_cV RX10 246 yX10_raws kX10_raws 0 := ⟨bX10_raws, (Or.inl (th_mW 1178 (by decide +kernel) rfl)), (th_mW 1180 (by decide +kernel) rfl), (th_mS 84 (by decide +kernel) rfl)⟩
theorem l_L_122 : th_cV RL 122 yX10_raw kX10_raw 2 := ⟨bX10_raw, (Or.inl (th_mW 1182 (by decide +kernel) rfl)), (th_mW 1183 (by decide +kernel) rfl), (th_mW 1184 (by decide +kernel) rfl)⟩
theorem l_X10_251 : th_cV RX10 251 yX10_rawAt kX10_rawAt 1 := ⟨bX10_rawAt, (Or.inl (th_mW 1187 (by decide +kernel) rfl)), (th_mW 1189 (by decide +kernel) rfl), (th_mS 85 (by decide +kernel) rfl)⟩
theorem l_L_126 : th_cV RL 126 yX10_again kX10_again 1 := ⟨bX10_again, (Or.inl (th_mW 1191 (by decide +kernel) rfl)), (th_mW 1192 (by decide +kernel) rfl), (th_mW 1193 (by decide +kernel) rfl)⟩
theorem l_L_130 : th_cV RL 130 yX10_anew kX10_anew 0 := ⟨bX10_anew, (Or.inl (th_mW 1195 (by decide +kernel) rfl)), (th_mW 1196 (by decide +kernel) rfl), (th_mW 1197 (by decide +kernel) rfl)⟩
theorem l_oi1 : Cond.instanceMethod objectInit ∈ th_W := (th_mW 28 (by decide +kernel) rfl)
set_option maxRecDepth 20000 in
theorem l_oi2 : Cond.code objectInit ⟨#[0xb1]⟩ 1 none ∈ th_W := (th_mW 29 (by decide +kernel) rfl)
theorem n_L_7 : Cond.classLink RL 7 "TriggerHall" ∈ th_W := (th_mW 22 (by decide +kernel) rfl)
theorem i1_X9 : Cond.instantiable RX9 16 ∈ th_W := (th_mW 23 (by decide +kernel) rfl)
theorem i2_X9 : Cond.initialized RX9 ∈ th_W := (th_mW 1 (by decide +kernel) rfl)
theorem n_X9_7 : Cond.classLink RX9 7 "TriggerHall$Sheet" ∈ th_W := (th_mW 30 (by decide +kernel) rfl)
theorem i1_X7 : Cond.instantiable RX7 4 ∈ th_W := (th_mW 32 (by decide +kernel) rfl)
theorem i2_X7 : Cond.initialized RX7 ∈ th_W := (th_mW 2 (by decide +kernel) rfl)
theorem ac_int : Cond.arrayClass .int ∈ th_W := (th_mW 51 (by decide +kernel) rfl)
theorem n_X9_26 : Cond.classLink RX9 26 "java/util/ArrayList" ∈ th_W := (th_mW 52 (by decide +kernel) rfl)
theorem i1_Jx4a65c : Cond.instantiable RJx4a65c 3 ∈ th_W := (th_mW 53 (by decide +kernel) rfl)
theorem i2_Jx4a65c : Cond.initialized RJx4a65c ∈ th_W := (th_mW 5 (by decide +kernel) rfl)
theorem n_X9_33 : Cond.classLink RX9 33 "TriggerHall$Look" ∈ th_W := (th_mW 78 (by decide +kernel) rfl)
theorem i1_X3 : Cond.instantiable RX3 4 ∈ th_W := (th_mW 79 (by decide +kernel) rfl)
theorem i2_X3 : Cond.initialized RX3 ∈ th_W := (th_mW 6 (by decide +kernel) rfl)
theorem n_X3_15 : Cond.classLink RX3 15 "TriggerHall$Fit" ∈ th_W := (th_mW 84 (by decide +kernel) rfl)
theorem i1_X0 : Cond.instantiable RX0 7 ∈ th_W := (th_mW 85 (by decide +kernel) rfl)
theorem i2_X0 : Cond.initialized RX0 ∈ th_W := (th_mW 7 (by decide +kernel) rfl)
theorem n_X3_22 : Cond.classLink RX3 22 "TriggerHall$Heap" ∈ th_W := (th_mW 114 (by decide +kernel) rfl)
theorem i1_X1 : Cond.instantiable RX1 7 ∈ th_W := (th_mW 115 (by decide +kernel) rfl)
theorem i2_X1 : Cond.initialized RX1 ∈ th_W := (th_mW 8 (by decide +kernel) rfl)
theorem n_X9_40 : Cond.classLink RX9 40 "TriggerHall$Text" ∈ th_W := (th_mW 163 (by decide +kernel) rfl)
theorem i1_X8 : Cond.instantiable RX8 2 ∈ th_W := (th_mW 164 (by decide +kernel) rfl)
theorem i2_X8 : Cond.initialized RX8 ∈ th_W := (th_mW 9 (by decide +kernel) rfl)
theorem ac_char : Cond.arrayClass .char ∈ th_W := (th_mW 178 (by decide +kernel) rfl)
theorem n_X9_47 : Cond.classLink RX9 47 "TriggerHall$Reader" ∈ th_W := (th_mW 179 (by decide +kernel) rfl)
theorem i1_X5 : Cond.instantiable RX5 4 ∈ th_W := (th_mW 180 (by decide +kernel) rfl)
theorem i2_X5 : Cond.initialized RX5 ∈ th_W := (th_mW 10 (by decide +kernel) rfl)
theorem n_X9_57 : Cond.classLink RX9 57 "TriggerHall$Raws" ∈ th_W := (th_mW 199 (by decide +kernel) rfl)
theorem i1_X4 : Cond.instantiable RX4 4 ∈ th_W := (th_mW 200 (by decide +kernel) rfl)
theorem i2_X4 : Cond.initialized RX4 ∈ th_W := (th_mW 11 (by decide +kernel) rfl)
theorem q_X9_101 : Cond.constant RX9 101 (65535 : Int32) ∈ th_W := (th_mW 307 (by decide +kernel) rfl)
theorem q_J6_265 : Cond.constant RJ6 265 (1431655765 : Int32) ∈ th_W := (th_mW 311 (by decide +kernel) rfl)
theorem q_J6_266 : Cond.constant RJ6 266 (858993459 : Int32) ∈ th_W := (th_mW 312 (by decide +kernel) rfl)
theorem q_J6_267 : Cond.constant RJ6 267 (252645135 : Int32) ∈ th_W := (th_mW 313 (by decide +kernel) rfl)
theorem n_X9_115 : Cond.classLink RX9 115 "TriggerHall$Road" ∈ th_W := (th_mW 350 (by decide +kernel) rfl)
theorem i1_X6 : Cond.instantiable RX6 3 ∈ th_W := (th_mW 351 (by decide +kernel) rfl)
theorem i2_X6 : Cond.initialized RX6 ∈ th_W := (th_mW 14 (by decide +kernel) rfl)
theorem q_J8_200 : Cond.constant RJ8 200 (2147483639 : Int32) ∈ th_W := (th_mW 399 (by decide +kernel) rfl)
theorem n_J7_110 : Cond.classLink RJ7 110 "[Ljava/lang/Object;" ∈ th_W := (th_mW 425 (by decide +kernel) rfl)
theorem n_J7_2 : Cond.classLink RJ7 2 "java/lang/Object" ∈ th_W := (th_mW 427 (by decide +kernel) rfl)
theorem n_Jx4a65c_7 : Cond.classLink RJx4a65c 7 "java/lang/Object" ∈ th_W := (th_mW 435 (by decide +kernel) rfl)
theorem n_X3_43 : Cond.classLink RX3 43 "TriggerHall$Road" ∈ th_W := (th_mW 483 (by decide +kernel) rfl)
theorem q_X0_37 : Cond.constant RX0 37 (1073741824 : Int32) ∈ th_W := (th_mW 519 (by decide +kernel) rfl)
theorem q_J6_264 : Cond.constant RJ6 264 (65536 : Int32) ∈ th_W := (th_mW 531 (by decide +kernel) rfl)
theorem n_X9_220 : Cond.classLink RX9 220 "TriggerHall$Line" ∈ th_W := (th_mW 679 (by decide +kernel) rfl)
theorem i1_X2 : Cond.instantiable RX2 7 ∈ th_W := (th_mW 680 (by decide +kernel) rfl)
theorem i2_X2 : Cond.initialized RX2 ∈ th_W := (th_mW 21 (by decide +kernel) rfl)
theorem n_X2_7 : Cond.classLink RX2 7 "TriggerHall$Text" ∈ th_W := (th_mW 685 (by decide +kernel) rfl)
theorem n_L_10 : Cond.classLink RL 10 "TriggerHallModel" ∈ th_W := (th_mW 830 (by decide +kernel) rfl)
theorem i1_X10 : Cond.instantiable RX10 41 ∈ th_W := (th_mW 831 (by decide +kernel) rfl)
theorem i2_X10 : Cond.initialized RX10 ∈ th_W := (th_mW 12 (by decide +kernel) rfl)
theorem ac_byte : Cond.arrayClass .byte ∈ th_W := (th_mW 960 (by decide +kernel) rfl)
theorem ac_boolean : Cond.arrayClass .boolean ∈ th_W := (th_mW 961 (by decide +kernel) rfl)
theorem q_X10_99 : Cond.constantLong RX10 99 (2 : Int64) ∈ th_W := (th_mW 966 (by decide +kernel) rfl)
theorem q_X10_93 : Cond.constantLong RX10 93 (4 : Int64) ∈ th_W := (th_mW 985 (by decide +kernel) rfl)
theorem q_X10_109 : Cond.constantLong RX10 109 (65535 : Int64) ∈ th_W := (th_mW 986 (by decide +kernel) rfl)
theorem q_X10_111 : Cond.constant RX10 111 (65535 : Int32) ∈ th_W := (th_mW 994 (by decide +kernel) rfl)
theorem q_X10_122 : Cond.constantLong RX10 122 (5 : Int64) ∈ th_W := (th_mW 1018 (by decide +kernel) rfl)
theorem q_X10_184 : Cond.constantLong RX10 184 (100 : Int64) ∈ th_W := (th_mW 1106 (by decide +kernel) rfl)
theorem q_X10_244 : Cond.constantLong RX10 244 (20 : Int64) ∈ th_W := (th_mW 1173 (by decide +kernel) rfl)
theorem q_X10_249 : Cond.constantLong RX10 249 (7 : Int64) ∈ th_W := (th_mW 1186 (by decide +kernel) rfl)
end
