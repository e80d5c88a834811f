section
-- ===== PART A: goes FIRST, ahead of the names: the tables' words, and 'selects' of the private methods out of them =====
/-- a private method of a class that the tables say can be made, by its rows of tables_1 -/
def lw_okq (q : MethodName × Nat) : Prop := (q.1.cls ≠ "java/lang/invoke/MethodHandle" ∧ q.1.cls ≠ "java/lang/invoke/VarHandle") ∧ Cond.instantiable q.1.cls q.2 ∈ tables_1 ∧ Cond.privateMethod q.1 ∈ tables_1 ∧ Cond.instanceMethod q.1 ∈ tables_1
theorem lw_p0 : lw_okq (⟨"TriggerHall", "sheetAt", "(I)LTriggerHall$Sheet;"⟩, 16) := ⟨⟨by decide +kernel, by decide +kernel⟩, List.mem_of_getElem? (i := 23) (by decide +kernel), List.mem_of_getElem? (i := 273) (by decide +kernel), List.mem_of_getElem? (i := 274) (by decide +kernel)⟩
theorem lw_p1 : lw_okq (⟨"TriggerHall$Sheet", "lay", "(II)V"⟩, 4) := ⟨⟨by decide +kernel, by decide +kernel⟩, List.mem_of_getElem? (i := 32) (by decide +kernel), List.mem_of_getElem? (i := 277) (by decide +kernel), List.mem_of_getElem? (i := 278) (by decide +kernel)⟩
theorem lw_p2 : lw_okq (⟨"TriggerHall$Sheet", "has", "(I)Z"⟩, 4) := ⟨⟨by decide +kernel, by decide +kernel⟩, List.mem_of_getElem? (i := 32) (by decide +kernel), List.mem_of_getElem? (i := 285) (by decide +kernel), List.mem_of_getElem? (i := 286) (by decide +kernel)⟩
theorem lw_p3 : lw_okq (⟨"TriggerHall$Sheet", "put", "(II)V"⟩, 4) := ⟨⟨by decide +kernel, by decide +kernel⟩, List.mem_of_getElem? (i := 32) (by decide +kernel), List.mem_of_getElem? (i := 289) (by decide +kernel), List.mem_of_getElem? (i := 290) (by decide +kernel)⟩
theorem lw_p4 : lw_okq (⟨"TriggerHall$Sheet", "numberAt", "(I)I"⟩, 4) := ⟨⟨by decide +kernel, by decide +kernel⟩, List.mem_of_getElem? (i := 32) (by decide +kernel), List.mem_of_getElem? (i := 319) (by decide +kernel), List.mem_of_getElem? (i := 320) (by decide +kernel)⟩
theorem lw_p5 : lw_okq (⟨"TriggerHall$Road", "setSpan", "(II)V"⟩, 3) := ⟨⟨by decide +kernel, by decide +kernel⟩, List.mem_of_getElem? (i := 351) (by decide +kernel), List.mem_of_getElem? (i := 367) (by decide +kernel), List.mem_of_getElem? (i := 368) (by decide +kernel)⟩
theorem lw_p6 : lw_okq (⟨"java/util/ArrayList", "add", "(Ljava/lang/Object;[Ljava/lang/Object;I)V"⟩, 3) := ⟨⟨by decide +kernel, by decide +kernel⟩, List.mem_of_getElem? (i := 53) (by decide +kernel), List.mem_of_getElem? (i := 382) (by decide +kernel), List.mem_of_getElem? (i := 383) (by decide +kernel)⟩
theorem lw_p7 : lw_okq (⟨"java/util/ArrayList", "grow", "()[Ljava/lang/Object;"⟩, 3) := ⟨⟨by decide +kernel, by decide +kernel⟩, List.mem_of_getElem? (i := 53) (by decide +kernel), List.mem_of_getElem? (i := 386) (by decide +kernel), List.mem_of_getElem? (i := 387) (by decide +kernel)⟩
theorem lw_p8 : lw_okq (⟨"java/util/ArrayList", "grow", "(I)[Ljava/lang/Object;"⟩, 3) := ⟨⟨by decide +kernel, by decide +kernel⟩, List.mem_of_getElem? (i := 53) (by decide +kernel), List.mem_of_getElem? (i := 390) (by decide +kernel), List.mem_of_getElem? (i := 391) (by decide +kernel)⟩
theorem lw_p9 : lw_okq (⟨"TriggerHall", "roadAt", "(I)LTriggerHall$Road;"⟩, 16) := ⟨⟨by decide +kernel, by decide +kernel⟩, List.mem_of_getElem? (i := 23) (by decide +kernel), List.mem_of_getElem? (i := 441) (by decide +kernel), List.mem_of_getElem? (i := 442) (by decide +kernel)⟩
theorem lw_p10 : lw_okq (⟨"TriggerHall$Road", "spanTold", "(I)I"⟩, 3) := ⟨⟨by decide +kernel, by decide +kernel⟩, List.mem_of_getElem? (i := 351) (by decide +kernel), List.mem_of_getElem? (i := 464) (by decide +kernel), List.mem_of_getElem? (i := 465) (by decide +kernel)⟩
theorem lw_p11 : lw_okq (⟨"TriggerHall$Look", "see", "([I[I[I)V"⟩, 4) := ⟨⟨by decide +kernel, by decide +kernel⟩, List.mem_of_getElem? (i := 79) (by decide +kernel), List.mem_of_getElem? (i := 472) (by decide +kernel), List.mem_of_getElem? (i := 473) (by decide +kernel)⟩
theorem lw_p12 : lw_okq (⟨"TriggerHall$Look", "light", "(Ljava/util/List;)V"⟩, 4) := ⟨⟨by decide +kernel, by decide +kernel⟩, List.mem_of_getElem? (i := 79) (by decide +kernel), List.mem_of_getElem? (i := 476) (by decide +kernel), List.mem_of_getElem? (i := 477) (by decide +kernel)⟩
theorem lw_p13 : lw_okq (⟨"TriggerHall$Road", "isLit", "([I)Z"⟩, 3) := ⟨⟨by decide +kernel, by decide +kernel⟩, List.mem_of_getElem? (i := 351) (by decide +kernel), List.mem_of_getElem? (i := 485) (by decide +kernel), List.mem_of_getElem? (i := 486) (by decide +kernel)⟩
theorem lw_p14 : lw_okq (⟨"TriggerHall$Road", "layersHeld", "([I)I"⟩, 3) := ⟨⟨by decide +kernel, by decide +kernel⟩, List.mem_of_getElem? (i := 351) (by decide +kernel), List.mem_of_getElem? (i := 489) (by decide +kernel), List.mem_of_getElem? (i := 490) (by decide +kernel)⟩
theorem lw_p15 : lw_okq (⟨"TriggerHall$Road", "seenIn", "(I[I)I"⟩, 3) := ⟨⟨by decide +kernel, by decide +kernel⟩, List.mem_of_getElem? (i := 351) (by decide +kernel), List.mem_of_getElem? (i := 493) (by decide +kernel), List.mem_of_getElem? (i := 494) (by decide +kernel)⟩
def lw_privs_1 : List (MethodName × Nat) := [(⟨"TriggerHall", "sheetAt", "(I)LTriggerHall$Sheet;"⟩, 16), (⟨"TriggerHall$Sheet", "lay", "(II)V"⟩, 4), (⟨"TriggerHall$Sheet", "has", "(I)Z"⟩, 4), (⟨"TriggerHall$Sheet", "put", "(II)V"⟩, 4), (⟨"TriggerHall$Sheet", "numberAt", "(I)I"⟩, 4), (⟨"TriggerHall$Road", "setSpan", "(II)V"⟩, 3), (⟨"java/util/ArrayList", "add", "(Ljava/lang/Object;[Ljava/lang/Object;I)V"⟩, 3), (⟨"java/util/ArrayList", "grow", "()[Ljava/lang/Object;"⟩, 3), (⟨"java/util/ArrayList", "grow", "(I)[Ljava/lang/Object;"⟩, 3), (⟨"TriggerHall", "roadAt", "(I)LTriggerHall$Road;"⟩, 16), (⟨"TriggerHall$Road", "spanTold", "(I)I"⟩, 3), (⟨"TriggerHall$Look", "see", "([I[I[I)V"⟩, 4), (⟨"TriggerHall$Look", "light", "(Ljava/util/List;)V"⟩, 4), (⟨"TriggerHall$Road", "isLit", "([I)Z"⟩, 3), (⟨"TriggerHall$Road", "layersHeld", "([I)I"⟩, 3), (⟨"TriggerHall$Road", "seenIn", "(I[I)I"⟩, 3)]
theorem lw_r1 : ∀ q ∈ lw_privs_1, lw_okq q := List.forall_mem_cons.mpr ⟨lw_p0, List.forall_mem_cons.mpr ⟨lw_p1, List.forall_mem_cons.mpr ⟨lw_p2, List.forall_mem_cons.mpr ⟨lw_p3, List.forall_mem_cons.mpr ⟨lw_p4, List.forall_mem_cons.mpr ⟨lw_p5, List.forall_mem_cons.mpr ⟨lw_p6, List.forall_mem_cons.mpr ⟨lw_p7, List.forall_mem_cons.mpr ⟨lw_p8, List.forall_mem_cons.mpr ⟨lw_p9, List.forall_mem_cons.mpr ⟨lw_p10, List.forall_mem_cons.mpr ⟨lw_p11, List.forall_mem_cons.mpr ⟨lw_p12, List.forall_mem_cons.mpr ⟨lw_p13, List.forall_mem_cons.mpr ⟨lw_p14, List.forall_mem_cons.mpr ⟨lw_p15, fun _ h => absurd h List.not_mem_nil⟩⟩⟩⟩⟩⟩⟩⟩⟩⟩⟩⟩⟩⟩⟩⟩
theorem lw_p16 : lw_okq (⟨"TriggerHall", "fitInHand", "(LTriggerHall$Road;)Z"⟩, 16) := ⟨⟨by decide +kernel, by decide +kernel⟩, List.mem_of_getElem? (i := 23) (by decide +kernel), List.mem_of_getElem? (i := 507) (by decide +kernel), List.mem_of_getElem? (i := 508) (by decide +kernel)⟩
theorem lw_p17 : lw_okq (⟨"TriggerHall$Look", "fitAlong", "(LTriggerHall$Road;)Z"⟩, 4) := ⟨⟨by decide +kernel, by decide +kernel⟩, List.mem_of_getElem? (i := 79) (by decide +kernel), List.mem_of_getElem? (i := 511) (by decide +kernel), List.mem_of_getElem? (i := 512) (by decide +kernel)⟩
theorem lw_p18 : lw_okq (⟨"TriggerHall$Fit", "along", "(LTriggerHall$Road;[I)V"⟩, 7) := ⟨⟨by decide +kernel, by decide +kernel⟩, List.mem_of_getElem? (i := 85) (by decide +kernel), List.mem_of_getElem? (i := 515) (by decide +kernel), List.mem_of_getElem? (i := 516) (by decide +kernel)⟩
theorem lw_p19 : lw_okq (⟨"TriggerHall$Fit", "tryCells", "(IIII)V"⟩, 7) := ⟨⟨by decide +kernel, by decide +kernel⟩, List.mem_of_getElem? (i := 85) (by decide +kernel), List.mem_of_getElem? (i := 521) (by decide +kernel), List.mem_of_getElem? (i := 522) (by decide +kernel)⟩
theorem lw_p20 : lw_okq (⟨"TriggerHall$Fit", "takeTrial", "(III)V"⟩, 7) := ⟨⟨by decide +kernel, by decide +kernel⟩, List.mem_of_getElem? (i := 85) (by decide +kernel), List.mem_of_getElem? (i := 525) (by decide +kernel), List.mem_of_getElem? (i := 526) (by decide +kernel)⟩
theorem lw_p21 : lw_okq (⟨"TriggerHall$Fit", "isPerfect", "()Z"⟩, 7) := ⟨⟨by decide +kernel, by decide +kernel⟩, List.mem_of_getElem? (i := 85) (by decide +kernel), List.mem_of_getElem? (i := 533) (by decide +kernel), List.mem_of_getElem? (i := 534) (by decide +kernel)⟩
theorem lw_p22 : lw_okq (⟨"TriggerHall$Fit", "above", "()I"⟩, 7) := ⟨⟨by decide +kernel, by decide +kernel⟩, List.mem_of_getElem? (i := 85) (by decide +kernel), List.mem_of_getElem? (i := 541) (by decide +kernel), List.mem_of_getElem? (i := 542) (by decide +kernel)⟩
theorem lw_p23 : lw_okq (⟨"TriggerHall$Fit", "below", "()I"⟩, 7) := ⟨⟨by decide +kernel, by decide +kernel⟩, List.mem_of_getElem? (i := 85) (by decide +kernel), List.mem_of_getElem? (i := 545) (by decide +kernel), List.mem_of_getElem? (i := 546) (by decide +kernel)⟩
theorem lw_p24 : lw_okq (⟨"TriggerHall$Fit", "worth", "()I"⟩, 7) := ⟨⟨by decide +kernel, by decide +kernel⟩, List.mem_of_getElem? (i := 85) (by decide +kernel), List.mem_of_getElem? (i := 558) (by decide +kernel), List.mem_of_getElem? (i := 559) (by decide +kernel)⟩
theorem lw_p25 : lw_okq (⟨"TriggerHall", "lookAt", "([I)V"⟩, 16) := ⟨⟨by decide +kernel, by decide +kernel⟩, List.mem_of_getElem? (i := 23) (by decide +kernel), List.mem_of_getElem? (i := 567) (by decide +kernel), List.mem_of_getElem? (i := 568) (by decide +kernel)⟩
theorem lw_p26 : lw_okq (⟨"TriggerHall$Look", "pile", "(Ljava/util/List;)V"⟩, 4) := ⟨⟨by decide +kernel, by decide +kernel⟩, List.mem_of_getElem? (i := 79) (by decide +kernel), List.mem_of_getElem? (i := 571) (by decide +kernel), List.mem_of_getElem? (i := 572) (by decide +kernel)⟩
theorem lw_p27 : lw_okq (⟨"TriggerHall$Heap", "empty", "()V"⟩, 7) := ⟨⟨by decide +kernel, by decide +kernel⟩, List.mem_of_getElem? (i := 115) (by decide +kernel), List.mem_of_getElem? (i := 575) (by decide +kernel), List.mem_of_getElem? (i := 576) (by decide +kernel)⟩
theorem lw_p28 : lw_okq (⟨"TriggerHall$Heap", "put", "(I[I)V"⟩, 7) := ⟨⟨by decide +kernel, by decide +kernel⟩, List.mem_of_getElem? (i := 115) (by decide +kernel), List.mem_of_getElem? (i := 581) (by decide +kernel), List.mem_of_getElem? (i := 582) (by decide +kernel)⟩
theorem lw_p29 : lw_okq (⟨"TriggerHall$Heap", "clash", "(II)Z"⟩, 7) := ⟨⟨by decide +kernel, by decide +kernel⟩, List.mem_of_getElem? (i := 115) (by decide +kernel), List.mem_of_getElem? (i := 585) (by decide +kernel), List.mem_of_getElem? (i := 586) (by decide +kernel)⟩
theorem lw_p30 : lw_okq (⟨"TriggerHall$Heap", "choose", "()V"⟩, 7) := ⟨⟨by decide +kernel, by decide +kernel⟩, List.mem_of_getElem? (i := 115) (by decide +kernel), List.mem_of_getElem? (i := 589) (by decide +kernel), List.mem_of_getElem? (i := 590) (by decide +kernel)⟩
theorem lw_p31 : lw_okq (⟨"TriggerHall$Heap", "chooseFrom", "(III)V"⟩, 7) := ⟨⟨by decide +kernel, by decide +kernel⟩, List.mem_of_getElem? (i := 115) (by decide +kernel), List.mem_of_getElem? (i := 593) (by decide +kernel), List.mem_of_getElem? (i := 594) (by decide +kernel)⟩
def lw_privs_2 : List (MethodName × Nat) := [(⟨"TriggerHall", "fitInHand", "(LTriggerHall$Road;)Z"⟩, 16), (⟨"TriggerHall$Look", "fitAlong", "(LTriggerHall$Road;)Z"⟩, 4), (⟨"TriggerHall$Fit", "along", "(LTriggerHall$Road;[I)V"⟩, 7), (⟨"TriggerHall$Fit", "tryCells", "(IIII)V"⟩, 7), (⟨"TriggerHall$Fit", "takeTrial", "(III)V"⟩, 7), (⟨"TriggerHall$Fit", "isPerfect", "()Z"⟩, 7), (⟨"TriggerHall$Fit", "above", "()I"⟩, 7), (⟨"TriggerHall$Fit", "below", "()I"⟩, 7), (⟨"TriggerHall$Fit", "worth", "()I"⟩, 7), (⟨"TriggerHall", "lookAt", "([I)V"⟩, 16), (⟨"TriggerHall$Look", "pile", "(Ljava/util/List;)V"⟩, 4), (⟨"TriggerHall$Heap", "empty", "()V"⟩, 7), (⟨"TriggerHall$Heap", "put", "(I[I)V"⟩, 7), (⟨"TriggerHall$Heap", "clash", "(II)Z"⟩, 7), (⟨"TriggerHall$Heap", "choose", "()V"⟩, 7), (⟨"TriggerHall$Heap", "chooseFrom", "(III)V"⟩, 7)]
theorem lw_r2 : ∀ q ∈ lw_privs_2, lw_okq q := List.forall_mem_cons.mpr ⟨lw_p16, List.forall_mem_cons.mpr ⟨lw_p17, List.forall_mem_cons.mpr ⟨lw_p18, List.forall_mem_cons.mpr ⟨lw_p19, List.forall_mem_cons.mpr ⟨lw_p20, List.forall_mem_cons.mpr ⟨lw_p21, List.forall_mem_cons.mpr ⟨lw_p22, List.forall_mem_cons.mpr ⟨lw_p23, List.forall_mem_cons.mpr ⟨lw_p24, List.forall_mem_cons.mpr ⟨lw_p25, List.forall_mem_cons.mpr ⟨lw_p26, List.forall_mem_cons.mpr ⟨lw_p27, List.forall_mem_cons.mpr ⟨lw_p28, List.forall_mem_cons.mpr ⟨lw_p29, List.forall_mem_cons.mpr ⟨lw_p30, List.forall_mem_cons.mpr ⟨lw_p31, fun _ h => absurd h List.not_mem_nil⟩⟩⟩⟩⟩⟩⟩⟩⟩⟩⟩⟩⟩⟩⟩⟩
theorem lw_p32 : lw_okq (⟨"TriggerHall$Text", "put", "(C)V"⟩, 2) := ⟨⟨by decide +kernel, by decide +kernel⟩, List.mem_of_getElem? (i := 164) (by decide +kernel), List.mem_of_getElem? (i := 613) (by decide +kernel), List.mem_of_getElem? (i := 614) (by decide +kernel)⟩
theorem lw_p33 : lw_okq (⟨"TriggerHall$Reader", "read", "(LTriggerHall$Text;LTriggerHall$Look;)Z"⟩, 4) := ⟨⟨by decide +kernel, by decide +kernel⟩, List.mem_of_getElem? (i := 180) (by decide +kernel), List.mem_of_getElem? (i := 628) (by decide +kernel), List.mem_of_getElem? (i := 629) (by decide +kernel)⟩
theorem lw_p34 : lw_okq (⟨"TriggerHall$Reader", "readAny", "(I)Z"⟩, 4) := ⟨⟨by decide +kernel, by decide +kernel⟩, List.mem_of_getElem? (i := 180) (by decide +kernel), List.mem_of_getElem? (i := 632) (by decide +kernel), List.mem_of_getElem? (i := 633) (by decide +kernel)⟩
theorem lw_p35 : lw_okq (⟨"TriggerHall$Reader", "readBoth", "(I)Z"⟩, 4) := ⟨⟨by decide +kernel, by decide +kernel⟩, List.mem_of_getElem? (i := 180) (by decide +kernel), List.mem_of_getElem? (i := 636) (by decide +kernel), List.mem_of_getElem? (i := 637) (by decide +kernel)⟩
theorem lw_p36 : lw_okq (⟨"TriggerHall$Reader", "readOne", "(I)Z"⟩, 4) := ⟨⟨by decide +kernel, by decide +kernel⟩, List.mem_of_getElem? (i := 180) (by decide +kernel), List.mem_of_getElem? (i := 640) (by decide +kernel), List.mem_of_getElem? (i := 641) (by decide +kernel)⟩
theorem lw_p37 : lw_okq (⟨"TriggerHall$Text", "letterAt", "(I)I"⟩, 2) := ⟨⟨by decide +kernel, by decide +kernel⟩, List.mem_of_getElem? (i := 164) (by decide +kernel), List.mem_of_getElem? (i := 644) (by decide +kernel), List.mem_of_getElem? (i := 645) (by decide +kernel)⟩
theorem lw_p38 : lw_okq (⟨"TriggerHall$Reader", "readAsked", "()Z"⟩, 4) := ⟨⟨by decide +kernel, by decide +kernel⟩, List.mem_of_getElem? (i := 180) (by decide +kernel), List.mem_of_getElem? (i := 648) (by decide +kernel), List.mem_of_getElem? (i := 649) (by decide +kernel)⟩
theorem lw_p39 : lw_okq (⟨"TriggerHall$Reader", "fail", "()Z"⟩, 4) := ⟨⟨by decide +kernel, by decide +kernel⟩, List.mem_of_getElem? (i := 180) (by decide +kernel), List.mem_of_getElem? (i := 655) (by decide +kernel), List.mem_of_getElem? (i := 656) (by decide +kernel)⟩
theorem lw_p40 : lw_okq (⟨"TriggerHall$Reader", "readNumber", "()I"⟩, 4) := ⟨⟨by decide +kernel, by decide +kernel⟩, List.mem_of_getElem? (i := 180) (by decide +kernel), List.mem_of_getElem? (i := 659) (by decide +kernel), List.mem_of_getElem? (i := 660) (by decide +kernel)⟩
theorem lw_p41 : lw_okq (⟨"TriggerHall$Look", "answers", "(II)Z"⟩, 4) := ⟨⟨by decide +kernel, by decide +kernel⟩, List.mem_of_getElem? (i := 79) (by decide +kernel), List.mem_of_getElem? (i := 666) (by decide +kernel), List.mem_of_getElem? (i := 667) (by decide +kernel)⟩
theorem lw_p42 : lw_okq (⟨"TriggerHall$Look", "layersSeen", "()I"⟩, 4) := ⟨⟨by decide +kernel, by decide +kernel⟩, List.mem_of_getElem? (i := 79) (by decide +kernel), List.mem_of_getElem? (i := 672) (by decide +kernel), List.mem_of_getElem? (i := 673) (by decide +kernel)⟩
theorem lw_p43 : lw_okq (⟨"TriggerHall$Reader", "passOver", "(C)Z"⟩, 4) := ⟨⟨by decide +kernel, by decide +kernel⟩, List.mem_of_getElem? (i := 180) (by decide +kernel), List.mem_of_getElem? (i := 676) (by decide +kernel), List.mem_of_getElem? (i := 677) (by decide +kernel)⟩
theorem lw_p44 : lw_okq (⟨"TriggerHall$Text", "copy", "(LTriggerHall$Text;)V"⟩, 2) := ⟨⟨by decide +kernel, by decide +kernel⟩, List.mem_of_getElem? (i := 164) (by decide +kernel), List.mem_of_getElem? (i := 688) (by decide +kernel), List.mem_of_getElem? (i := 689) (by decide +kernel)⟩
theorem lw_p45 : lw_okq (⟨"TriggerHall", "lineAt", "(I)LTriggerHall$Line;"⟩, 16) := ⟨⟨by decide +kernel, by decide +kernel⟩, List.mem_of_getElem? (i := 23) (by decide +kernel), List.mem_of_getElem? (i := 726) (by decide +kernel), List.mem_of_getElem? (i := 727) (by decide +kernel)⟩
theorem lw_p46 : lw_okq (⟨"TriggerHall", "loseCrossing", "()I"⟩, 16) := ⟨⟨by decide +kernel, by decide +kernel⟩, List.mem_of_getElem? (i := 23) (by decide +kernel), List.mem_of_getElem? (i := 742) (by decide +kernel), List.mem_of_getElem? (i := 743) (by decide +kernel)⟩
theorem lw_p47 : lw_okq (⟨"TriggerHall", "judgeCrossing", "(I)I"⟩, 16) := ⟨⟨by decide +kernel, by decide +kernel⟩, List.mem_of_getElem? (i := 23) (by decide +kernel), List.mem_of_getElem? (i := 746) (by decide +kernel), List.mem_of_getElem? (i := 747) (by decide +kernel)⟩
def lw_privs_3 : List (MethodName × Nat) := [(⟨"TriggerHall$Text", "put", "(C)V"⟩, 2), (⟨"TriggerHall$Reader", "read", "(LTriggerHall$Text;LTriggerHall$Look;)Z"⟩, 4), (⟨"TriggerHall$Reader", "readAny", "(I)Z"⟩, 4), (⟨"TriggerHall$Reader", "readBoth", "(I)Z"⟩, 4), (⟨"TriggerHall$Reader", "readOne", "(I)Z"⟩, 4), (⟨"TriggerHall$Text", "letterAt", "(I)I"⟩, 2), (⟨"TriggerHall$Reader", "readAsked", "()Z"⟩, 4), (⟨"TriggerHall$Reader", "fail", "()Z"⟩, 4), (⟨"TriggerHall$Reader", "readNumber", "()I"⟩, 4), (⟨"TriggerHall$Look", "answers", "(II)Z"⟩, 4), (⟨"TriggerHall$Look", "layersSeen", "()I"⟩, 4), (⟨"TriggerHall$Reader", "passOver", "(C)Z"⟩, 4), (⟨"TriggerHall$Text", "copy", "(LTriggerHall$Text;)V"⟩, 2), (⟨"TriggerHall", "lineAt", "(I)LTriggerHall$Line;"⟩, 16), (⟨"TriggerHall", "loseCrossing", "()I"⟩, 16), (⟨"TriggerHall", "judgeCrossing", "(I)I"⟩, 16)]
theorem lw_r3 : ∀ q ∈ lw_privs_3, lw_okq q := List.forall_mem_cons.mpr ⟨lw_p32, List.forall_mem_cons.mpr ⟨lw_p33, List.forall_mem_cons.mpr ⟨lw_p34, List.forall_mem_cons.mpr ⟨lw_p35, List.forall_mem_cons.mpr ⟨lw_p36, List.forall_mem_cons.mpr ⟨lw_p37, List.forall_mem_cons.mpr ⟨lw_p38, List.forall_mem_cons.mpr ⟨lw_p39, List.forall_mem_cons.mpr ⟨lw_p40, List.forall_mem_cons.mpr ⟨lw_p41, List.forall_mem_cons.mpr ⟨lw_p42, List.forall_mem_cons.mpr ⟨lw_p43, List.forall_mem_cons.mpr ⟨lw_p44, List.forall_mem_cons.mpr ⟨lw_p45, List.forall_mem_cons.mpr ⟨lw_p46, List.forall_mem_cons.mpr ⟨lw_p47, fun _ h => absurd h List.not_mem_nil⟩⟩⟩⟩⟩⟩⟩⟩⟩⟩⟩⟩⟩⟩⟩⟩
theorem lw_p48 : lw_okq (⟨"TriggerHall", "holdingLines", "()I"⟩, 16) := ⟨⟨by decide +kernel, by decide +kernel⟩, List.mem_of_getElem? (i := 23) (by decide +kernel), List.mem_of_getElem? (i := 750) (by decide +kernel), List.mem_of_getElem? (i := 751) (by decide +kernel)⟩
theorem lw_p49 : lw_okq (⟨"TriggerHall", "passLines", "(I)I"⟩, 16) := ⟨⟨by decide +kernel, by decide +kernel⟩, List.mem_of_getElem? (i := 23) (by decide +kernel), List.mem_of_getElem? (i := 754) (by decide +kernel), List.mem_of_getElem? (i := 755) (by decide +kernel)⟩
theorem lw_p50 : lw_okq (⟨"TriggerHall$Line", "countPasses", "()Z"⟩, 7) := ⟨⟨by decide +kernel, by decide +kernel⟩, List.mem_of_getElem? (i := 680) (by decide +kernel), List.mem_of_getElem? (i := 758) (by decide +kernel), List.mem_of_getElem? (i := 759) (by decide +kernel)⟩
theorem lw_p51 : lw_okq (⟨"TriggerHall", "barLines", "()I"⟩, 16) := ⟨⟨by decide +kernel, by decide +kernel⟩, List.mem_of_getElem? (i := 23) (by decide +kernel), List.mem_of_getElem? (i := 762) (by decide +kernel), List.mem_of_getElem? (i := 763) (by decide +kernel)⟩
theorem lw_p52 : lw_okq (⟨"TriggerHall", "creditLines", "(I)V"⟩, 16) := ⟨⟨by decide +kernel, by decide +kernel⟩, List.mem_of_getElem? (i := 23) (by decide +kernel), List.mem_of_getElem? (i := 766) (by decide +kernel), List.mem_of_getElem? (i := 767) (by decide +kernel)⟩
theorem lw_p53 : lw_okq (⟨"TriggerHall$Line", "credit", "(Z)V"⟩, 7) := ⟨⟨by decide +kernel, by decide +kernel⟩, List.mem_of_getElem? (i := 680) (by decide +kernel), List.mem_of_getElem? (i := 770) (by decide +kernel), List.mem_of_getElem? (i := 771) (by decide +kernel)⟩
theorem lw_p54 : lw_okq (⟨"TriggerHall$Raws", "keep", "(II[I)V"⟩, 4) := ⟨⟨by decide +kernel, by decide +kernel⟩, List.mem_of_getElem? (i := 200) (by decide +kernel), List.mem_of_getElem? (i := 774) (by decide +kernel), List.mem_of_getElem? (i := 775) (by decide +kernel)⟩
theorem lw_p55 : lw_okq (⟨"TriggerHall$Raws", "slotOf", "(I)I"⟩, 4) := ⟨⟨by decide +kernel, by decide +kernel⟩, List.mem_of_getElem? (i := 200) (by decide +kernel), List.mem_of_getElem? (i := 778) (by decide +kernel), List.mem_of_getElem? (i := 779) (by decide +kernel)⟩
theorem lw_p56 : lw_okq (⟨"TriggerHall$Raws", "size", "()I"⟩, 4) := ⟨⟨by decide +kernel, by decide +kernel⟩, List.mem_of_getElem? (i := 200) (by decide +kernel), List.mem_of_getElem? (i := 793) (by decide +kernel), List.mem_of_getElem? (i := 794) (by decide +kernel)⟩
theorem lw_p57 : lw_okq (⟨"TriggerHall$Raws", "has", "(I)Z"⟩, 4) := ⟨⟨by decide +kernel, by decide +kernel⟩, List.mem_of_getElem? (i := 200) (by decide +kernel), List.mem_of_getElem? (i := 802) (by decide +kernel), List.mem_of_getElem? (i := 803) (by decide +kernel)⟩
theorem lw_p58 : lw_okq (⟨"TriggerHall$Raws", "numberOf", "(I)I"⟩, 4) := ⟨⟨by decide +kernel, by decide +kernel⟩, List.mem_of_getElem? (i := 200) (by decide +kernel), List.mem_of_getElem? (i := 807) (by decide +kernel), List.mem_of_getElem? (i := 808) (by decide +kernel)⟩
theorem lw_p59 : lw_okq (⟨"TriggerHall$Raws", "passedAt", "(I)I"⟩, 4) := ⟨⟨by decide +kernel, by decide +kernel⟩, List.mem_of_getElem? (i := 200) (by decide +kernel), List.mem_of_getElem? (i := 811) (by decide +kernel), List.mem_of_getElem? (i := 812) (by decide +kernel)⟩
theorem lw_p60 : lw_okq (⟨"TriggerHall$Raws", "copyHits", "(I[I)V"⟩, 4) := ⟨⟨by decide +kernel, by decide +kernel⟩, List.mem_of_getElem? (i := 200) (by decide +kernel), List.mem_of_getElem? (i := 815) (by decide +kernel), List.mem_of_getElem? (i := 816) (by decide +kernel)⟩
theorem lw_p61 : lw_okq (⟨"TriggerHall$Line", "forget", "()V"⟩, 7) := ⟨⟨by decide +kernel, by decide +kernel⟩, List.mem_of_getElem? (i := 680) (by decide +kernel), List.mem_of_getElem? (i := 827) (by decide +kernel), List.mem_of_getElem? (i := 828) (by decide +kernel)⟩
theorem lw_p62 : lw_okq (⟨"TriggerHallModel", "allHits", "()I"⟩, 41) := ⟨⟨by decide +kernel, by decide +kernel⟩, List.mem_of_getElem? (i := 831) (by decide +kernel), List.mem_of_getElem? (i := 996) (by decide +kernel), List.mem_of_getElem? (i := 997) (by decide +kernel)⟩
theorem lw_p63 : lw_okq (⟨"TriggerHallModel", "seen", "(I)I"⟩, 41) := ⟨⟨by decide +kernel, by decide +kernel⟩, List.mem_of_getElem? (i := 831) (by decide +kernel), List.mem_of_getElem? (i := 1008) (by decide +kernel), List.mem_of_getElem? (i := 1009) (by decide +kernel)⟩
def lw_privs_4 : List (MethodName × Nat) := [(⟨"TriggerHall", "holdingLines", "()I"⟩, 16), (⟨"TriggerHall", "passLines", "(I)I"⟩, 16), (⟨"TriggerHall$Line", "countPasses", "()Z"⟩, 7), (⟨"TriggerHall", "barLines", "()I"⟩, 16), (⟨"TriggerHall", "creditLines", "(I)V"⟩, 16), (⟨"TriggerHall$Line", "credit", "(Z)V"⟩, 7), (⟨"TriggerHall$Raws", "keep", "(II[I)V"⟩, 4), (⟨"TriggerHall$Raws", "slotOf", "(I)I"⟩, 4), (⟨"TriggerHall$Raws", "size", "()I"⟩, 4), (⟨"TriggerHall$Raws", "has", "(I)Z"⟩, 4), (⟨"TriggerHall$Raws", "numberOf", "(I)I"⟩, 4), (⟨"TriggerHall$Raws", "passedAt", "(I)I"⟩, 4), (⟨"TriggerHall$Raws", "copyHits", "(I[I)V"⟩, 4), (⟨"TriggerHall$Line", "forget", "()V"⟩, 7), (⟨"TriggerHallModel", "allHits", "()I"⟩, 41), (⟨"TriggerHallModel", "seen", "(I)I"⟩, 41)]
theorem lw_r4 : ∀ q ∈ lw_privs_4, lw_okq q := List.forall_mem_cons.mpr ⟨lw_p48, List.forall_mem_cons.mpr ⟨lw_p49, List.forall_mem_cons.mpr ⟨lw_p50, List.forall_mem_cons.mpr ⟨lw_p51, List.forall_mem_cons.mpr ⟨lw_p52, List.forall_mem_cons.mpr ⟨lw_p53, List.forall_mem_cons.mpr ⟨lw_p54, List.forall_mem_cons.mpr ⟨lw_p55, List.forall_mem_cons.mpr ⟨lw_p56, List.forall_mem_cons.mpr ⟨lw_p57, List.forall_mem_cons.mpr ⟨lw_p58, List.forall_mem_cons.mpr ⟨lw_p59, List.forall_mem_cons.mpr ⟨lw_p60, List.forall_mem_cons.mpr ⟨lw_p61, List.forall_mem_cons.mpr ⟨lw_p62, List.forall_mem_cons.mpr ⟨lw_p63, fun _ h => absurd h List.not_mem_nil⟩⟩⟩⟩⟩⟩⟩⟩⟩⟩⟩⟩⟩⟩⟩⟩
theorem lw_p64 : lw_okq (⟨"TriggerHallModel", "isRoad", "(I)Z"⟩, 41) := ⟨⟨by decide +kernel, by decide +kernel⟩, List.mem_of_getElem? (i := 831) (by decide +kernel), List.mem_of_getElem? (i := 1024) (by decide +kernel), List.mem_of_getElem? (i := 1025) (by decide +kernel)⟩
theorem lw_p65 : lw_okq (⟨"TriggerHallModel", "isLit", "(I)Z"⟩, 41) := ⟨⟨by decide +kernel, by decide +kernel⟩, List.mem_of_getElem? (i := 831) (by decide +kernel), List.mem_of_getElem? (i := 1032) (by decide +kernel), List.mem_of_getElem? (i := 1033) (by decide +kernel)⟩
theorem lw_p66 : lw_okq (⟨"TriggerHallModel", "heldBy", "(IZ)I"⟩, 41) := ⟨⟨by decide +kernel, by decide +kernel⟩, List.mem_of_getElem? (i := 831) (by decide +kernel), List.mem_of_getElem? (i := 1036) (by decide +kernel), List.mem_of_getElem? (i := 1037) (by decide +kernel)⟩
theorem lw_p67 : lw_okq (⟨"TriggerHallModel", "isIn", "(III)Z"⟩, 41) := ⟨⟨by decide +kernel, by decide +kernel⟩, List.mem_of_getElem? (i := 831) (by decide +kernel), List.mem_of_getElem? (i := 1040) (by decide +kernel), List.mem_of_getElem? (i := 1041) (by decide +kernel)⟩
theorem lw_p68 : lw_okq (⟨"TriggerHallModel", "findTrack", "(I)Z"⟩, 41) := ⟨⟨by decide +kernel, by decide +kernel⟩, List.mem_of_getElem? (i := 831) (by decide +kernel), List.mem_of_getElem? (i := 1052) (by decide +kernel), List.mem_of_getElem? (i := 1053) (by decide +kernel)⟩
theorem lw_p69 : lw_okq (⟨"TriggerHallModel", "findFrom", "(III)V"⟩, 41) := ⟨⟨by decide +kernel, by decide +kernel⟩, List.mem_of_getElem? (i := 831) (by decide +kernel), List.mem_of_getElem? (i := 1056) (by decide +kernel), List.mem_of_getElem? (i := 1057) (by decide +kernel)⟩
theorem lw_p70 : lw_okq (⟨"TriggerHallModel", "miss", "(I)I"⟩, 41) := ⟨⟨by decide +kernel, by decide +kernel⟩, List.mem_of_getElem? (i := 831) (by decide +kernel), List.mem_of_getElem? (i := 1060) (by decide +kernel), List.mem_of_getElem? (i := 1061) (by decide +kernel)⟩
theorem lw_p71 : lw_okq (⟨"TriggerHallModel", "weightOf", "(I)I"⟩, 41) := ⟨⟨by decide +kernel, by decide +kernel⟩, List.mem_of_getElem? (i := 831) (by decide +kernel), List.mem_of_getElem? (i := 1075) (by decide +kernel), List.mem_of_getElem? (i := 1076) (by decide +kernel)⟩
theorem lw_p72 : lw_okq (⟨"TriggerHallModel", "findHeap", "()V"⟩, 41) := ⟨⟨by decide +kernel, by decide +kernel⟩, List.mem_of_getElem? (i := 831) (by decide +kernel), List.mem_of_getElem? (i := 1083) (by decide +kernel), List.mem_of_getElem? (i := 1084) (by decide +kernel)⟩
theorem lw_p73 : lw_okq (⟨"TriggerHallModel", "areApart", "(II)Z"⟩, 41) := ⟨⟨by decide +kernel, by decide +kernel⟩, List.mem_of_getElem? (i := 831) (by decide +kernel), List.mem_of_getElem? (i := 1087) (by decide +kernel), List.mem_of_getElem? (i := 1088) (by decide +kernel)⟩
theorem lw_p74 : lw_okq (⟨"TriggerHallModel", "faultOf", "()I"⟩, 41) := ⟨⟨by decide +kernel, by decide +kernel⟩, List.mem_of_getElem? (i := 831) (by decide +kernel), List.mem_of_getElem? (i := 1108) (by decide +kernel), List.mem_of_getElem? (i := 1109) (by decide +kernel)⟩
theorem lw_p75 : lw_okq (⟨"TriggerHallModel", "isLine", "(I)Z"⟩, 41) := ⟨⟨by decide +kernel, by decide +kernel⟩, List.mem_of_getElem? (i := 831) (by decide +kernel), List.mem_of_getElem? (i := 1122) (by decide +kernel), List.mem_of_getElem? (i := 1123) (by decide +kernel)⟩
theorem lw_p76 : lw_okq (⟨"TriggerHallModel", "holding", "()I"⟩, 41) := ⟨⟨by decide +kernel, by decide +kernel⟩, List.mem_of_getElem? (i := 831) (by decide +kernel), List.mem_of_getElem? (i := 1130) (by decide +kernel), List.mem_of_getElem? (i := 1131) (by decide +kernel)⟩
theorem lw_p77 : lw_okq (⟨"TriggerHallModel", "any", "()Z"⟩, 41) := ⟨⟨by decide +kernel, by decide +kernel⟩, List.mem_of_getElem? (i := 831) (by decide +kernel), List.mem_of_getElem? (i := 1134) (by decide +kernel), List.mem_of_getElem? (i := 1135) (by decide +kernel)⟩
theorem lw_p78 : lw_okq (⟨"TriggerHallModel", "both", "()Z"⟩, 41) := ⟨⟨by decide +kernel, by decide +kernel⟩, List.mem_of_getElem? (i := 831) (by decide +kernel), List.mem_of_getElem? (i := 1138) (by decide +kernel), List.mem_of_getElem? (i := 1139) (by decide +kernel)⟩
theorem lw_p79 : lw_okq (⟨"TriggerHallModel", "one", "()Z"⟩, 41) := ⟨⟨by decide +kernel, by decide +kernel⟩, List.mem_of_getElem? (i := 831) (by decide +kernel), List.mem_of_getElem? (i := 1142) (by decide +kernel), List.mem_of_getElem? (i := 1143) (by decide +kernel)⟩
def lw_privs_5 : List (MethodName × Nat) := [(⟨"TriggerHallModel", "isRoad", "(I)Z"⟩, 41), (⟨"TriggerHallModel", "isLit", "(I)Z"⟩, 41), (⟨"TriggerHallModel", "heldBy", "(IZ)I"⟩, 41), (⟨"TriggerHallModel", "isIn", "(III)Z"⟩, 41), (⟨"TriggerHallModel", "findTrack", "(I)Z"⟩, 41), (⟨"TriggerHallModel", "findFrom", "(III)V"⟩, 41), (⟨"TriggerHallModel", "miss", "(I)I"⟩, 41), (⟨"TriggerHallModel", "weightOf", "(I)I"⟩, 41), (⟨"TriggerHallModel", "findHeap", "()V"⟩, 41), (⟨"TriggerHallModel", "areApart", "(II)Z"⟩, 41), (⟨"TriggerHallModel", "faultOf", "()I"⟩, 41), (⟨"TriggerHallModel", "isLine", "(I)Z"⟩, 41), (⟨"TriggerHallModel", "holding", "()I"⟩, 41), (⟨"TriggerHallModel", "any", "()Z"⟩, 41), (⟨"TriggerHallModel", "both", "()Z"⟩, 41), (⟨"TriggerHallModel", "one", "()Z"⟩, 41)]
theorem lw_r5 : ∀ q ∈ lw_privs_5, lw_okq q := List.forall_mem_cons.mpr ⟨lw_p64, List.forall_mem_cons.mpr ⟨lw_p65, List.forall_mem_cons.mpr ⟨lw_p66, List.forall_mem_cons.mpr ⟨lw_p67, List.forall_mem_cons.mpr ⟨lw_p68, List.forall_mem_cons.mpr ⟨lw_p69, List.forall_mem_cons.mpr ⟨lw_p70, List.forall_mem_cons.mpr ⟨lw_p71, List.forall_mem_cons.mpr ⟨lw_p72, List.forall_mem_cons.mpr ⟨lw_p73, List.forall_mem_cons.mpr ⟨lw_p74, List.forall_mem_cons.mpr ⟨lw_p75, List.forall_mem_cons.mpr ⟨lw_p76, List.forall_mem_cons.mpr ⟨lw_p77, List.forall_mem_cons.mpr ⟨lw_p78, List.forall_mem_cons.mpr ⟨lw_p79, fun _ h => absurd h List.not_mem_nil⟩⟩⟩⟩⟩⟩⟩⟩⟩⟩⟩⟩⟩⟩⟩⟩
theorem lw_p80 : lw_okq (⟨"TriggerHallModel", "letter", "()I"⟩, 41) := ⟨⟨by decide +kernel, by decide +kernel⟩, List.mem_of_getElem? (i := 831) (by decide +kernel), List.mem_of_getElem? (i := 1146) (by decide +kernel), List.mem_of_getElem? (i := 1147) (by decide +kernel)⟩
theorem lw_p81 : lw_okq (⟨"TriggerHallModel", "is", "(II)Z"⟩, 41) := ⟨⟨by decide +kernel, by decide +kernel⟩, List.mem_of_getElem? (i := 831) (by decide +kernel), List.mem_of_getElem? (i := 1150) (by decide +kernel), List.mem_of_getElem? (i := 1151) (by decide +kernel)⟩
theorem lw_p82 : lw_okq (⟨"TriggerHallModel", "look", "()I"⟩, 41) := ⟨⟨by decide +kernel, by decide +kernel⟩, List.mem_of_getElem? (i := 831) (by decide +kernel), List.mem_of_getElem? (i := 1162) (by decide +kernel), List.mem_of_getElem? (i := 1163) (by decide +kernel)⟩
theorem lw_p83 : lw_okq (⟨"TriggerHallModel", "noHits", "()V"⟩, 41) := ⟨⟨by decide +kernel, by decide +kernel⟩, List.mem_of_getElem? (i := 831) (by decide +kernel), List.mem_of_getElem? (i := 1166) (by decide +kernel), List.mem_of_getElem? (i := 1167) (by decide +kernel)⟩
theorem lw_p84 : lw_okq (⟨"TriggerHallModel", "raws", "()I"⟩, 41) := ⟨⟨by decide +kernel, by decide +kernel⟩, List.mem_of_getElem? (i := 831) (by decide +kernel), List.mem_of_getElem? (i := 1179) (by decide +kernel), List.mem_of_getElem? (i := 1180) (by decide +kernel)⟩
theorem lw_p85 : lw_okq (⟨"TriggerHallModel", "rawAt", "(I)I"⟩, 41) := ⟨⟨by decide +kernel, by decide +kernel⟩, List.mem_of_getElem? (i := 831) (by decide +kernel), List.mem_of_getElem? (i := 1188) (by decide +kernel), List.mem_of_getElem? (i := 1189) (by decide +kernel)⟩
def lw_privs_6 : List (MethodName × Nat) := [(⟨"TriggerHallModel", "letter", "()I"⟩, 41), (⟨"TriggerHallModel", "is", "(II)Z"⟩, 41), (⟨"TriggerHallModel", "look", "()I"⟩, 41), (⟨"TriggerHallModel", "noHits", "()V"⟩, 41), (⟨"TriggerHallModel", "raws", "()I"⟩, 41), (⟨"TriggerHallModel", "rawAt", "(I)I"⟩, 41)]
theorem lw_r6 : ∀ q ∈ lw_privs_6, lw_okq q := List.forall_mem_cons.mpr ⟨lw_p80, List.forall_mem_cons.mpr ⟨lw_p81, List.forall_mem_cons.mpr ⟨lw_p82, List.forall_mem_cons.mpr ⟨lw_p83, List.forall_mem_cons.mpr ⟨lw_p84, List.forall_mem_cons.mpr ⟨lw_p85, fun _ h => absurd h List.not_mem_nil⟩⟩⟩⟩⟩⟩
def lw_privs : List (MethodName × Nat) := lw_privs_1 ++ (lw_privs_2 ++ (lw_privs_3 ++ (lw_privs_4 ++ (lw_privs_5 ++ (lw_privs_6)))))
def lw_tbl : List Cond := k2_sels lw_privs ++ tables_1
theorem lw_privs_ok : ∀ q ∈ lw_privs, lw_okq q := by
  show ∀ q ∈ lw_privs_1 ++ (lw_privs_2 ++ (lw_privs_3 ++ (lw_privs_4 ++ (lw_privs_5 ++ (lw_privs_6))))), lw_okq q
  exact List.forall_mem_append.mpr ⟨lw_r1, List.forall_mem_append.mpr ⟨lw_r2, List.forall_mem_append.mpr ⟨lw_r3, List.forall_mem_append.mpr ⟨lw_r4, List.forall_mem_append.mpr ⟨lw_r5, lw_r6⟩⟩⟩⟩⟩
def RX0 : String := "TriggerHall$Fit"
def TX0 : u_T := fun k => match k with
  | 0 => ("TriggerHall$Fit", "choices", "[I", true)
  | 1 => ("TriggerHall$Fit", "trial", "[I", true)
  | 2 => ("TriggerHall$Fit", "cells", "[I", true)
  | 3 => ("TriggerHall$Fit", "held", "I", false)
  | 4 => ("TriggerHall$Fit", "layerSum", "I", false)
  | 5 => ("TriggerHall$Fit", "spread", "I", false)
  | _ => ("TriggerHall$Fit", "least", "I", false)
def tyX0 : Nat → FieldType := fun k => match k with
  | 0 => .array .int
  | 1 => .array .int
  | 2 => .array .int
  | 3 => .int
  | 4 => .int
  | 5 => .int
  | _ => .int
abbrev wsX00 : List Cond := u_ws RX0 TX0 7
theorem nmX0 : ∀ a, a < 7 → ∀ b, b < 7 → a ≠ b → (TX0 a).2.1 ≠ (TX0 b).2.1 := by decide +kernel
theorem tyX0_ok : ∀ k, k < 7 → parseFieldDescriptor (TX0 k).2.2.1 = some (tyX0 k) := by decide +kernel
abbrev cX0_init : ByteArray := prog_2_method_1_code
def yX0_init : MethodName := ⟨RX0, "<init>", "()V"⟩
abbrev cX0_along : ByteArray := prog_2_method_2_code
def yX0_along : MethodName := ⟨RX0, "along", "(LTriggerHall$Road;[I)V"⟩
abbrev cX0_tryCells : ByteArray := prog_2_method_3_code
def yX0_tryCells : MethodName := ⟨RX0, "tryCells", "(IIII)V"⟩
abbrev cX0_isPerfect : ByteArray := prog_2_method_4_code
def yX0_isPerfect : MethodName := ⟨RX0, "isPerfect", "()Z"⟩
abbrev cX0_takeTrial : ByteArray := prog_2_method_5_code
def yX0_takeTrial : MethodName := ⟨RX0, "takeTrial", "(III)V"⟩
abbrev cX0_above : ByteArray := prog_2_method_6_code
def yX0_above : MethodName := ⟨RX0, "above", "()I"⟩
abbrev cX0_below : ByteArray := prog_2_method_7_code
def yX0_below : MethodName := ⟨RX0, "below", "()I"⟩
abbrev cX0_worth : ByteArray := prog_2_method_8_code
def yX0_worth : MethodName := ⟨RX0, "worth", "()I"⟩
def RX1 : String := "TriggerHall$Heap"
def TX1 : u_T := fun k => match k with
  | 0 => ("TriggerHall$Heap", "taken", "[I", true)
  | 1 => ("TriggerHall$Heap", "clashesAbove", "[I", true)
  | 2 => ("TriggerHall$Heap", "worths", "[I", true)
  | 3 => ("TriggerHall$Heap", "worthsUpTo", "[I", true)
  | 4 => ("TriggerHall$Heap", "size", "I", false)
  | 5 => ("TriggerHall$Heap", "bestRoads", "I", false)
  | _ => ("TriggerHall$Heap", "bestSum", "I", false)
def tyX1 : Nat → FieldType := fun k => match k with
  | 0 => .array .int
  | 1 => .array .int
  | 2 => .array .int
  | 3 => .array .int
  | 4 => .int
  | 5 => .int
  | _ => .int
abbrev wsX10 : List Cond := u_ws RX1 TX1 7
theorem nmX1 : ∀ a, a < 7 → ∀ b, b < 7 → a ≠ b → (TX1 a).2.1 ≠ (TX1 b).2.1 := by decide +kernel
theorem tyX1_ok : ∀ k, k < 7 → parseFieldDescriptor (TX1 k).2.2.1 = some (tyX1 k) := by decide +kernel
abbrev cX1_init : ByteArray := prog_3_method_1_code
def yX1_init : MethodName := ⟨RX1, "<init>", "()V"⟩
abbrev cX1_empty : ByteArray := prog_3_method_2_code
def yX1_empty : MethodName := ⟨RX1, "empty", "()V"⟩
abbrev cX1_put : ByteArray := prog_3_method_3_code
def yX1_put : MethodName := ⟨RX1, "put", "(I[I)V"⟩
abbrev cX1_clash : ByteArray := prog_3_method_4_code
def yX1_clash : MethodName := ⟨RX1, "clash", "(II)Z"⟩
abbrev cX1_choose : ByteArray := prog_3_method_5_code
def yX1_choose : MethodName := ⟨RX1, "choose", "()V"⟩
abbrev cX1_chooseFrom : ByteArray := prog_3_method_6_code
def yX1_chooseFrom : MethodName := ⟨RX1, "chooseFrom", "(III)V"⟩
def RX2 : String := "TriggerHall$Line"
def TX2 : u_T := fun k => match k with
  | 0 => ("TriggerHall$Line", "text", "LTriggerHall$Text;", true)
  | 1 => ("TriggerHall$Line", "bar", "Z", true)
  | 2 => ("TriggerHall$Line", "share", "I", false)
  | 3 => ("TriggerHall$Line", "count", "I", false)
  | 4 => ("TriggerHall$Line", "passed", "I", false)
  | 5 => ("TriggerHall$Line", "kept", "I", false)
  | _ => ("TriggerHall$Line", "keptAlone", "I", false)
def tyX2 : Nat → FieldType := fun k => match k with
  | 0 => .object "TriggerHall$Text"
  | 1 => .boolean
  | 2 => .int
  | 3 => .int
  | 4 => .int
  | 5 => .int
  | _ => .int
abbrev wsX20 : List Cond := u_ws RX2 TX2 7
theorem nmX2 : ∀ a, a < 7 → ∀ b, b < 7 → a ≠ b → (TX2 a).2.1 ≠ (TX2 b).2.1 := by decide +kernel
theorem tyX2_ok : ∀ k, k < 7 → parseFieldDescriptor (TX2 k).2.2.1 = some (tyX2 k) := by decide +kernel
abbrev cX2_init : ByteArray := prog_4_method_1_code
def yX2_init : MethodName := ⟨RX2, "<init>", "(LTriggerHall$Text;IZ)V"⟩
abbrev cX2_countPasses : ByteArray := prog_4_method_2_code
def yX2_countPasses : MethodName := ⟨RX2, "countPasses", "()Z"⟩
abbrev cX2_credit : ByteArray := prog_4_method_3_code
def yX2_credit : MethodName := ⟨RX2, "credit", "(Z)V"⟩
abbrev cX2_forget : ByteArray := prog_4_method_4_code
def yX2_forget : MethodName := ⟨RX2, "forget", "()V"⟩
def RX3 : String := "TriggerHall$Look"
def TX3 : u_T := fun k => match k with
  | 0 => ("TriggerHall$Look", "seen", "[I", true)
  | 1 => ("TriggerHall$Look", "fit", "LTriggerHall$Fit;", true)
  | 2 => ("TriggerHall$Look", "heap", "LTriggerHall$Heap;", true)
  | _ => ("TriggerHall$Look", "litRoads", "I", false)
def tyX3 : Nat → FieldType := fun k => match k with
  | 0 => .array .int
  | 1 => .object "TriggerHall$Fit"
  | 2 => .object "TriggerHall$Heap"
  | _ => .int
abbrev wsX30 : List Cond := u_ws RX3 TX3 4
theorem nmX3 : ∀ a, a < 4 → ∀ b, b < 4 → a ≠ b → (TX3 a).2.1 ≠ (TX3 b).2.1 := by decide +kernel
theorem tyX3_ok : ∀ k, k < 4 → parseFieldDescriptor (TX3 k).2.2.1 = some (tyX3 k) := by decide +kernel
abbrev cX3_init : ByteArray := prog_5_method_1_code
def yX3_init : MethodName := ⟨RX3, "<init>", "()V"⟩
abbrev cX3_see : ByteArray := prog_5_method_2_code
def yX3_see : MethodName := ⟨RX3, "see", "([I[I[I)V"⟩
abbrev cX3_light : ByteArray := prog_5_method_3_code
def yX3_light : MethodName := ⟨RX3, "light", "(Ljava/util/List;)V"⟩
abbrev cX3_fitAlong : ByteArray := prog_5_method_4_code
def yX3_fitAlong : MethodName := ⟨RX3, "fitAlong", "(LTriggerHall$Road;)Z"⟩
abbrev cX3_pile : ByteArray := prog_5_method_5_code
def yX3_pile : MethodName := ⟨RX3, "pile", "(Ljava/util/List;)V"⟩
abbrev cX3_layersSeen : ByteArray := prog_5_method_6_code
def yX3_layersSeen : MethodName := ⟨RX3, "layersSeen", "()I"⟩
abbrev cX3_answers : ByteArray := prog_5_method_7_code
def yX3_answers : MethodName := ⟨RX3, "answers", "(II)Z"⟩
def RX4 : String := "TriggerHall$Raws"
def TX4 : u_T := fun k => match k with
  | 0 => ("TriggerHall$Raws", "numbers", "[I", true)
  | 1 => ("TriggerHall$Raws", "passedLines", "[I", true)
  | 2 => ("TriggerHall$Raws", "rows", "[I", true)
  | _ => ("TriggerHall$Raws", "kept", "I", false)
def tyX4 : Nat → FieldType := fun k => match k with
  | 0 => .array .int
  | 1 => .array .int
  | 2 => .array .int
  | _ => .int
abbrev wsX40 : List Cond := u_ws RX4 TX4 4
theorem nmX4 : ∀ a, a < 4 → ∀ b, b < 4 → a ≠ b → (TX4 a).2.1 ≠ (TX4 b).2.1 := by decide +kernel
theorem tyX4_ok : ∀ k, k < 4 → parseFieldDescriptor (TX4 k).2.2.1 = some (tyX4 k) := by decide +kernel
abbrev cX4_init : ByteArray := prog_6_method_1_code
def yX4_init : MethodName := ⟨RX4, "<init>", "()V"⟩
abbrev cX4_size : ByteArray := prog_6_method_2_code
def yX4_size : MethodName := ⟨RX4, "size", "()I"⟩
abbrev cX4_has : ByteArray := prog_6_method_3_code
def yX4_has : MethodName := ⟨RX4, "has", "(I)Z"⟩
abbrev cX4_slotOf : ByteArray := prog_6_method_4_code
def yX4_slotOf : MethodName := ⟨RX4, "slotOf", "(I)I"⟩
abbrev cX4_keep : ByteArray := prog_6_method_5_code
def yX4_keep : MethodName := ⟨RX4, "keep", "(II[I)V"⟩
abbrev cX4_numberOf : ByteArray := prog_6_method_6_code
def yX4_numberOf : MethodName := ⟨RX4, "numberOf", "(I)I"⟩
abbrev cX4_passedAt : ByteArray := prog_6_method_7_code
def yX4_passedAt : MethodName := ⟨RX4, "passedAt", "(I)I"⟩
abbrev cX4_copyHits : ByteArray := prog_6_method_8_code
def yX4_copyHits : MethodName := ⟨RX4, "copyHits", "(I[I)V"⟩
def RX5 : String := "TriggerHall$Reader"
def TX5 : u_T := fun k => match k with
  | 0 => ("TriggerHall$Reader", "text", "LTriggerHall$Text;", false)
  | 1 => ("TriggerHall$Reader", "look", "LTriggerHall$Look;", false)
  | 2 => ("TriggerHall$Reader", "place", "I", false)
  | _ => ("TriggerHall$Reader", "fault", "I", false)
def tyX5 : Nat → FieldType := fun k => match k with
  | 0 => .object "TriggerHall$Text"
  | 1 => .object "TriggerHall$Look"
  | 2 => .int
  | _ => .int
abbrev wsX50 : List Cond := u_ws RX5 TX5 4
theorem nmX5 : ∀ a, a < 4 → ∀ b, b < 4 → a ≠ b → (TX5 a).2.1 ≠ (TX5 b).2.1 := by decide +kernel
theorem tyX5_ok : ∀ k, k < 4 → parseFieldDescriptor (TX5 k).2.2.1 = some (tyX5 k) := by decide +kernel
abbrev cX5_init : ByteArray := prog_7_method_1_code
def yX5_init : MethodName := ⟨RX5, "<init>", "()V"⟩
abbrev cX5_read : ByteArray := prog_7_method_2_code
def yX5_read : MethodName := ⟨RX5, "read", "(LTriggerHall$Text;LTriggerHall$Look;)Z"⟩
abbrev cX5_readAny : ByteArray := prog_7_method_3_code
def yX5_readAny : MethodName := ⟨RX5, "readAny", "(I)Z"⟩
abbrev cX5_readBoth : ByteArray := prog_7_method_4_code
def yX5_readBoth : MethodName := ⟨RX5, "readBoth", "(I)Z"⟩
abbrev cX5_readOne : ByteArray := prog_7_method_5_code
def yX5_readOne : MethodName := ⟨RX5, "readOne", "(I)Z"⟩
abbrev cX5_readAsked : ByteArray := prog_7_method_6_code
def yX5_readAsked : MethodName := ⟨RX5, "readAsked", "()Z"⟩
abbrev cX5_canAsk : ByteArray := prog_7_method_7_code
def yX5_canAsk : MethodName := ⟨RX5, "canAsk", "(I)Z"⟩
abbrev cX5_readNumber : ByteArray := prog_7_method_8_code
def yX5_readNumber : MethodName := ⟨RX5, "readNumber", "()I"⟩
abbrev cX5_isFigure : ByteArray := prog_7_method_9_code
def yX5_isFigure : MethodName := ⟨RX5, "isFigure", "(I)Z"⟩
abbrev cX5_passOver : ByteArray := prog_7_method_10_code
def yX5_passOver : MethodName := ⟨RX5, "passOver", "(C)Z"⟩
abbrev cX5_fail : ByteArray := prog_7_method_11_code
def yX5_fail : MethodName := ⟨RX5, "fail", "()Z"⟩
def RX6 : String := "TriggerHall$Road"
def TX6 : u_T := fun k => match k with
  | 0 => ("TriggerHall$Road", "first", "[I", true)
  | 1 => ("TriggerHall$Road", "last", "[I", true)
  | _ => ("TriggerHall$Road", "need", "I", true)
def tyX6 : Nat → FieldType := fun k => match k with
  | 0 => .array .int
  | 1 => .array .int
  | _ => .int
abbrev wsX60 : List Cond := u_ws RX6 TX6 3
theorem nmX6 : ∀ a, a < 3 → ∀ b, b < 3 → a ≠ b → (TX6 a).2.1 ≠ (TX6 b).2.1 := by decide +kernel
theorem tyX6_ok : ∀ k, k < 3 → parseFieldDescriptor (TX6 k).2.2.1 = some (tyX6 k) := by decide +kernel
abbrev cX6_init : ByteArray := prog_8_method_1_code
def yX6_init : MethodName := ⟨RX6, "<init>", "(I)V"⟩
abbrev cX6_setSpan : ByteArray := prog_8_method_2_code
def yX6_setSpan : MethodName := ⟨RX6, "setSpan", "(II)V"⟩
abbrev cX6_spanTold : ByteArray := prog_8_method_3_code
def yX6_spanTold : MethodName := ⟨RX6, "spanTold", "(I)I"⟩
abbrev cX6_seenIn : ByteArray := prog_8_method_4_code
def yX6_seenIn : MethodName := ⟨RX6, "seenIn", "(I[I)I"⟩
abbrev cX6_layersHeld : ByteArray := prog_8_method_5_code
def yX6_layersHeld : MethodName := ⟨RX6, "layersHeld", "([I)I"⟩
abbrev cX6_isLit : ByteArray := prog_8_method_6_code
def yX6_isLit : MethodName := ⟨RX6, "isLit", "([I)Z"⟩
def RX7 : String := "TriggerHall$Sheet"
def TX7 : u_T := fun k => match k with
  | 0 => ("TriggerHall$Sheet", "numbers", "[I", true)
  | 1 => ("TriggerHall$Sheet", "there", "Z", false)
  | 2 => ("TriggerHall$Sheet", "kind", "I", false)
  | _ => ("TriggerHall$Sheet", "length", "I", false)
def tyX7 : Nat → FieldType := fun k => match k with
  | 0 => .array .int
  | 1 => .boolean
  | 2 => .int
  | _ => .int
abbrev wsX70 : List Cond := u_ws RX7 TX7 4
theorem nmX7 : ∀ a, a < 4 → ∀ b, b < 4 → a ≠ b → (TX7 a).2.1 ≠ (TX7 b).2.1 := by decide +kernel
theorem tyX7_ok : ∀ k, k < 4 → parseFieldDescriptor (TX7 k).2.2.1 = some (tyX7 k) := by decide +kernel
abbrev cX7_init : ByteArray := prog_9_method_1_code
def yX7_init : MethodName := ⟨RX7, "<init>", "()V"⟩
abbrev cX7_lay : ByteArray := prog_9_method_2_code
def yX7_lay : MethodName := ⟨RX7, "lay", "(II)V"⟩
abbrev cX7_has : ByteArray := prog_9_method_3_code
def yX7_has : MethodName := ⟨RX7, "has", "(I)Z"⟩
abbrev cX7_numberAt : ByteArray := prog_9_method_4_code
def yX7_numberAt : MethodName := ⟨RX7, "numberAt", "(I)I"⟩
abbrev cX7_put : ByteArray := prog_9_method_5_code
def yX7_put : MethodName := ⟨RX7, "put", "(II)V"⟩
def RX8 : String := "TriggerHall$Text"
def TX8 : u_T := fun k => match k with
  | 0 => ("TriggerHall$Text", "letters", "[C", true)
  | _ => ("TriggerHall$Text", "length", "I", false)
def tyX8 : Nat → FieldType := fun k => match k with
  | 0 => .array .char
  | _ => .int
abbrev wsX80 : List Cond := u_ws RX8 TX8 2
theorem nmX8 : ∀ a, a < 2 → ∀ b, b < 2 → a ≠ b → (TX8 a).2.1 ≠ (TX8 b).2.1 := by decide +kernel
theorem tyX8_ok : ∀ k, k < 2 → parseFieldDescriptor (TX8 k).2.2.1 = some (tyX8 k) := by decide +kernel
abbrev cX8_init : ByteArray := prog_10_method_1_code
def yX8_init : MethodName := ⟨RX8, "<init>", "()V"⟩
abbrev cX8_put : ByteArray := prog_10_method_2_code
def yX8_put : MethodName := ⟨RX8, "put", "(C)V"⟩
abbrev cX8_copy : ByteArray := prog_10_method_3_code
def yX8_copy : MethodName := ⟨RX8, "copy", "(LTriggerHall$Text;)V"⟩
abbrev cX8_letterAt : ByteArray := prog_10_method_4_code
def yX8_letterAt : MethodName := ⟨RX8, "letterAt", "(I)I"⟩
def RX9 : String := "TriggerHall"
def TX9 : u_T := fun k => match k with
  | 0 => ("TriggerHall", "sheets", "[LTriggerHall$Sheet;", true)
  | 1 => ("TriggerHall", "hits", "[I", true)
  | 2 => ("TriggerHall", "dead", "[I", true)
  | 3 => ("TriggerHall", "noisy", "[I", true)
  | 4 => ("TriggerHall", "roads", "Ljava/util/List;", true)
  | 5 => ("TriggerHall", "look", "LTriggerHall$Look;", true)
  | 6 => ("TriggerHall", "tape", "LTriggerHall$Text;", true)
  | 7 => ("TriggerHall", "reader", "LTriggerHall$Reader;", true)
  | 8 => ("TriggerHall", "lines", "Ljava/util/List;", true)
  | 9 => ("TriggerHall", "raws", "LTriggerHall$Raws;", true)
  | 10 => ("TriggerHall", "rawHits", "[I", true)
  | 11 => ("TriggerHall", "rest", "I", false)
  | 12 => ("TriggerHall", "toLose", "I", false)
  | 13 => ("TriggerHall", "came", "I", false)
  | 14 => ("TriggerHall", "lost", "I", false)
  | _ => ("TriggerHall", "barred", "I", false)
def tyX9 : Nat → FieldType := fun k => match k with
  | 0 => .array (.object "TriggerHall$Sheet")
  | 1 => .array .int
  | 2 => .array .int
  | 3 => .array .int
  | 4 => .object "java/util/List"
  | 5 => .object "TriggerHall$Look"
  | 6 => .object "TriggerHall$Text"
  | 7 => .object "TriggerHall$Reader"
  | 8 => .object "java/util/List"
  | 9 => .object "TriggerHall$Raws"
  | 10 => .array .int
  | 11 => .int
  | 12 => .int
  | 13 => .int
  | 14 => .int
  | _ => .int
abbrev wsX90 : List Cond := u_ws RX9 TX9 16
theorem nmX9 : ∀ a, a < 16 → ∀ b, b < 16 → a ≠ b → (TX9 a).2.1 ≠ (TX9 b).2.1 := by decide +kernel
theorem tyX9_ok : ∀ k, k < 16 → parseFieldDescriptor (TX9 k).2.2.1 = some (tyX9 k) := by decide +kernel
abbrev cX9_init : ByteArray := prog_1_method_1_code
def yX9_init : MethodName := ⟨RX9, "<init>", "()V"⟩
abbrev cX9_sheet : ByteArray := prog_1_method_2_code
def yX9_sheet : MethodName := ⟨RX9, "sheet", "(III)I"⟩
abbrev cX9_cell : ByteArray := prog_1_method_3_code
def yX9_cell : MethodName := ⟨RX9, "cell", "(III)I"⟩
abbrev cX9_lose : ByteArray := prog_1_method_4_code
def yX9_lose : MethodName := ⟨RX9, "lose", "(I)I"⟩
abbrev cX9_hits : ByteArray := prog_1_method_5_code
def yX9_hits : MethodName := ⟨RX9, "hits", "(II)I"⟩
abbrev cX9_load : ByteArray := prog_1_method_6_code
def yX9_load : MethodName := ⟨RX9, "load", "(II)I"⟩
abbrev cX9_mask : ByteArray := prog_1_method_7_code
def yX9_mask : MethodName := ⟨RX9, "mask", "(III)I"⟩
abbrev cX9_layer : ByteArray := prog_1_method_8_code
def yX9_layer : MethodName := ⟨RX9, "layer", "(II)I"⟩
abbrev cX9_road : ByteArray := prog_1_method_9_code
def yX9_road : MethodName := ⟨RX9, "road", "(IIIIII)I"⟩
abbrev cX9_span : ByteArray := prog_1_method_10_code
def yX9_span : MethodName := ⟨RX9, "span", "(III)I"⟩
abbrev cX9_lit : ByteArray := prog_1_method_11_code
def yX9_lit : MethodName := ⟨RX9, "lit", "()I"⟩
abbrev cX9_held : ByteArray := prog_1_method_12_code
def yX9_held : MethodName := ⟨RX9, "held", "(I)I"⟩
abbrev cX9_track : ByteArray := prog_1_method_13_code
def yX9_track : MethodName := ⟨RX9, "track", "(II)I"⟩
abbrev cX9_miss : ByteArray := prog_1_method_14_code
def yX9_miss : MethodName := ⟨RX9, "miss", "(II)I"⟩
abbrev cX9_weight : ByteArray := prog_1_method_15_code
def yX9_weight : MethodName := ⟨RX9, "weight", "(I)I"⟩
abbrev cX9_heap : ByteArray := prog_1_method_16_code
def yX9_heap : MethodName := ⟨RX9, "heap", "(I)I"⟩
abbrev cX9_blind : ByteArray := prog_1_method_17_code
def yX9_blind : MethodName := ⟨RX9, "blind", "()I"⟩
abbrev cX9_feed : ByteArray := prog_1_method_18_code
def yX9_feed : MethodName := ⟨RX9, "feed", "(I)I"⟩
abbrev cX9_clear : ByteArray := prog_1_method_19_code
def yX9_clear : MethodName := ⟨RX9, "clear", "()I"⟩
abbrev cX9_line : ByteArray := prog_1_method_20_code
def yX9_line : MethodName := ⟨RX9, "line", "(IZ)I"⟩
abbrev cX9_thin : ByteArray := prog_1_method_21_code
def yX9_thin : MethodName := ⟨RX9, "thin", "(II)I"⟩
abbrev cX9_holds : ByteArray := prog_1_method_22_code
def yX9_holds : MethodName := ⟨RX9, "holds", "(I)I"⟩
abbrev cX9_of : ByteArray := prog_1_method_23_code
def yX9_of : MethodName := ⟨RX9, "of", "(II)I"⟩
abbrev cX9_fire : ByteArray := prog_1_method_24_code
def yX9_fire : MethodName := ⟨RX9, "fire", "()I"⟩
abbrev cX9_rest : ByteArray := prog_1_method_25_code
def yX9_rest : MethodName := ⟨RX9, "rest", "(I)I"⟩
abbrev cX9_many : ByteArray := prog_1_method_26_code
def yX9_many : MethodName := ⟨RX9, "many", "(I)I"⟩
abbrev cX9_raw : ByteArray := prog_1_method_27_code
def yX9_raw : MethodName := ⟨RX9, "raw", "(II)I"⟩
abbrev cX9_again : ByteArray := prog_1_method_28_code
def yX9_again : MethodName := ⟨RX9, "again", "(I)I"⟩
abbrev cX9_anew : ByteArray := prog_1_method_29_code
def yX9_anew : MethodName := ⟨RX9, "anew", "()I"⟩
abbrev cX9_isLayer : ByteArray := prog_1_method_30_code
def yX9_isLayer : MethodName := ⟨RX9, "isLayer", "(I)Z"⟩
abbrev cX9_areCells : ByteArray := prog_1_method_31_code
def yX9_areCells : MethodName := ⟨RX9, "areCells", "(I)Z"⟩
abbrev cX9_isShare : ByteArray := prog_1_method_32_code
def yX9_isShare : MethodName := ⟨RX9, "isShare", "(I)Z"⟩
abbrev cX9_isSpan : ByteArray := prog_1_method_33_code
def yX9_isSpan : MethodName := ⟨RX9, "isSpan", "(I)Z"⟩
abbrev cX9_cellsIn : ByteArray := prog_1_method_34_code
def yX9_cellsIn : MethodName := ⟨RX9, "cellsIn", "([I)I"⟩
abbrev cX9_letterIn : ByteArray := prog_1_method_35_code
def yX9_letterIn : MethodName := ⟨RX9, "letterIn", "(II)C"⟩
abbrev cX9_lettersIn : ByteArray := prog_1_method_36_code
def yX9_lettersIn : MethodName := ⟨RX9, "lettersIn", "(I)I"⟩
abbrev cX9_greatestDivisor : ByteArray := prog_1_method_37_code
def yX9_greatestDivisor : MethodName := ⟨RX9, "greatestDivisor", "(II)I"⟩
abbrev cX9_sheetAt : ByteArray := prog_1_method_38_code
def yX9_sheetAt : MethodName := ⟨RX9, "sheetAt", "(I)LTriggerHall$Sheet;"⟩
abbrev cX9_roadAt : ByteArray := prog_1_method_39_code
def yX9_roadAt : MethodName := ⟨RX9, "roadAt", "(I)LTriggerHall$Road;"⟩
abbrev cX9_lineAt : ByteArray := prog_1_method_40_code
def yX9_lineAt : MethodName := ⟨RX9, "lineAt", "(I)LTriggerHall$Line;"⟩
abbrev cX9_fitInHand : ByteArray := prog_1_method_41_code
def yX9_fitInHand : MethodName := ⟨RX9, "fitInHand", "(LTriggerHall$Road;)Z"⟩
abbrev cX9_lookAt : ByteArray := prog_1_method_42_code
def yX9_lookAt : MethodName := ⟨RX9, "lookAt", "([I)V"⟩
abbrev cX9_holdingLines : ByteArray := prog_1_method_43_code
def yX9_holdingLines : MethodName := ⟨RX9, "holdingLines", "()I"⟩
abbrev cX9_loseCrossing : ByteArray := prog_1_method_44_code
def yX9_loseCrossing : MethodName := ⟨RX9, "loseCrossing", "()I"⟩
abbrev cX9_judgeCrossing : ByteArray := prog_1_method_45_code
def yX9_judgeCrossing : MethodName := ⟨RX9, "judgeCrossing", "(I)I"⟩
abbrev cX9_passLines : ByteArray := prog_1_method_46_code
def yX9_passLines : MethodName := ⟨RX9, "passLines", "(I)I"⟩
abbrev cX9_barLines : ByteArray := prog_1_method_47_code
def yX9_barLines : MethodName := ⟨RX9, "barLines", "()I"⟩
abbrev cX9_creditLines : ByteArray := prog_1_method_48_code
def yX9_creditLines : MethodName := ⟨RX9, "creditLines", "(I)V"⟩
def RX10 : String := "TriggerHallModel"
def TX10 : u_T := fun k => match k with
  | 0 => ("TriggerHallModel", "kinds", "[I", true)
  | 1 => ("TriggerHallModel", "sizes", "[I", true)
  | 2 => ("TriggerHallModel", "numbers", "[I", true)
  | 3 => ("TriggerHallModel", "hits", "[I", true)
  | 4 => ("TriggerHallModel", "dead", "[I", true)
  | 5 => ("TriggerHallModel", "noisy", "[I", true)
  | 6 => ("TriggerHallModel", "roads", "I", false)
  | 7 => ("TriggerHallModel", "spans", "[I", true)
  | 8 => ("TriggerHallModel", "needs", "[I", true)
  | 9 => ("TriggerHallModel", "tape", "[B", true)
  | 10 => ("TriggerHallModel", "taped", "I", false)
  | 11 => ("TriggerHallModel", "lines", "I", false)
  | 12 => ("TriggerHallModel", "texts", "[B", true)
  | 13 => ("TriggerHallModel", "lengths", "[I", true)
  | 14 => ("TriggerHallModel", "shares", "[I", true)
  | 15 => ("TriggerHallModel", "bars", "[Z", true)
  | 16 => ("TriggerHallModel", "counts", "[I", true)
  | 17 => ("TriggerHallModel", "passed", "[I", true)
  | 18 => ("TriggerHallModel", "kept", "[I", true)
  | 19 => ("TriggerHallModel", "only", "[I", true)
  | 20 => ("TriggerHallModel", "came", "I", false)
  | 21 => ("TriggerHallModel", "lost", "I", false)
  | 22 => ("TriggerHallModel", "keptAll", "I", false)
  | 23 => ("TriggerHallModel", "barred", "I", false)
  | 24 => ("TriggerHallModel", "rest", "I", false)
  | 25 => ("TriggerHallModel", "left", "I", false)
  | 26 => ("TriggerHallModel", "rawNumber", "[I", true)
  | 27 => ("TriggerHallModel", "rawLines", "[I", true)
  | 28 => ("TriggerHallModel", "rawHits", "[I", true)
  | 29 => ("TriggerHallModel", "told", "[I", true)
  | 30 => ("TriggerHallModel", "row", "[I", true)
  | 31 => ("TriggerHallModel", "best", "[I", true)
  | 32 => ("TriggerHallModel", "bestTop", "[I", true)
  | 33 => ("TriggerHallModel", "bestLow", "[I", true)
  | 34 => ("TriggerHallModel", "low", "I", false)
  | 35 => ("TriggerHallModel", "heapSet", "I", false)
  | 36 => ("TriggerHallModel", "heapWeight", "I", false)
  | 37 => ("TriggerHallModel", "open", "[I", true)
  | 38 => ("TriggerHallModel", "asked", "I", false)
  | 39 => ("TriggerHallModel", "at", "I", false)
  | _ => ("TriggerHallModel", "hand", "[I", true)
def tyX10 : Nat → FieldType := fun k => match k with
  | 0 => .array .int
  | 1 => .array .int
  | 2 => .array .int
  | 3 => .array .int
  | 4 => .array .int
  | 5 => .array .int
  | 6 => .int
  | 7 => .array .int
  | 8 => .array .int
  | 9 => .array .byte
  | 10 => .int
  | 11 => .int
  | 12 => .array .byte
  | 13 => .array .int
  | 14 => .array .int
  | 15 => .array .boolean
  | 16 => .array .int
  | 17 => .array .int
  | 18 => .array .int
  | 19 => .array .int
  | 20 => .int
  | 21 => .int
  | 22 => .int
  | 23 => .int
  | 24 => .int
  | 25 => .int
  | 26 => .array .int
  | 27 => .array .int
  | 28 => .array .int
  | 29 => .array .int
  | 30 => .array .int
  | 31 => .array .int
  | 32 => .array .int
  | 33 => .array .int
  | 34 => .int
  | 35 => .int
  | 36 => .int
  | 37 => .array .int
  | 38 => .int
  | 39 => .int
  | _ => .array .int
abbrev wsX100 : List Cond := u_ws RX10 TX10 41
theorem nmX10 : ∀ a, a < 41 → ∀ b, b < 41 → a ≠ b → (TX10 a).2.1 ≠ (TX10 b).2.1 := by decide +kernel
theorem tyX10_ok : ∀ k, k < 41 → parseFieldDescriptor (TX10 k).2.2.1 = some (tyX10 k) := by decide +kernel
abbrev cX10_init : ByteArray := prog_12_method_1_code
def yX10_init : MethodName := ⟨RX10, "<init>", "()V"⟩
abbrev cX10_in : ByteArray := prog_12_method_2_code
def yX10_in : MethodName := ⟨RX10, "in", "(JJJ)Z"⟩
abbrev cX10_bitsOf : ByteArray := prog_12_method_3_code
def yX10_bitsOf : MethodName := ⟨RX10, "bitsOf", "(I)I"⟩
abbrev cX10_isLayer : ByteArray := prog_12_method_4_code
def yX10_isLayer : MethodName := ⟨RX10, "isLayer", "(I)Z"⟩
abbrev cX10_sheet : ByteArray := prog_12_method_5_code
def yX10_sheet : MethodName := ⟨RX10, "sheet", "(III)I"⟩
abbrev cX10_cell : ByteArray := prog_12_method_6_code
def yX10_cell : MethodName := ⟨RX10, "cell", "(III)I"⟩
abbrev cX10_lose : ByteArray := prog_12_method_7_code
def yX10_lose : MethodName := ⟨RX10, "lose", "(I)I"⟩
abbrev cX10_allHits : ByteArray := prog_12_method_8_code
def yX10_allHits : MethodName := ⟨RX10, "allHits", "()I"⟩
abbrev cX10_hits : ByteArray := prog_12_method_9_code
def yX10_hits : MethodName := ⟨RX10, "hits", "(II)I"⟩
abbrev cX10_load : ByteArray := prog_12_method_10_code
def yX10_load : MethodName := ⟨RX10, "load", "(II)I"⟩
abbrev cX10_mask : ByteArray := prog_12_method_11_code
def yX10_mask : MethodName := ⟨RX10, "mask", "(III)I"⟩
abbrev cX10_seen : ByteArray := prog_12_method_12_code
def yX10_seen : MethodName := ⟨RX10, "seen", "(I)I"⟩
abbrev cX10_layer : ByteArray := prog_12_method_13_code
def yX10_layer : MethodName := ⟨RX10, "layer", "(II)I"⟩
abbrev cX10_isSpan : ByteArray := prog_12_method_14_code
def yX10_isSpan : MethodName := ⟨RX10, "isSpan", "(I)Z"⟩
abbrev cX10_road : ByteArray := prog_12_method_15_code
def yX10_road : MethodName := ⟨RX10, "road", "(IIIIII)I"⟩
abbrev cX10_isRoad : ByteArray := prog_12_method_16_code
def yX10_isRoad : MethodName := ⟨RX10, "isRoad", "(I)Z"⟩
abbrev cX10_span : ByteArray := prog_12_method_17_code
def yX10_span : MethodName := ⟨RX10, "span", "(III)I"⟩
abbrev cX10_isIn : ByteArray := prog_12_method_18_code
def yX10_isIn : MethodName := ⟨RX10, "isIn", "(III)Z"⟩
abbrev cX10_heldBy : ByteArray := prog_12_method_19_code
def yX10_heldBy : MethodName := ⟨RX10, "heldBy", "(IZ)I"⟩
abbrev cX10_isLit : ByteArray := prog_12_method_20_code
def yX10_isLit : MethodName := ⟨RX10, "isLit", "(I)Z"⟩
abbrev cX10_lit : ByteArray := prog_12_method_21_code
def yX10_lit : MethodName := ⟨RX10, "lit", "()I"⟩
abbrev cX10_held : ByteArray := prog_12_method_22_code
def yX10_held : MethodName := ⟨RX10, "held", "(I)I"⟩
abbrev cX10_miss : ByteArray := prog_12_method_23_code
def yX10_miss : MethodName := ⟨RX10, "miss", "(I)I"⟩
abbrev cX10_findFrom : ByteArray := prog_12_method_24_code
def yX10_findFrom : MethodName := ⟨RX10, "findFrom", "(III)V"⟩
abbrev cX10_findTrack : ByteArray := prog_12_method_25_code
def yX10_findTrack : MethodName := ⟨RX10, "findTrack", "(I)Z"⟩
abbrev cX10_track : ByteArray := prog_12_method_26_code
def yX10_track : MethodName := ⟨RX10, "track", "(II)I"⟩
abbrev cX10_common : ByteArray := prog_12_method_27_code
def yX10_common : MethodName := ⟨RX10, "common", "(II)I"⟩
abbrev cX10_miss_ : ByteArray := prog_12_method_28_code
def yX10_miss_ : MethodName := ⟨RX10, "miss", "(II)I"⟩
abbrev cX10_weightOf : ByteArray := prog_12_method_29_code
def yX10_weightOf : MethodName := ⟨RX10, "weightOf", "(I)I"⟩
abbrev cX10_weight : ByteArray := prog_12_method_30_code
def yX10_weight : MethodName := ⟨RX10, "weight", "(I)I"⟩
abbrev cX10_areApart : ByteArray := prog_12_method_31_code
def yX10_areApart : MethodName := ⟨RX10, "areApart", "(II)Z"⟩
abbrev cX10_findHeap : ByteArray := prog_12_method_32_code
def yX10_findHeap : MethodName := ⟨RX10, "findHeap", "()V"⟩
abbrev cX10_heap : ByteArray := prog_12_method_33_code
def yX10_heap : MethodName := ⟨RX10, "heap", "(I)I"⟩
abbrev cX10_blind : ByteArray := prog_12_method_34_code
def yX10_blind : MethodName := ⟨RX10, "blind", "()I"⟩
abbrev cX10_feed : ByteArray := prog_12_method_35_code
def yX10_feed : MethodName := ⟨RX10, "feed", "(I)I"⟩
abbrev cX10_clear : ByteArray := prog_12_method_36_code
def yX10_clear : MethodName := ⟨RX10, "clear", "()I"⟩
abbrev cX10_isFigure : ByteArray := prog_12_method_37_code
def yX10_isFigure : MethodName := ⟨RX10, "isFigure", "(I)Z"⟩
abbrev cX10_isName : ByteArray := prog_12_method_38_code
def yX10_isName : MethodName := ⟨RX10, "isName", "(I)Z"⟩
abbrev cX10_faultOf : ByteArray := prog_12_method_39_code
def yX10_faultOf : MethodName := ⟨RX10, "faultOf", "()I"⟩
abbrev cX10_line : ByteArray := prog_12_method_40_code
def yX10_line : MethodName := ⟨RX10, "line", "(IZ)I"⟩
abbrev cX10_isLine : ByteArray := prog_12_method_41_code
def yX10_isLine : MethodName := ⟨RX10, "isLine", "(I)Z"⟩
abbrev cX10_thin : ByteArray := prog_12_method_42_code
def yX10_thin : MethodName := ⟨RX10, "thin", "(II)I"⟩
abbrev cX10_letter : ByteArray := prog_12_method_43_code
def yX10_letter : MethodName := ⟨RX10, "letter", "()I"⟩
abbrev cX10_any : ByteArray := prog_12_method_44_code
def yX10_any : MethodName := ⟨RX10, "any", "()Z"⟩
abbrev cX10_both : ByteArray := prog_12_method_45_code
def yX10_both : MethodName := ⟨RX10, "both", "()Z"⟩
abbrev cX10_one : ByteArray := prog_12_method_46_code
def yX10_one : MethodName := ⟨RX10, "one", "()Z"⟩
abbrev cX10_is : ByteArray := prog_12_method_47_code
def yX10_is : MethodName := ⟨RX10, "is", "(II)Z"⟩
abbrev cX10_holding : ByteArray := prog_12_method_48_code
def yX10_holding : MethodName := ⟨RX10, "holding", "()I"⟩
abbrev cX10_holds : ByteArray := prog_12_method_49_code
def yX10_holds : MethodName := ⟨RX10, "holds", "(I)I"⟩
abbrev cX10_of : ByteArray := prog_12_method_50_code
def yX10_of : MethodName := ⟨RX10, "of", "(II)I"⟩
abbrev cX10_noHits : ByteArray := prog_12_method_51_code
def yX10_noHits : MethodName := ⟨RX10, "noHits", "()V"⟩
abbrev cX10_look : ByteArray := prog_12_method_52_code
def yX10_look : MethodName := ⟨RX10, "look", "()I"⟩
abbrev cX10_fire : ByteArray := prog_12_method_53_code
def yX10_fire : MethodName := ⟨RX10, "fire", "()I"⟩
abbrev cX10_rest : ByteArray := prog_12_method_54_code
def yX10_rest : MethodName := ⟨RX10, "rest", "(I)I"⟩
abbrev cX10_raws : ByteArray := prog_12_method_55_code
def yX10_raws : MethodName := ⟨RX10, "raws", "()I"⟩
abbrev cX10_many : ByteArray := prog_12_method_56_code
def yX10_many : MethodName := ⟨RX10, "many", "(I)I"⟩
abbrev cX10_rawAt : ByteArray := prog_12_method_57_code
def yX10_rawAt : MethodName := ⟨RX10, "rawAt", "(I)I"⟩
abbrev cX10_raw : ByteArray := prog_12_method_58_code
def yX10_raw : MethodName := ⟨RX10, "raw", "(II)I"⟩
abbrev cX10_again : ByteArray := prog_12_method_59_code
def yX10_again : MethodName := ⟨RX10, "again", "(I)I"⟩
abbrev cX10_anew : ByteArray := prog_12_method_60_code
def yX10_anew : MethodName := ⟨RX10, "anew", "()I"⟩
def RJx145de : String := "java/io/Serializable"
def TJx145de : u_T := fun k => match k with
  | _ => ("", "", "", false)
def tyJx145de : Nat → FieldType := fun k => match k with
  | _ => .int
abbrev wsJx145de0 : List Cond := u_ws RJx145de TJx145de 0
theorem nmJx145de : ∀ a, a < 0 → ∀ b, b < 0 → a ≠ b → (TJx145de a).2.1 ≠ (TJx145de b).2.1 := by decide +kernel
theorem tyJx145de_ok : ∀ k, k < 0 → parseFieldDescriptor (TJx145de k).2.2.1 = some (tyJx145de k) := by decide +kernel
def RJx8e188 : String := "java/lang/Cloneable"
def TJx8e188 : u_T := fun k => match k with
  | _ => ("", "", "", false)
def tyJx8e188 : Nat → FieldType := fun k => match k with
  | _ => .int
abbrev wsJx8e1880 : List Cond := u_ws RJx8e188 TJx8e188 0
theorem nmJx8e188 : ∀ a, a < 0 → ∀ b, b < 0 → a ≠ b → (TJx8e188 a).2.1 ≠ (TJx8e188 b).2.1 := by decide +kernel
theorem tyJx8e188_ok : ∀ k, k < 0 → parseFieldDescriptor (TJx8e188 k).2.2.1 = some (tyJx8e188 k) := by decide +kernel
def RJ6 : String := "java/lang/Integer"
def TJ6 : u_T := fun k => match k with
  | _ => ("", "", "", false)
def tyJ6 : Nat → FieldType := fun k => match k with
  | _ => .int
abbrev wsJ60 : List Cond := u_ws RJ6 TJ6 0
theorem nmJ6 : ∀ a, a < 0 → ∀ b, b < 0 → a ≠ b → (TJ6 a).2.1 ≠ (TJ6 b).2.1 := by decide +kernel
theorem tyJ6_ok : ∀ k, k < 0 → parseFieldDescriptor (TJ6 k).2.2.1 = some (tyJ6 k) := by decide +kernel
abbrev cJ6_numberOfTrailingZeros_0f7a4 : ByteArray := prog_15_method_48_code
def yJ6_numberOfTrailingZeros_0f7a4 : MethodName := ⟨RJ6, "numberOfTrailingZeros", "(I)I"⟩
abbrev cJ6_bitCount_0f7a4 : ByteArray := prog_15_method_49_code
def yJ6_bitCount_0f7a4 : MethodName := ⟨RJ6, "bitCount", "(I)I"⟩
def RJxab1ab : String := "java/lang/Iterable"
def TJxab1ab : u_T := fun k => match k with
  | _ => ("", "", "", false)
def tyJxab1ab : Nat → FieldType := fun k => match k with
  | _ => .int
abbrev wsJxab1ab0 : List Cond := u_ws RJxab1ab TJxab1ab 0
theorem nmJxab1ab : ∀ a, a < 0 → ∀ b, b < 0 → a ≠ b → (TJxab1ab a).2.1 ≠ (TJxab1ab b).2.1 := by decide +kernel
theorem tyJxab1ab_ok : ∀ k, k < 0 → parseFieldDescriptor (TJxab1ab k).2.2.1 = some (tyJxab1ab k) := by decide +kernel
def RJ9 : String := "java/lang/Math"
def TJ9 : u_T := fun k => match k with
  | _ => ("", "", "", false)
def tyJ9 : Nat → FieldType := fun k => match k with
  | _ => .int
abbrev wsJ90 : List Cond := u_ws RJ9 TJ9 0
theorem nmJ9 : ∀ a, a < 0 → ∀ b, b < 0 → a ≠ b → (TJ9 a).2.1 ≠ (TJ9 b).2.1 := by decide +kernel
theorem tyJ9_ok : ∀ k, k < 0 → parseFieldDescriptor (TJ9 k).2.2.1 = some (tyJ9 k) := by decide +kernel
abbrev cJ9_floorMod_7cf53 : ByteArray := prog_17_method_50_code
def yJ9_floorMod_7cf53 : MethodName := ⟨RJ9, "floorMod", "(II)I"⟩
abbrev cJ9_max_7cf53 : ByteArray := prog_17_method_65_code
def yJ9_max_7cf53 : MethodName := ⟨RJ9, "max", "(II)I"⟩
abbrev cJ9_min_7cf53 : ByteArray := prog_17_method_69_code
def yJ9_min_7cf53 : MethodName := ⟨RJ9, "min", "(II)I"⟩
def RJ10 : String := "java/lang/System"
def TJ10 : u_T := fun k => match k with
  | _ => ("", "", "", false)
def tyJ10 : Nat → FieldType := fun k => match k with
  | _ => .int
abbrev wsJ100 : List Cond := u_ws RJ10 TJ10 0
theorem nmJ10 : ∀ a, a < 0 → ∀ b, b < 0 → a ≠ b → (TJ10 a).2.1 ≠ (TJ10 b).2.1 := by decide +kernel
theorem tyJ10_ok : ∀ k, k < 0 → parseFieldDescriptor (TJ10 k).2.2.1 = some (tyJ10 k) := by decide +kernel
def RJxa1e45 : String := "java/util/AbstractCollection"
def TJxa1e45 : u_T := fun k => match k with
  | _ => ("", "", "", false)
def tyJxa1e45 : Nat → FieldType := fun k => match k with
  | _ => .int
abbrev wsJxa1e450 : List Cond := u_ws RJxa1e45 TJxa1e45 0
theorem nmJxa1e45 : ∀ a, a < 0 → ∀ b, b < 0 → a ≠ b → (TJxa1e45 a).2.1 ≠ (TJxa1e45 b).2.1 := by decide +kernel
theorem tyJxa1e45_ok : ∀ k, k < 0 → parseFieldDescriptor (TJxa1e45 k).2.2.1 = some (tyJxa1e45 k) := by decide +kernel
abbrev cJxa1e45_init_da8c8 : ByteArray := prog_19_method_1_code
def yJxa1e45_init_da8c8 : MethodName := ⟨RJxa1e45, "<init>", "()V"⟩
def RJxc12de : String := "java/util/AbstractList"
def TJxc12de : u_T := fun k => match k with
  | _ => ("", "", "", false)
def tyJxc12de : Nat → FieldType := fun k => match k with
  | _ => .int
abbrev wsJxc12de0 : List Cond := u_ws RJxc12de TJxc12de 0
theorem nmJxc12de : ∀ a, a < 0 → ∀ b, b < 0 → a ≠ b → (TJxc12de a).2.1 ≠ (TJxc12de b).2.1 := by decide +kernel
theorem tyJxc12de_ok : ∀ k, k < 0 → parseFieldDescriptor (TJxc12de k).2.2.1 = some (tyJxc12de k) := by decide +kernel
abbrev cJxc12de_init_da8c8 : ByteArray := prog_20_method_1_code
def yJxc12de_init_da8c8 : MethodName := ⟨RJxc12de, "<init>", "()V"⟩
def RJx4a65c : String := "java/util/ArrayList"
def TJx4a65c : u_T := fun k => match k with
  | 0 => ("java/util/AbstractList", "modCount", "I", false)
  | 1 => ("java/util/ArrayList", "elementData", "[Ljava/lang/Object;", false)
  | _ => ("java/util/ArrayList", "size", "I", false)
def tyJx4a65c : Nat → FieldType := fun k => match k with
  | 0 => .int
  | 1 => .array (.object "java/lang/Object")
  | _ => .int
abbrev wsJx4a65c0 : List Cond := u_ws RJx4a65c TJx4a65c 3
theorem nmJx4a65c : ∀ a, a < 3 → ∀ b, b < 3 → a ≠ b → (TJx4a65c a).2.1 ≠ (TJx4a65c b).2.1 := by decide +kernel
theorem tyJx4a65c_ok : ∀ k, k < 3 → parseFieldDescriptor (TJx4a65c k).2.2.1 = some (tyJx4a65c k) := by decide +kernel
abbrev cJx4a65c_init_da8c8 : ByteArray := prog_21_method_2_code
def yJx4a65c_init_da8c8 : MethodName := ⟨RJx4a65c, "<init>", "()V"⟩
abbrev cJx4a65c_grow_92f84 : ByteArray := prog_21_method_6_code
def yJx4a65c_grow_92f84 : MethodName := ⟨RJx4a65c, "grow", "(I)[Ljava/lang/Object;"⟩
abbrev cJx4a65c_grow_d5877 : ByteArray := prog_21_method_7_code
def yJx4a65c_grow_d5877 : MethodName := ⟨RJx4a65c, "grow", "()[Ljava/lang/Object;"⟩
abbrev cJx4a65c_size_8abf5 : ByteArray := prog_21_method_8_code
def yJx4a65c_size_8abf5 : MethodName := ⟨RJx4a65c, "size", "()I"⟩
abbrev cJx4a65c_elementData_915e3 : ByteArray := prog_21_method_18_code
def yJx4a65c_elementData_915e3 : MethodName := ⟨RJx4a65c, "elementData", "(I)Ljava/lang/Object;"⟩
abbrev cJx4a65c_get_915e3 : ByteArray := prog_21_method_20_code
def yJx4a65c_get_915e3 : MethodName := ⟨RJx4a65c, "get", "(I)Ljava/lang/Object;"⟩
abbrev cJx4a65c_add_72be8 : ByteArray := prog_21_method_24_code
def yJx4a65c_add_72be8 : MethodName := ⟨RJx4a65c, "add", "(Ljava/lang/Object;[Ljava/lang/Object;I)V"⟩
abbrev cJx4a65c_add_9ea2d : ByteArray := prog_21_method_25_code
def yJx4a65c_add_9ea2d : MethodName := ⟨RJx4a65c, "add", "(Ljava/lang/Object;)Z"⟩
def RJ7 : String := "java/util/Arrays"
def TJ7 : u_T := fun k => match k with
  | _ => ("", "", "", false)
def tyJ7 : Nat → FieldType := fun k => match k with
  | _ => .int
abbrev wsJ70 : List Cond := u_ws RJ7 TJ7 0
theorem nmJ7 : ∀ a, a < 0 → ∀ b, b < 0 → a ≠ b → (TJ7 a).2.1 ≠ (TJ7 b).2.1 := by decide +kernel
theorem tyJ7_ok : ∀ k, k < 0 → parseFieldDescriptor (TJ7 k).2.2.1 = some (tyJ7 k) := by decide +kernel
abbrev cJ7_copyOf_1904c : ByteArray := prog_22_method_119_code
def yJ7_copyOf_1904c : MethodName := ⟨RJ7, "copyOf", "([Ljava/lang/Object;I)[Ljava/lang/Object;"⟩
abbrev cJ7_copyOf_6403c : ByteArray := prog_22_method_120_code
def yJ7_copyOf_6403c : MethodName := ⟨RJ7, "copyOf", "([Ljava/lang/Object;ILjava/lang/Class;)[Ljava/lang/Object;"⟩
def RJx5ef63 : String := "java/util/Collection"
def TJx5ef63 : u_T := fun k => match k with
  | _ => ("", "", "", false)
def tyJx5ef63 : Nat → FieldType := fun k => match k with
  | _ => .int
abbrev wsJx5ef630 : List Cond := u_ws RJx5ef63 TJx5ef63 0
theorem nmJx5ef63 : ∀ a, a < 0 → ∀ b, b < 0 → a ≠ b → (TJx5ef63 a).2.1 ≠ (TJx5ef63 b).2.1 := by decide +kernel
theorem tyJx5ef63_ok : ∀ k, k < 0 → parseFieldDescriptor (TJx5ef63 k).2.2.1 = some (tyJx5ef63 k) := by decide +kernel
def RJxbd725 : String := "java/util/List"
def TJxbd725 : u_T := fun k => match k with
  | _ => ("", "", "", false)
def tyJxbd725 : Nat → FieldType := fun k => match k with
  | _ => .int
abbrev wsJxbd7250 : List Cond := u_ws RJxbd725 TJxbd725 0
theorem nmJxbd725 : ∀ a, a < 0 → ∀ b, b < 0 → a ≠ b → (TJxbd725 a).2.1 ≠ (TJxbd725 b).2.1 := by decide +kernel
theorem tyJxbd725_ok : ∀ k, k < 0 → parseFieldDescriptor (TJxbd725 k).2.2.1 = some (tyJxbd725 k) := by decide +kernel
def RJ15 : String := "java/util/Objects"
def TJ15 : u_T := fun k => match k with
  | _ => ("", "", "", false)
def tyJ15 : Nat → FieldType := fun k => match k with
  | _ => .int
abbrev wsJ150 : List Cond := u_ws RJ15 TJ15 0
theorem nmJ15 : ∀ a, a < 0 → ∀ b, b < 0 → a ≠ b → (TJ15 a).2.1 ≠ (TJ15 b).2.1 := by decide +kernel
theorem tyJ15_ok : ∀ k, k < 0 → parseFieldDescriptor (TJ15 k).2.2.1 = some (tyJ15 k) := by decide +kernel
abbrev cJ15_checkIndex_7cf53 : ByteArray := prog_25_method_17_code
def yJ15_checkIndex_7cf53 : MethodName := ⟨RJ15, "checkIndex", "(II)I"⟩
def RJxf0a74 : String := "java/util/RandomAccess"
def TJxf0a74 : u_T := fun k => match k with
  | _ => ("", "", "", false)
def tyJxf0a74 : Nat → FieldType := fun k => match k with
  | _ => .int
abbrev wsJxf0a740 : List Cond := u_ws RJxf0a74 TJxf0a74 0
theorem nmJxf0a74 : ∀ a, a < 0 → ∀ b, b < 0 → a ≠ b → (TJxf0a74 a).2.1 ≠ (TJxf0a74 b).2.1 := by decide +kernel
theorem tyJxf0a74_ok : ∀ k, k < 0 → parseFieldDescriptor (TJxf0a74 k).2.2.1 = some (tyJxf0a74 k) := by decide +kernel
def RJxa66e6 : String := "java/util/SequencedCollection"
def TJxa66e6 : u_T := fun k => match k with
  | _ => ("", "", "", false)
def tyJxa66e6 : Nat → FieldType := fun k => match k with
  | _ => .int
abbrev wsJxa66e60 : List Cond := u_ws RJxa66e6 TJxa66e6 0
theorem nmJxa66e6 : ∀ a, a < 0 → ∀ b, b < 0 → a ≠ b → (TJxa66e6 a).2.1 ≠ (TJxa66e6 b).2.1 := by decide +kernel
theorem tyJxa66e6_ok : ∀ k, k < 0 → parseFieldDescriptor (TJxa66e6 k).2.2.1 = some (tyJxa66e6 k) := by decide +kernel
def RJ8 : String := "jdk/internal/util/ArraysSupport"
def TJ8 : u_T := fun k => match k with
  | _ => ("", "", "", false)
def tyJ8 : Nat → FieldType := fun k => match k with
  | _ => .int
abbrev wsJ80 : List Cond := u_ws RJ8 TJ8 0
theorem nmJ8 : ∀ a, a < 0 → ∀ b, b < 0 → a ≠ b → (TJ8 a).2.1 ≠ (TJ8 b).2.1 := by decide +kernel
theorem tyJ8_ok : ∀ k, k < 0 → parseFieldDescriptor (TJ8 k).2.2.1 = some (tyJ8 k) := by decide +kernel
abbrev cJ8_newLength_cabcc : ByteArray := prog_28_method_27_code
def yJ8_newLength_cabcc : MethodName := ⟨RJ8, "newLength", "(III)I"⟩
abbrev cJ8_hugeLength_7cf53 : ByteArray := prog_28_method_28_code
def yJ8_hugeLength_7cf53 : MethodName := ⟨RJ8, "hugeLength", "(II)I"⟩
def RJ3 : String := "jdk/internal/util/Preconditions"
def TJ3 : u_T := fun k => match k with
  | _ => ("", "", "", false)
def tyJ3 : Nat → FieldType := fun k => match k with
  | _ => .int
abbrev wsJ30 : List Cond := u_ws RJ3 TJ3 0
theorem nmJ3 : ∀ a, a < 0 → ∀ b, b < 0 → a ≠ b → (TJ3 a).2.1 ≠ (TJ3 b).2.1 := by decide +kernel
theorem tyJ3_ok : ∀ k, k < 0 → parseFieldDescriptor (TJ3 k).2.2.1 = some (tyJ3 k) := by decide +kernel
abbrev cJ3_checkIndex_8e157 : ByteArray := prog_29_method_11_code
def yJ3_checkIndex_8e157 : MethodName := ⟨RJ3, "checkIndex", "(IILjava/util/function/BiFunction;)I"⟩
def RL : String := "TriggerHallLaw"
abbrev cL_law : ByteArray := code
def yL_law : MethodName := ⟨RL, "law", "([I)Z"⟩
end
section
/-! ===== the layer: a method's states by names (addresses, shapes, numbers), each row out of a row of the kit ===== -/
/-- a cell's shape: an array (kind, length, references) or an object (class, references) -/
abbrev th_K0 : Type := (Nat × Nat × (Nat → Option Nat)) ⊕ (Nat × (Nat → Option Nat))
/-- the heap by names: the next address, the shapes, the numbers -/
abbrev th_S : Type := Nat × (Nat → Option th_K0) × (Nat → Nat → Int32)
/-- what is fixed: the first new cell's place, the old objects' places, the classes, the array classes, the script -/
abbrev th_G : Type := Nat × (Nat → Nat) × va_G × (Nat → ClassId) × Nat × (Nat → Int32)
def th_ad (G : th_G) (a : Nat) : Nat := if a < 4 then G.2.1 a else G.1 + (a - 4)
def th_v (G : th_G) : Value → Value
  | .ref a => .ref (th_ad G a)
  | v => v
def th_A (G : th_G) : Nat → Prop := fun q => G.1 ≤ q
abbrev th_cl : List vw_C := [(RX0, TX0, 7), (RX1, TX1, 7), (RX2, TX2, 7), (RX3, TX3, 4), (RX4, TX4, 4), (RX5, TX5, 4), (RX6, TX6, 3), (RX7, TX7, 4), (RX8, TX8, 2), (RX9, TX9, 16), (RX10, TX10, 41), (RJx4a65c, TJx4a65c, 3)]
def th_ft (ci : Nat) : Nat → FieldType := match ci with
  | 0 => tyX0 | 1 => tyX1 | 2 => tyX2 | 3 => tyX3 | 4 => tyX4 | 5 => tyX5 | 6 => tyX6 | 7 => tyX7 | 8 => tyX8 | 9 => tyX9 | 10 => tyX10 | _ => tyJx4a65c
def th_nf (ci : Nat) : Nat := match ci with
  | 0 => 7 | 1 => 7 | 2 => 7 | 3 => 4 | 4 => 4 | 5 => 4 | 6 => 3 | 7 => 4 | 8 => 2 | 9 => 16 | 10 => 41 | _ => 3
/-- is a field one of references -/
def th_ir (ci k : Nat) : Bool := match th_ft ci k with
  | .object _ => true
  | .array _ => true
  | _ => false
def th_ty (t : Nat) : FieldType := match t with
  | 0 => .int | 1 => .byte | 2 => .char | 3 => .boolean | 4 => .object "TriggerHall$Sheet" | _ => .object "java/lang/Object"
abbrev th_tys (G : th_G) : List (ClassId × FieldType) := [(G.2.2.2.1 0, th_ty 0), (G.2.2.2.1 1, th_ty 1), (G.2.2.2.1 2, th_ty 2), (G.2.2.2.1 3, th_ty 3), (G.2.2.2.1 4, th_ty 4), (G.2.2.2.1 5, th_ty 5)]
def th_fv (G : th_G) (ci : Nat) (f : Nat → Option Nat) (v : Nat → Int32) (k : Nat) : Value := cond (th_ir ci k) (va_rf ((f k).map (th_ad G))) (.int (v k))
def th_e (G : th_G) (c : th_K0) (v : Nat → Int32) : va_E := match c with
  | .inl (t, n, f) => cond (Nat.blt t 4) (.inl (G.2.2.2.1 t, n, .inl v)) (.inl (G.2.2.2.1 t, n, .inr (.inr (.inr (.inr (fun j => (f j).map (th_ad G)))))))
  | .inr (ci, f) => .inr (ci, (List.range (th_nf ci)).map (th_fv G ci f v))
def th_R (G : th_G) (S : th_S) (H : Heap) : Prop := 4 ≤ S.1 ∧ H.size + 4 = G.1 + S.1 ∧ ∀ (a : Nat) (c : th_K0), S.2.1 a = some c → (4 ≤ a ∧ a < S.1) ∧ va_at G.2.2.1 th_cl (th_ad G a, th_e G c (S.2.2 a)) H
def th_u {α : Type} (f : Nat → Option α) (a : Nat) (c : α) : Nat → Option α := fun b => cond (Nat.beq b a) (some c) (f b)
def th_w (V : Nat → Nat → Int32) (a k : Nat) (x : Int32) : Nat → Nat → Int32 := fun b j => cond (Nat.beq b a) (cond (Nat.beq j k) x (V b j)) (V b j)
def th_z (V : Nat → Nat → Int32) (a : Nat) : Nat → Nat → Int32 := fun b => cond (Nat.beq b a) (fun _ => 0) (V b)
def th_pI (S : th_S) (a k : Nat) (x : Int32) : th_S := (S.1, S.2.1, th_w S.2.2 a k x)
def th_pC (S : th_S) (a : Nat) (c : th_K0) : th_S := (S.1, th_u S.2.1 a c, S.2.2)
def th_nw (S : th_S) (c : th_K0) : th_S := (S.1 + 1, th_u S.2.1 S.1 c, th_z S.2.2 S.1)
theorem th_w_ne {V : Nat → Nat → Int32} {a k b : Nat} {x : Int32} (h : b ≠ a) : th_w V a k x b = V b := by
  funext j
  have : Nat.beq b a = false := Bool.eq_false_iff.mpr (fun e => h (Nat.eq_of_beq_eq_true e))
  simp [th_w, this]
theorem th_w_eq {V : Nat → Nat → Int32} {a k j : Nat} {x : Int32} : th_w V a k x a j = cond (Nat.beq j k) x (V a j) := by
  simp [th_w]
theorem th_u_ne {α : Type} {f : Nat → Option α} {a b : Nat} {c : α} (h : b ≠ a) : th_u f a c b = f b := by
  have : Nat.beq b a = false := Bool.eq_false_iff.mpr (fun e => h (Nat.eq_of_beq_eq_true e))
  simp [th_u, this]
theorem th_u_eq {α : Type} {f : Nat → Option α} {a : Nat} {c : α} : th_u f a c a = some c := by simp [th_u]
theorem th_z_ne {V : Nat → Nat → Int32} {a b : Nat} (h : b ≠ a) : th_z V a b = V b := by
  have : Nat.beq b a = false := Bool.eq_false_iff.mpr (fun e => h (Nat.eq_of_beq_eq_true e))
  simp [th_z, this]
theorem th_z_eq {V : Nat → Nat → Int32} {a : Nat} : th_z V a a = fun _ => 0 := by simp [th_z]
theorem th_ad_in {G : th_G} {a : Nat} (h : 4 ≤ a) : th_ad G a = G.1 + (a - 4) := by simp [th_ad, Nat.not_lt.mpr h]
theorem th_ad_inj {G : th_G} {a b : Nat} (ha : 4 ≤ a) (hb : 4 ≤ b) (h : th_ad G a = th_ad G b) : a = b := by
  rw [th_ad_in ha, th_ad_in hb] at h
  omega
theorem th_R.get {G : th_G} {S : th_S} {H : Heap} {a : Nat} {c : th_K0} (h : th_R G S H) (ha : S.2.1 a = some c) : va_at G.2.2.1 th_cl (th_ad G a, th_e G c (S.2.2 a)) H := (h.2.2 a c ha).2
theorem th_R.inA {G : th_G} {S : th_S} {H : Heap} {a : Nat} {c : th_K0} (h : th_R G S H) (ha : S.2.1 a = some c) : th_A G (th_ad G a) := by
  have := (h.2.2 a c ha).1
  rw [th_ad_in this.1]
  exact Nat.le_add_right _ _
/-- a cell is written -/
theorem th_R.set {G : th_G} {S S' : th_S} {H H1 : Heap} {a : Nat} {c c' : th_K0} (h : th_R G S H) (ha : S.2.1 a = some c) (z : H1.size = H.size) (oq : ∀ q : Nat, q ≠ th_ad G a → H1[q]? = H[q]?) (hn : S'.1 = S.1) (hs : ∀ b, b ≠ a → S'.2.1 b = S.2.1 b) (hv : ∀ b, b ≠ a → S'.2.2 b = S.2.2 b) (hc : S'.2.1 a = some c') (he : va_at G.2.2.1 th_cl (th_ad G a, th_e G c' (S'.2.2 a)) H1) : th_R G S' H1 := by
  refine ⟨by rw [hn]; exact h.1, by rw [z, hn]; exact h.2.1, fun b d hb => ?_⟩
  have hra := (h.2.2 a c ha).1
  by_cases hba : b = a
  · subst hba
    cases hc.symm.trans hb
    exact ⟨by rw [hn]; exact hra, he⟩
  · rw [hs b hba] at hb
    obtain ⟨h1, h2⟩ := h.2.2 b d hb
    refine ⟨by rw [hn]; exact h1, ?_⟩
    rw [hv b hba]
    exact h2.kept (oq _ (fun e => hba (th_ad_inj h1.1 hra.1 e)))
/-- a cell is made -/
theorem th_R.push {G : th_G} {S : th_S} {H H1 : Heap} {c : th_K0} (h : th_R G S H) (z : H1.size = H.size + 1) (oq : ∀ q : Nat, q < H.size → H1[q]? = H[q]?) (he : va_at G.2.2.1 th_cl (H.size, th_e G c (fun _ => 0)) H1) : th_R G (th_nw S c) H1 ∧ th_ad G S.1 = H.size := by
  have hz : th_ad G S.1 = H.size := by rw [th_ad_in h.1]; have := h.2.1; have := h.1; omega
  refine ⟨⟨Nat.le_succ_of_le h.1, ?_, fun b d hb => ?_⟩, hz⟩
  · show H1.size + 4 = G.1 + (S.1 + 1)
    have := h.2.1
    omega
  · show (4 ≤ b ∧ b < S.1 + 1) ∧ va_at G.2.2.1 th_cl (th_ad G b, th_e G d (th_z S.2.2 S.1 b)) H1
    have hb : th_u S.2.1 S.1 c b = some d := hb
    by_cases hba : b = S.1
    · subst hba
      rw [th_u_eq] at hb
      cases hb
      rw [th_z_eq, hz]
      exact ⟨⟨h.1, Nat.lt_succ_self _⟩, he⟩
    · rw [th_u_ne hba] at hb
      obtain ⟨h1, h2⟩ := h.2.2 b d hb
      refine ⟨⟨h1.1, Nat.lt_succ_of_lt h1.2⟩, ?_⟩
      rw [th_z_ne hba]
      refine h2.kept (oq _ ?_)
      show th_ad G b < H.size
      exact h2.lt
theorem th_S_push {G : th_G} {H0 H H1 : Heap} {locs : List Loc} (h : va_S (th_A G) H0 H locs) (z : H1.size = H.size + 1) (oq : ∀ q : Nat, q < H.size → H1[q]? = H[q]?) : va_S (th_A G) H0 H1 locs :=
  ⟨Nat.le_trans h.1 (by omega), fun x h1 h2 => (oq x (Nat.lt_of_lt_of_le h1 h.1)).trans (h.2.1 x h1 h2), h.2.2⟩
/-! locals -/
def th_l (G : th_G) : Nat → List (Option Value) → List (Nat × Value)
  | _, [] => []
  | i, none :: r => th_l G (i + 1) r
  | i, some v :: r => (i, th_v G v) :: th_l G (i + 1) r
theorem th_l_mem {G : th_G} : ∀ (ls : List (Option Value)) (i k : Nat) (w : Value), (k, w) ∈ th_l G i ls ↔ ∃ (j : Nat) (v : Value), ls[j]? = some (some v) ∧ k = i + j ∧ w = th_v G v
  | [], i, k, w => by simp [th_l]
  | none :: r, i, k, w => by
    rw [th_l, th_l_mem r (i + 1) k w]
    constructor
    · rintro ⟨j, v, h1, h2, h3⟩
      exact ⟨j + 1, v, by simpa using h1, by omega, h3⟩
    · rintro ⟨j, v, h1, h2, h3⟩
      cases j with
      | zero => simp at h1
      | succ j => exact ⟨j, v, by simpa using h1, by omega, h3⟩
  | some x :: r, i, k, w => by
    rw [th_l, List.mem_cons, th_l_mem r (i + 1) k w]
    constructor
    · rintro (h | ⟨j, v, h1, h2, h3⟩)
      · cases h
        exact ⟨0, x, by simp, rfl, rfl⟩
      · exact ⟨j + 1, v, by simpa using h1, by omega, h3⟩
    · rintro ⟨j, v, h1, h2, h3⟩
      cases j with
      | zero =>
        simp at h1
        subst h1
        exact Or.inl (by rw [h2, h3]; rfl)
      | succ j => exact Or.inr ⟨j, v, by simpa using h1, by omega, h3⟩
def th_L (G : th_G) (LS : Array Slot) (nL : Nat) (ls : List (Option Value)) : Prop := lv_has LS nL (th_l G 0 ls)
theorem th_L.at {G : th_G} {LS : Array Slot} {nL i : Nat} {ls : List (Option Value)} {v : Value} (h : th_L G LS nL ls) (hi : ls[i]? = some (some v)) : LS[i]? = some (.val (th_v G v)) :=
  h.2.2 (i, th_v G v) ((th_l_mem ls 0 i _).mpr ⟨i, v, hi, by omega, rfl⟩)
def th_c1 (ls : List (Option Value)) : Bool := ls.all (fun o => match o with | some v => v.category == 1 | none => true)
theorem th_v_cat (G : th_G) (v : Value) : (th_v G v).category = v.category := by cases v <;> rfl
theorem th_L.set {G : th_G} {LS' : Array Slot} {nL i : Nat} {ls : List (Option Value)} {v : Value} (hc : th_c1 ls = true) (h' : lv_has LS' nL ((i, th_v G v) :: (th_l G 0 ls).filter (fun q => !(q.1 == i) && !(q.1 + 1 == i && q.2.category == 2)))) : th_L G LS' nL (ls.set i (some v)) := by
  refine ⟨h'.1, h'.2.1, fun q hq => ?_⟩
  obtain ⟨k, w⟩ := q
  obtain ⟨j, x, h1, h2, h3⟩ := (th_l_mem _ 0 k w).mp hq
  have hk : k = j := by omega
  subst hk
  subst h3
  refine h'.2.2 (k, th_v G x) ?_
  by_cases hki : k = i
  · subst hki
    have hl : k < ls.length := by
      have := (List.getElem?_eq_some_iff.mp h1).1
      simpa using this
    rw [List.getElem?_set_self hl] at h1
    cases h1
    exact List.mem_cons_self
  · rw [List.getElem?_set_ne (Ne.symm hki)] at h1
    refine List.mem_cons_of_mem _ (List.mem_filter.mpr ⟨(th_l_mem _ 0 k _).mpr ⟨k, x, h1, by omega, rfl⟩, ?_⟩)
    have hx : x.category = 1 := by
      have := List.all_eq_true.mp hc _ (List.mem_of_getElem? h1)
      simpa using this
    simp [hki, th_v_cat, hx]
def th_en : List Value → List (Option Value)
  | [] => []
  | v :: r => if v.category = 2 then some v :: none :: th_en r else some v :: th_en r
theorem th_en_mem {G : th_G} : ∀ (vs : List Value) (i n : Nat) (q : Nat × Value), q ∈ th_l G i (th_en vs ++ List.replicate n none) → q ∈ lv_args i (vs.map (th_v G))
  | [], i, n, q, h => by
    obtain ⟨k, w⟩ := q
    obtain ⟨j, v, h1, -⟩ := (th_l_mem _ i k w).mp h
    simp [th_en, List.getElem?_replicate] at h1
  | v :: r, i, n, q, h => by
    by_cases hv : v.category = 2
    · rw [th_en, if_pos hv] at h
      rw [List.map_cons, lv_args, th_v_cat, if_pos hv]
      rcases List.mem_cons.mp h with h | h
      · exact List.mem_cons.mpr (Or.inl h)
      · exact List.mem_cons_of_mem _ (th_en_mem r (i + 2) n q h)
    · rw [th_en, if_neg hv] at h
      rw [List.map_cons, lv_args, th_v_cat, if_neg hv]
      rcases List.mem_cons.mp h with h | h
      · exact List.mem_cons.mpr (Or.inl h)
      · exact List.mem_cons_of_mem _ (th_en_mem r (i + 1) n q h)
end
section
/-! what holds at every method's start -/
def th_W : List Cond := lw_tbl.filter goodWord
def th_isN : Cond → Bool
  | .fieldLinkNest .. => true
  | .methodLinkNest .. => true
  | .castable .. => true
  | _ => false
def th_N : List Cond := tables_1.filter th_isN
abbrev th_AL : String := "java/util/ArrayList"
def yLi_size : MethodName := ⟨"java/util/List", "size", "()I"⟩
def yLi_get : MethodName := ⟨"java/util/List", "get", "(I)Ljava/lang/Object;"⟩
def yLi_add : MethodName := ⟨"java/util/List", "add", "(Ljava/lang/Object;)Z"⟩
def th_Amb (G : th_G) (U : State) : Prop :=
  va_K G.2.2.1 th_cl (th_tys G) U ∧ (∀ w ∈ th_N, va_Nw w U) ∧
  (va_Fw th_AL yLi_size yJx4a65c_size_8abf5 U ∧ va_Fw th_AL yLi_get yJx4a65c_get_915e3 U ∧ va_Fw th_AL yLi_add yJx4a65c_add_9ea2d U) ∧
  (va_AO "java/lang/Object" U ∧ va_AO "TriggerHall$Sheet" U) ∧
  (va_T .int (G.2.1 0) G.2.2.2.2.1 (fun j => .int (G.2.2.2.2.2 j)) (th_A G) U U.heap ∧
   va_T .int (G.2.1 1) 5 (fun _ => .int 0) (th_A G) U U.heap ∧
   va_T (.object "java/lang/Object") (G.2.1 2) 0 (fun _ => .null) (th_A G) U U.heap) ∧
  (va_Z "TriggerHall" "NO_CELLS" "[I" (.ref (G.2.1 1)) (th_A G) U U.heap ∧
   va_Z th_AL "DEFAULTCAPACITY_EMPTY_ELEMENTDATA" "[Ljava/lang/Object;" (.ref (G.2.1 2)) (th_A G) U U.heap) ∧
  (va_Mi "[Ljava/lang/Object;" (G.2.1 3) U ∧ va_Dc U) ∧ G.1 ≤ U.heap.size
theorem th_Nw_moved {w : Cond} (hw : th_isN w = true) {s U : State} (hW : s.WarmedH U.vm) (h : va_Nw w s) : va_Nw w U := by
  cases w <;> simp [th_isN] at hw
  case fieldLinkNest => exact va_Nw.warmF hW h
  case methodLinkNest => exact va_Nw.warmM hW h
  case castable => exact va_Nw.warmC hW h
theorem th_Amb.moved {G : th_G} {s U : State} (h : th_Amb G s) (hW : s.WarmedH U.vm) (hq : ∀ q, q < s.heap.size → ¬ th_A G q → U.heap[q]? = s.heap[q]?) (hz : G.1 ≤ U.heap.size) : th_Amb G U := by
  obtain ⟨h1, h2, ⟨h3, h4, h5⟩, ⟨h6, h7⟩, ⟨h8, h9, h10⟩, ⟨h11, h12⟩, ⟨h13, h14⟩, -⟩ := h
  have al := hW.alike
  have hnm : ∀ y : MethodName, y = yLi_size ∨ y = yLi_get ∨ y = yLi_add → y.cls ≠ "java/lang/invoke/MethodHandle" ∧ y.cls ≠ "java/lang/invoke/VarHandle" := by
    rintro y (rfl | rfl | rfl) <;> decide
  exact ⟨va_K.moved al h1, fun w hw => th_Nw_moved (List.mem_filter.mp hw).2 hW (h2 w hw),
    ⟨va_Fw.moved (hnm _ (by simp)) al h3, va_Fw.moved (hnm _ (by simp)) al h4, va_Fw.moved (hnm _ (by simp)) al h5⟩, ⟨va_AO.moved al h6, va_AO.moved al h7⟩,
    ⟨va_T.moved al (h8.kept hq), va_T.moved al (h9.kept hq), va_T.moved al (h10.kept hq)⟩, ⟨va_Z.moved al (h11.kept hq), va_Z.moved al (h12.kept hq)⟩, ⟨va_Mi.moved al h13, va_Dc.moved al h14⟩, hz⟩
/-! the judgement -/
/-- a method: its bytes, its class, its locals, its type, its name -/
abbrev th_M : Type := ByteArray × String × Nat × Option FieldType × String
def th_end (K : th_M) (pc : Nat) (r : Option Value) : Prop :=
  (r = none ∧ K.2.2.2.1 = none ∧ decode K.1 pc = .ok (.return_, 1)) ∨
  (∃ (v : Int32) (ty : FieldType), r = some (.int v) ∧ K.2.2.2.1 = some ty ∧ narrow ty (.int v) = .int v ∧ decode K.1 pc = .ok (.ireturn, 1)) ∨
  (∃ rt : FieldType, K.2.2.2.1 = some rt ∧ ((∃ n, rt = .object n) ∨ ∃ t, rt = .array t) ∧ (r = some .null ∨ ∃ a, r = some (.ref a)) ∧ decode K.1 pc = .ok (.areturn, 1))
def th_Fix (G : th_G) (K : th_M) (p : Program) (s : State) (m : MethodId) (args : Array Value) (meth : Method) (c : Code) : Prop :=
  p.tables.exec = Jvm.exec ∧ c.code = K.1 ∧ c.maxLocals = K.2.2.1 ∧ s.vm.findClass K.2.1 = some m.cls ∧ meth.name = K.2.2.2.2 ∧ (∀ w ∈ th_W, w.before args s = true) ∧ th_Amb G s
def th_Rt (G : th_G) (K : th_M) (p : Program) (l : Launch) (e : Env) (R : Room) (s : State) (m : MethodId) (args : Array Value) (below : List Frame) (meth : Method) (c : Code) (Q : State → Prop) (post : Option Value → th_S → Prop) : Prop :=
  ∀ (r : Option Value) (S : th_S) (H : Heap) (locs : List Loc) (cells slots pc : Nat) (LS : Array Slot), post r S → th_R G S H → va_S (th_A G) s.heap H locs → cells ≤ R.cells → slots ≤ R.slots → th_end K pc r →
    W p l e R s m args below meth c H locs cells slots Q (F0 m pc LS (r.toList.map (th_v G)))
/-- from pc, with locals ls and stack st, in the heap S, within the room: the method ends as post says -/
def EV (G : th_G) (l : Launch) (K : th_M) (d bc bs pc : Nat) (ls : List (Option Value)) (st : List Value) (S : th_S) (post : Option Value → th_S → Prop) : Prop :=
  ∀ (p : Program) (e : Env) (R : Room) (s : State) (m : MethodId) (args : Array Value) (below : List Frame) (meth : Method) (c : Code) (Q : State → Prop),
    th_Fix G K p s m args meth c → th_Rt G K p l e R s m args below meth c Q post → d ≤ R.frames → 40 * d ≤ R.locals →
    ∀ (H : Heap) (locs : List Loc) (cells slots : Nat) (LS : Array Slot), cells + bc ≤ R.cells → slots + bs ≤ R.slots → th_R G S H → va_S (th_A G) s.heap H locs → th_L G LS K.2.2.1 ls →
      W p l e R s m args below meth c H locs cells slots Q (F0 m pc LS (st.map (th_v G)))
/-- a method's contract -/
def MT (G : th_G) (l : Launch) (y : MethodName) (K : th_M) (d bc bs : Nat) (As : List Value) (S : th_S) (post : Option Value → th_S → Prop) : Prop :=
  Met l y (Cond.code y K.1 K.2.2.1 K.2.2.2.1 :: th_W) { frames := d, cells := bc, slots := bs, locals := 40 * d }
    (va_Pc (As.map (th_v G)) (fun U => th_R G S U.heap ∧ th_Amb G U))
    (fun _ st oc t => (∃ (r : Option Value) (S' : th_S), oc = .returned (r.map (th_v G)) ∧ post r S' ∧ th_R G S' t.heap) ∧ va_F (th_A G) st t) bc bs (th_A G)
theorem th_bytes {G : th_G} {K : th_M} {p : Program} {s : State} {m : MethodId} {args : Array Value} {meth : Method} {c : Code} (F : th_Fix G K p s m args meth c) : c.code = K.1 := F.2.1
theorem EV.post {G : th_G} {l : Launch} {K : th_M} {d bc bs pc : Nat} {ls : List (Option Value)} {st : List Value} {S : th_S} {P P' : Option Value → th_S → Prop} (h : EV G l K d bc bs pc ls st S P) (hp : ∀ r S', P r S' → P' r S') : EV G l K d bc bs pc ls st S P' :=
  fun p e R s m args below meth c Q F Rt => h p e R s m args below meth c Q F (fun r S1 H locs cells slots pc LS h1 => Rt r S1 H locs cells slots pc LS (hp r S1 h1))
theorem EV.deep {G : th_G} {l : Launch} {K : th_M} {d d' bc bs pc : Nat} {ls : List (Option Value)} {st : List Value} {S : th_S} {P : Option Value → th_S → Prop} (h : EV G l K d bc bs pc ls st S P) (hd : d ≤ d') : EV G l K d' bc bs pc ls st S P :=
  fun p e R s m args below meth c Q F Rt h1 h2 => h p e R s m args below meth c Q F Rt (Nat.le_trans hd h1) (Nat.le_trans (Nat.mul_le_mul_left 40 hd) h2)
theorem EV.room {G : th_G} {l : Launch} {K : th_M} {d bc bs bc' bs' pc : Nat} {ls : List (Option Value)} {st : List Value} {S : th_S} {P : Option Value → th_S → Prop} (h : EV G l K d bc bs pc ls st S P) (h1 : bc ≤ bc') (h2 : bs ≤ bs') : EV G l K d bc' bs' pc ls st S P :=
  fun p e R s m args below meth c Q F Rt a1 a2 H locs cells slots LS b1 b2 => h p e R s m args below meth c Q F Rt a1 a2 H locs cells slots LS (by omega) (by omega)
/-- a contract out of a walk -/
theorem MT.of {G : th_G} {l : Launch} {y : MethodName} {K : th_M} {d bc bs : Nat} {As : List Value} {S : th_S} {post : Option Value → th_S → Prop} (hy : plainName y.cls = true) (hyc : y.cls = K.2.1) (hyn : y.name = K.2.2.2.2) {n : Nat} (hn : (th_en As).length + n = K.2.2.1) {ls : List (Option Value)} (hls : th_en As ++ List.replicate n none = ls) (h : EV G l K d bc bs 0 ls [] S post) : MT G l y K d bc bs As S post := by
  refine Met.ofW (cc := K.1) (maxL := K.2.2.1) (ret := K.2.2.2.1) hy rfl ?_
  intro p e s m args below meth c s₁ B hml hv
  obtain ⟨rfl, hR, hAmb⟩ := hv
  have hts := atoms_spec (ws := Cond.code y K.1 K.2.2.1 K.2.2.2.1 :: th_W) B.pre
  have hown : s.vm.findClass K.2.1 = some m.cls := by rw [← hyc]; exact findClass_of_methodNamed B.named
  have hlocks := B.notSynchronized
  have hnm : meth.name = K.2.2.2.2 := by rw [← hyn]; exact (name_of_methodNamed B.named B.method).1
  have hx := B.exec
  have hb := B.bytes
  have hr := B.returns
  have hlen : (lg_sl (As.map (th_v G))).length = (th_en As).length := by
    clear h hls hn hR B hts
    induction As with
    | nil => rfl
    | cons v r ih =>
      by_cases hv : v.category = 2
      · simp [lg_sl, th_en, th_v_cat, hv] at ih ⊢
        omega
      · simp [lg_sl, th_en, th_v_cat, hv] at ih ⊢
        omega
  have hl := lv_entry (As.map (th_v G)) (n := K.2.2.1) (by rw [hlen]; omega)
  rw [lg_entry_eq]
  generalize (lg_sl (As.map (th_v G)) ++ List.replicate (K.2.2.1 - (lg_sl (As.map (th_v G))).length) Slot.unset).toArray = LS at hl ⊢
  have hL : th_L G LS K.2.2.1 ls := ⟨hl.1, hl.2.1, fun q hq => hl.2.2 q (by rw [← hls] at hq; exact th_en_mem As 0 n q hq)⟩
  refine h p e _ s m _ below meth c _ ⟨hx, hb, hml, hown, hnm, fun w hw => hts w (List.mem_cons_of_mem _ hw), hAmb⟩ ?_ (Nat.le_refl _) (Nat.le_refl _) s.heap [] 0 0 LS (by show 0 + bc ≤ bc; omega) (by show 0 + bs ≤ bs; omega) hR va_S.rf hL
  intro r S1 H locs cells slots pc LS1 hp hR1 hS1 hc hs hend
  have fin : ∀ t : State, t.heap = H → s.WarmedH t.vm → (∃ (r' : Option Value) (S' : th_S), Outcome.returned (r.map (th_v G)) = .returned (r'.map (th_v G)) ∧ post r' S' ∧ th_R G S' t.heap) ∧ va_F (th_A G) s t :=
    fun t ht _ => ⟨⟨r, S1, rfl, hp, by rw [ht]; exact hR1⟩, hS1.F ht⟩
  refine W.widen (k := bc) (n := bs) hc hs ?_
  rcases hend with ⟨rfl, h2, h3⟩ | ⟨v, ty, rfl, h2, h3, h4⟩ | ⟨rt, h2, h3, h4, h5⟩
  · exact W.vret hx hb (by rw [hr]; exact h2) fin hS1.2.2 h3
  · exact W.zret hx hb (by rw [hr]; exact h2) h3 fin hS1.2.2 h4
  · rcases h4 with rfl | ⟨a, rfl⟩
    · exact W.aret hx hb (by rw [hr]; exact h2) h3 (Or.inl rfl) fin hS1.2.2 h5
    · exact W.aret hx hb (by rw [hr]; exact h2) h3 (Or.inr ⟨_, rfl⟩) fin hS1.2.2 h5
end
section
section EVR
variable {G : th_G} {l : Launch} {K : th_M} {d bc bs pc q : Nat} {ls : List (Option Value)} {st : List Value} {S : th_S} {post : Option Value → th_S → Prop}
theorem ev_pc (h : pc = q) (k : EV G l K d bc bs q ls st S post) : EV G l K d bc bs pc ls st S post := h ▸ k
theorem ev_iconst {n : Int} {v : Int32} (hd : decode K.1 pc = .ok (.iconst n, 1)) (hv : Int32.ofInt n = v) (hq : pc + 1 = q) (k : EV G l K d bc bs q ls (.int v :: st) S post) : EV G l K d bc bs pc ls st S post := by
  subst hq
  intro p e R s m args below meth c Q F Rt hf hlc H locs cells slots LS hc hs hR hS hL
  exact lv_iconst F.1 F.2.1 hd hv (k p e R s m args below meth c Q F Rt hf hlc H locs cells slots LS hc hs hR hS hL)
theorem ev_bipush {n : Int} {v : Int32} (hd : decode K.1 pc = .ok (.bipush n, 2)) (hv : (Int8.ofInt n).toInt32 = v) (hq : pc + 2 = q) (k : EV G l K d bc bs q ls (.int v :: st) S post) : EV G l K d bc bs pc ls st S post := by
  subst hq
  intro p e R s m args below meth c Q F Rt hf hlc H locs cells slots LS hc hs hR hS hL
  exact lv_bipush F.1 F.2.1 hd hv (k p e R s m args below meth c Q F Rt hf hlc H locs cells slots LS hc hs hR hS hL)
theorem ev_sipush {n : Int} {v : Int32} (hd : decode K.1 pc = .ok (.sipush n, 3)) (hv : (Int16.ofInt n).toInt32 = v) (hq : pc + 3 = q) (k : EV G l K d bc bs q ls (.int v :: st) S post) : EV G l K d bc bs pc ls st S post := by
  subst hq
  intro p e R s m args below meth c Q F Rt hf hlc H locs cells slots LS hc hs hR hS hL
  exact lv_sipush F.1 F.2.1 hd hv (k p e R s m args below meth c Q F Rt hf hlc H locs cells slots LS hc hs hR hS hL)
theorem ev_lconst {n : Fin 2} {v : Int64} (hd : decode K.1 pc = .ok (.lconst n, 1)) (hv : Int64.ofNat (n : Nat) = v) (hq : pc + 1 = q) (k : EV G l K d bc bs q ls (.long v :: st) S post) : EV G l K d bc bs pc ls st S post := by
  subst hq
  intro p e R s m args below meth c Q F Rt hf hlc H locs cells slots LS hc hs hR hS hL
  exact lv_lconst F.1 F.2.1 hd hv (k p e R s m args below meth c Q F Rt hf hlc H locs cells slots LS hc hs hR hS hL)
theorem ev_null (hd : decode K.1 pc = .ok (.aconst_null, 1)) (hq : pc + 1 = q) (k : EV G l K d bc bs q ls (.null :: st) S post) : EV G l K d bc bs pc ls st S post := by
  subst hq
  intro p e R s m args below meth c Q F Rt hf hlc H locs cells slots LS hc hs hR hS hL
  exact lv_null F.1 F.2.1 hd (k p e R s m args below meth c Q F Rt hf hlc H locs cells slots LS hc hs hR hS hL)
theorem ev_ldc {i : Nat} {v : Int32} (hd : decode K.1 pc = .ok (.ldc i, 2)) (hw : Cond.constant K.2.1 i v ∈ th_W) (hq : pc + 2 = q) (k : EV G l K d bc bs q ls (.int v :: st) S post) : EV G l K d bc bs pc ls st S post := by
  subst hq
  intro p e R s m args below meth c Q F Rt hf hlc H locs cells slots LS hc hs hR hS hL
  exact lv_ldc F.1 F.2.1 F.2.2.2.1 (F.2.2.2.2.2.1 _ hw) hd (k p e R s m args below meth c Q F Rt hf hlc H locs cells slots LS hc hs hR hS hL)
theorem ev_ldcw {i : Nat} {v : Int32} (hd : decode K.1 pc = .ok (.ldc_w i, 3)) (hw : Cond.constant K.2.1 i v ∈ th_W) (hq : pc + 3 = q) (k : EV G l K d bc bs q ls (.int v :: st) S post) : EV G l K d bc bs pc ls st S post := by
  subst hq
  intro p e R s m args below meth c Q F Rt hf hlc H locs cells slots LS hc hs hR hS hL
  exact lv_ldcw F.1 F.2.1 F.2.2.2.1 (F.2.2.2.2.2.1 _ hw) hd (k p e R s m args below meth c Q F Rt hf hlc H locs cells slots LS hc hs hR hS hL)
theorem ev_ldc2 {i : Nat} {v : Int64} (hd : decode K.1 pc = .ok (.ldc2_w i, 3)) (hw : Cond.constantLong K.2.1 i v ∈ th_W) (hq : pc + 3 = q) (k : EV G l K d bc bs q ls (.long v :: st) S post) : EV G l K d bc bs pc ls st S post := by
  subst hq
  intro p e R s m args below meth c Q F Rt hf hlc H locs cells slots LS hc hs hR hS hL
  exact lv_ldc2 F.1 F.2.1 F.2.2.2.1 (F.2.2.2.2.2.1 _ hw) hd (k p e R s m args below meth c Q F Rt hf hlc H locs cells slots LS hc hs hR hS hL)
theorem ev_iadd {x y : Int32} (hd : decode K.1 pc = .ok (.iadd, 1)) (hq : pc + 1 = q) (k : EV G l K d bc bs q ls (.int (x + y) :: st) S post) : EV G l K d bc bs pc ls (.int y :: .int x :: st) S post := by
  subst hq
  intro p e R s m args below meth c Q F Rt hf hlc H locs cells slots LS hc hs hR hS hL
  exact lv_iadd F.1 F.2.1 hd (k p e R s m args below meth c Q F Rt hf hlc H locs cells slots LS hc hs hR hS hL)
theorem ev_isub {x y : Int32} (hd : decode K.1 pc = .ok (.isub, 1)) (hq : pc + 1 = q) (k : EV G l K d bc bs q ls (.int (x - y) :: st) S post) : EV G l K d bc bs pc ls (.int y :: .int x :: st) S post := by
  subst hq
  intro p e R s m args below meth c Q F Rt hf hlc H locs cells slots LS hc hs hR hS hL
  exact lv_isub F.1 F.2.1 hd (k p e R s m args below meth c Q F Rt hf hlc H locs cells slots LS hc hs hR hS hL)
theorem ev_imul {x y : Int32} (hd : decode K.1 pc = .ok (.imul, 1)) (hq : pc + 1 = q) (k : EV G l K d bc bs q ls (.int (x * y) :: st) S post) : EV G l K d bc bs pc ls (.int y :: .int x :: st) S post := by
  subst hq
  intro p e R s m args below meth c Q F Rt hf hlc H locs cells slots LS hc hs hR hS hL
  exact lv_imul F.1 F.2.1 hd (k p e R s m args below meth c Q F Rt hf hlc H locs cells slots LS hc hs hR hS hL)
theorem ev_iand {x y : Int32} (hd : decode K.1 pc = .ok (.iand, 1)) (hq : pc + 1 = q) (k : EV G l K d bc bs q ls (.int (x &&& y) :: st) S post) : EV G l K d bc bs pc ls (.int y :: .int x :: st) S post := by
  subst hq
  intro p e R s m args below meth c Q F Rt hf hlc H locs cells slots LS hc hs hR hS hL
  exact lv_iand F.1 F.2.1 hd (k p e R s m args below meth c Q F Rt hf hlc H locs cells slots LS hc hs hR hS hL)
theorem ev_ior {x y : Int32} (hd : decode K.1 pc = .ok (.ior, 1)) (hq : pc + 1 = q) (k : EV G l K d bc bs q ls (.int (x ||| y) :: st) S post) : EV G l K d bc bs pc ls (.int y :: .int x :: st) S post := by
  subst hq
  intro p e R s m args below meth c Q F Rt hf hlc H locs cells slots LS hc hs hR hS hL
  exact lv_ior F.1 F.2.1 hd (k p e R s m args below meth c Q F Rt hf hlc H locs cells slots LS hc hs hR hS hL)
theorem ev_ixor {x y : Int32} (hd : decode K.1 pc = .ok (.ixor, 1)) (hq : pc + 1 = q) (k : EV G l K d bc bs q ls (.int (x ^^^ y) :: st) S post) : EV G l K d bc bs pc ls (.int y :: .int x :: st) S post := by
  subst hq
  intro p e R s m args below meth c Q F Rt hf hlc H locs cells slots LS hc hs hR hS hL
  exact lv_ixor F.1 F.2.1 hd (k p e R s m args below meth c Q F Rt hf hlc H locs cells slots LS hc hs hR hS hL)
theorem ev_ishl {x y : Int32} (hd : decode K.1 pc = .ok (.ishl, 1)) (hq : pc + 1 = q) (k : EV G l K d bc bs q ls (.int (x <<< (y &&& 31)) :: st) S post) : EV G l K d bc bs pc ls (.int y :: .int x :: st) S post := by
  subst hq
  intro p e R s m args below meth c Q F Rt hf hlc H locs cells slots LS hc hs hR hS hL
  exact lv_ishl F.1 F.2.1 hd (k p e R s m args below meth c Q F Rt hf hlc H locs cells slots LS hc hs hR hS hL)
theorem ev_ishr {x y : Int32} (hd : decode K.1 pc = .ok (.ishr, 1)) (hq : pc + 1 = q) (k : EV G l K d bc bs q ls (.int (x >>> (y &&& 31)) :: st) S post) : EV G l K d bc bs pc ls (.int y :: .int x :: st) S post := by
  subst hq
  intro p e R s m args below meth c Q F Rt hf hlc H locs cells slots LS hc hs hR hS hL
  exact lv_ishr F.1 F.2.1 hd (k p e R s m args below meth c Q F Rt hf hlc H locs cells slots LS hc hs hR hS hL)
theorem ev_idiv {x y : Int32} (hd : decode K.1 pc = .ok (.idiv, 1)) (hne : ¬ y = 0) (hq : pc + 1 = q) (k : EV G l K d bc bs q ls (.int (x / y) :: st) S post) : EV G l K d bc bs pc ls (.int y :: .int x :: st) S post := by
  subst hq
  intro p e R s m args below meth c Q F Rt hf hlc H locs cells slots LS hc hs hR hS hL
  exact lv_idiv F.1 F.2.1 hd hne (k p e R s m args below meth c Q F Rt hf hlc H locs cells slots LS hc hs hR hS hL)
theorem ev_irem {x y : Int32} (hd : decode K.1 pc = .ok (.irem, 1)) (hne : ¬ y = 0) (hq : pc + 1 = q) (k : EV G l K d bc bs q ls (.int (x - x / y * y) :: st) S post) : EV G l K d bc bs pc ls (.int y :: .int x :: st) S post := by
  subst hq
  intro p e R s m args below meth c Q F Rt hf hlc H locs cells slots LS hc hs hR hS hL
  exact lv_irem F.1 F.2.1 hd hne (k p e R s m args below meth c Q F Rt hf hlc H locs cells slots LS hc hs hR hS hL)
theorem ev_iushr {x y : Int32} (hd : decode K.1 pc = .ok (.iushr, 1)) (hq : pc + 1 = q) (k : EV G l K d bc bs q ls (.int ((x.toUInt32 >>> (y.toUInt32 &&& Int32.toUInt32 31)).toInt32) :: st) S post) : EV G l K d bc bs pc ls (.int y :: .int x :: st) S post := by
  subst hq
  intro p e R s m args below meth c Q F Rt hf hlc H locs cells slots LS hc hs hR hS hL
  exact lv_iushr F.1 F.2.1 hd rfl (k p e R s m args below meth c Q F Rt hf hlc H locs cells slots LS hc hs hR hS hL)
theorem ev_i2l {x : Int32} (hd : decode K.1 pc = .ok (.i2l, 1)) (hq : pc + 1 = q) (k : EV G l K d bc bs q ls (.long x.toInt64 :: st) S post) : EV G l K d bc bs pc ls (.int x :: st) S post := by
  subst hq
  intro p e R s m args below meth c Q F Rt hf hlc H locs cells slots LS hc hs hR hS hL
  exact lv_i2l F.1 F.2.1 hd rfl (k p e R s m args below meth c Q F Rt hf hlc H locs cells slots LS hc hs hR hS hL)
theorem ev_i2b {x : Int32} (hd : decode K.1 pc = .ok (.i2b, 1)) (hq : pc + 1 = q) (k : EV G l K d bc bs q ls (.int x.toInt8.toInt32 :: st) S post) : EV G l K d bc bs pc ls (.int x :: st) S post := by
  subst hq
  intro p e R s m args below meth c Q F Rt hf hlc H locs cells slots LS hc hs hR hS hL
  exact lv_i2b F.1 F.2.1 hd rfl (k p e R s m args below meth c Q F Rt hf hlc H locs cells slots LS hc hs hR hS hL)
theorem ev_i2s {x : Int32} (hd : decode K.1 pc = .ok (.i2s, 1)) (hq : pc + 1 = q) (k : EV G l K d bc bs q ls (.int x.toInt16.toInt32 :: st) S post) : EV G l K d bc bs pc ls (.int x :: st) S post := by
  subst hq
  intro p e R s m args below meth c Q F Rt hf hlc H locs cells slots LS hc hs hR hS hL
  exact lv_i2s F.1 F.2.1 hd rfl (k p e R s m args below meth c Q F Rt hf hlc H locs cells slots LS hc hs hR hS hL)
theorem ev_i2c {x : Int32} (hd : decode K.1 pc = .ok (.i2c, 1)) (hq : pc + 1 = q) (k : EV G l K d bc bs q ls (.int (x.toUInt32 % 65536).toInt32 :: st) S post) : EV G l K d bc bs pc ls (.int x :: st) S post := by
  subst hq
  intro p e R s m args below meth c Q F Rt hf hlc H locs cells slots LS hc hs hR hS hL
  exact lv_i2c F.1 F.2.1 hd rfl (k p e R s m args below meth c Q F Rt hf hlc H locs cells slots LS hc hs hR hS hL)
theorem ev_ladd {x y : Int64} (hd : decode K.1 pc = .ok (.ladd, 1)) (hq : pc + 1 = q) (k : EV G l K d bc bs q ls (.long (x + y) :: st) S post) : EV G l K d bc bs pc ls (.long y :: .long x :: st) S post := by
  subst hq
  intro p e R s m args below meth c Q F Rt hf hlc H locs cells slots LS hc hs hR hS hL
  exact lv_ladd F.1 F.2.1 hd (k p e R s m args below meth c Q F Rt hf hlc H locs cells slots LS hc hs hR hS hL)
theorem ev_lcmp {x y : Int64} (hd : decode K.1 pc = .ok (.lcmp, 1)) (hq : pc + 1 = q) (k : EV G l K d bc bs q ls (.int (lg_cmp x y) :: st) S post) : EV G l K d bc bs pc ls (.long y :: .long x :: st) S post := by
  subst hq
  intro p e R s m args below meth c Q F Rt hf hlc H locs cells slots LS hc hs hR hS hL
  exact W.lcmp F.1 F.2.1 hd (k p e R s m args below meth c Q F Rt hf hlc H locs cells slots LS hc hs hR hS hL)
theorem ev_dup {v : Value} (hd : decode K.1 pc = .ok (.dup, 1)) (hv : v.category = 1) (hq : pc + 1 = q) (k : EV G l K d bc bs q ls (v :: v :: st) S post) : EV G l K d bc bs pc ls (v :: st) S post := by
  subst hq
  intro p e R s m args below meth c Q F Rt hf hlc H locs cells slots LS hc hs hR hS hL
  exact lv_dup F.1 F.2.1 hd (by rw [th_v_cat]; exact hv) (k p e R s m args below meth c Q F Rt hf hlc H locs cells slots LS hc hs hR hS hL)
theorem ev_pop {v : Value} (hd : decode K.1 pc = .ok (.pop, 1)) (hv : v.category = 1) (hq : pc + 1 = q) (k : EV G l K d bc bs q ls st S post) : EV G l K d bc bs pc ls (v :: st) S post := by
  subst hq
  intro p e R s m args below meth c Q F Rt hf hlc H locs cells slots LS hc hs hR hS hL
  exact lv_pop F.1 F.2.1 hd (by rw [th_v_cat]; exact hv) (k p e R s m args below meth c Q F Rt hf hlc H locs cells slots LS hc hs hR hS hL)
theorem ev_dup_x1 {v w : Value} (hd : decode K.1 pc = .ok (.dup_x1, 1)) (hv : v.category = 1) (hw : w.category = 1) (hq : pc + 1 = q) (k : EV G l K d bc bs q ls (v :: w :: v :: st) S post) : EV G l K d bc bs pc ls (v :: w :: st) S post := by
  subst hq
  intro p e R s m args below meth c Q F Rt hf hlc H locs cells slots LS hc hs hR hS hL
  exact lv_dup_x1 F.1 F.2.1 hd (by rw [th_v_cat]; exact hv) (by rw [th_v_cat]; exact hw) (k p e R s m args below meth c Q F Rt hf hlc H locs cells slots LS hc hs hR hS hL)
theorem ev_dup2 {v w : Value} (hd : decode K.1 pc = .ok (.dup2, 1)) (hv : v.category = 1) (hw : w.category = 1) (hq : pc + 1 = q) (k : EV G l K d bc bs q ls (v :: w :: v :: w :: st) S post) : EV G l K d bc bs pc ls (v :: w :: st) S post := by
  subst hq
  intro p e R s m args below meth c Q F Rt hf hlc H locs cells slots LS hc hs hR hS hL
  exact lv_dup2_11 F.1 F.2.1 hd (by rw [th_v_cat]; exact hv) (by rw [th_v_cat]; exact hw) (k p e R s m args below meth c Q F Rt hf hlc H locs cells slots LS hc hs hR hS hL)
theorem ev_iload0 {x : Int32} {r : List (Option Value)} (hd : decode K.1 pc = .ok (.iload_n 0, 1)) (hq : pc + 1 = q) (k : EV G l K d bc bs q (some (.int x) :: r) (.int x :: st) S post) : EV G l K d bc bs pc (some (.int x) :: r) st S post := by
  subst hq
  intro p e R s m args below meth c Q F Rt hf hlc H locs cells slots LS hc hs hR hS hL
  exact lv_iload_n F.1 F.2.1 hd rfl (hL.at (i := 0) rfl) (k p e R s m args below meth c Q F Rt hf hlc H locs cells slots LS hc hs hR hS hL)
theorem ev_lload0 {x : Int64} {r : List (Option Value)} (hd : decode K.1 pc = .ok (.lload_n 0, 1)) (hq : pc + 1 = q) (k : EV G l K d bc bs q (some (.long x) :: r) (.long x :: st) S post) : EV G l K d bc bs pc (some (.long x) :: r) st S post := by
  subst hq
  intro p e R s m args below meth c Q F Rt hf hlc H locs cells slots LS hc hs hR hS hL
  exact lv_lload_n F.1 F.2.1 hd rfl (hL.at (i := 0) rfl) (k p e R s m args below meth c Q F Rt hf hlc H locs cells slots LS hc hs hR hS hL)
theorem ev_aload0 {x : Nat} {r : List (Option Value)} (hd : decode K.1 pc = .ok (.aload_n 0, 1)) (hq : pc + 1 = q) (k : EV G l K d bc bs q (some (.ref x) :: r) (.ref x :: st) S post) : EV G l K d bc bs pc (some (.ref x) :: r) st S post := by
  subst hq
  intro p e R s m args below meth c Q F Rt hf hlc H locs cells slots LS hc hs hR hS hL
  exact lv_aload_n F.1 F.2.1 hd rfl (hL.at (i := 0) rfl) (k p e R s m args below meth c Q F Rt hf hlc H locs cells slots LS hc hs hR hS hL)
theorem ev_aloadN0 {r : List (Option Value)} (hd : decode K.1 pc = .ok (.aload_n 0, 1)) (hq : pc + 1 = q) (k : EV G l K d bc bs q (some (.null) :: r) (.null :: st) S post) : EV G l K d bc bs pc (some (.null) :: r) st S post := by
  subst hq
  intro p e R s m args below meth c Q F Rt hf hlc H locs cells slots LS hc hs hR hS hL
  exact lv_aload_nN F.1 F.2.1 hd rfl (hL.at (i := 0) rfl) (k p e R s m args below meth c Q F Rt hf hlc H locs cells slots LS hc hs hR hS hL)
theorem ev_istore0 {o0 : Option Value} {x : Int32} {r : List (Option Value)} (hd : decode K.1 pc = .ok (.istore_n 0, 1)) (hq : pc + 1 = q) (hn : 0 < K.2.2.1) (h1 : th_c1 (o0 :: r) = true) (k : EV G l K d bc bs q (some (.int x) :: r) st S post) : EV G l K d bc bs pc (o0 :: r) (.int x :: st) S post := by
  subst hq
  intro p e R s m args below meth c Q F Rt hf hlc H locs cells slots LS hc hs hR hS hL
  exact lv_istore_n F.1 F.2.1 hd rfl hL hn rfl (fun LS1 h => k p e R s m args below meth c Q F Rt hf hlc H locs cells slots LS1 hc hs hR hS (th_L.set (i := 0) (v := .int x) h1 h))
theorem ev_astore0 {o0 : Option Value} {x : Nat} {r : List (Option Value)} (hd : decode K.1 pc = .ok (.astore_n 0, 1)) (hq : pc + 1 = q) (hn : 0 < K.2.2.1) (h1 : th_c1 (o0 :: r) = true) (k : EV G l K d bc bs q (some (.ref x) :: r) st S post) : EV G l K d bc bs pc (o0 :: r) (.ref x :: st) S post := by
  subst hq
  intro p e R s m args below meth c Q F Rt hf hlc H locs cells slots LS hc hs hR hS hL
  exact lv_astore_n F.1 F.2.1 hd rfl hL hn rfl (fun LS1 h => k p e R s m args below meth c Q F Rt hf hlc H locs cells slots LS1 hc hs hR hS (th_L.set (i := 0) (v := .ref x) h1 h))
theorem ev_astoreN0 {o0 : Option Value} {r : List (Option Value)} (hd : decode K.1 pc = .ok (.astore_n 0, 1)) (hq : pc + 1 = q) (hn : 0 < K.2.2.1) (h1 : th_c1 (o0 :: r) = true) (k : EV G l K d bc bs q (some (.null) :: r) st S post) : EV G l K d bc bs pc (o0 :: r) (.null :: st) S post := by
  subst hq
  intro p e R s m args below meth c Q F Rt hf hlc H locs cells slots LS hc hs hR hS hL
  exact lv_astore_nN F.1 F.2.1 hd rfl hL hn rfl (fun LS1 h => k p e R s m args below meth c Q F Rt hf hlc H locs cells slots LS1 hc hs hR hS (th_L.set (i := 0) (v := .null) h1 h))
theorem ev_iinc0 {x v : Int32} {n : Int} {r : List (Option Value)} (hd : decode K.1 pc = .ok (.iinc 0 n, 3)) (hq : pc + 3 = q) (hn : 0 < K.2.2.1) (h1 : th_c1 (some (.int x) :: r) = true) (hv : x + Int32.ofInt n = v) (k : EV G l K d bc bs q (some (.int v) :: r) st S post) : EV G l K d bc bs pc (some (.int x) :: r) st S post := by
  subst hq
  intro p e R s m args below meth c Q F Rt hf hlc H locs cells slots LS hc hs hR hS hL
  obtain ⟨kk, hkk⟩ := List.getElem?_of_mem ((th_l_mem (G := G) (some (.int x) :: r) 0 0 (.int x)).mpr ⟨0, .int x, rfl, by omega, rfl⟩)
  exact lv_iinc F.1 F.2.1 hd hL hkk hv hn rfl (fun LS1 h => k p e R s m args below meth c Q F Rt hf hlc H locs cells slots LS1 hc hs hR hS (th_L.set (i := 0) (v := .int v) h1 h))
theorem ev_iload1 {o0 : Option Value} {x : Int32} {r : List (Option Value)} (hd : decode K.1 pc = .ok (.iload_n 1, 1)) (hq : pc + 1 = q) (k : EV G l K d bc bs q (o0 :: some (.int x) :: r) (.int x :: st) S post) : EV G l K d bc bs pc (o0 :: some (.int x) :: r) st S post := by
  subst hq
  intro p e R s m args below meth c Q F Rt hf hlc H locs cells slots LS hc hs hR hS hL
  exact lv_iload_n F.1 F.2.1 hd rfl (hL.at (i := 1) rfl) (k p e R s m args below meth c Q F Rt hf hlc H locs cells slots LS hc hs hR hS hL)
theorem ev_lload1 {o0 : Option Value} {x : Int64} {r : List (Option Value)} (hd : decode K.1 pc = .ok (.lload_n 1, 1)) (hq : pc + 1 = q) (k : EV G l K d bc bs q (o0 :: some (.long x) :: r) (.long x :: st) S post) : EV G l K d bc bs pc (o0 :: some (.long x) :: r) st S post := by
  subst hq
  intro p e R s m args below meth c Q F Rt hf hlc H locs cells slots LS hc hs hR hS hL
  exact lv_lload_n F.1 F.2.1 hd rfl (hL.at (i := 1) rfl) (k p e R s m args below meth c Q F Rt hf hlc H locs cells slots LS hc hs hR hS hL)
theorem ev_aload1 {o0 : Option Value} {x : Nat} {r : List (Option Value)} (hd : decode K.1 pc = .ok (.aload_n 1, 1)) (hq : pc + 1 = q) (k : EV G l K d bc bs q (o0 :: some (.ref x) :: r) (.ref x :: st) S post) : EV G l K d bc bs pc (o0 :: some (.ref x) :: r) st S post := by
  subst hq
  intro p e R s m args below meth c Q F Rt hf hlc H locs cells slots LS hc hs hR hS hL
  exact lv_aload_n F.1 F.2.1 hd rfl (hL.at (i := 1) rfl) (k p e R s m args below meth c Q F Rt hf hlc H locs cells slots LS hc hs hR hS hL)
theorem ev_aloadN1 {o0 : Option Value} {r : List (Option Value)} (hd : decode K.1 pc = .ok (.aload_n 1, 1)) (hq : pc + 1 = q) (k : EV G l K d bc bs q (o0 :: some (.null) :: r) (.null :: st) S post) : EV G l K d bc bs pc (o0 :: some (.null) :: r) st S post := by
  subst hq
  intro p e R s m args below meth c Q F Rt hf hlc H locs cells slots LS hc hs hR hS hL
  exact lv_aload_nN F.1 F.2.1 hd rfl (hL.at (i := 1) rfl) (k p e R s m args below meth c Q F Rt hf hlc H locs cells slots LS hc hs hR hS hL)
theorem ev_istore1 {o0 : Option Value} {o1 : Option Value} {x : Int32} {r : List (Option Value)} (hd : decode K.1 pc = .ok (.istore_n 1, 1)) (hq : pc + 1 = q) (hn : 1 < K.2.2.1) (h1 : th_c1 (o0 :: o1 :: r) = true) (k : EV G l K d bc bs q (o0 :: some (.int x) :: r) st S post) : EV G l K d bc bs pc (o0 :: o1 :: r) (.int x :: st) S post := by
  subst hq
  intro p e R s m args below meth c Q F Rt hf hlc H locs cells slots LS hc hs hR hS hL
  exact lv_istore_n F.1 F.2.1 hd rfl hL hn rfl (fun LS1 h => k p e R s m args below meth c Q F Rt hf hlc H locs cells slots LS1 hc hs hR hS (th_L.set (i := 1) (v := .int x) h1 h))
theorem ev_astore1 {o0 : Option Value} {o1 : Option Value} {x : Nat} {r : List (Option Value)} (hd : decode K.1 pc = .ok (.astore_n 1, 1)) (hq : pc + 1 = q) (hn : 1 < K.2.2.1) (h1 : th_c1 (o0 :: o1 :: r) = true) (k : EV G l K d bc bs q (o0 :: some (.ref x) :: r) st S post) : EV G l K d bc bs pc (o0 :: o1 :: r) (.ref x :: st) S post := by
  subst hq
  intro p e R s m args below meth c Q F Rt hf hlc H locs cells slots LS hc hs hR hS hL
  exact lv_astore_n F.1 F.2.1 hd rfl hL hn rfl (fun LS1 h => k p e R s m args below meth c Q F Rt hf hlc H locs cells slots LS1 hc hs hR hS (th_L.set (i := 1) (v := .ref x) h1 h))
theorem ev_astoreN1 {o0 : Option Value} {o1 : Option Value} {r : List (Option Value)} (hd : decode K.1 pc = .ok (.astore_n 1, 1)) (hq : pc + 1 = q) (hn : 1 < K.2.2.1) (h1 : th_c1 (o0 :: o1 :: r) = true) (k : EV G l K d bc bs q (o0 :: some (.null) :: r) st S post) : EV G l K d bc bs pc (o0 :: o1 :: r) (.null :: st) S post := by
  subst hq
  intro p e R s m args below meth c Q F Rt hf hlc H locs cells slots LS hc hs hR hS hL
  exact lv_astore_nN F.1 F.2.1 hd rfl hL hn rfl (fun LS1 h => k p e R s m args below meth c Q F Rt hf hlc H locs cells slots LS1 hc hs hR hS (th_L.set (i := 1) (v := .null) h1 h))
theorem ev_iinc1 {o0 : Option Value} {x v : Int32} {n : Int} {r : List (Option Value)} (hd : decode K.1 pc = .ok (.iinc 1 n, 3)) (hq : pc + 3 = q) (hn : 1 < K.2.2.1) (h1 : th_c1 (o0 :: some (.int x) :: r) = true) (hv : x + Int32.ofInt n = v) (k : EV G l K d bc bs q (o0 :: some (.int v) :: r) st S post) : EV G l K d bc bs pc (o0 :: some (.int x) :: r) st S post := by
  subst hq
  intro p e R s m args below meth c Q F Rt hf hlc H locs cells slots LS hc hs hR hS hL
  obtain ⟨kk, hkk⟩ := List.getElem?_of_mem ((th_l_mem (G := G) (o0 :: some (.int x) :: r) 0 1 (.int x)).mpr ⟨1, .int x, rfl, by omega, rfl⟩)
  exact lv_iinc F.1 F.2.1 hd hL hkk hv hn rfl (fun LS1 h => k p e R s m args below meth c Q F Rt hf hlc H locs cells slots LS1 hc hs hR hS (th_L.set (i := 1) (v := .int v) h1 h))
theorem ev_iload2 {o0 o1 : Option Value} {x : Int32} {r : List (Option Value)} (hd : decode K.1 pc = .ok (.iload_n 2, 1)) (hq : pc + 1 = q) (k : EV G l K d bc bs q (o0 :: o1 :: some (.int x) :: r) (.int x :: st) S post) : EV G l K d bc bs pc (o0 :: o1 :: some (.int x) :: r) st S post := by
  subst hq
  intro p e R s m args below meth c Q F Rt hf hlc H locs cells slots LS hc hs hR hS hL
  exact lv_iload_n F.1 F.2.1 hd rfl (hL.at (i := 2) rfl) (k p e R s m args below meth c Q F Rt hf hlc H locs cells slots LS hc hs hR hS hL)
theorem ev_lload2 {o0 o1 : Option Value} {x : Int64} {r : List (Option Value)} (hd : decode K.1 pc = .ok (.lload_n 2, 1)) (hq : pc + 1 = q) (k : EV G l K d bc bs q (o0 :: o1 :: some (.long x) :: r) (.long x :: st) S post) : EV G l K d bc bs pc (o0 :: o1 :: some (.long x) :: r) st S post := by
  subst hq
  intro p e R s m args below meth c Q F Rt hf hlc H locs cells slots LS hc hs hR hS hL
  exact lv_lload_n F.1 F.2.1 hd rfl (hL.at (i := 2) rfl) (k p e R s m args below meth c Q F Rt hf hlc H locs cells slots LS hc hs hR hS hL)
theorem ev_aload2 {o0 o1 : Option Value} {x : Nat} {r : List (Option Value)} (hd : decode K.1 pc = .ok (.aload_n 2, 1)) (hq : pc + 1 = q) (k : EV G l K d bc bs q (o0 :: o1 :: some (.ref x) :: r) (.ref x :: st) S post) : EV G l K d bc bs pc (o0 :: o1 :: some (.ref x) :: r) st S post := by
  subst hq
  intro p e R s m args below meth c Q F Rt hf hlc H locs cells slots LS hc hs hR hS hL
  exact lv_aload_n F.1 F.2.1 hd rfl (hL.at (i := 2) rfl) (k p e R s m args below meth c Q F Rt hf hlc H locs cells slots LS hc hs hR hS hL)
theorem ev_aloadN2 {o0 o1 : Option Value} {r : List (Option Value)} (hd : decode K.1 pc = .ok (.aload_n 2, 1)) (hq : pc + 1 = q) (k : EV G l K d bc bs q (o0 :: o1 :: some (.null) :: r) (.null :: st) S post) : EV G l K d bc bs pc (o0 :: o1 :: some (.null) :: r) st S post := by
  subst hq
  intro p e R s m args below meth c Q F Rt hf hlc H locs cells slots LS hc hs hR hS hL
  exact lv_aload_nN F.1 F.2.1 hd rfl (hL.at (i := 2) rfl) (k p e R s m args below meth c Q F Rt hf hlc H locs cells slots LS hc hs hR hS hL)
theorem ev_istore2 {o0 o1 : Option Value} {o2 : Option Value} {x : Int32} {r : List (Option Value)} (hd : decode K.1 pc = .ok (.istore_n 2, 1)) (hq : pc + 1 = q) (hn : 2 < K.2.2.1) (h1 : th_c1 (o0 :: o1 :: o2 :: r) = true) (k : EV G l K d bc bs q (o0 :: o1 :: some (.int x) :: r) st S post) : EV G l K d bc bs pc (o0 :: o1 :: o2 :: r) (.int x :: st) S post := by
  subst hq
  intro p e R s m args below meth c Q F Rt hf hlc H locs cells slots LS hc hs hR hS hL
  exact lv_istore_n F.1 F.2.1 hd rfl hL hn rfl (fun LS1 h => k p e R s m args below meth c Q F Rt hf hlc H locs cells slots LS1 hc hs hR hS (th_L.set (i := 2) (v := .int x) h1 h))
theorem ev_astore2 {o0 o1 : Option Value} {o2 : Option Value} {x : Nat} {r : List (Option Value)} (hd : decode K.1 pc = .ok (.astore_n 2, 1)) (hq : pc + 1 = q) (hn : 2 < K.2.2.1) (h1 : th_c1 (o0 :: o1 :: o2 :: r) = true) (k : EV G l K d bc bs q (o0 :: o1 :: some (.ref x) :: r) st S post) : EV G l K d bc bs pc (o0 :: o1 :: o2 :: r) (.ref x :: st) S post := by
  subst hq
  intro p e R s m args below meth c Q F Rt hf hlc H locs cells slots LS hc hs hR hS hL
  exact lv_astore_n F.1 F.2.1 hd rfl hL hn rfl (fun LS1 h => k p e R s m args below meth c Q F Rt hf hlc H locs cells slots LS1 hc hs hR hS (th_L.set (i := 2) (v := .ref x) h1 h))
theorem ev_astoreN2 {o0 o1 : Option Value} {o2 : Option Value} {r : List (Option Value)} (hd : decode K.1 pc = .ok (.astore_n 2, 1)) (hq : pc + 1 = q) (hn : 2 < K.2.2.1) (h1 : th_c1 (o0 :: o1 :: o2 :: r) = true) (k : EV G l K d bc bs q (o0 :: o1 :: some (.null) :: r) st S post) : EV G l K d bc bs pc (o0 :: o1 :: o2 :: r) (.null :: st) S post := by
  subst hq
  intro p e R s m args below meth c Q F Rt hf hlc H locs cells slots LS hc hs hR hS hL
  exact lv_astore_nN F.1 F.2.1 hd rfl hL hn rfl (fun LS1 h => k p e R s m args below meth c Q F Rt hf hlc H locs cells slots LS1 hc hs hR hS (th_L.set (i := 2) (v := .null) h1 h))
theorem ev_iinc2 {o0 o1 : Option Value} {x v : Int32} {n : Int} {r : List (Option Value)} (hd : decode K.1 pc = .ok (.iinc 2 n, 3)) (hq : pc + 3 = q) (hn : 2 < K.2.2.1) (h1 : th_c1 (o0 :: o1 :: some (.int x) :: r) = true) (hv : x + Int32.ofInt n = v) (k : EV G l K d bc bs q (o0 :: o1 :: some (.int v) :: r) st S post) : EV G l K d bc bs pc (o0 :: o1 :: some (.int x) :: r) st S post := by
  subst hq
  intro p e R s m args below meth c Q F Rt hf hlc H locs cells slots LS hc hs hR hS hL
  obtain ⟨kk, hkk⟩ := List.getElem?_of_mem ((th_l_mem (G := G) (o0 :: o1 :: some (.int x) :: r) 0 2 (.int x)).mpr ⟨2, .int x, rfl, by omega, rfl⟩)
  exact lv_iinc F.1 F.2.1 hd hL hkk hv hn rfl (fun LS1 h => k p e R s m args below meth c Q F Rt hf hlc H locs cells slots LS1 hc hs hR hS (th_L.set (i := 2) (v := .int v) h1 h))
theorem ev_iload3 {o0 o1 o2 : Option Value} {x : Int32} {r : List (Option Value)} (hd : decode K.1 pc = .ok (.iload_n 3, 1)) (hq : pc + 1 = q) (k : EV G l K d bc bs q (o0 :: o1 :: o2 :: some (.int x) :: r) (.int x :: st) S post) : EV G l K d bc bs pc (o0 :: o1 :: o2 :: some (.int x) :: r) st S post := by
  subst hq
  intro p e R s m args below meth c Q F Rt hf hlc H locs cells slots LS hc hs hR hS hL
  exact lv_iload_n F.1 F.2.1 hd rfl (hL.at (i := 3) rfl) (k p e R s m args below meth c Q F Rt hf hlc H locs cells slots LS hc hs hR hS hL)
theorem ev_lload3 {o0 o1 o2 : Option Value} {x : Int64} {r : List (Option Value)} (hd : decode K.1 pc = .ok (.lload_n 3, 1)) (hq : pc + 1 = q) (k : EV G l K d bc bs q (o0 :: o1 :: o2 :: some (.long x) :: r) (.long x :: st) S post) : EV G l K d bc bs pc (o0 :: o1 :: o2 :: some (.long x) :: r) st S post := by
  subst hq
  intro p e R s m args below meth c Q F Rt hf hlc H locs cells slots LS hc hs hR hS hL
  exact lv_lload_n F.1 F.2.1 hd rfl (hL.at (i := 3) rfl) (k p e R s m args below meth c Q F Rt hf hlc H locs cells slots LS hc hs hR hS hL)
theorem ev_aload3 {o0 o1 o2 : Option Value} {x : Nat} {r : List (Option Value)} (hd : decode K.1 pc = .ok (.aload_n 3, 1)) (hq : pc + 1 = q) (k : EV G l K d bc bs q (o0 :: o1 :: o2 :: some (.ref x) :: r) (.ref x :: st) S post) : EV G l K d bc bs pc (o0 :: o1 :: o2 :: some (.ref x) :: r) st S post := by
  subst hq
  intro p e R s m args below meth c Q F Rt hf hlc H locs cells slots LS hc hs hR hS hL
  exact lv_aload_n F.1 F.2.1 hd rfl (hL.at (i := 3) rfl) (k p e R s m args below meth c Q F Rt hf hlc H locs cells slots LS hc hs hR hS hL)
theorem ev_aloadN3 {o0 o1 o2 : Option Value} {r : List (Option Value)} (hd : decode K.1 pc = .ok (.aload_n 3, 1)) (hq : pc + 1 = q) (k : EV G l K d bc bs q (o0 :: o1 :: o2 :: some (.null) :: r) (.null :: st) S post) : EV G l K d bc bs pc (o0 :: o1 :: o2 :: some (.null) :: r) st S post := by
  subst hq
  intro p e R s m args below meth c Q F Rt hf hlc H locs cells slots LS hc hs hR hS hL
  exact lv_aload_nN F.1 F.2.1 hd rfl (hL.at (i := 3) rfl) (k p e R s m args below meth c Q F Rt hf hlc H locs cells slots LS hc hs hR hS hL)
theorem ev_istore3 {o0 o1 o2 : Option Value} {o3 : Option Value} {x : Int32} {r : List (Option Value)} (hd : decode K.1 pc = .ok (.istore_n 3, 1)) (hq : pc + 1 = q) (hn : 3 < K.2.2.1) (h1 : th_c1 (o0 :: o1 :: o2 :: o3 :: r) = true) (k : EV G l K d bc bs q (o0 :: o1 :: o2 :: some (.int x) :: r) st S post) : EV G l K d bc bs pc (o0 :: o1 :: o2 :: o3 :: r) (.int x :: st) S post := by
  subst hq
  intro p e R s m args below meth c Q F Rt hf hlc H locs cells slots LS hc hs hR hS hL
  exact lv_istore_n F.1 F.2.1 hd rfl hL hn rfl (fun LS1 h => k p e R s m args below meth c Q F Rt hf hlc H locs cells slots LS1 hc hs hR hS (th_L.set (i := 3) (v := .int x) h1 h))
theorem ev_astore3 {o0 o1 o2 : Option Value} {o3 : Option Value} {x : Nat} {r : List (Option Value)} (hd : decode K.1 pc = .ok (.astore_n 3, 1)) (hq : pc + 1 = q) (hn : 3 < K.2.2.1) (h1 : th_c1 (o0 :: o1 :: o2 :: o3 :: r) = true) (k : EV G l K d bc bs q (o0 :: o1 :: o2 :: some (.ref x) :: r) st S post) : EV G l K d bc bs pc (o0 :: o1 :: o2 :: o3 :: r) (.ref x :: st) S post := by
  subst hq
  intro p e R s m args below meth c Q F Rt hf hlc H locs cells slots LS hc hs hR hS hL
  exact lv_astore_n F.1 F.2.1 hd rfl hL hn rfl (fun LS1 h => k p e R s m args below meth c Q F Rt hf hlc H locs cells slots LS1 hc hs hR hS (th_L.set (i := 3) (v := .ref x) h1 h))
theorem ev_astoreN3 {o0 o1 o2 : Option Value} {o3 : Option Value} {r : List (Option Value)} (hd : decode K.1 pc = .ok (.astore_n 3, 1)) (hq : pc + 1 = q) (hn : 3 < K.2.2.1) (h1 : th_c1 (o0 :: o1 :: o2 :: o3 :: r) = true) (k : EV G l K d bc bs q (o0 :: o1 :: o2 :: some (.null) :: r) st S post) : EV G l K d bc bs pc (o0 :: o1 :: o2 :: o3 :: r) (.null :: st) S post := by
  subst hq
  intro p e R s m args below meth c Q F Rt hf hlc H locs cells slots LS hc hs hR hS hL
  exact lv_astore_nN F.1 F.2.1 hd rfl hL hn rfl (fun LS1 h => k p e R s m args below meth c Q F Rt hf hlc H locs cells slots LS1 hc hs hR hS (th_L.set (i := 3) (v := .null) h1 h))
theorem ev_iinc3 {o0 o1 o2 : Option Value} {x v : Int32} {n : Int} {r : List (Option Value)} (hd : decode K.1 pc = .ok (.iinc 3 n, 3)) (hq : pc + 3 = q) (hn : 3 < K.2.2.1) (h1 : th_c1 (o0 :: o1 :: o2 :: some (.int x) :: r) = true) (hv : x + Int32.ofInt n = v) (k : EV G l K d bc bs q (o0 :: o1 :: o2 :: some (.int v) :: r) st S post) : EV G l K d bc bs pc (o0 :: o1 :: o2 :: some (.int x) :: r) st S post := by
  subst hq
  intro p e R s m args below meth c Q F Rt hf hlc H locs cells slots LS hc hs hR hS hL
  obtain ⟨kk, hkk⟩ := List.getElem?_of_mem ((th_l_mem (G := G) (o0 :: o1 :: o2 :: some (.int x) :: r) 0 3 (.int x)).mpr ⟨3, .int x, rfl, by omega, rfl⟩)
  exact lv_iinc F.1 F.2.1 hd hL hkk hv hn rfl (fun LS1 h => k p e R s m args below meth c Q F Rt hf hlc H locs cells slots LS1 hc hs hR hS (th_L.set (i := 3) (v := .int v) h1 h))
theorem ev_iload4 {o0 o1 o2 o3 : Option Value} {x : Int32} {r : List (Option Value)} (hd : decode K.1 pc = .ok (.iload 4, 2)) (hq : pc + 2 = q) (k : EV G l K d bc bs q (o0 :: o1 :: o2 :: o3 :: some (.int x) :: r) (.int x :: st) S post) : EV G l K d bc bs pc (o0 :: o1 :: o2 :: o3 :: some (.int x) :: r) st S post := by
  subst hq
  intro p e R s m args below meth c Q F Rt hf hlc H locs cells slots LS hc hs hR hS hL
  exact lv_iload F.1 F.2.1 hd (hL.at (i := 4) rfl) (k p e R s m args below meth c Q F Rt hf hlc H locs cells slots LS hc hs hR hS hL)
theorem ev_lload4 {o0 o1 o2 o3 : Option Value} {x : Int64} {r : List (Option Value)} (hd : decode K.1 pc = .ok (.lload 4, 2)) (hq : pc + 2 = q) (k : EV G l K d bc bs q (o0 :: o1 :: o2 :: o3 :: some (.long x) :: r) (.long x :: st) S post) : EV G l K d bc bs pc (o0 :: o1 :: o2 :: o3 :: some (.long x) :: r) st S post := by
  subst hq
  intro p e R s m args below meth c Q F Rt hf hlc H locs cells slots LS hc hs hR hS hL
  exact lv_lload F.1 F.2.1 hd (hL.at (i := 4) rfl) (k p e R s m args below meth c Q F Rt hf hlc H locs cells slots LS hc hs hR hS hL)
theorem ev_aload4 {o0 o1 o2 o3 : Option Value} {x : Nat} {r : List (Option Value)} (hd : decode K.1 pc = .ok (.aload 4, 2)) (hq : pc + 2 = q) (k : EV G l K d bc bs q (o0 :: o1 :: o2 :: o3 :: some (.ref x) :: r) (.ref x :: st) S post) : EV G l K d bc bs pc (o0 :: o1 :: o2 :: o3 :: some (.ref x) :: r) st S post := by
  subst hq
  intro p e R s m args below meth c Q F Rt hf hlc H locs cells slots LS hc hs hR hS hL
  exact lv_aload F.1 F.2.1 hd (hL.at (i := 4) rfl) (k p e R s m args below meth c Q F Rt hf hlc H locs cells slots LS hc hs hR hS hL)
theorem ev_aloadN4 {o0 o1 o2 o3 : Option Value} {r : List (Option Value)} (hd : decode K.1 pc = .ok (.aload 4, 2)) (hq : pc + 2 = q) (k : EV G l K d bc bs q (o0 :: o1 :: o2 :: o3 :: some (.null) :: r) (.null :: st) S post) : EV G l K d bc bs pc (o0 :: o1 :: o2 :: o3 :: some (.null) :: r) st S post := by
  subst hq
  intro p e R s m args below meth c Q F Rt hf hlc H locs cells slots LS hc hs hR hS hL
  exact lv_aloadN F.1 F.2.1 hd (hL.at (i := 4) rfl) (k p e R s m args below meth c Q F Rt hf hlc H locs cells slots LS hc hs hR hS hL)
theorem ev_istore4 {o0 o1 o2 o3 : Option Value} {o4 : Option Value} {x : Int32} {r : List (Option Value)} (hd : decode K.1 pc = .ok (.istore 4, 2)) (hq : pc + 2 = q) (hn : 4 < K.2.2.1) (h1 : th_c1 (o0 :: o1 :: o2 :: o3 :: o4 :: r) = true) (k : EV G l K d bc bs q (o0 :: o1 :: o2 :: o3 :: some (.int x) :: r) st S post) : EV G l K d bc bs pc (o0 :: o1 :: o2 :: o3 :: o4 :: r) (.int x :: st) S post := by
  subst hq
  intro p e R s m args below meth c Q F Rt hf hlc H locs cells slots LS hc hs hR hS hL
  exact lv_istore F.1 F.2.1 hd hL hn rfl (fun LS1 h => k p e R s m args below meth c Q F Rt hf hlc H locs cells slots LS1 hc hs hR hS (th_L.set (i := 4) (v := .int x) h1 h))
theorem ev_astore4 {o0 o1 o2 o3 : Option Value} {o4 : Option Value} {x : Nat} {r : List (Option Value)} (hd : decode K.1 pc = .ok (.astore 4, 2)) (hq : pc + 2 = q) (hn : 4 < K.2.2.1) (h1 : th_c1 (o0 :: o1 :: o2 :: o3 :: o4 :: r) = true) (k : EV G l K d bc bs q (o0 :: o1 :: o2 :: o3 :: some (.ref x) :: r) st S post) : EV G l K d bc bs pc (o0 :: o1 :: o2 :: o3 :: o4 :: r) (.ref x :: st) S post := by
  subst hq
  intro p e R s m args below meth c Q F Rt hf hlc H locs cells slots LS hc hs hR hS hL
  exact lv_astore F.1 F.2.1 hd hL hn rfl (fun LS1 h => k p e R s m args below meth c Q F Rt hf hlc H locs cells slots LS1 hc hs hR hS (th_L.set (i := 4) (v := .ref x) h1 h))
theorem ev_astoreN4 {o0 o1 o2 o3 : Option Value} {o4 : Option Value} {r : List (Option Value)} (hd : decode K.1 pc = .ok (.astore 4, 2)) (hq : pc + 2 = q) (hn : 4 < K.2.2.1) (h1 : th_c1 (o0 :: o1 :: o2 :: o3 :: o4 :: r) = true) (k : EV G l K d bc bs q (o0 :: o1 :: o2 :: o3 :: some (.null) :: r) st S post) : EV G l K d bc bs pc (o0 :: o1 :: o2 :: o3 :: o4 :: r) (.null :: st) S post := by
  subst hq
  intro p e R s m args below meth c Q F Rt hf hlc H locs cells slots LS hc hs hR hS hL
  exact lv_astoreN F.1 F.2.1 hd hL hn rfl (fun LS1 h => k p e R s m args below meth c Q F Rt hf hlc H locs cells slots LS1 hc hs hR hS (th_L.set (i := 4) (v := .null) h1 h))
theorem ev_iinc4 {o0 o1 o2 o3 : Option Value} {x v : Int32} {n : Int} {r : List (Option Value)} (hd : decode K.1 pc = .ok (.iinc 4 n, 3)) (hq : pc + 3 = q) (hn : 4 < K.2.2.1) (h1 : th_c1 (o0 :: o1 :: o2 :: o3 :: some (.int x) :: r) = true) (hv : x + Int32.ofInt n = v) (k : EV G l K d bc bs q (o0 :: o1 :: o2 :: o3 :: some (.int v) :: r) st S post) : EV G l K d bc bs pc (o0 :: o1 :: o2 :: o3 :: some (.int x) :: r) st S post := by
  subst hq
  intro p e R s m args below meth c Q F Rt hf hlc H locs cells slots LS hc hs hR hS hL
  obtain ⟨kk, hkk⟩ := List.getElem?_of_mem ((th_l_mem (G := G) (o0 :: o1 :: o2 :: o3 :: some (.int x) :: r) 0 4 (.int x)).mpr ⟨4, .int x, rfl, by omega, rfl⟩)
  exact lv_iinc F.1 F.2.1 hd hL hkk hv hn rfl (fun LS1 h => k p e R s m args below meth c Q F Rt hf hlc H locs cells slots LS1 hc hs hR hS (th_L.set (i := 4) (v := .int v) h1 h))
theorem ev_iload5 {o0 o1 o2 o3 o4 : Option Value} {x : Int32} {r : List (Option Value)} (hd : decode K.1 pc = .ok (.iload 5, 2)) (hq : pc + 2 = q) (k : EV G l K d bc bs q (o0 :: o1 :: o2 :: o3 :: o4 :: some (.int x) :: r) (.int x :: st) S post) : EV G l K d bc bs pc (o0 :: o1 :: o2 :: o3 :: o4 :: some (.int x) :: r) st S post := by
  subst hq
  intro p e R s m args below meth c Q F Rt hf hlc H locs cells slots LS hc hs hR hS hL
  exact lv_iload F.1 F.2.1 hd (hL.at (i := 5) rfl) (k p e R s m args below meth c Q F Rt hf hlc H locs cells slots LS hc hs hR hS hL)
theorem ev_lload5 {o0 o1 o2 o3 o4 : Option Value} {x : Int64} {r : List (Option Value)} (hd : decode K.1 pc = .ok (.lload 5, 2)) (hq : pc + 2 = q) (k : EV G l K d bc bs q (o0 :: o1 :: o2 :: o3 :: o4 :: some (.long x) :: r) (.long x :: st) S post) : EV G l K d bc bs pc (o0 :: o1 :: o2 :: o3 :: o4 :: some (.long x) :: r) st S post := by
  subst hq
  intro p e R s m args below meth c Q F Rt hf hlc H locs cells slots LS hc hs hR hS hL
  exact lv_lload F.1 F.2.1 hd (hL.at (i := 5) rfl) (k p e R s m args below meth c Q F Rt hf hlc H locs cells slots LS hc hs hR hS hL)
theorem ev_aload5 {o0 o1 o2 o3 o4 : Option Value} {x : Nat} {r : List (Option Value)} (hd : decode K.1 pc = .ok (.aload 5, 2)) (hq : pc + 2 = q) (k : EV G l K d bc bs q (o0 :: o1 :: o2 :: o3 :: o4 :: some (.ref x) :: r) (.ref x :: st) S post) : EV G l K d bc bs pc (o0 :: o1 :: o2 :: o3 :: o4 :: some (.ref x) :: r) st S post := by
  subst hq
  intro p e R s m args below meth c Q F Rt hf hlc H locs cells slots LS hc hs hR hS hL
  exact lv_aload F.1 F.2.1 hd (hL.at (i := 5) rfl) (k p e R s m args below meth c Q F Rt hf hlc H locs cells slots LS hc hs hR hS hL)
theorem ev_aloadN5 {o0 o1 o2 o3 o4 : Option Value} {r : List (Option Value)} (hd : decode K.1 pc = .ok (.aload 5, 2)) (hq : pc + 2 = q) (k : EV G l K d bc bs q (o0 :: o1 :: o2 :: o3 :: o4 :: some (.null) :: r) (.null :: st) S post) : EV G l K d bc bs pc (o0 :: o1 :: o2 :: o3 :: o4 :: some (.null) :: r) st S post := by
  subst hq
  intro p e R s m args below meth c Q F Rt hf hlc H locs cells slots LS hc hs hR hS hL
  exact lv_aloadN F.1 F.2.1 hd (hL.at (i := 5) rfl) (k p e R s m args below meth c Q F Rt hf hlc H locs cells slots LS hc hs hR hS hL)
theorem ev_istore5 {o0 o1 o2 o3 o4 : Option Value} {o5 : Option Value} {x : Int32} {r : List (Option Value)} (hd : decode K.1 pc = .ok (.istore 5, 2)) (hq : pc + 2 = q) (hn : 5 < K.2.2.1) (h1 : th_c1 (o0 :: o1 :: o2 :: o3 :: o4 :: o5 :: r) = true) (k : EV G l K d bc bs q (o0 :: o1 :: o2 :: o3 :: o4 :: some (.int x) :: r) st S post) : EV G l K d bc bs pc (o0 :: o1 :: o2 :: o3 :: o4 :: o5 :: r) (.int x :: st) S post := by
  subst hq
  intro p e R s m args below meth c Q F Rt hf hlc H locs cells slots LS hc hs hR hS hL
  exact lv_istore F.1 F.2.1 hd hL hn rfl (fun LS1 h => k p e R s m args below meth c Q F Rt hf hlc H locs cells slots LS1 hc hs hR hS (th_L.set (i := 5) (v := .int x) h1 h))
theorem ev_astore5 {o0 o1 o2 o3 o4 : Option Value} {o5 : Option Value} {x : Nat} {r : List (Option Value)} (hd : decode K.1 pc = .ok (.astore 5, 2)) (hq : pc + 2 = q) (hn : 5 < K.2.2.1) (h1 : th_c1 (o0 :: o1 :: o2 :: o3 :: o4 :: o5 :: r) = true) (k : EV G l K d bc bs q (o0 :: o1 :: o2 :: o3 :: o4 :: some (.ref x) :: r) st S post) : EV G l K d bc bs pc (o0 :: o1 :: o2 :: o3 :: o4 :: o5 :: r) (.ref x :: st) S post := by
  subst hq
  intro p e R s m args below meth c Q F Rt hf hlc H locs cells slots LS hc hs hR hS hL
  exact lv_astore F.1 F.2.1 hd hL hn rfl (fun LS1 h => k p e R s m args below meth c Q F Rt hf hlc H locs cells slots LS1 hc hs hR hS (th_L.set (i := 5) (v := .ref x) h1 h))
theorem ev_astoreN5 {o0 o1 o2 o3 o4 : Option Value} {o5 : Option Value} {r : List (Option Value)} (hd : decode K.1 pc = .ok (.astore 5, 2)) (hq : pc + 2 = q) (hn : 5 < K.2.2.1) (h1 : th_c1 (o0 :: o1 :: o2 :: o3 :: o4 :: o5 :: r) = true) (k : EV G l K d bc bs q (o0 :: o1 :: o2 :: o3 :: o4 :: some (.null) :: r) st S post) : EV G l K d bc bs pc (o0 :: o1 :: o2 :: o3 :: o4 :: o5 :: r) (.null :: st) S post := by
  subst hq
  intro p e R s m args below meth c Q F Rt hf hlc H locs cells slots LS hc hs hR hS hL
  exact lv_astoreN F.1 F.2.1 hd hL hn rfl (fun LS1 h => k p e R s m args below meth c Q F Rt hf hlc H locs cells slots LS1 hc hs hR hS (th_L.set (i := 5) (v := .null) h1 h))
theorem ev_iinc5 {o0 o1 o2 o3 o4 : Option Value} {x v : Int32} {n : Int} {r : List (Option Value)} (hd : decode K.1 pc = .ok (.iinc 5 n, 3)) (hq : pc + 3 = q) (hn : 5 < K.2.2.1) (h1 : th_c1 (o0 :: o1 :: o2 :: o3 :: o4 :: some (.int x) :: r) = true) (hv : x + Int32.ofInt n = v) (k : EV G l K d bc bs q (o0 :: o1 :: o2 :: o3 :: o4 :: some (.int v) :: r) st S post) : EV G l K d bc bs pc (o0 :: o1 :: o2 :: o3 :: o4 :: some (.int x) :: r) st S post := by
  subst hq
  intro p e R s m args below meth c Q F Rt hf hlc H locs cells slots LS hc hs hR hS hL
  obtain ⟨kk, hkk⟩ := List.getElem?_of_mem ((th_l_mem (G := G) (o0 :: o1 :: o2 :: o3 :: o4 :: some (.int x) :: r) 0 5 (.int x)).mpr ⟨5, .int x, rfl, by omega, rfl⟩)
  exact lv_iinc F.1 F.2.1 hd hL hkk hv hn rfl (fun LS1 h => k p e R s m args below meth c Q F Rt hf hlc H locs cells slots LS1 hc hs hR hS (th_L.set (i := 5) (v := .int v) h1 h))
theorem ev_iload6 {o0 o1 o2 o3 o4 o5 : Option Value} {x : Int32} {r : List (Option Value)} (hd : decode K.1 pc = .ok (.iload 6, 2)) (hq : pc + 2 = q) (k : EV G l K d bc bs q (o0 :: o1 :: o2 :: o3 :: o4 :: o5 :: some (.int x) :: r) (.int x :: st) S post) : EV G l K d bc bs pc (o0 :: o1 :: o2 :: o3 :: o4 :: o5 :: some (.int x) :: r) st S post := by
  subst hq
  intro p e R s m args below meth c Q F Rt hf hlc H locs cells slots LS hc hs hR hS hL
  exact lv_iload F.1 F.2.1 hd (hL.at (i := 6) rfl) (k p e R s m args below meth c Q F Rt hf hlc H locs cells slots LS hc hs hR hS hL)
theorem ev_lload6 {o0 o1 o2 o3 o4 o5 : Option Value} {x : Int64} {r : List (Option Value)} (hd : decode K.1 pc = .ok (.lload 6, 2)) (hq : pc + 2 = q) (k : EV G l K d bc bs q (o0 :: o1 :: o2 :: o3 :: o4 :: o5 :: some (.long x) :: r) (.long x :: st) S post) : EV G l K d bc bs pc (o0 :: o1 :: o2 :: o3 :: o4 :: o5 :: some (.long x) :: r) st S post := by
  subst hq
  intro p e R s m args below meth c Q F Rt hf hlc H locs cells slots LS hc hs hR hS hL
  exact lv_lload F.1 F.2.1 hd (hL.at (i := 6) rfl) (k p e R s m args below meth c Q F Rt hf hlc H locs cells slots LS hc hs hR hS hL)
theorem ev_aload6 {o0 o1 o2 o3 o4 o5 : Option Value} {x : Nat} {r : List (Option Value)} (hd : decode K.1 pc = .ok (.aload 6, 2)) (hq : pc + 2 = q) (k : EV G l K d bc bs q (o0 :: o1 :: o2 :: o3 :: o4 :: o5 :: some (.ref x) :: r) (.ref x :: st) S post) : EV G l K d bc bs pc (o0 :: o1 :: o2 :: o3 :: o4 :: o5 :: some (.ref x) :: r) st S post := by
  subst hq
  intro p e R s m args below meth c Q F Rt hf hlc H locs cells slots LS hc hs hR hS hL
  exact lv_aload F.1 F.2.1 hd (hL.at (i := 6) rfl) (k p e R s m args below meth c Q F Rt hf hlc H locs cells slots LS hc hs hR hS hL)
theorem ev_aloadN6 {o0 o1 o2 o3 o4 o5 : Option Value} {r : List (Option Value)} (hd : decode K.1 pc = .ok (.aload 6, 2)) (hq : pc + 2 = q) (k : EV G l K d bc bs q (o0 :: o1 :: o2 :: o3 :: o4 :: o5 :: some (.null) :: r) (.null :: st) S post) : EV G l K d bc bs pc (o0 :: o1 :: o2 :: o3 :: o4 :: o5 :: some (.null) :: r) st S post := by
  subst hq
  intro p e R s m args below meth c Q F Rt hf hlc H locs cells slots LS hc hs hR hS hL
  exact lv_aloadN F.1 F.2.1 hd (hL.at (i := 6) rfl) (k p e R s m args below meth c Q F Rt hf hlc H locs cells slots LS hc hs hR hS hL)
theorem ev_istore6 {o0 o1 o2 o3 o4 o5 : Option Value} {o6 : Option Value} {x : Int32} {r : List (Option Value)} (hd : decode K.1 pc = .ok (.istore 6, 2)) (hq : pc + 2 = q) (hn : 6 < K.2.2.1) (h1 : th_c1 (o0 :: o1 :: o2 :: o3 :: o4 :: o5 :: o6 :: r) = true) (k : EV G l K d bc bs q (o0 :: o1 :: o2 :: o3 :: o4 :: o5 :: some (.int x) :: r) st S post) : EV G l K d bc bs pc (o0 :: o1 :: o2 :: o3 :: o4 :: o5 :: o6 :: r) (.int x :: st) S post := by
  subst hq
  intro p e R s m args below meth c Q F Rt hf hlc H locs cells slots LS hc hs hR hS hL
  exact lv_istore F.1 F.2.1 hd hL hn rfl (fun LS1 h => k p e R s m args below meth c Q F Rt hf hlc H locs cells slots LS1 hc hs hR hS (th_L.set (i := 6) (v := .int x) h1 h))
theorem ev_astore6 {o0 o1 o2 o3 o4 o5 : Option Value} {o6 : Option Value} {x : Nat} {r : List (Option Value)} (hd : decode K.1 pc = .ok (.astore 6, 2)) (hq : pc + 2 = q) (hn : 6 < K.2.2.1) (h1 : th_c1 (o0 :: o1 :: o2 :: o3 :: o4 :: o5 :: o6 :: r) = true) (k : EV G l K d bc bs q (o0 :: o1 :: o2 :: o3 :: o4 :: o5 :: some (.ref x) :: r) st S post) : EV G l K d bc bs pc (o0 :: o1 :: o2 :: o3 :: o4 :: o5 :: o6 :: r) (.ref x :: st) S post := by
  subst hq
  intro p e R s m args below meth c Q F Rt hf hlc H locs cells slots LS hc hs hR hS hL
  exact lv_astore F.1 F.2.1 hd hL hn rfl (fun LS1 h => k p e R s m args below meth c Q F Rt hf hlc H locs cells slots LS1 hc hs hR hS (th_L.set (i := 6) (v := .ref x) h1 h))
theorem ev_astoreN6 {o0 o1 o2 o3 o4 o5 : Option Value} {o6 : Option Value} {r : List (Option Value)} (hd : decode K.1 pc = .ok (.astore 6, 2)) (hq : pc + 2 = q) (hn : 6 < K.2.2.1) (h1 : th_c1 (o0 :: o1 :: o2 :: o3 :: o4 :: o5 :: o6 :: r) = true) (k : EV G l K d bc bs q (o0 :: o1 :: o2 :: o3 :: o4 :: o5 :: some (.null) :: r) st S post) : EV G l K d bc bs pc (o0 :: o1 :: o2 :: o3 :: o4 :: o5 :: o6 :: r) (.null :: st) S post := by
  subst hq
  intro p e R s m args below meth c Q F Rt hf hlc H locs cells slots LS hc hs hR hS hL
  exact lv_astoreN F.1 F.2.1 hd hL hn rfl (fun LS1 h => k p e R s m args below meth c Q F Rt hf hlc H locs cells slots LS1 hc hs hR hS (th_L.set (i := 6) (v := .null) h1 h))
theorem ev_iinc6 {o0 o1 o2 o3 o4 o5 : Option Value} {x v : Int32} {n : Int} {r : List (Option Value)} (hd : decode K.1 pc = .ok (.iinc 6 n, 3)) (hq : pc + 3 = q) (hn : 6 < K.2.2.1) (h1 : th_c1 (o0 :: o1 :: o2 :: o3 :: o4 :: o5 :: some (.int x) :: r) = true) (hv : x + Int32.ofInt n = v) (k : EV G l K d bc bs q (o0 :: o1 :: o2 :: o3 :: o4 :: o5 :: some (.int v) :: r) st S post) : EV G l K d bc bs pc (o0 :: o1 :: o2 :: o3 :: o4 :: o5 :: some (.int x) :: r) st S post := by
  subst hq
  intro p e R s m args below meth c Q F Rt hf hlc H locs cells slots LS hc hs hR hS hL
  obtain ⟨kk, hkk⟩ := List.getElem?_of_mem ((th_l_mem (G := G) (o0 :: o1 :: o2 :: o3 :: o4 :: o5 :: some (.int x) :: r) 0 6 (.int x)).mpr ⟨6, .int x, rfl, by omega, rfl⟩)
  exact lv_iinc F.1 F.2.1 hd hL hkk hv hn rfl (fun LS1 h => k p e R s m args below meth c Q F Rt hf hlc H locs cells slots LS1 hc hs hR hS (th_L.set (i := 6) (v := .int v) h1 h))
theorem ev_iload7 {o0 o1 o2 o3 o4 o5 o6 : Option Value} {x : Int32} {r : List (Option Value)} (hd : decode K.1 pc = .ok (.iload 7, 2)) (hq : pc + 2 = q) (k : EV G l K d bc bs q (o0 :: o1 :: o2 :: o3 :: o4 :: o5 :: o6 :: some (.int x) :: r) (.int x :: st) S post) : EV G l K d bc bs pc (o0 :: o1 :: o2 :: o3 :: o4 :: o5 :: o6 :: some (.int x) :: r) st S post := by
  subst hq
  intro p e R s m args below meth c Q F Rt hf hlc H locs cells slots LS hc hs hR hS hL
  exact lv_iload F.1 F.2.1 hd (hL.at (i := 7) rfl) (k p e R s m args below meth c Q F Rt hf hlc H locs cells slots LS hc hs hR hS hL)
theorem ev_lload7 {o0 o1 o2 o3 o4 o5 o6 : Option Value} {x : Int64} {r : List (Option Value)} (hd : decode K.1 pc = .ok (.lload 7, 2)) (hq : pc + 2 = q) (k : EV G l K d bc bs q (o0 :: o1 :: o2 :: o3 :: o4 :: o5 :: o6 :: some (.long x) :: r) (.long x :: st) S post) : EV G l K d bc bs pc (o0 :: o1 :: o2 :: o3 :: o4 :: o5 :: o6 :: some (.long x) :: r) st S post := by
  subst hq
  intro p e R s m args below meth c Q F Rt hf hlc H locs cells slots LS hc hs hR hS hL
  exact lv_lload F.1 F.2.1 hd (hL.at (i := 7) rfl) (k p e R s m args below meth c Q F Rt hf hlc H locs cells slots LS hc hs hR hS hL)
theorem ev_aload7 {o0 o1 o2 o3 o4 o5 o6 : Option Value} {x : Nat} {r : List (Option Value)} (hd : decode K.1 pc = .ok (.aload 7, 2)) (hq : pc + 2 = q) (k : EV G l K d bc bs q (o0 :: o1 :: o2 :: o3 :: o4 :: o5 :: o6 :: some (.ref x) :: r) (.ref x :: st) S post) : EV G l K d bc bs pc (o0 :: o1 :: o2 :: o3 :: o4 :: o5 :: o6 :: some (.ref x) :: r) st S post := by
  subst hq
  intro p e R s m args below meth c Q F Rt hf hlc H locs cells slots LS hc hs hR hS hL
  exact lv_aload F.1 F.2.1 hd (hL.at (i := 7) rfl) (k p e R s m args below meth c Q F Rt hf hlc H locs cells slots LS hc hs hR hS hL)
theorem ev_aloadN7 {o0 o1 o2 o3 o4 o5 o6 : Option Value} {r : List (Option Value)} (hd : decode K.1 pc = .ok (.aload 7, 2)) (hq : pc + 2 = q) (k : EV G l K d bc bs q (o0 :: o1 :: o2 :: o3 :: o4 :: o5 :: o6 :: some (.null) :: r) (.null :: st) S post) : EV G l K d bc bs pc (o0 :: o1 :: o2 :: o3 :: o4 :: o5 :: o6 :: some (.null) :: r) st S post := by
  subst hq
  intro p e R s m args below meth c Q F Rt hf hlc H locs cells slots LS hc hs hR hS hL
  exact lv_aloadN F.1 F.2.1 hd (hL.at (i := 7) rfl) (k p e R s m args below meth c Q F Rt hf hlc H locs cells slots LS hc hs hR hS hL)
theorem ev_istore7 {o0 o1 o2 o3 o4 o5 o6 : Option Value} {o7 : Option Value} {x : Int32} {r : List (Option Value)} (hd : decode K.1 pc = .ok (.istore 7, 2)) (hq : pc + 2 = q) (hn : 7 < K.2.2.1) (h1 : th_c1 (o0 :: o1 :: o2 :: o3 :: o4 :: o5 :: o6 :: o7 :: r) = true) (k : EV G l K d bc bs q (o0 :: o1 :: o2 :: o3 :: o4 :: o5 :: o6 :: some (.int x) :: r) st S post) : EV G l K d bc bs pc (o0 :: o1 :: o2 :: o3 :: o4 :: o5 :: o6 :: o7 :: r) (.int x :: st) S post := by
  subst hq
  intro p e R s m args below meth c Q F Rt hf hlc H locs cells slots LS hc hs hR hS hL
  exact lv_istore F.1 F.2.1 hd hL hn rfl (fun LS1 h => k p e R s m args below meth c Q F Rt hf hlc H locs cells slots LS1 hc hs hR hS (th_L.set (i := 7) (v := .int x) h1 h))
theorem ev_astore7 {o0 o1 o2 o3 o4 o5 o6 : Option Value} {o7 : Option Value} {x : Nat} {r : List (Option Value)} (hd : decode K.1 pc = .ok (.astore 7, 2)) (hq : pc + 2 = q) (hn : 7 < K.2.2.1) (h1 : th_c1 (o0 :: o1 :: o2 :: o3 :: o4 :: o5 :: o6 :: o7 :: r) = true) (k : EV G l K d bc bs q (o0 :: o1 :: o2 :: o3 :: o4 :: o5 :: o6 :: some (.ref x) :: r) st S post) : EV G l K d bc bs pc (o0 :: o1 :: o2 :: o3 :: o4 :: o5 :: o6 :: o7 :: r) (.ref x :: st) S post := by
  subst hq
  intro p e R s m args below meth c Q F Rt hf hlc H locs cells slots LS hc hs hR hS hL
  exact lv_astore F.1 F.2.1 hd hL hn rfl (fun LS1 h => k p e R s m args below meth c Q F Rt hf hlc H locs cells slots LS1 hc hs hR hS (th_L.set (i := 7) (v := .ref x) h1 h))
theorem ev_astoreN7 {o0 o1 o2 o3 o4 o5 o6 : Option Value} {o7 : Option Value} {r : List (Option Value)} (hd : decode K.1 pc = .ok (.astore 7, 2)) (hq : pc + 2 = q) (hn : 7 < K.2.2.1) (h1 : th_c1 (o0 :: o1 :: o2 :: o3 :: o4 :: o5 :: o6 :: o7 :: r) = true) (k : EV G l K d bc bs q (o0 :: o1 :: o2 :: o3 :: o4 :: o5 :: o6 :: some (.null) :: r) st S post) : EV G l K d bc bs pc (o0 :: o1 :: o2 :: o3 :: o4 :: o5 :: o6 :: o7 :: r) (.null :: st) S post := by
  subst hq
  intro p e R s m args below meth c Q F Rt hf hlc H locs cells slots LS hc hs hR hS hL
  exact lv_astoreN F.1 F.2.1 hd hL hn rfl (fun LS1 h => k p e R s m args below meth c Q F Rt hf hlc H locs cells slots LS1 hc hs hR hS (th_L.set (i := 7) (v := .null) h1 h))
theorem ev_iinc7 {o0 o1 o2 o3 o4 o5 o6 : Option Value} {x v : Int32} {n : Int} {r : List (Option Value)} (hd : decode K.1 pc = .ok (.iinc 7 n, 3)) (hq : pc + 3 = q) (hn : 7 < K.2.2.1) (h1 : th_c1 (o0 :: o1 :: o2 :: o3 :: o4 :: o5 :: o6 :: some (.int x) :: r) = true) (hv : x + Int32.ofInt n = v) (k : EV G l K d bc bs q (o0 :: o1 :: o2 :: o3 :: o4 :: o5 :: o6 :: some (.int v) :: r) st S post) : EV G l K d bc bs pc (o0 :: o1 :: o2 :: o3 :: o4 :: o5 :: o6 :: some (.int x) :: r) st S post := by
  subst hq
  intro p e R s m args below meth c Q F Rt hf hlc H locs cells slots LS hc hs hR hS hL
  obtain ⟨kk, hkk⟩ := List.getElem?_of_mem ((th_l_mem (G := G) (o0 :: o1 :: o2 :: o3 :: o4 :: o5 :: o6 :: some (.int x) :: r) 0 7 (.int x)).mpr ⟨7, .int x, rfl, by omega, rfl⟩)
  exact lv_iinc F.1 F.2.1 hd hL hkk hv hn rfl (fun LS1 h => k p e R s m args below meth c Q F Rt hf hlc H locs cells slots LS1 hc hs hR hS (th_L.set (i := 7) (v := .int v) h1 h))
theorem ev_iload8 {o0 o1 o2 o3 o4 o5 o6 o7 : Option Value} {x : Int32} {r : List (Option Value)} (hd : decode K.1 pc = .ok (.iload 8, 2)) (hq : pc + 2 = q) (k : EV G l K d bc bs q (o0 :: o1 :: o2 :: o3 :: o4 :: o5 :: o6 :: o7 :: some (.int x) :: r) (.int x :: st) S post) : EV G l K d bc bs pc (o0 :: o1 :: o2 :: o3 :: o4 :: o5 :: o6 :: o7 :: some (.int x) :: r) st S post := by
  subst hq
  intro p e R s m args below meth c Q F Rt hf hlc H locs cells slots LS hc hs hR hS hL
  exact lv_iload F.1 F.2.1 hd (hL.at (i := 8) rfl) (k p e R s m args below meth c Q F Rt hf hlc H locs cells slots LS hc hs hR hS hL)
theorem ev_lload8 {o0 o1 o2 o3 o4 o5 o6 o7 : Option Value} {x : Int64} {r : List (Option Value)} (hd : decode K.1 pc = .ok (.lload 8, 2)) (hq : pc + 2 = q) (k : EV G l K d bc bs q (o0 :: o1 :: o2 :: o3 :: o4 :: o5 :: o6 :: o7 :: some (.long x) :: r) (.long x :: st) S post) : EV G l K d bc bs pc (o0 :: o1 :: o2 :: o3 :: o4 :: o5 :: o6 :: o7 :: some (.long x) :: r) st S post := by
  subst hq
  intro p e R s m args below meth c Q F Rt hf hlc H locs cells slots LS hc hs hR hS hL
  exact lv_lload F.1 F.2.1 hd (hL.at (i := 8) rfl) (k p e R s m args below meth c Q F Rt hf hlc H locs cells slots LS hc hs hR hS hL)
theorem ev_aload8 {o0 o1 o2 o3 o4 o5 o6 o7 : Option Value} {x : Nat} {r : List (Option Value)} (hd : decode K.1 pc = .ok (.aload 8, 2)) (hq : pc + 2 = q) (k : EV G l K d bc bs q (o0 :: o1 :: o2 :: o3 :: o4 :: o5 :: o6 :: o7 :: some (.ref x) :: r) (.ref x :: st) S post) : EV G l K d bc bs pc (o0 :: o1 :: o2 :: o3 :: o4 :: o5 :: o6 :: o7 :: some (.ref x) :: r) st S post := by
  subst hq
  intro p e R s m args below meth c Q F Rt hf hlc H locs cells slots LS hc hs hR hS hL
  exact lv_aload F.1 F.2.1 hd (hL.at (i := 8) rfl) (k p e R s m args below meth c Q F Rt hf hlc H locs cells slots LS hc hs hR hS hL)
theorem ev_aloadN8 {o0 o1 o2 o3 o4 o5 o6 o7 : Option Value} {r : List (Option Value)} (hd : decode K.1 pc = .ok (.aload 8, 2)) (hq : pc + 2 = q) (k : EV G l K d bc bs q (o0 :: o1 :: o2 :: o3 :: o4 :: o5 :: o6 :: o7 :: some (.null) :: r) (.null :: st) S post) : EV G l K d bc bs pc (o0 :: o1 :: o2 :: o3 :: o4 :: o5 :: o6 :: o7 :: some (.null) :: r) st S post := by
  subst hq
  intro p e R s m args below meth c Q F Rt hf hlc H locs cells slots LS hc hs hR hS hL
  exact lv_aloadN F.1 F.2.1 hd (hL.at (i := 8) rfl) (k p e R s m args below meth c Q F Rt hf hlc H locs cells slots LS hc hs hR hS hL)
theorem ev_istore8 {o0 o1 o2 o3 o4 o5 o6 o7 : Option Value} {o8 : Option Value} {x : Int32} {r : List (Option Value)} (hd : decode K.1 pc = .ok (.istore 8, 2)) (hq : pc + 2 = q) (hn : 8 < K.2.2.1) (h1 : th_c1 (o0 :: o1 :: o2 :: o3 :: o4 :: o5 :: o6 :: o7 :: o8 :: r) = true) (k : EV G l K d bc bs q (o0 :: o1 :: o2 :: o3 :: o4 :: o5 :: o6 :: o7 :: some (.int x) :: r) st S post) : EV G l K d bc bs pc (o0 :: o1 :: o2 :: o3 :: o4 :: o5 :: o6 :: o7 :: o8 :: r) (.int x :: st) S post := by
  subst hq
  intro p e R s m args below meth c Q F Rt hf hlc H locs cells slots LS hc hs hR hS hL
  exact lv_istore F.1 F.2.1 hd hL hn rfl (fun LS1 h => k p e R s m args below meth c Q F Rt hf hlc H locs cells slots LS1 hc hs hR hS (th_L.set (i := 8) (v := .int x) h1 h))
theorem ev_astore8 {o0 o1 o2 o3 o4 o5 o6 o7 : Option Value} {o8 : Option Value} {x : Nat} {r : List (Option Value)} (hd : decode K.1 pc = .ok (.astore 8, 2)) (hq : pc + 2 = q) (hn : 8 < K.2.2.1) (h1 : th_c1 (o0 :: o1 :: o2 :: o3 :: o4 :: o5 :: o6 :: o7 :: o8 :: r) = true) (k : EV G l K d bc bs q (o0 :: o1 :: o2 :: o3 :: o4 :: o5 :: o6 :: o7 :: some (.ref x) :: r) st S post) : EV G l K d bc bs pc (o0 :: o1 :: o2 :: o3 :: o4 :: o5 :: o6 :: o7 :: o8 :: r) (.ref x :: st) S post := by
  subst hq
  intro p e R s m args below meth c Q F Rt hf hlc H locs cells slots LS hc hs hR hS hL
  exact lv_astore F.1 F.2.1 hd hL hn rfl (fun LS1 h => k p e R s m args below meth c Q F Rt hf hlc H locs cells slots LS1 hc hs hR hS (th_L.set (i := 8) (v := .ref x) h1 h))
theorem ev_astoreN8 {o0 o1 o2 o3 o4 o5 o6 o7 : Option Value} {o8 : Option Value} {r : List (Option Value)} (hd : decode K.1 pc = .ok (.astore 8, 2)) (hq : pc + 2 = q) (hn : 8 < K.2.2.1) (h1 : th_c1 (o0 :: o1 :: o2 :: o3 :: o4 :: o5 :: o6 :: o7 :: o8 :: r) = true) (k : EV G l K d bc bs q (o0 :: o1 :: o2 :: o3 :: o4 :: o5 :: o6 :: o7 :: some (.null) :: r) st S post) : EV G l K d bc bs pc (o0 :: o1 :: o2 :: o3 :: o4 :: o5 :: o6 :: o7 :: o8 :: r) (.null :: st) S post := by
  subst hq
  intro p e R s m args below meth c Q F Rt hf hlc H locs cells slots LS hc hs hR hS hL
  exact lv_astoreN F.1 F.2.1 hd hL hn rfl (fun LS1 h => k p e R s m args below meth c Q F Rt hf hlc H locs cells slots LS1 hc hs hR hS (th_L.set (i := 8) (v := .null) h1 h))
theorem ev_iinc8 {o0 o1 o2 o3 o4 o5 o6 o7 : Option Value} {x v : Int32} {n : Int} {r : List (Option Value)} (hd : decode K.1 pc = .ok (.iinc 8 n, 3)) (hq : pc + 3 = q) (hn : 8 < K.2.2.1) (h1 : th_c1 (o0 :: o1 :: o2 :: o3 :: o4 :: o5 :: o6 :: o7 :: some (.int x) :: r) = true) (hv : x + Int32.ofInt n = v) (k : EV G l K d bc bs q (o0 :: o1 :: o2 :: o3 :: o4 :: o5 :: o6 :: o7 :: some (.int v) :: r) st S post) : EV G l K d bc bs pc (o0 :: o1 :: o2 :: o3 :: o4 :: o5 :: o6 :: o7 :: some (.int x) :: r) st S post := by
  subst hq
  intro p e R s m args below meth c Q F Rt hf hlc H locs cells slots LS hc hs hR hS hL
  obtain ⟨kk, hkk⟩ := List.getElem?_of_mem ((th_l_mem (G := G) (o0 :: o1 :: o2 :: o3 :: o4 :: o5 :: o6 :: o7 :: some (.int x) :: r) 0 8 (.int x)).mpr ⟨8, .int x, rfl, by omega, rfl⟩)
  exact lv_iinc F.1 F.2.1 hd hL hkk hv hn rfl (fun LS1 h => k p e R s m args below meth c Q F Rt hf hlc H locs cells slots LS1 hc hs hR hS (th_L.set (i := 8) (v := .int v) h1 h))
theorem ev_iload9 {o0 o1 o2 o3 o4 o5 o6 o7 o8 : Option Value} {x : Int32} {r : List (Option Value)} (hd : decode K.1 pc = .ok (.iload 9, 2)) (hq : pc + 2 = q) (k : EV G l K d bc bs q (o0 :: o1 :: o2 :: o3 :: o4 :: o5 :: o6 :: o7 :: o8 :: some (.int x) :: r) (.int x :: st) S post) : EV G l K d bc bs pc (o0 :: o1 :: o2 :: o3 :: o4 :: o5 :: o6 :: o7 :: o8 :: some (.int x) :: r) st S post := by
  subst hq
  intro p e R s m args below meth c Q F Rt hf hlc H locs cells slots LS hc hs hR hS hL
  exact lv_iload F.1 F.2.1 hd (hL.at (i := 9) rfl) (k p e R s m args below meth c Q F Rt hf hlc H locs cells slots LS hc hs hR hS hL)
theorem ev_lload9 {o0 o1 o2 o3 o4 o5 o6 o7 o8 : Option Value} {x : Int64} {r : List (Option Value)} (hd : decode K.1 pc = .ok (.lload 9, 2)) (hq : pc + 2 = q) (k : EV G l K d bc bs q (o0 :: o1 :: o2 :: o3 :: o4 :: o5 :: o6 :: o7 :: o8 :: some (.long x) :: r) (.long x :: st) S post) : EV G l K d bc bs pc (o0 :: o1 :: o2 :: o3 :: o4 :: o5 :: o6 :: o7 :: o8 :: some (.long x) :: r) st S post := by
  subst hq
  intro p e R s m args below meth c Q F Rt hf hlc H locs cells slots LS hc hs hR hS hL
  exact lv_lload F.1 F.2.1 hd (hL.at (i := 9) rfl) (k p e R s m args below meth c Q F Rt hf hlc H locs cells slots LS hc hs hR hS hL)
theorem ev_aload9 {o0 o1 o2 o3 o4 o5 o6 o7 o8 : Option Value} {x : Nat} {r : List (Option Value)} (hd : decode K.1 pc = .ok (.aload 9, 2)) (hq : pc + 2 = q) (k : EV G l K d bc bs q (o0 :: o1 :: o2 :: o3 :: o4 :: o5 :: o6 :: o7 :: o8 :: some (.ref x) :: r) (.ref x :: st) S post) : EV G l K d bc bs pc (o0 :: o1 :: o2 :: o3 :: o4 :: o5 :: o6 :: o7 :: o8 :: some (.ref x) :: r) st S post := by
  subst hq
  intro p e R s m args below meth c Q F Rt hf hlc H locs cells slots LS hc hs hR hS hL
  exact lv_aload F.1 F.2.1 hd (hL.at (i := 9) rfl) (k p e R s m args below meth c Q F Rt hf hlc H locs cells slots LS hc hs hR hS hL)
theorem ev_aloadN9 {o0 o1 o2 o3 o4 o5 o6 o7 o8 : Option Value} {r : List (Option Value)} (hd : decode K.1 pc = .ok (.aload 9, 2)) (hq : pc + 2 = q) (k : EV G l K d bc bs q (o0 :: o1 :: o2 :: o3 :: o4 :: o5 :: o6 :: o7 :: o8 :: some (.null) :: r) (.null :: st) S post) : EV G l K d bc bs pc (o0 :: o1 :: o2 :: o3 :: o4 :: o5 :: o6 :: o7 :: o8 :: some (.null) :: r) st S post := by
  subst hq
  intro p e R s m args below meth c Q F Rt hf hlc H locs cells slots LS hc hs hR hS hL
  exact lv_aloadN F.1 F.2.1 hd (hL.at (i := 9) rfl) (k p e R s m args below meth c Q F Rt hf hlc H locs cells slots LS hc hs hR hS hL)
theorem ev_istore9 {o0 o1 o2 o3 o4 o5 o6 o7 o8 : Option Value} {o9 : Option Value} {x : Int32} {r : List (Option Value)} (hd : decode K.1 pc = .ok (.istore 9, 2)) (hq : pc + 2 = q) (hn : 9 < K.2.2.1) (h1 : th_c1 (o0 :: o1 :: o2 :: o3 :: o4 :: o5 :: o6 :: o7 :: o8 :: o9 :: r) = true) (k : EV G l K d bc bs q (o0 :: o1 :: o2 :: o3 :: o4 :: o5 :: o6 :: o7 :: o8 :: some (.int x) :: r) st S post) : EV G l K d bc bs pc (o0 :: o1 :: o2 :: o3 :: o4 :: o5 :: o6 :: o7 :: o8 :: o9 :: r) (.int x :: st) S post := by
  subst hq
  intro p e R s m args below meth c Q F Rt hf hlc H locs cells slots LS hc hs hR hS hL
  exact lv_istore F.1 F.2.1 hd hL hn rfl (fun LS1 h => k p e R s m args below meth c Q F Rt hf hlc H locs cells slots LS1 hc hs hR hS (th_L.set (i := 9) (v := .int x) h1 h))
theorem ev_astore9 {o0 o1 o2 o3 o4 o5 o6 o7 o8 : Option Value} {o9 : Option Value} {x : Nat} {r : List (Option Value)} (hd : decode K.1 pc = .ok (.astore 9, 2)) (hq : pc + 2 = q) (hn : 9 < K.2.2.1) (h1 : th_c1 (o0 :: o1 :: o2 :: o3 :: o4 :: o5 :: o6 :: o7 :: o8 :: o9 :: r) = true) (k : EV G l K d bc bs q (o0 :: o1 :: o2 :: o3 :: o4 :: o5 :: o6 :: o7 :: o8 :: some (.ref x) :: r) st S post) : EV G l K d bc bs pc (o0 :: o1 :: o2 :: o3 :: o4 :: o5 :: o6 :: o7 :: o8 :: o9 :: r) (.ref x :: st) S post := by
  subst hq
  intro p e R s m args below meth c Q F Rt hf hlc H locs cells slots LS hc hs hR hS hL
  exact lv_astore F.1 F.2.1 hd hL hn rfl (fun LS1 h => k p e R s m args below meth c Q F Rt hf hlc H locs cells slots LS1 hc hs hR hS (th_L.set (i := 9) (v := .ref x) h1 h))
theorem ev_astoreN9 {o0 o1 o2 o3 o4 o5 o6 o7 o8 : Option Value} {o9 : Option Value} {r : List (Option Value)} (hd : decode K.1 pc = .ok (.astore 9, 2)) (hq : pc + 2 = q) (hn : 9 < K.2.2.1) (h1 : th_c1 (o0 :: o1 :: o2 :: o3 :: o4 :: o5 :: o6 :: o7 :: o8 :: o9 :: r) = true) (k : EV G l K d bc bs q (o0 :: o1 :: o2 :: o3 :: o4 :: o5 :: o6 :: o7 :: o8 :: some (.null) :: r) st S post) : EV G l K d bc bs pc (o0 :: o1 :: o2 :: o3 :: o4 :: o5 :: o6 :: o7 :: o8 :: o9 :: r) (.null :: st) S post := by
  subst hq
  intro p e R s m args below meth c Q F Rt hf hlc H locs cells slots LS hc hs hR hS hL
  exact lv_astoreN F.1 F.2.1 hd hL hn rfl (fun LS1 h => k p e R s m args below meth c Q F Rt hf hlc H locs cells slots LS1 hc hs hR hS (th_L.set (i := 9) (v := .null) h1 h))
theorem ev_iinc9 {o0 o1 o2 o3 o4 o5 o6 o7 o8 : Option Value} {x v : Int32} {n : Int} {r : List (Option Value)} (hd : decode K.1 pc = .ok (.iinc 9 n, 3)) (hq : pc + 3 = q) (hn : 9 < K.2.2.1) (h1 : th_c1 (o0 :: o1 :: o2 :: o3 :: o4 :: o5 :: o6 :: o7 :: o8 :: some (.int x) :: r) = true) (hv : x + Int32.ofInt n = v) (k : EV G l K d bc bs q (o0 :: o1 :: o2 :: o3 :: o4 :: o5 :: o6 :: o7 :: o8 :: some (.int v) :: r) st S post) : EV G l K d bc bs pc (o0 :: o1 :: o2 :: o3 :: o4 :: o5 :: o6 :: o7 :: o8 :: some (.int x) :: r) st S post := by
  subst hq
  intro p e R s m args below meth c Q F Rt hf hlc H locs cells slots LS hc hs hR hS hL
  obtain ⟨kk, hkk⟩ := List.getElem?_of_mem ((th_l_mem (G := G) (o0 :: o1 :: o2 :: o3 :: o4 :: o5 :: o6 :: o7 :: o8 :: some (.int x) :: r) 0 9 (.int x)).mpr ⟨9, .int x, rfl, by omega, rfl⟩)
  exact lv_iinc F.1 F.2.1 hd hL hkk hv hn rfl (fun LS1 h => k p e R s m args below meth c Q F Rt hf hlc H locs cells slots LS1 hc hs hR hS (th_L.set (i := 9) (v := .int v) h1 h))
theorem ev_iload10 {o0 o1 o2 o3 o4 o5 o6 o7 o8 o9 : Option Value} {x : Int32} {r : List (Option Value)} (hd : decode K.1 pc = .ok (.iload 10, 2)) (hq : pc + 2 = q) (k : EV G l K d bc bs q (o0 :: o1 :: o2 :: o3 :: o4 :: o5 :: o6 :: o7 :: o8 :: o9 :: some (.int x) :: r) (.int x :: st) S post) : EV G l K d bc bs pc (o0 :: o1 :: o2 :: o3 :: o4 :: o5 :: o6 :: o7 :: o8 :: o9 :: some (.int x) :: r) st S post := by
  subst hq
  intro p e R s m args below meth c Q F Rt hf hlc H locs cells slots LS hc hs hR hS hL
  exact lv_iload F.1 F.2.1 hd (hL.at (i := 10) rfl) (k p e R s m args below meth c Q F Rt hf hlc H locs cells slots LS hc hs hR hS hL)
theorem ev_lload10 {o0 o1 o2 o3 o4 o5 o6 o7 o8 o9 : Option Value} {x : Int64} {r : List (Option Value)} (hd : decode K.1 pc = .ok (.lload 10, 2)) (hq : pc + 2 = q) (k : EV G l K d bc bs q (o0 :: o1 :: o2 :: o3 :: o4 :: o5 :: o6 :: o7 :: o8 :: o9 :: some (.long x) :: r) (.long x :: st) S post) : EV G l K d bc bs pc (o0 :: o1 :: o2 :: o3 :: o4 :: o5 :: o6 :: o7 :: o8 :: o9 :: some (.long x) :: r) st S post := by
  subst hq
  intro p e R s m args below meth c Q F Rt hf hlc H locs cells slots LS hc hs hR hS hL
  exact lv_lload F.1 F.2.1 hd (hL.at (i := 10) rfl) (k p e R s m args below meth c Q F Rt hf hlc H locs cells slots LS hc hs hR hS hL)
theorem ev_aload10 {o0 o1 o2 o3 o4 o5 o6 o7 o8 o9 : Option Value} {x : Nat} {r : List (Option Value)} (hd : decode K.1 pc = .ok (.aload 10, 2)) (hq : pc + 2 = q) (k : EV G l K d bc bs q (o0 :: o1 :: o2 :: o3 :: o4 :: o5 :: o6 :: o7 :: o8 :: o9 :: some (.ref x) :: r) (.ref x :: st) S post) : EV G l K d bc bs pc (o0 :: o1 :: o2 :: o3 :: o4 :: o5 :: o6 :: o7 :: o8 :: o9 :: some (.ref x) :: r) st S post := by
  subst hq
  intro p e R s m args below meth c Q F Rt hf hlc H locs cells slots LS hc hs hR hS hL
  exact lv_aload F.1 F.2.1 hd (hL.at (i := 10) rfl) (k p e R s m args below meth c Q F Rt hf hlc H locs cells slots LS hc hs hR hS hL)
theorem ev_aloadN10 {o0 o1 o2 o3 o4 o5 o6 o7 o8 o9 : Option Value} {r : List (Option Value)} (hd : decode K.1 pc = .ok (.aload 10, 2)) (hq : pc + 2 = q) (k : EV G l K d bc bs q (o0 :: o1 :: o2 :: o3 :: o4 :: o5 :: o6 :: o7 :: o8 :: o9 :: some (.null) :: r) (.null :: st) S post) : EV G l K d bc bs pc (o0 :: o1 :: o2 :: o3 :: o4 :: o5 :: o6 :: o7 :: o8 :: o9 :: some (.null) :: r) st S post := by
  subst hq
  intro p e R s m args below meth c Q F Rt hf hlc H locs cells slots LS hc hs hR hS hL
  exact lv_aloadN F.1 F.2.1 hd (hL.at (i := 10) rfl) (k p e R s m args below meth c Q F Rt hf hlc H locs cells slots LS hc hs hR hS hL)
theorem ev_istore10 {o0 o1 o2 o3 o4 o5 o6 o7 o8 o9 : Option Value} {o10 : Option Value} {x : Int32} {r : List (Option Value)} (hd : decode K.1 pc = .ok (.istore 10, 2)) (hq : pc + 2 = q) (hn : 10 < K.2.2.1) (h1 : th_c1 (o0 :: o1 :: o2 :: o3 :: o4 :: o5 :: o6 :: o7 :: o8 :: o9 :: o10 :: r) = true) (k : EV G l K d bc bs q (o0 :: o1 :: o2 :: o3 :: o4 :: o5 :: o6 :: o7 :: o8 :: o9 :: some (.int x) :: r) st S post) : EV G l K d bc bs pc (o0 :: o1 :: o2 :: o3 :: o4 :: o5 :: o6 :: o7 :: o8 :: o9 :: o10 :: r) (.int x :: st) S post := by
  subst hq
  intro p e R s m args below meth c Q F Rt hf hlc H locs cells slots LS hc hs hR hS hL
  exact lv_istore F.1 F.2.1 hd hL hn rfl (fun LS1 h => k p e R s m args below meth c Q F Rt hf hlc H locs cells slots LS1 hc hs hR hS (th_L.set (i := 10) (v := .int x) h1 h))
theorem ev_astore10 {o0 o1 o2 o3 o4 o5 o6 o7 o8 o9 : Option Value} {o10 : Option Value} {x : Nat} {r : List (Option Value)} (hd : decode K.1 pc = .ok (.astore 10, 2)) (hq : pc + 2 = q) (hn : 10 < K.2.2.1) (h1 : th_c1 (o0 :: o1 :: o2 :: o3 :: o4 :: o5 :: o6 :: o7 :: o8 :: o9 :: o10 :: r) = true) (k : EV G l K d bc bs q (o0 :: o1 :: o2 :: o3 :: o4 :: o5 :: o6 :: o7 :: o8 :: o9 :: some (.ref x) :: r) st S post) : EV G l K d bc bs pc (o0 :: o1 :: o2 :: o3 :: o4 :: o5 :: o6 :: o7 :: o8 :: o9 :: o10 :: r) (.ref x :: st) S post := by
  subst hq
  intro p e R s m args below meth c Q F Rt hf hlc H locs cells slots LS hc hs hR hS hL
  exact lv_astore F.1 F.2.1 hd hL hn rfl (fun LS1 h => k p e R s m args below meth c Q F Rt hf hlc H locs cells slots LS1 hc hs hR hS (th_L.set (i := 10) (v := .ref x) h1 h))
theorem ev_astoreN10 {o0 o1 o2 o3 o4 o5 o6 o7 o8 o9 : Option Value} {o10 : Option Value} {r : List (Option Value)} (hd : decode K.1 pc = .ok (.astore 10, 2)) (hq : pc + 2 = q) (hn : 10 < K.2.2.1) (h1 : th_c1 (o0 :: o1 :: o2 :: o3 :: o4 :: o5 :: o6 :: o7 :: o8 :: o9 :: o10 :: r) = true) (k : EV G l K d bc bs q (o0 :: o1 :: o2 :: o3 :: o4 :: o5 :: o6 :: o7 :: o8 :: o9 :: some (.null) :: r) st S post) : EV G l K d bc bs pc (o0 :: o1 :: o2 :: o3 :: o4 :: o5 :: o6 :: o7 :: o8 :: o9 :: o10 :: r) (.null :: st) S post := by
  subst hq
  intro p e R s m args below meth c Q F Rt hf hlc H locs cells slots LS hc hs hR hS hL
  exact lv_astoreN F.1 F.2.1 hd hL hn rfl (fun LS1 h => k p e R s m args below meth c Q F Rt hf hlc H locs cells slots LS1 hc hs hR hS (th_L.set (i := 10) (v := .null) h1 h))
theorem ev_iinc10 {o0 o1 o2 o3 o4 o5 o6 o7 o8 o9 : Option Value} {x v : Int32} {n : Int} {r : List (Option Value)} (hd : decode K.1 pc = .ok (.iinc 10 n, 3)) (hq : pc + 3 = q) (hn : 10 < K.2.2.1) (h1 : th_c1 (o0 :: o1 :: o2 :: o3 :: o4 :: o5 :: o6 :: o7 :: o8 :: o9 :: some (.int x) :: r) = true) (hv : x + Int32.ofInt n = v) (k : EV G l K d bc bs q (o0 :: o1 :: o2 :: o3 :: o4 :: o5 :: o6 :: o7 :: o8 :: o9 :: some (.int v) :: r) st S post) : EV G l K d bc bs pc (o0 :: o1 :: o2 :: o3 :: o4 :: o5 :: o6 :: o7 :: o8 :: o9 :: some (.int x) :: r) st S post := by
  subst hq
  intro p e R s m args below meth c Q F Rt hf hlc H locs cells slots LS hc hs hR hS hL
  obtain ⟨kk, hkk⟩ := List.getElem?_of_mem ((th_l_mem (G := G) (o0 :: o1 :: o2 :: o3 :: o4 :: o5 :: o6 :: o7 :: o8 :: o9 :: some (.int x) :: r) 0 10 (.int x)).mpr ⟨10, .int x, rfl, by omega, rfl⟩)
  exact lv_iinc F.1 F.2.1 hd hL hkk hv hn rfl (fun LS1 h => k p e R s m args below meth c Q F Rt hf hlc H locs cells slots LS1 hc hs hR hS (th_L.set (i := 10) (v := .int v) h1 h))
theorem ev_if_eq {x : Int32} {off : Int} {t : Nat} (hd : decode K.1 pc = .ok (.ifCond .eq off, 3)) (hq : pc + 3 = q) (ht : (pc : Int) + off = (t : Int)) (kt : x = 0 → EV G l K d bc bs t ls st S post) (kf : ¬ x = 0 → EV G l K d bc bs q ls st S post) : EV G l K d bc bs pc ls (.int x :: st) S post := by
  subst hq
  intro p e R s m args below meth c Q F Rt hf hlc H locs cells slots LS hc hs hR hS hL
  exact lv_if_eq F.1 F.2.1 hd ht (fun h => kt h p e R s m args below meth c Q F Rt hf hlc H locs cells slots LS hc hs hR hS hL) (fun h => kf h p e R s m args below meth c Q F Rt hf hlc H locs cells slots LS hc hs hR hS hL)
theorem ev_if_ne {x : Int32} {off : Int} {t : Nat} (hd : decode K.1 pc = .ok (.ifCond .ne off, 3)) (hq : pc + 3 = q) (ht : (pc : Int) + off = (t : Int)) (kt : x ≠ 0 → EV G l K d bc bs t ls st S post) (kf : x = 0 → EV G l K d bc bs q ls st S post) : EV G l K d bc bs pc ls (.int x :: st) S post := by
  subst hq
  intro p e R s m args below meth c Q F Rt hf hlc H locs cells slots LS hc hs hR hS hL
  exact lv_if_ne F.1 F.2.1 hd ht (fun h => kt h p e R s m args below meth c Q F Rt hf hlc H locs cells slots LS hc hs hR hS hL) (fun h => kf h p e R s m args below meth c Q F Rt hf hlc H locs cells slots LS hc hs hR hS hL)
theorem ev_if_lt {x : Int32} {off : Int} {t : Nat} (hd : decode K.1 pc = .ok (.ifCond .lt off, 3)) (hq : pc + 3 = q) (ht : (pc : Int) + off = (t : Int)) (kt : x < 0 → EV G l K d bc bs t ls st S post) (kf : ¬ x < 0 → EV G l K d bc bs q ls st S post) : EV G l K d bc bs pc ls (.int x :: st) S post := by
  subst hq
  intro p e R s m args below meth c Q F Rt hf hlc H locs cells slots LS hc hs hR hS hL
  exact lv_if_lt F.1 F.2.1 hd ht (fun h => kt h p e R s m args below meth c Q F Rt hf hlc H locs cells slots LS hc hs hR hS hL) (fun h => kf h p e R s m args below meth c Q F Rt hf hlc H locs cells slots LS hc hs hR hS hL)
theorem ev_if_ge {x : Int32} {off : Int} {t : Nat} (hd : decode K.1 pc = .ok (.ifCond .ge off, 3)) (hq : pc + 3 = q) (ht : (pc : Int) + off = (t : Int)) (kt : 0 ≤ x → EV G l K d bc bs t ls st S post) (kf : ¬ 0 ≤ x → EV G l K d bc bs q ls st S post) : EV G l K d bc bs pc ls (.int x :: st) S post := by
  subst hq
  intro p e R s m args below meth c Q F Rt hf hlc H locs cells slots LS hc hs hR hS hL
  exact lv_if_ge F.1 F.2.1 hd ht (fun h => kt h p e R s m args below meth c Q F Rt hf hlc H locs cells slots LS hc hs hR hS hL) (fun h => kf h p e R s m args below meth c Q F Rt hf hlc H locs cells slots LS hc hs hR hS hL)
theorem ev_if_gt {x : Int32} {off : Int} {t : Nat} (hd : decode K.1 pc = .ok (.ifCond .gt off, 3)) (hq : pc + 3 = q) (ht : (pc : Int) + off = (t : Int)) (kt : 0 < x → EV G l K d bc bs t ls st S post) (kf : ¬ 0 < x → EV G l K d bc bs q ls st S post) : EV G l K d bc bs pc ls (.int x :: st) S post := by
  subst hq
  intro p e R s m args below meth c Q F Rt hf hlc H locs cells slots LS hc hs hR hS hL
  exact lv_if_gt F.1 F.2.1 hd ht (fun h => kt h p e R s m args below meth c Q F Rt hf hlc H locs cells slots LS hc hs hR hS hL) (fun h => kf h p e R s m args below meth c Q F Rt hf hlc H locs cells slots LS hc hs hR hS hL)
theorem ev_if_le {x : Int32} {off : Int} {t : Nat} (hd : decode K.1 pc = .ok (.ifCond .le off, 3)) (hq : pc + 3 = q) (ht : (pc : Int) + off = (t : Int)) (kt : x ≤ 0 → EV G l K d bc bs t ls st S post) (kf : ¬ x ≤ 0 → EV G l K d bc bs q ls st S post) : EV G l K d bc bs pc ls (.int x :: st) S post := by
  subst hq
  intro p e R s m args below meth c Q F Rt hf hlc H locs cells slots LS hc hs hR hS hL
  exact lv_if_le F.1 F.2.1 hd ht (fun h => kt h p e R s m args below meth c Q F Rt hf hlc H locs cells slots LS hc hs hR hS hL) (fun h => kf h p e R s m args below meth c Q F Rt hf hlc H locs cells slots LS hc hs hR hS hL)
theorem ev_icmp_eq {x y : Int32} {off : Int} {t : Nat} (hd : decode K.1 pc = .ok (.if_icmp .eq off, 3)) (hq : pc + 3 = q) (ht : (pc : Int) + off = (t : Int)) (kt : x = y → EV G l K d bc bs t ls st S post) (kf : ¬ x = y → EV G l K d bc bs q ls st S post) : EV G l K d bc bs pc ls (.int y :: .int x :: st) S post := by
  subst hq
  intro p e R s m args below meth c Q F Rt hf hlc H locs cells slots LS hc hs hR hS hL
  exact lv_icmp_eq F.1 F.2.1 hd ht (fun h => kt h p e R s m args below meth c Q F Rt hf hlc H locs cells slots LS hc hs hR hS hL) (fun h => kf h p e R s m args below meth c Q F Rt hf hlc H locs cells slots LS hc hs hR hS hL)
theorem ev_icmp_ne {x y : Int32} {off : Int} {t : Nat} (hd : decode K.1 pc = .ok (.if_icmp .ne off, 3)) (hq : pc + 3 = q) (ht : (pc : Int) + off = (t : Int)) (kt : x ≠ y → EV G l K d bc bs t ls st S post) (kf : x = y → EV G l K d bc bs q ls st S post) : EV G l K d bc bs pc ls (.int y :: .int x :: st) S post := by
  subst hq
  intro p e R s m args below meth c Q F Rt hf hlc H locs cells slots LS hc hs hR hS hL
  exact lv_icmp_ne F.1 F.2.1 hd ht (fun h => kt h p e R s m args below meth c Q F Rt hf hlc H locs cells slots LS hc hs hR hS hL) (fun h => kf h p e R s m args below meth c Q F Rt hf hlc H locs cells slots LS hc hs hR hS hL)
theorem ev_icmp_lt {x y : Int32} {off : Int} {t : Nat} (hd : decode K.1 pc = .ok (.if_icmp .lt off, 3)) (hq : pc + 3 = q) (ht : (pc : Int) + off = (t : Int)) (kt : x < y → EV G l K d bc bs t ls st S post) (kf : ¬ x < y → EV G l K d bc bs q ls st S post) : EV G l K d bc bs pc ls (.int y :: .int x :: st) S post := by
  subst hq
  intro p e R s m args below meth c Q F Rt hf hlc H locs cells slots LS hc hs hR hS hL
  exact lv_icmp_lt F.1 F.2.1 hd ht (fun h => kt h p e R s m args below meth c Q F Rt hf hlc H locs cells slots LS hc hs hR hS hL) (fun h => kf h p e R s m args below meth c Q F Rt hf hlc H locs cells slots LS hc hs hR hS hL)
theorem ev_icmp_ge {x y : Int32} {off : Int} {t : Nat} (hd : decode K.1 pc = .ok (.if_icmp .ge off, 3)) (hq : pc + 3 = q) (ht : (pc : Int) + off = (t : Int)) (kt : y ≤ x → EV G l K d bc bs t ls st S post) (kf : ¬ y ≤ x → EV G l K d bc bs q ls st S post) : EV G l K d bc bs pc ls (.int y :: .int x :: st) S post := by
  subst hq
  intro p e R s m args below meth c Q F Rt hf hlc H locs cells slots LS hc hs hR hS hL
  exact lv_icmp_ge F.1 F.2.1 hd ht (fun h => kt h p e R s m args below meth c Q F Rt hf hlc H locs cells slots LS hc hs hR hS hL) (fun h => kf h p e R s m args below meth c Q F Rt hf hlc H locs cells slots LS hc hs hR hS hL)
theorem ev_icmp_gt {x y : Int32} {off : Int} {t : Nat} (hd : decode K.1 pc = .ok (.if_icmp .gt off, 3)) (hq : pc + 3 = q) (ht : (pc : Int) + off = (t : Int)) (kt : y < x → EV G l K d bc bs t ls st S post) (kf : ¬ y < x → EV G l K d bc bs q ls st S post) : EV G l K d bc bs pc ls (.int y :: .int x :: st) S post := by
  subst hq
  intro p e R s m args below meth c Q F Rt hf hlc H locs cells slots LS hc hs hR hS hL
  exact lv_icmp_gt F.1 F.2.1 hd ht (fun h => kt h p e R s m args below meth c Q F Rt hf hlc H locs cells slots LS hc hs hR hS hL) (fun h => kf h p e R s m args below meth c Q F Rt hf hlc H locs cells slots LS hc hs hR hS hL)
theorem ev_icmp_le {x y : Int32} {off : Int} {t : Nat} (hd : decode K.1 pc = .ok (.if_icmp .le off, 3)) (hq : pc + 3 = q) (ht : (pc : Int) + off = (t : Int)) (kt : x ≤ y → EV G l K d bc bs t ls st S post) (kf : ¬ x ≤ y → EV G l K d bc bs q ls st S post) : EV G l K d bc bs pc ls (.int y :: .int x :: st) S post := by
  subst hq
  intro p e R s m args below meth c Q F Rt hf hlc H locs cells slots LS hc hs hR hS hL
  exact lv_icmp_le F.1 F.2.1 hd ht (fun h => kt h p e R s m args below meth c Q F Rt hf hlc H locs cells slots LS hc hs hR hS hL) (fun h => kf h p e R s m args below meth c Q F Rt hf hlc H locs cells slots LS hc hs hR hS hL)
theorem ev_goto {off : Int} (hd : decode K.1 pc = .ok (.goto off, 3)) (ht : (pc : Int) + off = (q : Int)) (k : EV G l K d bc bs q ls st S post) : EV G l K d bc bs pc ls st S post := by
  intro p e R s m args below meth c Q F Rt hf hlc H locs cells slots LS hc hs hR hS hL
  exact lv_goto F.1 F.2.1 hd ht (k p e R s m args below meth c Q F Rt hf hlc H locs cells slots LS hc hs hR hS hL)
theorem ev_ifnonnull {a : Nat} {off : Int} (hd : decode K.1 pc = .ok (.ifnonnull off, 3)) (ht : (pc : Int) + off = (q : Int)) (k : EV G l K d bc bs q ls st S post) : EV G l K d bc bs pc ls (.ref a :: st) S post := by
  intro p e R s m args below meth c Q F Rt hf hlc H locs cells slots LS hc hs hR hS hL
  exact lv_ifnonnull F.1 F.2.1 hd ht (k p e R s m args below meth c Q F Rt hf hlc H locs cells slots LS hc hs hR hS hL)
theorem ev_ifnonnullN {off : Int} (hd : decode K.1 pc = .ok (.ifnonnull off, 3)) (hq : pc + 3 = q) (k : EV G l K d bc bs q ls st S post) : EV G l K d bc bs pc ls (.null :: st) S post := by
  subst hq
  intro p e R s m args below meth c Q F Rt hf hlc H locs cells slots LS hc hs hR hS hL
  exact lv_ifnonnullN F.1 F.2.1 hd (k p e R s m args below meth c Q F Rt hf hlc H locs cells slots LS hc hs hR hS hL)
theorem ev_ifnull {a : Nat} {off : Int} (hd : decode K.1 pc = .ok (.ifnull off, 3)) (hq : pc + 3 = q) (k : EV G l K d bc bs q ls st S post) : EV G l K d bc bs pc ls (.ref a :: st) S post := by
  subst hq
  intro p e R s m args below meth c Q F Rt hf hlc H locs cells slots LS hc hs hR hS hL
  exact lv_ifnull F.1 F.2.1 hd (k p e R s m args below meth c Q F Rt hf hlc H locs cells slots LS hc hs hR hS hL)
theorem ev_ifnullN {off : Int} (hd : decode K.1 pc = .ok (.ifnull off, 3)) (ht : (pc : Int) + off = (q : Int)) (k : EV G l K d bc bs q ls st S post) : EV G l K d bc bs pc ls (.null :: st) S post := by
  intro p e R s m args below meth c Q F Rt hf hlc H locs cells slots LS hc hs hR hS hL
  exact lv_ifnullN F.1 F.2.1 hd ht (k p e R s m args below meth c Q F Rt hf hlc H locs cells slots LS hc hs hR hS hL)
theorem ev_lookup {dflt : Int} {ps : Array (Int × Int)} {len : Nat} {x : Int32} {off : Int} (hd : decode K.1 pc = .ok (.lookupswitch dflt ps, len)) (hp : (ps.toList.zip (ps.toList.drop 1)).all (fun (a, next) => a.1 < next.1) = true) (ho : Op.lookupswitch.offset ps.toList dflt x.toInt = off) (ht : (pc : Int) + off = (q : Int)) (k : EV G l K d bc bs q ls st S post) : EV G l K d bc bs pc ls (.int x :: st) S post := by
  intro p e R s m args below meth c Q F Rt hf hlc H locs cells slots LS hc hs hR hS hL
  exact lv_lookup F.1 F.2.1 hd hp ho ht (k p e R s m args below meth c Q F Rt hf hlc H locs cells slots LS hc hs hR hS hL)
theorem ev_tableOut {dflt lo hi : Int} {offs : Array Int} {len : Nat} {x : Int32} (hd : decode K.1 pc = .ok (.tableswitch dflt lo hi offs, len)) (h : x.toInt < lo ∨ hi < x.toInt) (ht : (pc : Int) + dflt = (q : Int)) (k : EV G l K d bc bs q ls st S post) : EV G l K d bc bs pc ls (.int x :: st) S post := by
  intro p e R s m args below meth c Q F Rt hf hlc H locs cells slots LS hc hs hR hS hL
  exact lv_tableOut F.1 F.2.1 hd h ht (k p e R s m args below meth c Q F Rt hf hlc H locs cells slots LS hc hs hR hS hL)
theorem ev_tableIn {dflt lo hi : Int} {offs : Array Int} {len : Nat} {x : Int32} {off : Int} (hd : decode K.1 pc = .ok (.tableswitch dflt lo hi offs, len)) (h1 : ¬ x.toInt < lo) (h2 : ¬ hi < x.toInt) (ho : offs[(x.toInt - lo).toNat]? = some off) (ht : (pc : Int) + off = (q : Int)) (k : EV G l K d bc bs q ls st S post) : EV G l K d bc bs pc ls (.int x :: st) S post := by
  intro p e R s m args below meth c Q F Rt hf hlc H locs cells slots LS hc hs hR hS hL
  exact lv_tableIn F.1 F.2.1 hd h1 h2 ho ht (k p e R s m args below meth c Q F Rt hf hlc H locs cells slots LS hc hs hR hS hL)
theorem ev_return (hd : decode K.1 pc = .ok (.return_, 1)) (hr : K.2.2.2.1 = none) (hp : post none S) : EV G l K d bc bs pc ls [] S post := by
  intro p e R s m args below meth c Q F Rt hf hlc H locs cells slots LS hc hs hR hS hL
  exact Rt none S H locs cells slots pc LS hp hR hS (by omega) (by omega) (Or.inl ⟨rfl, hr, hd⟩)
theorem ev_ireturn {v : Int32} {ty : FieldType} (hd : decode K.1 pc = .ok (.ireturn, 1)) (hr : K.2.2.2.1 = some ty) (hn : narrow ty (.int v) = .int v) (hp : post (some (.int v)) S) : EV G l K d bc bs pc ls [.int v] S post := by
  intro p e R s m args below meth c Q F Rt hf hlc H locs cells slots LS hc hs hR hS hL
  exact Rt (some (.int v)) S H locs cells slots pc LS hp hR hS (by omega) (by omega) (Or.inr (Or.inl ⟨v, ty, rfl, hr, hn, hd⟩))
theorem ev_areturn {a : Nat} {rt : FieldType} (hd : decode K.1 pc = .ok (.areturn, 1)) (hr : K.2.2.2.1 = some rt) (hrt : (∃ n, rt = .object n) ∨ ∃ t, rt = .array t) (hp : post (some (.ref a)) S) : EV G l K d bc bs pc ls [.ref a] S post := by
  intro p e R s m args below meth c Q F Rt hf hlc H locs cells slots LS hc hs hR hS hL
  exact Rt (some (.ref a)) S H locs cells slots pc LS hp hR hS (by omega) (by omega) (Or.inr (Or.inr ⟨rt, hr, hrt, Or.inr ⟨a, rfl⟩, hd⟩))
theorem ev_areturnN {rt : FieldType} (hd : decode K.1 pc = .ok (.areturn, 1)) (hr : K.2.2.2.1 = some rt) (hrt : (∃ n, rt = .object n) ∨ ∃ t, rt = .array t) (hp : post (some .null) S) : EV G l K d bc bs pc ls [.null] S post := by
  intro p e R s m args below meth c Q F Rt hf hlc H locs cells slots LS hc hs hR hS hL
  exact Rt (some .null) S H locs cells slots pc LS hp hR hS (by omega) (by omega) (Or.inr (Or.inr ⟨rt, hr, hrt, Or.inl rfl, hd⟩))
end EVR
end
section
/-! words of the tables by their places -/
theorem th_mW {w : Cond} (i : Nat) (h : tables_1[i]? = some w) (hg : goodWord w = true) : w ∈ th_W := List.mem_filter.mpr ⟨List.mem_append_right _ (List.mem_of_getElem? h), hg⟩
theorem th_mN {w : Cond} (i : Nat) (h : tables_1[i]? = some w) (hg : th_isN w = true) : w ∈ th_N := List.mem_filter.mpr ⟨List.mem_of_getElem? h, hg⟩
theorem th_mS {w : Cond} (i : Nat) (h : (k2_sels lw_privs)[i]? = some w) (hg : goodWord w = true) : w ∈ th_W := List.mem_filter.mpr ⟨List.mem_append_left _ (List.mem_of_getElem? h), hg⟩
theorem th_inW {ws : List Cond} (ps : List Nat) (hp : ws = ps.filterMap (fun i => tables_1[i]?)) (hg : ws.all goodWord = true) : ∀ w ∈ ws, w ∈ th_W := by
  intro w hw
  have hg := List.all_eq_true.mp hg w hw
  rw [hp] at hw
  obtain ⟨i, -, hi⟩ := List.mem_filterMap.mp hw
  exact th_mW i hi hg
theorem inW0 : ∀ w ∈ u_ws RX0 TX0 7, w ∈ th_W := th_inW [99, 101, 103, 105, 107, 109, 111] (by decide +kernel) (by decide +kernel)
theorem inW1 : ∀ w ∈ u_ws RX1 TX1 7, w ∈ th_W := th_inW [131, 133, 135, 137, 139, 141, 143] (by decide +kernel) (by decide +kernel)
theorem inW2 : ∀ w ∈ u_ws RX2 TX2 7, w ∈ th_W := th_inW [706, 708, 710, 712, 714, 716, 718] (by decide +kernel) (by decide +kernel)
theorem inW3 : ∀ w ∈ u_ws RX3 TX3 4, w ∈ th_W := th_inW [154, 156, 158, 160] (by decide +kernel) (by decide +kernel)
theorem inW4 : ∀ w ∈ u_ws RX4 TX4 4, w ∈ th_W := th_inW [210, 212, 214, 216] (by decide +kernel) (by decide +kernel)
theorem inW5 : ∀ w ∈ u_ws RX5 TX5 4, w ∈ th_W := th_inW [190, 192, 194, 196] (by decide +kernel) (by decide +kernel)
theorem inW6 : ∀ w ∈ u_ws RX6 TX6 3, w ∈ th_W := th_inW [359, 361, 363] (by decide +kernel) (by decide +kernel)
theorem inW7 : ∀ w ∈ u_ws RX7 TX7 4, w ∈ th_W := th_inW [42, 44, 46, 48] (by decide +kernel) (by decide +kernel)
theorem inW8 : ∀ w ∈ u_ws RX8 TX8 2, w ∈ th_W := th_inW [173, 175] (by decide +kernel) (by decide +kernel)
theorem inW9 : ∀ w ∈ u_ws RX9 TX9 16, w ∈ th_W := th_inW [235, 237, 239, 241, 243, 245, 247, 249, 251, 253, 255, 257, 259, 261, 263, 265] (by decide +kernel) (by decide +kernel)
theorem inW10 : ∀ w ∈ u_ws RX10 TX10 41, w ∈ th_W := th_inW [877, 879, 881, 883, 885, 887, 889, 891, 893, 895, 897, 899, 901, 903, 905, 907, 909, 911, 913, 915, 917, 919, 921, 923, 925, 927, 929, 931, 933, 935, 937, 939, 941, 943, 945, 947, 949, 951, 953, 955, 957] (by decide +kernel) (by decide +kernel)
theorem inW11 : ∀ w ∈ u_ws RJx4a65c TJx4a65c 3, w ∈ th_W := th_inW [75, 71, 73] (by decide +kernel) (by decide +kernel)
theorem th_cls {ci : Nat} {C : String} {T : u_T} {N : Nat} (h : th_cl[ci]? = some (C, T, N)) : (∀ w ∈ u_ws C T N, w ∈ th_W) ∧ (∀ k, k < N → parseFieldDescriptor (T k).2.2.1 = some (th_ft ci k)) ∧ (∀ a, a < N → ∀ b, b < N → a ≠ b → (T a).2.1 ≠ (T b).2.1) ∧ N = th_nf ci := by
  match ci, h with
  | 0, h => cases h; exact ⟨inW0, tyX0_ok, nmX0, rfl⟩
  | 1, h => cases h; exact ⟨inW1, tyX1_ok, nmX1, rfl⟩
  | 2, h => cases h; exact ⟨inW2, tyX2_ok, nmX2, rfl⟩
  | 3, h => cases h; exact ⟨inW3, tyX3_ok, nmX3, rfl⟩
  | 4, h => cases h; exact ⟨inW4, tyX4_ok, nmX4, rfl⟩
  | 5, h => cases h; exact ⟨inW5, tyX5_ok, nmX5, rfl⟩
  | 6, h => cases h; exact ⟨inW6, tyX6_ok, nmX6, rfl⟩
  | 7, h => cases h; exact ⟨inW7, tyX7_ok, nmX7, rfl⟩
  | 8, h => cases h; exact ⟨inW8, tyX8_ok, nmX8, rfl⟩
  | 9, h => cases h; exact ⟨inW9, tyX9_ok, nmX9, rfl⟩
  | 10, h => cases h; exact ⟨inW10, tyX10_ok, nmX10, rfl⟩
  | 11, h => cases h; exact ⟨inW11, tyJx4a65c_ok, nmJx4a65c, rfl⟩
  | n + 12, h => simp [th_cl] at h
/-! fields -/
def th_gl (own : String) (i : Nat) (o n d : String) : Prop := (Cond.fieldLink own i o n d ∈ th_W) ∨ (∃ ref, Cond.fieldLink own i ref n d ∈ th_W ∧ Cond.sameField ref o n d ∈ th_W) ∨ ∃ host, Cond.fieldLinkNest own i o n d host ∈ th_N
def th_gf (own : String) (i ci k : Nat) : Prop := ∃ (C : String) (T : u_T) (N : Nat), th_cl[ci]? = some (C, T, N) ∧ k < N ∧ th_gl own i (T k).1 (T k).2.1 (T k).2.2.1
def th_pf (own nm : String) (i ci k : Nat) : Prop := ∃ (C : String) (T : u_T) (N : Nat), th_cl[ci]? = some (C, T, N) ∧ k < N ∧ (((T k).2.2.2 = false ∧ th_gl own i (T k).1 (T k).2.1 (T k).2.2.1) ∨ ((T k).2.2.2 = true ∧ nm = "<init>" ∧ (T k).1 = own ∧ Cond.fieldLink own i (T k).1 (T k).2.1 (T k).2.2.1 ∈ th_W))
theorem th_w_j {V : Nat → Nat → Int32} {a k j : Nat} {x : Int32} (h : j ≠ k) : th_w V a k x a j = V a j := by
  have : Nat.beq j k = false := Bool.eq_false_iff.mpr (fun e => h (Nat.eq_of_beq_eq_true e))
  simp [th_w, this]
theorem th_fs_get {G : th_G} {ci k : Nat} {f : Nat → Option Nat} {v : Nat → Int32} (hk : k < th_nf ci) : ((List.range (th_nf ci)).map (th_fv G ci f v))[k]? = some (th_fv G ci f v k) := by
  rw [List.getElem?_map, List.getElem?_range hk]
  rfl
theorem th_P1 {G : th_G} {q : Nat × va_E} {H : Heap} (h : va_at G.2.2.1 th_cl q H) : va_P G.2.2.1 th_cl [q] H := by
  intro j x hj
  cases j with
  | zero => cases hj; exact h
  | succ j => simp at hj
section EVH
variable {G : th_G} {l : Launch} {K : th_M} {d bc bs pc q : Nat} {ls : List (Option Value)} {st : List Value} {S : th_S} {post : Option Value → th_S → Prop}
theorem ev_getF {a ci k i : Nat} {f : Nat → Option Nat} {v : Value} (hd : decode K.1 pc = .ok (.getfield i, 3)) (hg : th_gf K.2.1 i ci k) (ha : S.2.1 a = some (.inr (ci, f))) (hv : th_fv G ci f (S.2.2 a) k = th_v G v) (hq : pc + 3 = q) (kk : EV G l K d bc bs q ls (v :: st) S post) : EV G l K d bc bs pc ls (.ref a :: st) S post := by
  subst hq
  intro p e R s m args below meth c Q F Rt hf hlc H locs cells slots LS hc hs hR hS hL
  obtain ⟨C, T, N, hcl, hkN, hw⟩ := hg
  obtain ⟨h1, h2, h3, h4⟩ := th_cls hcl
  have hts := F.2.2.2.2.2.1
  have hP := th_P1 (hR.get ha)
  have hv1 : ((List.range (th_nf ci)).map (th_fv G ci f (S.2.2 a)))[k]? = some (th_v G v) := by
    rw [th_fs_get (by rw [← h4]; exact hkN), hv]
  have hK := F.2.2.2.2.2.2.1
  have kk := kk p e R s m args below meth c Q F Rt hf hlc H locs cells slots LS hc hs hR hS hL
  rcases hw with hw | ⟨ref, hw, hw2⟩ | ⟨host, hw⟩
  · exact va_get F.1 F.2.1 hts h1 F.2.2.2.1 hK hP 0 rfl hcl k hkN (hts _ hw) (fun _ h => h) hv1 hd kk
  · exact va_get F.1 F.2.1 hts h1 F.2.2.2.1 hK hP 0 rfl hcl k hkN (hts _ hw) (u_same (hts _ hw2)) hv1 hd kk
  · exact va_getN F.1 F.2.1 hts h1 F.2.2.2.1 hK hP 0 rfl hcl k hkN (va_Nw.use rfl (F.2.2.2.2.2.2.2.1 _ hw)) (fun _ h => h) hv1 hd kk
theorem ev_getI {a ci k i : Nat} {f : Nat → Option Nat} (hd : decode K.1 pc = .ok (.getfield i, 3)) (hg : th_gf K.2.1 i ci k) (ha : S.2.1 a = some (.inr (ci, f))) (hk : th_ir ci k = false) (hq : pc + 3 = q) (kk : EV G l K d bc bs q ls (.int (S.2.2 a k) :: st) S post) : EV G l K d bc bs pc ls (.ref a :: st) S post :=
  ev_getF hd hg ha (v := .int (S.2.2 a k)) (by simp [th_fv, hk, th_v]) hq kk
theorem ev_getR {a ci k i b : Nat} {f : Nat → Option Nat} (hd : decode K.1 pc = .ok (.getfield i, 3)) (hg : th_gf K.2.1 i ci k) (ha : S.2.1 a = some (.inr (ci, f))) (hk : th_ir ci k = true) (hb : f k = some b) (hq : pc + 3 = q) (kk : EV G l K d bc bs q ls (.ref b :: st) S post) : EV G l K d bc bs pc ls (.ref a :: st) S post :=
  ev_getF hd hg ha (v := .ref b) (by simp [th_fv, hk, hb, th_v, va_rf]) hq kk
/-- a field is written: what the machine does -/
theorem th_put {p : Program} {e : Env} {R : Room} {s : State} {m : MethodId} {args : Array Value} {below : List Frame} {meth : Method} {c : Code} {Q : State → Prop} {H : Heap} {locs : List Loc} {cells slots : Nat} {LS : Array Slot} {rest : List Value} (F : th_Fix G K p s m args meth c) {a ci k i : Nat} {fs : List Value} {v : Value} (hg : th_pf K.2.1 K.2.2.2.2 i ci k) (hat : va_at G.2.2.1 th_cl (a, .inr (ci, fs)) H) (haA : th_A G a) (hS : va_S (th_A G) s.heap H locs) (hn : narrow (th_ft ci k) v = v) (hfit : fits (th_ft ci k) v = true) (hl : k < fs.length) (hd : decode K.1 pc = .ok (.putfield i, 3))
    (kk : ∀ (H1 : Heap) (locs1 : List Loc), H1.size = H.size → (∀ q : Nat, q ≠ a → H1[q]? = H[q]?) → va_at G.2.2.1 th_cl (a, .inr (ci, fs.set k v)) H1 → va_S (th_A G) s.heap H1 locs1 → W p l e R s m args below meth c H1 locs1 cells slots Q (F0 m (pc + 3) LS rest)) : W p l e R s m args below meth c H locs cells slots Q (F0 m pc LS (v :: .ref a :: rest)) := by
  obtain ⟨C, T, N, hcl, hkN, hw⟩ := hg
  obtain ⟨hin, hty, hnm, h4⟩ := th_cls hcl
  have hts := F.2.2.2.2.2.1
  have hK := F.2.2.2.2.2.2.1
  have hown := F.2.2.2.1
  have hap := va_apart (own := K.2.1) hts hin (th_ft ci) hty hnm hK hcl
  obtain ⟨r, h1, cell, q1, q2, q3, q4⟩ := hat
  have hr : r = (C, T, N) := Option.some.inj (h1.symm.trans hcl)
  subst hr
  obtain ⟨hSl, hfc, kC, hkC, hkind⟩ := hK.1 ci _ hcl
  obtain ⟨cf, kf, fi, f, hi, hsl⟩ := hSl k hkN
  have hlay := hts _ (hin _ (u_in_lay hkN))
  unfold u_lay at hlay
  have hst := (u_facts hfc hkC (u_lays hts hin hkN) hi).1
  have fin : ∀ (H' : Heap) (locs' : List Loc), H'[a]? = some (cell.setSlot f.slot v) → H'.size = H.size → (∀ q : Nat, q ≠ a → H'[q]? = H[q]?) → va_S (th_A G) s.heap H' locs' → W p l e R s m args below meth c H' locs' cells slots Q (F0 m (pc + 3) LS rest) := by
    intro H' locs' e1 e2 e3 hS1
    rw [hsl] at e1
    exact kk H' locs' e2 e3 ⟨_, hcl, t_OB.to (V := updV (vp_V fs) k v) ⟨_, e1, q2, q3, t_set q4 hap hkN v⟩ (fun j _ => vp_updV_set hl v j)⟩ hS1
  rcases hw with ⟨hfin, hw⟩ | ⟨hfin, hnme, hdecl, hw⟩
  · rw [if_neg (by rw [hfin]; decide)] at hlay
    have h6 := u_store hfc hkC hkind hlay hi (hty k hkN) hn hfit
    rcases hw with hw | ⟨ref, hw, hw2⟩ | ⟨host, hw⟩
    · exact W.putK F.1 F.2.1 (f := f) ⟨hown, hts _ hw, ⟨_, _, _, hi⟩, hst⟩ (by rw [q2]; exact h6) q1 q3 (by rw [hsl]; exact k2_hasslot (q4 k hkN)) rfl rfl hd fun H' e1 e2 e3 => fin H' _ e1 e2 e3 (hS.put e2 e3 haA)
    · exact W.putK F.1 F.2.1 (f := f) ⟨hown, hts _ hw, ⟨_, _, _, u_same (hts _ hw2) _ hi⟩, hst⟩ (by rw [q2]; exact h6) q1 q3 (by rw [hsl]; exact k2_hasslot (q4 k hkN)) rfl rfl hd fun H' e1 e2 e3 => fin H' _ e1 e2 e3 (hS.put e2 e3 haA)
    · exact va_WputK F.1 F.2.1 (f := f) hown (va_Nw.use rfl (F.2.2.2.2.2.2.2.1 _ hw)) hi hst (by rw [q2]; exact h6) q1 q3 (by rw [hsl]; exact k2_hasslot (q4 k hkN)) rfl rfl hd fun H' e1 e2 e3 => fin H' _ e1 e2 e3 (hS.put e2 e3 haA)
  · rw [if_pos hfin] at hlay
    have hcf : m.cls = cf := by
      obtain ⟨_, _, c', _, _, _, -, -, hf', -, -, -, hown2, -⟩ := Cond.laysFinal_spec hlay
      have e1 : c' = cf := by have := hi.symm.trans hf'; simp at this; exact this.1.symm
      rw [hdecl] at hown2
      rw [← e1]; exact Option.some.inj (hown.symm.trans hown2)
    have h6 := u_fits hfc hkC hkind (Or.inr hlay) hi (hty k hkN) hn hfit
    exact W.putFinK F.1 F.2.1 hown (hts _ hw) hi hst hcf (by rw [F.2.2.2.2.1]; exact hnme) (by rw [q2]; exact h6) q1 q3 (by rw [hsl]; exact k2_hasslot (q4 k hkN)) rfl rfl hd fun H' e1 e2 e3 => fin H' _ e1 e2 e3 (hS.put e2 e3 haA)
theorem th_pf_lt {own nm : String} {i ci k : Nat} (h : th_pf own nm i ci k) : k < th_nf ci := by
  obtain ⟨C, T, N, hcl, hkN, -⟩ := h
  rw [← (th_cls hcl).2.2.2]
  exact hkN
theorem th_fs_set {G : th_G} {ci k : Nat} {f f' : Nat → Option Nat} {v v' : Nat → Int32} {w : Value} (hk : k < th_nf ci) (hw : th_fv G ci f' v' k = w) (hj : ∀ j, j ≠ k → th_fv G ci f' v' j = th_fv G ci f v j) : ((List.range (th_nf ci)).map (th_fv G ci f v)).set k w = (List.range (th_nf ci)).map (th_fv G ci f' v') := by
  apply List.ext_getElem?
  intro j
  by_cases hjk : j = k
  · subst hjk
    rw [List.getElem?_set_self (by simpa using hk), th_fs_get hk, hw]
  · rw [List.getElem?_set_ne (Ne.symm hjk)]
    by_cases hl : j < th_nf ci
    · rw [th_fs_get hl, th_fs_get hl, hj j hjk]
    · rw [List.getElem?_eq_none (by simpa using Nat.le_of_not_lt hl), List.getElem?_eq_none (by simpa using Nat.le_of_not_lt hl)]
theorem ev_putI {a ci k i : Nat} {f : Nat → Option Nat} {x : Int32} (hd : decode K.1 pc = .ok (.putfield i, 3)) (hg : th_pf K.2.1 K.2.2.2.2 i ci k) (ha : S.2.1 a = some (.inr (ci, f))) (hk : th_ir ci k = false) (hn : narrow (th_ft ci k) (.int x) = .int x) (hfit : fits (th_ft ci k) (.int x) = true) (hq : pc + 3 = q) (kk : EV G l K d bc bs q ls st (th_pI S a k x) post) : EV G l K d bc bs pc ls (.int x :: .ref a :: st) S post := by
  subst hq
  intro p e R s m args below meth c Q F Rt hf hlc H locs cells slots LS hc hs hR hS hL
  refine th_put F hg (hR.get ha) (hR.inA ha) hS hn hfit (by simpa using th_pf_lt hg) hd (fun H1 locs1 e1 e2 e3 hS1 => ?_)
  refine kk p e R s m args below meth c Q F Rt hf hlc H1 locs1 cells slots LS hc hs ?_ hS1 hL
  refine hR.set (S' := th_pI S a k x) ha e1 e2 rfl (fun _ _ => rfl) (fun b hb => th_w_ne hb) ha ?_
  have hw : th_e G (.inr (ci, f)) (th_w S.2.2 a k x a) = .inr (ci, ((List.range (th_nf ci)).map (th_fv G ci f (S.2.2 a))).set k (.int x)) := by
    show (Sum.inr (ci, (List.range (th_nf ci)).map (th_fv G ci f (th_w S.2.2 a k x a))) : va_E) = _
    rw [th_fs_set (th_pf_lt hg) (f' := f) (v' := th_w S.2.2 a k x a) (by simp [th_fv, hk, th_w_eq]) (fun j hj => by simp [th_fv, th_w_j hj])]
  show va_at G.2.2.1 th_cl (th_ad G a, th_e G (.inr (ci, f)) (th_w S.2.2 a k x a)) H1
  rw [hw]
  exact e3
theorem ev_putR {a ci k i b : Nat} {f : Nat → Option Nat} (hd : decode K.1 pc = .ok (.putfield i, 3)) (hg : th_pf K.2.1 K.2.2.2.2 i ci k) (ha : S.2.1 a = some (.inr (ci, f))) (hk : th_ir ci k = true) (hq : pc + 3 = q) (kk : EV G l K d bc bs q ls st (th_pC S a (.inr (ci, th_u f k b))) post) : EV G l K d bc bs pc ls (.ref b :: .ref a :: st) S post := by
  subst hq
  intro p e R s m args below meth c Q F Rt hf hlc H locs cells slots LS hc hs hR hS hL
  have hn : narrow (th_ft ci k) (.ref (th_ad G b)) = .ref (th_ad G b) := by
    unfold th_ir at hk
    cases h : th_ft ci k <;> simp [h] at hk <;> rfl
  have hfit : fits (th_ft ci k) (.ref (th_ad G b)) = true := by
    unfold th_ir at hk
    cases h : th_ft ci k <;> simp [h] at hk <;> rfl
  refine th_put F hg (hR.get ha) (hR.inA ha) hS hn hfit (by simpa using th_pf_lt hg) hd (fun H1 locs1 e1 e2 e3 hS1 => ?_)
  refine kk p e R s m args below meth c Q F Rt hf hlc H1 locs1 cells slots LS hc hs ?_ hS1 hL
  refine hR.set (S' := th_pC S a (.inr (ci, th_u f k b))) ha e1 e2 rfl (fun b hb => th_u_ne hb) (fun _ _ => rfl) th_u_eq ?_
  have hw : th_e G (.inr (ci, th_u f k b)) (S.2.2 a) = .inr (ci, ((List.range (th_nf ci)).map (th_fv G ci f (S.2.2 a))).set k (.ref (th_ad G b))) := by
    show (Sum.inr (ci, (List.range (th_nf ci)).map (th_fv G ci (th_u f k b) (S.2.2 a))) : va_E) = _
    rw [th_fs_set (th_pf_lt hg) (f' := th_u f k b) (v' := S.2.2 a) (by simp [th_fv, hk, th_u_eq, va_rf]) (fun j hj => by simp [th_fv, th_u_ne hj])]
  show va_at G.2.2.1 th_cl (th_ad G a, th_e G (.inr (ci, th_u f k b)) (S.2.2 a)) H1
  rw [hw]
  exact e3
end EVH
end
section
/-! arrays -/
theorem th_nI_in {i : Int32} {j n : Nat} (hi : i = nI j) (hj : j < n) (hn : n < 2 ^ 31) : ¬ (i < 0 ∨ n ≤ i.toNatClampNeg) := by rw [hi]; exact nI_in hj hn
theorem th_nI_cl {i : Int32} {j n : Nat} (hi : i = nI j) (hj : j < n) (hn : n < 2 ^ 31) : i.toNatClampNeg = j := by rw [hi]; exact nI_clamp (Nat.lt_trans hj hn)
theorem th_R.arr {G : th_G} {S : th_S} {H : Heap} {a t n : Nat} {f : Nat → Option Nat} (h : th_R G S H) (ha : S.2.1 a = some (.inl (t, n, f))) (ht : t < 4) : H[th_ad G a]? = some (arrV (G.2.2.2.1 t) n (fun j => .int (S.2.2 a j))) := by
  have h1 := h.get ha
  have : Nat.blt t 4 = true := Nat.ble_eq_true_of_le ht
  simp only [th_e, this, cond_true] at h1
  exact h1
theorem th_R.arq {G : th_G} {S : th_S} {H : Heap} {a t n : Nat} {f : Nat → Option Nat} (h : th_R G S H) (ha : S.2.1 a = some (.inl (t, n, f))) (ht : 4 ≤ t) : H[th_ad G a]? = some (arrV (G.2.2.2.1 t) n (fun j => va_rf ((f j).map (th_ad G)))) := by
  have h1 := h.get ha
  have : Nat.blt t 4 = false := by simp only [Nat.blt]; exact Bool.eq_false_iff.mpr (fun e => absurd (Nat.le_of_ble_eq_true e) (by omega))
  simp only [th_e, this, cond_false] at h1
  exact h1
theorem th_R.stI {G : th_G} {S : th_S} {H H1 : Heap} {a t n j : Nat} {f : Nat → Option Nat} {x : Int32} (h : th_R G S H) (ha : S.2.1 a = some (.inl (t, n, f))) (ht : t < 4) (z : H1.size = H.size) (oq : ∀ q : Nat, q ≠ th_ad G a → H1[q]? = H[q]?) (he : H1[th_ad G a]? = some ((arrV (G.2.2.2.1 t) n (fun j => .int (S.2.2 a j))).setSlot j (.int x))) : th_R G (th_pI S a j x) H1 := by
  refine h.set (S' := th_pI S a j x) ha z oq rfl (fun _ _ => rfl) (fun b hb => th_w_ne hb) ha ?_
  have hb : Nat.blt t 4 = true := Nat.ble_eq_true_of_le ht
  show va_at G.2.2.1 th_cl (th_ad G a, th_e G (.inl (t, n, f)) (th_w S.2.2 a j x a)) H1
  simp only [th_e, hb, cond_true]
  show H1[th_ad G a]? = some (vp_cell _ _)
  rw [he, vp_cell_i, arrV_store]
  congr 2
  funext q
  by_cases hq : q = j
  · subst hq
    simp [updV, th_w]
  · simp [updV, hq, th_w_j hq]
theorem th_R.stQ {G : th_G} {S : th_S} {H H1 : Heap} {a t n j b : Nat} {f : Nat → Option Nat} (h : th_R G S H) (ha : S.2.1 a = some (.inl (t, n, f))) (ht : 4 ≤ t) (z : H1.size = H.size) (oq : ∀ q : Nat, q ≠ th_ad G a → H1[q]? = H[q]?) (he : H1[th_ad G a]? = some ((arrV (G.2.2.2.1 t) n (fun j => va_rf ((f j).map (th_ad G)))).setSlot j (.ref (th_ad G b)))) : th_R G (th_pC S a (.inl (t, n, th_u f j b))) H1 := by
  refine h.set (S' := th_pC S a (.inl (t, n, th_u f j b))) ha z oq rfl (fun b hb => th_u_ne hb) (fun _ _ => rfl) th_u_eq ?_
  have hb : Nat.blt t 4 = false := by simp only [Nat.blt]; exact Bool.eq_false_iff.mpr (fun e => absurd (Nat.le_of_ble_eq_true e) (by omega))
  show va_at G.2.2.1 th_cl (th_ad G a, th_e G (.inl (t, n, th_u f j b)) (S.2.2 a)) H1
  simp only [th_e, hb, cond_false]
  show H1[th_ad G a]? = some (vp_cell _ _)
  rw [he, vp_cell_q, arrV_store]
  congr 2
  funext q
  by_cases hq : q = j
  · subst hq
    simp [updV, th_u, va_rf]
  · simp [updV, hq, th_u_ne hq]
theorem th_tyK {G : th_G} {s : State} (h : th_Amb G s) {t : Nat} (ht : t < 6) : ArrOfT s (G.2.2.2.1 t) (th_ty t) ∧ va_RA s (G.2.2.2.1 t) (th_ty t) := by
  match t, ht with
  | 0, _ => exact h.1.2 0 _ rfl
  | 1, _ => exact h.1.2 1 _ rfl
  | 2, _ => exact h.1.2 2 _ rfl
  | 3, _ => exact h.1.2 3 _ rfl
  | 4, _ => exact h.1.2 4 _ rfl
  | 5, _ => exact h.1.2 5 _ rfl
section EVA
variable {G : th_G} {l : Launch} {K : th_M} {d bc bs pc q : Nat} {ls : List (Option Value)} {st : List Value} {S : th_S} {post : Option Value → th_S → Prop}
theorem ev_iald {a n j : Nat} {f : Nat → Option Nat} {i : Int32} (hd : decode K.1 pc = .ok (.iaload, 1)) (ha : S.2.1 a = some (.inl (0, n, f))) (hi : i = nI j) (hj : j < n) (hn : n < 2 ^ 31) (hq : pc + 1 = q) (kk : EV G l K d bc bs q ls (.int (S.2.2 a j) :: st) S post) : EV G l K d bc bs pc ls (.int i :: .ref a :: st) S post := by
  subst hq
  intro p e R s m args below meth c Q F Rt hf hlc H locs cells slots LS hc hs hR hS hL
  exact W.iald (v := .int (S.2.2 a j)) F.1 F.2.1 (hR.arr ha (by decide)) ((th_tyK F.2.2.2.2.2.2 (t := 0) (by decide)).1 n (fun j => .int (S.2.2 a j))) (fun q => by cases q) (by rw [arrV_size]; exact th_nI_in hi hj hn) (by rw [th_nI_cl hi hj hn, arrV_read _ _ hj]) rfl rfl hd (kk p e R s m args below meth c Q F Rt hf hlc H locs cells slots LS hc hs hR hS hL)
theorem ev_bald {a n j : Nat} {f : Nat → Option Nat} {i : Int32} (hd : decode K.1 pc = .ok (.baload, 1)) (ha : S.2.1 a = some (.inl (1, n, f))) (hi : i = nI j) (hj : j < n) (hn : n < 2 ^ 31) (hq : pc + 1 = q) (kk : EV G l K d bc bs q ls (.int (S.2.2 a j) :: st) S post) : EV G l K d bc bs pc ls (.int i :: .ref a :: st) S post := by
  subst hq
  intro p e R s m args below meth c Q F Rt hf hlc H locs cells slots LS hc hs hR hS hL
  exact W.bald (v := .int (S.2.2 a j)) F.1 F.2.1 (hR.arr ha (by decide)) ((th_tyK F.2.2.2.2.2.2 (t := 1) (by decide)).1 n (fun j => .int (S.2.2 a j))) (fun q => by cases q) (by rw [arrV_size]; exact th_nI_in hi hj hn) (by rw [th_nI_cl hi hj hn, arrV_read _ _ hj]) rfl rfl hd (kk p e R s m args below meth c Q F Rt hf hlc H locs cells slots LS hc hs hR hS hL)
theorem ev_cald {a n j : Nat} {f : Nat → Option Nat} {i : Int32} (hd : decode K.1 pc = .ok (.caload, 1)) (ha : S.2.1 a = some (.inl (2, n, f))) (hi : i = nI j) (hj : j < n) (hn : n < 2 ^ 31) (hq : pc + 1 = q) (kk : EV G l K d bc bs q ls (.int (S.2.2 a j) :: st) S post) : EV G l K d bc bs pc ls (.int i :: .ref a :: st) S post := by
  subst hq
  intro p e R s m args below meth c Q F Rt hf hlc H locs cells slots LS hc hs hR hS hL
  exact W.cald (v := .int (S.2.2 a j)) F.1 F.2.1 (hR.arr ha (by decide)) ((th_tyK F.2.2.2.2.2.2 (t := 2) (by decide)).1 n (fun j => .int (S.2.2 a j))) (fun q => by cases q) (by rw [arrV_size]; exact th_nI_in hi hj hn) (by rw [th_nI_cl hi hj hn, arrV_read _ _ hj]) rfl rfl hd (kk p e R s m args below meth c Q F Rt hf hlc H locs cells slots LS hc hs hR hS hL)
theorem ev_zald {a n j : Nat} {f : Nat → Option Nat} {i : Int32} (hd : decode K.1 pc = .ok (.baload, 1)) (ha : S.2.1 a = some (.inl (3, n, f))) (hi : i = nI j) (hj : j < n) (hn : n < 2 ^ 31) (hq : pc + 1 = q) (kk : EV G l K d bc bs q ls (.int (S.2.2 a j) :: st) S post) : EV G l K d bc bs pc ls (.int i :: .ref a :: st) S post := by
  subst hq
  intro p e R s m args below meth c Q F Rt hf hlc H locs cells slots LS hc hs hR hS hL
  exact W.zald (v := .int (S.2.2 a j)) F.1 F.2.1 (hR.arr ha (by decide)) ((th_tyK F.2.2.2.2.2.2 (t := 3) (by decide)).1 n (fun j => .int (S.2.2 a j))) (fun q => by cases q) (by rw [arrV_size]; exact th_nI_in hi hj hn) (by rw [th_nI_cl hi hj hn, arrV_read _ _ hj]) rfl rfl hd (kk p e R s m args below meth c Q F Rt hf hlc H locs cells slots LS hc hs hR hS hL)
theorem ev_iast {a n j : Nat} {f : Nat → Option Nat} {i x : Int32} (hd : decode K.1 pc = .ok (.iastore, 1)) (ha : S.2.1 a = some (.inl (0, n, f))) (hi : i = nI j) (hj : j < n) (hn : n < 2 ^ 31) (hq : pc + 1 = q) (kk : EV G l K d bc bs q ls st (th_pI S a j x) post) : EV G l K d bc bs pc ls (.int x :: .int i :: .ref a :: st) S post := by
  subst hq
  intro p e R s m args below meth c Q F Rt hf hlc H locs cells slots LS hc hs hR hS hL
  refine W.iast F.1 F.2.1 (hR.arr ha (by decide)) ((th_tyK F.2.2.2.2.2.2 (t := 0) (by decide)).1 n (fun j => .int (S.2.2 a j))) (fun q => by cases q) (by rw [arrV_size]; exact th_nI_in hi hj hn) rfl rfl hd (fun H1 e1 e2 e3 => ?_)
  rw [th_nI_cl hi hj hn] at e1
  exact kk p e R s m args below meth c Q F Rt hf hlc H1 _ cells slots LS hc hs (hR.stI ha (by decide) e2 e3 e1) (hS.put e2 e3 (hR.inA ha)) hL
theorem ev_bast {a n j : Nat} {f : Nat → Option Nat} {i x : Int32} (hd : decode K.1 pc = .ok (.bastore, 1)) (ha : S.2.1 a = some (.inl (1, n, f))) (hi : i = nI j) (hj : j < n) (hn : n < 2 ^ 31) (hq : pc + 1 = q) (kk : EV G l K d bc bs q ls st (th_pI S a j (vp_nar .byte x)) post) : EV G l K d bc bs pc ls (.int x :: .int i :: .ref a :: st) S post := by
  subst hq
  intro p e R s m args below meth c Q F Rt hf hlc H locs cells slots LS hc hs hR hS hL
  refine W.bast F.1 F.2.1 (hR.arr ha (by decide)) ((th_tyK F.2.2.2.2.2.2 (t := 1) (by decide)).1 n (fun j => .int (S.2.2 a j))) (fun q => by cases q) (by rw [arrV_size]; exact th_nI_in hi hj hn) rfl rfl hd (fun H1 e1 e2 e3 => ?_)
  rw [th_nI_cl hi hj hn] at e1
  exact kk p e R s m args below meth c Q F Rt hf hlc H1 _ cells slots LS hc hs (hR.stI ha (by decide) e2 e3 e1) (hS.put e2 e3 (hR.inA ha)) hL
theorem ev_cast {a n j : Nat} {f : Nat → Option Nat} {i x : Int32} (hd : decode K.1 pc = .ok (.castore, 1)) (ha : S.2.1 a = some (.inl (2, n, f))) (hi : i = nI j) (hj : j < n) (hn : n < 2 ^ 31) (hq : pc + 1 = q) (kk : EV G l K d bc bs q ls st (th_pI S a j (vp_nar .char x)) post) : EV G l K d bc bs pc ls (.int x :: .int i :: .ref a :: st) S post := by
  subst hq
  intro p e R s m args below meth c Q F Rt hf hlc H locs cells slots LS hc hs hR hS hL
  refine W.cast F.1 F.2.1 (hR.arr ha (by decide)) ((th_tyK F.2.2.2.2.2.2 (t := 2) (by decide)).1 n (fun j => .int (S.2.2 a j))) (fun q => by cases q) (by rw [arrV_size]; exact th_nI_in hi hj hn) rfl rfl hd (fun H1 e1 e2 e3 => ?_)
  rw [th_nI_cl hi hj hn] at e1
  exact kk p e R s m args below meth c Q F Rt hf hlc H1 _ cells slots LS hc hs (hR.stI ha (by decide) e2 e3 e1) (hS.put e2 e3 (hR.inA ha)) hL
theorem ev_zast {a n j : Nat} {f : Nat → Option Nat} {i x : Int32} (hd : decode K.1 pc = .ok (.bastore, 1)) (ha : S.2.1 a = some (.inl (3, n, f))) (hi : i = nI j) (hj : j < n) (hn : n < 2 ^ 31) (hq : pc + 1 = q) (kk : EV G l K d bc bs q ls st (th_pI S a j (vp_nar .boolean x)) post) : EV G l K d bc bs pc ls (.int x :: .int i :: .ref a :: st) S post := by
  subst hq
  intro p e R s m args below meth c Q F Rt hf hlc H locs cells slots LS hc hs hR hS hL
  refine W.zast F.1 F.2.1 (hR.arr ha (by decide)) ((th_tyK F.2.2.2.2.2.2 (t := 3) (by decide)).1 n (fun j => .int (S.2.2 a j))) (fun q => by cases q) (by rw [arrV_size]; exact th_nI_in hi hj hn) rfl rfl hd (fun H1 e1 e2 e3 => ?_)
  rw [th_nI_cl hi hj hn] at e1
  exact kk p e R s m args below meth c Q F Rt hf hlc H1 _ cells slots LS hc hs (hR.stI ha (by decide) e2 e3 e1) (hS.put e2 e3 (hR.inA ha)) hL
theorem ev_aald {a n j b t : Nat} {f : Nat → Option Nat} {i : Int32} (hd : decode K.1 pc = .ok (.aaload, 1)) (ha : S.2.1 a = some (.inl (t, n, f))) (h4 : 4 ≤ t) (h6 : t < 6) (hi : i = nI j) (hj : j < n) (hn : n < 2 ^ 31) (hb : f j = some b) (hq : pc + 1 = q) (kk : EV G l K d bc bs q ls (.ref b :: st) S post) : EV G l K d bc bs pc ls (.int i :: .ref a :: st) S post := by
  subst hq
  intro p e R s m args below meth c Q F Rt hf hlc H locs cells slots LS hc hs hR hS hL
  have hty : (th_ty t).isReference = true := by
    rcases (show t = 4 ∨ t = 5 by omega) with rfl | rfl <;> rfl
  exact W.aald (v := .ref (th_ad G b)) (ty := th_ty t) F.1 F.2.1 (hR.arq ha h4) ((th_tyK F.2.2.2.2.2.2 h6).1 n (fun j => va_rf ((f j).map (th_ad G)))) hty (fun q => by cases q) (by rw [arrV_size]; exact th_nI_in hi hj hn) (by rw [th_nI_cl hi hj hn, arrV_read _ _ hj, hb]; rfl) rfl rfl hd (kk p e R s m args below meth c Q F Rt hf hlc H locs cells slots LS hc hs hR hS hL)
/-- a reference is stored: the object's class goes into the array's -/
def th_as (ci t : Nat) : Prop := (ci = 7 ∧ t = 4) ∨ (t = 5 ∧ ∃ (C : String) (T : u_T) (N : Nat), th_cl[ci]? = some (C, T, N) ∧ Cond.castable C "java/lang/Object" ∈ th_N)
theorem ev_aast {a n j b t ci : Nat} {f g : Nat → Option Nat} {i : Int32} (hd : decode K.1 pc = .ok (.aastore, 1)) (ha : S.2.1 a = some (.inl (t, n, f))) (hb : S.2.1 b = some (.inr (ci, g))) (has : th_as ci t) (hi : i = nI j) (hj : j < n) (hn : n < 2 ^ 31) (hq : pc + 1 = q) (kk : EV G l K d bc bs q ls st (th_pC S a (.inl (t, n, th_u f j b))) post) : EV G l K d bc bs pc ls (.ref b :: .int i :: .ref a :: st) S post := by
  subst hq
  intro p e R s m args below meth c Q F Rt hf hlc H locs cells slots LS hc hs hR hS hL
  have h4 : 4 ≤ t := by
    rcases has with ⟨-, rfl⟩ | ⟨rfl, -⟩ <;> decide
  have h6 : t < 6 := by
    rcases has with ⟨-, rfl⟩ | ⟨rfl, -⟩ <;> decide
  have hK := F.2.2.2.2.2.2.1
  have hob := hR.get hb
  obtain ⟨r, hr, cellV, g1, g2, g3, -⟩ := hob
  have hcls := (hK.1 ci r hr).2
  obtain ⟨C, hC, kA, comp, k1, k2, k3, hasg⟩ : ∃ (C : String), th_ty t = .object C ∧ ∃ (kA : Class) (comp : ClassId), s.vm.classes[G.2.2.2.1 t]? = some kA ∧ kA.kind = .array comp (.object C) ∧ s.vm.findClass C = some comp ∧ s.vm.assignable (G.2.2.1.1 ci) comp = true := by
    rcases has with ⟨rfl, rfl⟩ | ⟨rfl, C1, T1, N1, hcl1, hca⟩
    · obtain ⟨kA, comp, k1, k2, k3, -⟩ := (th_tyK F.2.2.2.2.2.2 h6).2
      have hr7 : r = (RX7, TX7, 4) := Option.some.inj (hr.symm.trans rfl)
      subst hr7
      have hcomp : comp = G.2.2.1.1 7 := Option.some.inj (k3.symm.trans hcls.1)
      subst hcomp
      exact ⟨_, rfl, kA, _, k1, k2, k3, va_assign hcls⟩
    · obtain ⟨kA, comp, k1, k2, k3, -⟩ := (th_tyK F.2.2.2.2.2.2 h6).2
      have hr1 : r = (C1, T1, N1) := Option.some.inj (hr.symm.trans hcl1)
      subst hr1
      obtain ⟨c0, t1, f1, f2, f3⟩ := Cond.castable_spec (va_Nw.use (A := args) rfl (F.2.2.2.2.2.2.2.1 _ hca))
      cases hcls.1.symm.trans f1
      cases k3.symm.trans f2
      exact ⟨_, rfl, kA, comp, k1, k2, k3, f3⟩
  obtain ⟨kE, hkE, -⟩ := Vm.findClass_spec k3
  obtain ⟨kC, hkC, -⟩ := hcls.2
  refine W.aast F.1 F.2.1 (hR.arq ha h4) (fun q h => by cases h) (fun h => by cases h) k1 k2 rfl hkE ⟨by rw [hi]; exact nI_pos (Nat.lt_trans hj hn), by rw [th_nI_cl hi hj hn, arrV_size]; exact hj⟩ g1 (fun q h => by rw [g3] at h; cases h) (by rw [g2]; exact hkC) (by rw [g2]; exact hasg) rfl rfl hd (fun H1 e1 e2 e3 => ?_)
  rw [th_nI_cl hi hj hn] at e1
  exact kk p e R s m args below meth c Q F Rt hf hlc H1 _ cells slots LS hc hs (hR.stQ ha h4 e2 e3 e1) (hS.put e2 e3 (hR.inA ha)) hL
theorem ev_alen {a n t : Nat} {f : Nat → Option Nat} (hd : decode K.1 pc = .ok (.arraylength, 1)) (ha : S.2.1 a = some (.inl (t, n, f))) (h6 : t < 6) (hq : pc + 1 = q) (kk : EV G l K d bc bs q ls (.int (nI n) :: st) S post) : EV G l K d bc bs pc ls (.ref a :: st) S post := by
  subst hq
  intro p e R s m args below meth c Q F Rt hf hlc H locs cells slots LS hc hs hR hS hL
  by_cases h4 : t < 4
  · exact W.alen (n := nI n) F.1 F.2.1 (hR.arr ha h4) ((th_tyK F.2.2.2.2.2.2 h6).1 n (fun j => .int (S.2.2 a j))) (by rw [arrV_size]; rfl) rfl rfl hd (kk p e R s m args below meth c Q F Rt hf hlc H locs cells slots LS hc hs hR hS hL)
  · exact W.alen (n := nI n) F.1 F.2.1 (hR.arq ha (Nat.le_of_not_lt h4)) ((th_tyK F.2.2.2.2.2.2 h6).1 n (fun j => va_rf ((f j).map (th_ad G)))) (by rw [arrV_size]; rfl) rfl rfl hd (kk p e R s m args below meth c Q F Rt hf hlc H locs cells slots LS hc hs hR hS hL)
/-! the old arrays: the script (0), NO_CELLS (1), the lists' empty array (2) -/
theorem ev_xalen {a n : Nat} (hd : decode K.1 pc = .ok (.arraylength, 1)) (ha : (a = 0 ∧ n = G.2.2.2.2.1) ∨ (a = 2 ∧ n = 0)) (hq : pc + 1 = q) (kk : EV G l K d bc bs q ls (.int (nI n) :: st) S post) : EV G l K d bc bs pc ls (.ref a :: st) S post := by
  subst hq
  intro p e R s m args below meth c Q F Rt hf hlc H locs cells slots LS hc hs hR hS hL
  obtain ⟨-, -, -, -, ⟨t0, t1, t2⟩, -⟩ := F.2.2.2.2.2.2
  have kept : ∀ (ty : FieldType) (t N : Nat) (f : Nat → Value), va_T ty t N f (th_A G) s s.heap → va_T ty t N f (th_A G) s H := fun ty t N f h => h.kept hS.2.1
  rcases ha with ⟨rfl, rfl⟩ | ⟨rfl, rfl⟩
  · obtain ⟨cell, h1, h2, h3, h4, h5, -⟩ := kept _ _ _ _ t0
    exact W.alen F.1 F.2.1 h1 h2 h5 rfl rfl hd (kk p e R s m args below meth c Q F Rt hf hlc H locs cells slots LS hc hs hR hS hL)
  · obtain ⟨cell, h1, h2, h3, h4, h5, -⟩ := kept _ _ _ _ t2
    exact W.alen F.1 F.2.1 h1 h2 h5 rfl rfl hd (kk p e R s m args below meth c Q F Rt hf hlc H locs cells slots LS hc hs hR hS hL)
theorem ev_xald {a n j : Nat} {g : Nat → Int32} {i : Int32} (hd : decode K.1 pc = .ok (.iaload, 1)) (ha : (a = 0 ∧ n = G.2.2.2.2.1 ∧ g = G.2.2.2.2.2) ∨ (a = 1 ∧ n = 5 ∧ g = fun _ => 0)) (hi : i = nI j) (hj : j < n) (hn : n < 2 ^ 31) (hq : pc + 1 = q) (kk : EV G l K d bc bs q ls (.int (g j) :: st) S post) : EV G l K d bc bs pc ls (.int i :: .ref a :: st) S post := by
  subst hq
  intro p e R s m args below meth c Q F Rt hf hlc H locs cells slots LS hc hs hR hS hL
  obtain ⟨-, -, -, -, ⟨t0, t1, t2⟩, -⟩ := F.2.2.2.2.2.2
  have kept : ∀ (ty : FieldType) (t N : Nat) (f : Nat → Value), va_T ty t N f (th_A G) s s.heap → va_T ty t N f (th_A G) s H := fun ty t N f h => h.kept hS.2.1
  rcases ha with ⟨rfl, rfl, rfl⟩ | ⟨rfl, rfl, rfl⟩
  · obtain ⟨cell, h1, h2, h3, h4, h5, h6, -⟩ := kept _ _ _ _ t0
    exact W.iald F.1 F.2.1 h1 h2 h3 (by rw [hi]; exact fun z => z.elim (nI_pos (Nat.lt_trans hj hn)) (fun y => by rw [nI_clamp (Nat.lt_trans hj hn)] at y; omega)) (by rw [th_nI_cl hi hj hn]; exact h6 j hj) rfl rfl hd (kk p e R s m args below meth c Q F Rt hf hlc H locs cells slots LS hc hs hR hS hL)
  · obtain ⟨cell, h1, h2, h3, h4, h5, h6, -⟩ := kept _ _ _ _ t1
    exact W.iald F.1 F.2.1 h1 h2 h3 (by rw [hi]; exact fun z => z.elim (nI_pos (Nat.lt_trans hj hn)) (fun y => by rw [nI_clamp (Nat.lt_trans hj hn)] at y; omega)) (by rw [th_nI_cl hi hj hn]; exact h6 j hj) rfl rfl hd (kk p e R s m args below meth c Q F Rt hf hlc H locs cells slots LS hc hs hR hS hL)
theorem ev_getNC {i : Nat} (hd : decode K.1 pc = .ok (.getstatic i, 3)) (hw : Cond.fieldLink K.2.1 i "TriggerHall" "NO_CELLS" "[I" ∈ th_W) (hq : pc + 3 = q) (kk : EV G l K d bc bs q ls (.ref 1 :: st) S post) : EV G l K d bc bs pc ls st S post := by
  subst hq
  intro p e R s m args below meth c Q F Rt hf hlc H locs cells slots LS hc hs hR hS hL
  obtain ⟨-, -, -, -, -, ⟨z1, z2⟩, -⟩ := F.2.2.2.2.2.2
  exact va_gets F.1 F.2.1 z1 hS F.2.2.2.1 (F.2.2.2.2.2.1 _ hw) (fun _ h => h) hd (kk p e R s m args below meth c Q F Rt hf hlc H locs cells slots LS hc hs hR hS hL)
theorem ev_getDC {i : Nat} (hd : decode K.1 pc = .ok (.getstatic i, 3)) (hw : Cond.fieldLink K.2.1 i th_AL "DEFAULTCAPACITY_EMPTY_ELEMENTDATA" "[Ljava/lang/Object;" ∈ th_W) (hq : pc + 3 = q) (kk : EV G l K d bc bs q ls (.ref 2 :: st) S post) : EV G l K d bc bs pc ls st S post := by
  subst hq
  intro p e R s m args below meth c Q F Rt hf hlc H locs cells slots LS hc hs hR hS hL
  obtain ⟨-, -, -, -, -, ⟨z1, z2⟩, -⟩ := F.2.2.2.2.2.2
  exact va_gets F.1 F.2.1 z2 hS F.2.2.2.1 (F.2.2.2.2.2.1 _ hw) (fun _ h => h) hd (kk p e R s m args below meth c Q F Rt hf hlc H locs cells slots LS hc hs hR hS hL)
/-! cells that are made -/
theorem ev_newa {t n : Nat} {i : Int32} {at0 : ArrayType} (hd : decode K.1 pc = .ok (.newarray at0, 2)) (hty : newarray.typeOf at0 = th_ty t) (ht : t < 4) (hw : Cond.arrayClass (th_ty t) ∈ th_W) (hi : i = nI n) (hn : n ≤ 1000) (hq : pc + 2 = q) (kk : EV G l K d bc bs q ls (.ref S.1 :: st) (th_nw S (.inl (t, n, fun _ => none))) post) : EV G l K d (bc + 1) (bs + n) pc ls (.int i :: st) S post := by
  subst hq
  intro p e R s m args below meth c Q F Rt hf hlc H locs cells slots LS hc hs hR hS hL
  have hnc : i.toNatClampNeg = n := by rw [hi]; exact nI_clamp (by omega)
  have hbig : n * componentBytes (newarray.typeOf at0) ≤ 536870912 := by
    have : componentBytes (newarray.typeOf at0) ≤ 8 := by
      rw [hty]
      rcases (show t = 0 ∨ t = 1 ∨ t = 2 ∨ t = 3 by omega) with rfl | rfl | rfl | rfl <;> decide
    exact Nat.le_trans (Nat.mul_le_mul hn this) (by decide)
  refine va_newaK F.1 F.2.1 (by rw [hty]; exact F.2.2.2.2.2.1 _ hw) rfl hd rfl (by rw [hi]; exact nI_pos (by omega)) hnc hbig (by omega) (by omega) rfl (fun H1 cA e1 z1 o1 hAr hNm => ?_)
  have hcA : cA = G.2.2.2.1 t := by
    have h2 := (th_tyK F.2.2.2.2.2.2 (t := t) (by omega)).2
    rw [hty] at hNm
    rcases (show t = 0 ∨ t = 1 ∨ t = 2 ∨ t = 3 by omega) with rfl | rfl | rfl | rfl <;> exact Option.some.inj (hNm.symm.trans h2)
  subst hcA
  obtain ⟨hR1, had⟩ := hR.push (c := .inl (t, n, fun _ => none)) z1 o1 (by
    have hb : Nat.blt t 4 = true := Nat.ble_eq_true_of_le ht
    simp only [th_e, hb, cond_true]
    show H1[H.size]? = some (vp_cell _ _)
    rw [e1, vp_cell_i, hty]
    rcases (show t = 0 ∨ t = 1 ∨ t = 2 ∨ t = 3 by omega) with rfl | rfl | rfl | rfl <;> rfl)
  have k1 := kk p e R s m args below meth c Q F Rt hf hlc H1 locs (cells + 1) (slots + n) LS (by omega) (by omega) hR1 (th_S_push hS z1 o1) hL
  simp only [List.map_cons, th_v, had] at k1
  exact k1
theorem ev_newq {t n i0 : Nat} {i : Int32} {C : String} (hd : decode K.1 pc = .ok (.anewarray i0, 3)) (ht : (t = 4 ∧ C = "TriggerHall$Sheet") ∨ (t = 5 ∧ C = "java/lang/Object")) (hw : Cond.classLink K.2.1 i0 C ∈ th_W) (hi : i = nI n) (hn : n ≤ 1000) (hq : pc + 3 = q) (kk : EV G l K d bc bs q ls (.ref S.1 :: st) (th_nw S (.inl (t, n, fun _ => none))) post) : EV G l K d (bc + 1) (bs + n) pc ls (.int i :: st) S post := by
  subst hq
  intro p e R s m args below meth c Q F Rt hf hlc H locs cells slots LS hc hs hR hS hL
  have hnc : i.toNatClampNeg = n := by rw [hi]; exact nI_clamp (by omega)
  have hAO : va_AO C s := by
    rcases ht with ⟨-, rfl⟩ | ⟨-, rfl⟩
    · exact F.2.2.2.2.2.2.2.2.2.1.2
    · exact F.2.2.2.2.2.2.2.2.2.1.1
  have htC : th_ty t = .object C := by rcases ht with ⟨rfl, rfl⟩ | ⟨rfl, rfl⟩ <;> rfl
  have h6 : t < 6 := by rcases ht with ⟨rfl, -⟩ | ⟨rfl, -⟩ <;> decide
  have h4 : 4 ≤ t := by rcases ht with ⟨rfl, -⟩ | ⟨rfl, -⟩ <;> decide
  refine W.anew F.1 F.2.1 F.2.2.2.1 (F.2.2.2.2.2.1 _ hw) (va_AO.use hAO) rfl hd rfl (by rw [hi]; exact nI_pos (by omega)) (by rw [hnc]; omega) (by omega) (by rw [hnc]; omega) (fun cA kA comp f1 f2 f3 f4 => ?_)
  have hcA : cA = G.2.2.2.1 t := by
    have h2 := (th_tyK F.2.2.2.2.2.2 (t := t) h6).2
    rw [htC] at h2
    obtain ⟨-, -, -, -, -, h3⟩ := h2
    exact Option.some.inj (f1.symm.trans h3)
  subst hcA
  rw [hnc]
  generalize hH1 : H.push ({ cls := G.2.2.2.1 t, slots := Array.replicate n .null, vm := .none } : Cell) = H1
  have z1 : H1.size = H.size + 1 := by rw [← hH1, Array.size_push]
  have e1 : H1[H.size]? = some (arrV (G.2.2.2.1 t) n (fun _ => .null)) := by rw [← hH1, Array.getElem?_push_size, ← arrV_new]
  have o1 : ∀ q : Nat, q < H.size → H1[q]? = H[q]? := fun q hq => by rw [← hH1, Array.getElem?_push, if_neg (Nat.ne_of_lt hq)]
  obtain ⟨hR1, had⟩ := hR.push (c := .inl (t, n, fun _ => none)) z1 o1 (by
    have hb : Nat.blt t 4 = false := by simp only [Nat.blt]; exact Bool.eq_false_iff.mpr (fun e => absurd (Nat.le_of_ble_eq_true e) (by omega))
    simp only [th_e, hb, cond_false]
    show H1[H.size]? = some (vp_cell _ _)
    rw [e1, vp_cell_q]
    rfl)
  have k1 := kk p e R s m args below meth c Q F Rt hf hlc H1 locs (cells + 1) (slots + n) LS (by omega) (by omega) hR1 (th_S_push hS z1 o1) hL
  simp only [List.map_cons, th_v, had] at k1
  exact k1
theorem th_dv : ∀ ci, ci < 12 → ∀ j, j < th_nf ci → defaultValue (th_ft ci j) = cond (th_ir ci j) .null (.int 0) := by decide
theorem ev_new {ci i N : Nat} {C : String} {T : u_T} (hd : decode K.1 pc = .ok (.new i, 3)) (hcl : th_cl[ci]? = some (C, T, N)) (w1 : Cond.classLink K.2.1 i C ∈ th_W) (w2 : Cond.instantiable C N ∈ th_W) (w3 : Cond.initialized C ∈ th_W) (hq : pc + 3 = q) (kk : EV G l K d bc bs q ls (.ref S.1 :: st) (th_nw S (.inr (ci, fun _ => none))) post) : EV G l K d (bc + 1) (bs + N) pc ls st S post := by
  subst hq
  intro p e R s m args below meth c Q F Rt hf hlc H locs cells slots LS hc hs hR hS hL
  have hts := F.2.2.2.2.2.1
  have hK := F.2.2.2.2.2.2.1
  obtain ⟨hin, hty, hnm, h4⟩ := th_cls hcl
  have hKn := hK.1 ci _ hcl
  refine W.newcK F.1 F.2.1 F.2.2.2.1 (hts _ w1) (hts _ w2) (hts _ w3) rfl hd (by omega) (by omega) hKn.2.1 rfl (fun H1 kC hkC e1 z1 o1 => ?_)
  have hci : ci < 12 := (List.getElem?_eq_some_iff.mp hcl).1
  obtain ⟨hR1, had⟩ := hR.push (c := .inr (ci, fun _ => none)) z1 o1 ⟨_, hcl, (u_born (th_ft ci) hts hin hKn hkC e1 hty).to (fun j hj => by
    have hj : j < N := hj
    show defaultValue (th_ft ci j) = ((List.range (th_nf ci)).map (th_fv G ci (fun _ => none) (fun _ => 0))).getD j .null
    rw [List.getD_eq_getElem?_getD, th_fs_get (by rw [← h4]; exact hj), th_dv ci hci j (by rw [← h4]; exact hj)]
    rfl)⟩
  have k1 := kk p e R s m args below meth c Q F Rt hf hlc H1 locs (cells + 1) (slots + N) LS (by omega) (by omega) hR1 (th_S_push hS z1 o1) hL
  simp only [List.map_cons, th_v, had] at k1
  exact k1
theorem ev_acmp_eq {a b : Nat} {off : Int} {t : Nat} (hd : decode K.1 pc = .ok (.if_acmp .eq off, 3)) (hq : pc + 3 = q) (ht : (pc : Int) + off = (t : Int)) (kt : th_ad G a = th_ad G b → EV G l K d bc bs t ls st S post) (kf : ¬ th_ad G a = th_ad G b → EV G l K d bc bs q ls st S post) : EV G l K d bc bs pc ls (.ref b :: .ref a :: st) S post := by
  subst hq
  intro p e R s m args below meth c Q F Rt hf hlc H locs cells slots LS hc hs hR hS hL
  exact lv_acmp_eq (rx := some (th_ad G a)) (ry := some (th_ad G b)) F.1 F.2.1 hd ht (fun h => kt (Option.some.inj h) p e R s m args below meth c Q F Rt hf hlc H locs cells slots LS hc hs hR hS hL) (fun h => kf (fun z => h (congrArg some z)) p e R s m args below meth c Q F Rt hf hlc H locs cells slots LS hc hs hR hS hL)
theorem ev_acmp_ne {a b : Nat} {off : Int} {t : Nat} (hd : decode K.1 pc = .ok (.if_acmp .ne off, 3)) (hq : pc + 3 = q) (ht : (pc : Int) + off = (t : Int)) (kt : ¬ th_ad G a = th_ad G b → EV G l K d bc bs t ls st S post) (kf : th_ad G a = th_ad G b → EV G l K d bc bs q ls st S post) : EV G l K d bc bs pc ls (.ref b :: .ref a :: st) S post := by
  subst hq
  intro p e R s m args below meth c Q F Rt hf hlc H locs cells slots LS hc hs hR hS hL
  exact lv_acmp_ne (rx := some (th_ad G a)) (ry := some (th_ad G b)) F.1 F.2.1 hd ht (fun h => kt (fun z => h (congrArg some z)) p e R s m args below meth c Q F Rt hf hlc H locs cells slots LS hc hs hR hS hL) (fun h => kf (Option.some.inj h) p e R s m args below meth c Q F Rt hf hlc H locs cells slots LS hc hs hR hS hL)
theorem ev_chk {a ci i : Nat} {f : Nat → Option Nat} {C : String} {T : u_T} {N : Nat} (hd : decode K.1 pc = .ok (.checkcast i, 3)) (ha : S.2.1 a = some (.inr (ci, f))) (hcl : th_cl[ci]? = some (C, T, N)) (hw : Cond.classLink K.2.1 i C ∈ th_W) (hq : pc + 3 = q) (kk : EV G l K d bc bs q ls (.ref a :: st) S post) : EV G l K d bc bs pc ls (.ref a :: st) S post := by
  subst hq
  intro p e R s m args below meth c Q F Rt hf hlc H locs cells slots LS hc hs hR hS hL
  have hK := F.2.2.2.2.2.2.1
  exact va_castS F.1 F.2.1 F.2.2.2.1 (F.2.2.2.2.2.1 _ hw) (hK.1 ci _ hcl).2 (va_recv hK (th_P1 (hR.get ha)) (q0 := 0) hcl rfl) hd (kk p e R s m args below meth c Q F Rt hf hlc H locs cells slots LS hc hs hR hS hL)
end EVA
end
section
/-! calls -/
def th_post (G : th_G) (P : Option Value → th_S → Prop) : State → Outcome → State → Prop := fun st oc t => (∃ (r : Option Value) (S' : th_S), oc = .returned (r.map (th_v G)) ∧ P r S' ∧ th_R G S' t.heap) ∧ va_F (th_A G) st t
theorem th_blind {G : th_G} {S : th_S} {As : List Value} : FrameBlind (va_Pc (As.map (th_v G)) (fun U => th_R G S U.heap ∧ th_Amb G U)) := by
  intro a U g mk h
  obtain ⟨h1, h2, h3⟩ := h
  exact ⟨h1, h2, h3.moved (U := U.calling g mk a) (State.WarmedH.refl U) (fun _ _ _ => rfl) h3.2.2.2.2.2.2.2⟩
theorem th_good {y : MethodName} {Ky : th_M} (h : Cond.code y Ky.1 Ky.2.2.1 Ky.2.2.2.1 ∈ th_W) : GoodIn th_W (Cond.code y Ky.1 Ky.2.2.1 Ky.2.2.2.1 :: th_W) := by
  intro w hw
  rcases List.mem_cons.mp hw with rfl | hw
  · exact ⟨h, good_of_word (List.mem_filter.mp h).2⟩
  · exact ⟨hw, good_of_word (List.mem_filter.mp hw).2⟩
/-- what a call needs of its callee: its code, its class, how many parameters -/
def th_cB (y : MethodName) (Ky : th_M) (n : Nat) : Prop := Cond.code y Ky.1 Ky.2.2.1 Ky.2.2.2.1 ∈ th_W ∧ Cond.initialized y.cls ∈ th_W ∧ (y.cls ≠ "java/lang/invoke/MethodHandle" ∧ y.cls ≠ "java/lang/invoke/VarHandle" ∧ (parseMethodDescriptor y.desc).map (fun d => d.parameters.length) = some n) ∧ Ky.2.2.1 ≤ 21
def th_lk (own : String) (i : Nat) (y : MethodName) : Prop := Cond.methodLink own i y ∈ th_W ∨ ∃ host, Cond.methodLinkNest own i y host ∈ th_N
def th_cV (own : String) (i : Nat) (y : MethodName) (Ky : th_M) (n : Nat) : Prop := th_cB y Ky n ∧ th_lk own i y ∧ Cond.instanceMethod y ∈ th_W ∧ Cond.selects y.cls y y ∈ th_W
def th_cS (own : String) (i : Nat) (y : MethodName) (Ky : th_M) (n : Nat) : Prop := th_cB y Ky n ∧ th_lk own i y ∧ Cond.static y ∈ th_W
def th_cI (own : String) (i : Nat) (y : MethodName) (Ky : th_M) (n : Nat) : Prop := th_cB y Ky n ∧ th_lk own i y ∧ Cond.instanceMethod y ∈ th_W ∧ y.name = "<init>" ∧ Ky.2.2.2.1 = none
theorem th_mapS {G : th_G} (r : Option Value) (st : List Value) : (r.toList ++ st).map (th_v G) = (r.map (th_v G)).toList ++ st.map (th_v G) := by cases r <;> simp
theorem th_catS {G : th_G} {st : List Value} (h : (st.map fun v => v.category).sum ≤ 8) : ((st.map (th_v G)).map fun v => v.category).sum ≤ 8 := by
  rw [List.map_map]
  have : ((fun v : Value => v.category) ∘ th_v G) = fun v => v.category := by funext v; exact th_v_cat G v
  rw [this]
  exact h
section EVC
variable {G : th_G} {l : Launch} {K : th_M} {d bc bs pc q : Nat} {ls : List (Option Value)} {st : List Value} {S : th_S} {post : Option Value → th_S → Prop}
theorem th_pre {p : Program} {s : State} {m : MethodId} {args : Array Value} {meth : Method} {c : Code} {H : Heap} {locs : List Loc} (F : th_Fix G K p s m args meth c) (hR : th_R G S H) (hS : va_S (th_A G) s.heap H locs) (As : List Value) : ∀ U : State, U.heap = H → s.WarmedH U.vm → va_Pc (As.map (th_v G)) (fun U => th_R G S U.heap ∧ th_Amb G U) (As.map (th_v G)).toArray U := by
  intro U hU hW
  have hAmb := F.2.2.2.2.2.2
  exact ⟨rfl, by rw [hU]; exact hR, hAmb.moved hW (by rw [hU]; exact hS.2.1) (by rw [hU]; exact Nat.le_trans hAmb.2.2.2.2.2.2.2 hS.1)⟩
theorem th_goes {p : Program} {e : Env} {R : Room} {s : State} {m : MethodId} {args : Array Value} {below : List Frame} {meth : Method} {c : Code} {Q : State → Prop} {H : Heap} {locs : List Loc} {cells slots mc ms : Nat} {LS : Array Slot} {rest st0 : List Value} {P : Option Value → th_S → Prop} (hr : va_Run p l e R s m args below meth c H locs cells slots mc ms (F0 m pc LS st0) rest (th_post G P) (th_A G)) (hS : va_S (th_A G) s.heap H locs)
    (kk : ∀ (r : Option Value) (S' : th_S) (H1 : Heap) (locs1 : List Loc), P r S' → th_R G S' H1 → va_S (th_A G) s.heap H1 locs1 → W p l e R s m args below meth c H1 locs1 (cells + mc) (slots + ms) Q (F0 m (pc + 3) LS ((r.map (th_v G)).toList ++ rest))) : W p l e R s m args below meth c H locs cells slots Q (F0 m pc LS st0) := by
  intro T hT X
  obtain ⟨v, st₀, t, T', L, h0, X', hL, e1, e2, ⟨⟨r, S', hv, hp, hR1⟩, hz, hk⟩, st⟩ := hr T hT X
  cases hv
  rw [h0] at hz hk
  obtain ⟨t2, a1, b1⟩ := kk r S' T'.heap (locs ++ L) hp (by rw [e1]; exact hR1)
    ⟨Nat.le_trans hS.1 (by rw [e1]; exact hz), fun q h1 h2 => by rw [e1, hk q (Nat.lt_of_lt_of_le h1 hS.1) h2]; exact hS.2.1 q h1 h2, fun q hq => by
      rcases List.mem_append.mp hq with h | h
      · exact hS.2.2 q h
      · exact hL q h⟩ T' rfl X'
  exact ⟨t2, st t2 a1, b1⟩
theorem th_goes5 {p : Program} {e : Env} {R : Room} {s : State} {m : MethodId} {args : Array Value} {below : List Frame} {meth : Method} {c : Code} {Q : State → Prop} {H : Heap} {locs : List Loc} {cells slots mc ms : Nat} {LS : Array Slot} {rest st0 : List Value} {P : Option Value → th_S → Prop} (hr : va_Run5 p l e R s m args below meth c H locs cells slots mc ms (F0 m pc LS st0) rest (th_post G P) (th_A G)) (hS : va_S (th_A G) s.heap H locs)
    (kk : ∀ (r : Option Value) (S' : th_S) (H1 : Heap) (locs1 : List Loc), P r S' → th_R G S' H1 → va_S (th_A G) s.heap H1 locs1 → W p l e R s m args below meth c H1 locs1 (cells + mc) (slots + ms) Q (F0 m (pc + 5) LS ((r.map (th_v G)).toList ++ rest))) : W p l e R s m args below meth c H locs cells slots Q (F0 m pc LS st0) := by
  intro T hT X
  obtain ⟨v, st₀, t, T', L, h0, X', hL, e1, e2, ⟨⟨r, S', hv, hp, hR1⟩, hz, hk⟩, st⟩ := hr T hT X
  cases hv
  rw [h0] at hz hk
  obtain ⟨t2, a1, b1⟩ := kk r S' T'.heap (locs ++ L) hp (by rw [e1]; exact hR1)
    ⟨Nat.le_trans hS.1 (by rw [e1]; exact hz), fun q h1 h2 => by rw [e1, hk q (Nat.lt_of_lt_of_le h1 hS.1) h2]; exact hS.2.1 q h1 h2, fun q hq => by
      rcases List.mem_append.mp hq with h | h
      · exact hS.2.2 q h
      · exact hL q h⟩ T' rfl X'
  exact ⟨t2, st t2 a1, b1⟩
theorem ev_cV {a i n ci d1 c1 s1 : Nat} {y : MethodName} {Ky : th_M} {As : List Value} {f : Nat → Option Nat} {T : u_T} {N : Nat} {P : Option Value → th_S → Prop} (hM : MT G l y Ky d1 c1 s1 (.ref a :: As) S P) (hd : decode K.1 pc = .ok (.invokevirtual i, 3)) (hw : th_cV K.2.1 i y Ky n) (ha : S.2.1 a = some (.inr (ci, f))) (hcl : th_cl[ci]? = some (y.cls, T, N)) (hn : As.length = n) (hst : (st.map fun v => v.category).sum ≤ 8) (hd1 : d1 + 1 ≤ d) (hq : pc + 3 = q) {st0 : List Value} (hst0 : As.reverse ++ .ref a :: st = st0) (kk : ∀ (r : Option Value) (S1 : th_S), P r S1 → EV G l K d bc bs q ls (r.toList ++ st) S1 post) : EV G l K d (bc + c1) (bs + s1) pc ls st0 S post := by
  subst hq
  intro p e R s m args below meth c Q F Rt hf hlc H locs cells slots LS hc hs hR hS hL
  have hts := F.2.2.2.2.2.1
  obtain ⟨⟨w1, w2, w3, w4⟩, hw⟩ := hw
  have hroom : d1 + 1 ≤ R.frames ∧ 8 + (Ky.2.2.1 + 11) + 40 * d1 ≤ R.locals := ⟨by omega, by omega⟩
  have hG := th_good (Ky := Ky) w1
  subst hst0
  obtain ⟨hl, hin, hse⟩ := hw
  have hK := F.2.2.2.2.2.2.1
  have hrecv := va_recv hK (th_P1 (hR.get ha)) (q0 := 0) hcl rfl
  have hstk : (As.reverse ++ .ref a :: st).map (th_v G) = (As.map (th_v G)).reverse ++ .ref (th_ad G a) :: st.map (th_v G) := by simp [th_v]
  rw [hstk]
  refine th_goes (P := P) (rest := st.map (th_v G)) (mc := c1) (ms := s1) ?_ hS (fun r S1 H1 locs1 hp hR1 hS1 => ?_)
  · rcases hl with hl | ⟨host, hl⟩
    · exact va_runV (As := As.map (th_v G)) (rest := st.map (th_v G)) (n := n) ⟨F.1, F.2.1, F.2.2.1, F.2.2.2.1, hts⟩ hM ⟨callB_of n hts hG rfl rfl rfl (hts _ w2) (hts _ hl) w3 hroom, hts _ hin, hts _ hse⟩ ⟨th_blind, hrecv, th_pre F hR hS (.ref a :: As)⟩ rfl (by simpa using hn) hL.1 rfl (lv_room (th_catS hst)) hd ⟨by omega, by omega⟩
    · exact va_runVN (As := As.map (th_v G)) (rest := st.map (th_v G)) (n := n) ⟨F.1, F.2.1, F.2.2.1, F.2.2.2.1, hts⟩ hM ⟨va_cnB n hts hG rfl rfl rfl (F.2.2.2.2.2.2.2.1 _ hl) (hts _ w2) w3 hroom, hts _ hin, hts _ hse⟩ ⟨th_blind, hrecv, th_pre F hR hS (.ref a :: As)⟩ rfl (by simpa using hn) hL.1 rfl (lv_room (th_catS hst)) hd ⟨by omega, by omega⟩
  · rw [← th_mapS]
    exact kk r S1 hp p e R s m args below meth c Q F Rt hf hlc H1 locs1 (cells + c1) (slots + s1) LS (by omega) (by omega) hR1 hS1 hL
theorem ev_cS {i n d1 c1 s1 : Nat} {y : MethodName} {Ky : th_M} {As : List Value} {P : Option Value → th_S → Prop} (hM : MT G l y Ky d1 c1 s1 As S P) (hd : decode K.1 pc = .ok (.invokestatic i, 3)) (hw : th_cS K.2.1 i y Ky n) (hn : As.length = n) (hst : (st.map fun v => v.category).sum ≤ 8) (hd1 : d1 + 1 ≤ d) (hq : pc + 3 = q) {st0 : List Value} (hst0 : As.reverse ++ st = st0) (kk : ∀ (r : Option Value) (S1 : th_S), P r S1 → EV G l K d bc bs q ls (r.toList ++ st) S1 post) : EV G l K d (bc + c1) (bs + s1) pc ls st0 S post := by
  subst hq
  intro p e R s m args below meth c Q F Rt hf hlc H locs cells slots LS hc hs hR hS hL
  have hts := F.2.2.2.2.2.1
  obtain ⟨⟨w1, w2, w3, w4⟩, hw⟩ := hw
  have hroom : d1 + 1 ≤ R.frames ∧ 8 + (Ky.2.2.1 + 11) + 40 * d1 ≤ R.locals := ⟨by omega, by omega⟩
  have hG := th_good (Ky := Ky) w1
  subst hst0
  obtain ⟨hl, hse⟩ := hw
  have hstk : (As.reverse ++ st).map (th_v G) = (As.map (th_v G)).reverse ++ st.map (th_v G) := by simp
  rw [hstk]
  refine th_goes (P := P) (rest := st.map (th_v G)) (mc := c1) (ms := s1) ?_ hS (fun r S1 H1 locs1 hp hR1 hS1 => ?_)
  · rcases hl with hl | ⟨host, hl⟩
    · exact va_runS (As := As.map (th_v G)) (rest := st.map (th_v G)) (n := n) ⟨F.1, F.2.1, F.2.2.1, F.2.2.2.1, hts⟩ hM ⟨callB_of n hts hG rfl rfl rfl (hts _ w2) (hts _ hl) w3 hroom, hts _ hse⟩ ⟨th_blind, th_pre F hR hS As⟩ rfl (by simpa using hn) hL.1 rfl (lv_room (th_catS hst)) hd ⟨by omega, by omega⟩
    · exact va_runSN (As := As.map (th_v G)) (rest := st.map (th_v G)) (n := n) ⟨F.1, F.2.1, F.2.2.1, F.2.2.2.1, hts⟩ hM ⟨va_cnB n hts hG rfl rfl rfl (F.2.2.2.2.2.2.2.1 _ hl) (hts _ w2) w3 hroom, hts _ hse, trivial⟩ ⟨th_blind, th_pre F hR hS As⟩ rfl (by simpa using hn) hL.1 rfl (lv_room (th_catS hst)) hd ⟨by omega, by omega⟩
  · rw [← th_mapS]
    exact kk r S1 hp p e R s m args below meth c Q F Rt hf hlc H1 locs1 (cells + c1) (slots + s1) LS (by omega) (by omega) hR1 hS1 hL
theorem ev_cI {a i n d1 c1 s1 : Nat} {y : MethodName} {Ky : th_M} {As : List Value} {P : Option Value → th_S → Prop} (hM : MT G l y Ky d1 c1 s1 (.ref a :: As) S P) (hd : decode K.1 pc = .ok (.invokespecial i, 3)) (hw : th_cI K.2.1 i y Ky n) (hn : As.length = n) (hst : (st.map fun v => v.category).sum ≤ 8) (hd1 : d1 + 1 ≤ d) (hq : pc + 3 = q) {st0 : List Value} (hst0 : As.reverse ++ .ref a :: st = st0) (kk : ∀ (r : Option Value) (S1 : th_S), P r S1 → EV G l K d bc bs q ls (r.toList ++ st) S1 post) : EV G l K d (bc + c1) (bs + s1) pc ls st0 S post := by
  subst hq
  intro p e R s m args below meth c Q F Rt hf hlc H locs cells slots LS hc hs hR hS hL
  have hts := F.2.2.2.2.2.1
  obtain ⟨⟨w1, w2, w3, w4⟩, hw⟩ := hw
  have hroom : d1 + 1 ≤ R.frames ∧ 8 + (Ky.2.2.1 + 11) + 40 * d1 ≤ R.locals := ⟨by omega, by omega⟩
  have hG := th_good (Ky := Ky) w1
  subst hst0
  obtain ⟨hl, hin, hnm, hret⟩ := hw
  obtain ⟨Kb, Ko, Kn, Kr, Km⟩ := Ky
  dsimp only at hret hroom w1 w4 hM hG
  subst hret
  have hstk : (As.reverse ++ .ref a :: st).map (th_v G) = (As.map (th_v G)).reverse ++ .ref (th_ad G a) :: st.map (th_v G) := by simp [th_v]
  rw [hstk]
  refine th_goes (P := P) (rest := st.map (th_v G)) (mc := c1) (ms := s1) ?_ hS (fun r S1 H1 locs1 hp hR1 hS1 => ?_)
  · rcases hl with hl | ⟨host, hl⟩
    · exact va_runI (As := As.map (th_v G)) (rest := st.map (th_v G)) (n := n) ⟨F.1, F.2.1, F.2.2.1, F.2.2.2.1, hts⟩ hM ⟨callB_of n hts hG rfl rfl rfl (hts _ w2) (hts _ hl) w3 hroom, hnm, hts _ hin⟩ ⟨th_blind, th_pre F hR hS (.ref a :: As)⟩ rfl (by simpa using hn) hL.1 rfl (lv_room (th_catS hst)) hd ⟨by omega, by omega⟩
    · exact va_runIN (As := As.map (th_v G)) (rest := st.map (th_v G)) (n := n) ⟨F.1, F.2.1, F.2.2.1, F.2.2.2.1, hts⟩ hM ⟨va_cnB n hts hG rfl rfl rfl (F.2.2.2.2.2.2.2.1 _ hl) (hts _ w2) w3 hroom, hnm, hts _ hin⟩ ⟨th_blind, th_pre F hR hS (.ref a :: As)⟩ rfl (by simpa using hn) hL.1 rfl (lv_room (th_catS hst)) hd ⟨by omega, by omega⟩
  · rw [← th_mapS]
    exact kk r S1 hp p e R s m args below meth c Q F Rt hf hlc H1 locs1 (cells + c1) (slots + s1) LS (by omega) (by omega) hR1 hS1 hL
def th_cF (own : String) (i : Nat) (x y : MethodName) (Ky : th_M) (n : Nat) : Prop := th_cB y Ky n ∧ Cond.methodLink own i x ∈ th_W ∧ Cond.selects th_AL x y ∈ th_W ∧ Cond.instanceMethod y ∈ th_W ∧ ((x = yLi_size ∧ y = yJx4a65c_size_8abf5) ∨ (x = yLi_get ∧ y = yJx4a65c_get_915e3) ∨ (x = yLi_add ∧ y = yJx4a65c_add_9ea2d))
theorem ev_cF {a i n cnt d1 c1 s1 : Nat} {x y : MethodName} {Ky : th_M} {As : List Value} {f : Nat → Option Nat} {P : Option Value → th_S → Prop} (hM : MT G l y Ky d1 c1 s1 (.ref a :: As) S P) (hd : decode K.1 pc = .ok (.invokeinterface i cnt, 5)) (hw : th_cF K.2.1 i x y Ky n) (ha : S.2.1 a = some (.inr (11, f))) (hn : As.length = n) (hst : (st.map fun v => v.category).sum ≤ 8) (hd1 : d1 + 1 ≤ d) (hq : pc + 5 = q) {st0 : List Value} (hst0 : As.reverse ++ .ref a :: st = st0) (kk : ∀ (r : Option Value) (S1 : th_S), P r S1 → EV G l K d bc bs q ls (r.toList ++ st) S1 post) : EV G l K d (bc + c1) (bs + s1) pc ls st0 S post := by
  subst hq
  intro p e R s m args below meth c Q F Rt hf hlc H locs cells slots LS hc hs hR hS hL
  have hts := F.2.2.2.2.2.1
  obtain ⟨⟨w1, w2, w3, w4⟩, hw⟩ := hw
  have hroom : d1 + 1 ≤ R.frames ∧ 8 + (Ky.2.2.1 + 11) + 40 * d1 ≤ R.locals := ⟨by omega, by omega⟩
  have hG := th_good (Ky := Ky) w1
  subst hst0
  obtain ⟨hl, hse, hin, hxy⟩ := hw
  have hAmb := F.2.2.2.2.2.2
  have hK := hAmb.1
  have hrecv := va_recv hK (th_P1 (hR.get ha)) (q0 := 0) (ci := 11) (q := (RJx4a65c, TJx4a65c, 3)) rfl rfl
  have hF : va_Fw th_AL x y s := by
    rcases hxy with ⟨rfl, rfl⟩ | ⟨rfl, rfl⟩ | ⟨rfl, rfl⟩
    · exact hAmb.2.2.1.1
    · exact hAmb.2.2.1.2.1
    · exact hAmb.2.2.1.2.2
  have hx3 : x.cls ≠ "java/lang/invoke/MethodHandle" ∧ x.cls ≠ "java/lang/invoke/VarHandle" ∧ (parseMethodDescriptor x.desc).map (fun d => d.parameters.length) = some n := by
    have hd2 := w3.2.2
    rcases hxy with ⟨rfl, rfl⟩ | ⟨rfl, rfl⟩ | ⟨rfl, rfl⟩
    · exact ⟨by decide, by decide, hd2⟩
    · exact ⟨by decide, by decide, hd2⟩
    · exact ⟨by decide, by decide, hd2⟩
  have hT : GoodIn th_W (va_wsF K.2.1 i th_AL x y (Cond.code y Ky.1 Ky.2.2.1 Ky.2.2.2.1 :: th_W)) := by
    intro w hw
    unfold va_wsF at hw
    rcases List.mem_append.mp hw with hw | hw
    · have hm : w ∈ th_W := by
        simp only [List.mem_cons, List.not_mem_nil, or_false] at hw
        rcases hw with rfl | rfl | rfl | rfl
        · exact hl
        · exact hse
        · exact hin
        · exact w2
      exact ⟨hm, good_of_word (List.mem_filter.mp hm).2⟩
    · exact hG w hw
  have hstk : (As.reverse ++ .ref a :: st).map (th_v G) = (As.map (th_v G)).reverse ++ .ref (th_ad G a) :: st.map (th_v G) := by simp [th_v]
  rw [hstk]
  refine th_goes5 (P := P) (rest := st.map (th_v G)) (mc := c1) (ms := s1) ?_ hS (fun r S1 H1 locs1 hp hR1 hS1 => ?_)
  · exact va_runF (As := As.map (th_v G)) (rest := st.map (th_v G)) (n := n) (hK.1 11 _ rfl).2 ⟨F.1, F.2.1, F.2.2.1, F.2.2.2.1, hts⟩ hM (va_cwF n hts hT rfl rfl rfl hF hx3 hroom) ⟨th_blind, hrecv, th_pre F hR hS (.ref a :: As)⟩ rfl (by simpa using hn) hL.1 rfl (lv_room (th_catS hst)) hd ⟨by omega, by omega⟩
  · rw [← th_mapS]
    exact kk r S1 hp p e R s m args below meth c Q F Rt hf hlc H1 locs1 (cells + c1) (slots + s1) LS (by omega) (by omega) hR1 hS1 hL
theorem ev_oI {a i : Nat} (hd : decode K.1 pc = .ok (.invokespecial i, 3)) (h1 : Cond.methodLink K.2.1 i objectInit ∈ th_W) (h2 : Cond.instanceMethod objectInit ∈ th_W) (h3 : Cond.code objectInit ⟨#[0xb1]⟩ 1 none ∈ th_W) (hst : (st.map fun v => v.category).sum ≤ 8) (hd1 : 1 ≤ d) (hq : pc + 3 = q) (kk : EV G l K d bc bs q ls st S post) : EV G l K d bc bs pc ls (.ref a :: st) S post := by
  subst hq
  intro p e R s m args below meth c Q F Rt hf hlc H locs cells slots LS hc hs hR hS hL
  have hts := F.2.2.2.2.2.1
  have h8 := lv_room (m := m) (pc := pc) (ls := LS) (rest := []) (th_catS (G := G) hst)
  exact W.objInit F.1 F.2.1 F.2.2.2.1 (hts _ h1) (hts _ h2) (hts _ h3) rfl (by rw [F.2.2.1]; exact hL.1) rfl hd (by omega) (by
    have : 2 * (F0 m pc LS (List.map (th_v G) (Value.ref a :: st))).monitorRoom + ((st.map (th_v G)).map fun v => v.category).sum ≤ 8 := lv_room (th_catS hst)
    omega) (kk p e R s m args below meth c Q F Rt hf hlc H locs cells slots LS hc hs hR hS hL)
end EVC
end
