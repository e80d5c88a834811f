-- ===== PART A: goes FIRST, ahead of the names: the tables' words, and 'selects' of the private methods out of them =====
/-- a private method of a class that the tables say can be made, by its rows of tables_1 -/
def lw_okq (q : MethodName × Nat) : Prop := (q.1.cls ≠ "java/lang/invoke/MethodHandle" ∧ q.1.cls ≠ "java/lang/invoke/VarHandle") ∧ Cond.instantiable q.1.cls q.2 ∈ tables_1 ∧ Cond.privateMethod q.1 ∈ tables_1 ∧ Cond.instanceMethod q.1 ∈ tables_1
theorem lw_p0 : lw_okq (⟨"TriggerHall", "sheetAt", "(I)LTriggerHall$Sheet;"⟩, 16) := ⟨⟨by decide +kernel, by decide +kernel⟩, List.mem_of_getElem? (i := 23) (by decide +kernel), List.mem_of_getElem? (i := 279) (by decide +kernel), List.mem_of_getElem? (i := 280) (by decide +kernel)⟩
theorem lw_p1 : lw_okq (⟨"TriggerHall$Sheet", "lay", "(II)V"⟩, 4) := ⟨⟨by decide +kernel, by decide +kernel⟩, List.mem_of_getElem? (i := 32) (by decide +kernel), List.mem_of_getElem? (i := 283) (by decide +kernel), List.mem_of_getElem? (i := 284) (by decide +kernel)⟩
theorem lw_p2 : lw_okq (⟨"TriggerHall$Sheet", "has", "(I)Z"⟩, 4) := ⟨⟨by decide +kernel, by decide +kernel⟩, List.mem_of_getElem? (i := 32) (by decide +kernel), List.mem_of_getElem? (i := 291) (by decide +kernel), List.mem_of_getElem? (i := 292) (by decide +kernel)⟩
theorem lw_p3 : lw_okq (⟨"TriggerHall$Sheet", "put", "(II)V"⟩, 4) := ⟨⟨by decide +kernel, by decide +kernel⟩, List.mem_of_getElem? (i := 32) (by decide +kernel), List.mem_of_getElem? (i := 295) (by decide +kernel), List.mem_of_getElem? (i := 296) (by decide +kernel)⟩
theorem lw_p4 : lw_okq (⟨"TriggerHall$Sheet", "numberAt", "(I)I"⟩, 4) := ⟨⟨by decide +kernel, by decide +kernel⟩, List.mem_of_getElem? (i := 32) (by decide +kernel), List.mem_of_getElem? (i := 325) (by decide +kernel), List.mem_of_getElem? (i := 326) (by decide +kernel)⟩
theorem lw_p5 : lw_okq (⟨"TriggerHall$Road", "setSpan", "(II)V"⟩, 3) := ⟨⟨by decide +kernel, by decide +kernel⟩, List.mem_of_getElem? (i := 357) (by decide +kernel), List.mem_of_getElem? (i := 373) (by decide +kernel), List.mem_of_getElem? (i := 374) (by decide +kernel)⟩
theorem lw_p6 : lw_okq (⟨"java/util/ArrayList", "add", "(Ljava/lang/Object;[Ljava/lang/Object;I)V"⟩, 3) := ⟨⟨by decide +kernel, by decide +kernel⟩, List.mem_of_getElem? (i := 53) (by decide +kernel), List.mem_of_getElem? (i := 388) (by decide +kernel), List.mem_of_getElem? (i := 389) (by decide +kernel)⟩
theorem lw_p7 : lw_okq (⟨"java/util/ArrayList", "grow", "()[Ljava/lang/Object;"⟩, 3) := ⟨⟨by decide +kernel, by decide +kernel⟩, List.mem_of_getElem? (i := 53) (by decide +kernel), List.mem_of_getElem? (i := 392) (by decide +kernel), List.mem_of_getElem? (i := 393) (by decide +kernel)⟩
theorem lw_p8 : lw_okq (⟨"java/util/ArrayList", "grow", "(I)[Ljava/lang/Object;"⟩, 3) := ⟨⟨by decide +kernel, by decide +kernel⟩, List.mem_of_getElem? (i := 53) (by decide +kernel), List.mem_of_getElem? (i := 396) (by decide +kernel), List.mem_of_getElem? (i := 397) (by decide +kernel)⟩
theorem lw_p9 : lw_okq (⟨"TriggerHall", "roadAt", "(I)LTriggerHall$Road;"⟩, 16) := ⟨⟨by decide +kernel, by decide +kernel⟩, List.mem_of_getElem? (i := 23) (by decide +kernel), List.mem_of_getElem? (i := 447) (by decide +kernel), List.mem_of_getElem? (i := 448) (by decide +kernel)⟩
theorem lw_p10 : lw_okq (⟨"TriggerHall$Road", "spanTold", "(I)I"⟩, 3) := ⟨⟨by decide +kernel, by decide +kernel⟩, List.mem_of_getElem? (i := 357) (by decide +kernel), List.mem_of_getElem? (i := 470) (by decide +kernel), List.mem_of_getElem? (i := 471) (by decide +kernel)⟩
theorem lw_p11 : lw_okq (⟨"TriggerHall$Look", "see", "([I[I[I)V"⟩, 6) := ⟨⟨by decide +kernel, by decide +kernel⟩, List.mem_of_getElem? (i := 79) (by decide +kernel), List.mem_of_getElem? (i := 478) (by decide +kernel), List.mem_of_getElem? (i := 479) (by decide +kernel)⟩
theorem lw_p12 : lw_okq (⟨"TriggerHall$Look", "light", "(Ljava/util/List;)V"⟩, 6) := ⟨⟨by decide +kernel, by decide +kernel⟩, List.mem_of_getElem? (i := 79) (by decide +kernel), List.mem_of_getElem? (i := 483) (by decide +kernel), List.mem_of_getElem? (i := 484) (by decide +kernel)⟩
theorem lw_p13 : lw_okq (⟨"TriggerHall$Road", "isLit", "([I)Z"⟩, 3) := ⟨⟨by decide +kernel, by decide +kernel⟩, List.mem_of_getElem? (i := 357) (by decide +kernel), List.mem_of_getElem? (i := 492) (by decide +kernel), List.mem_of_getElem? (i := 493) (by decide +kernel)⟩
theorem lw_p14 : lw_okq (⟨"TriggerHall$Road", "layersHeld", "([I)I"⟩, 3) := ⟨⟨by decide +kernel, by decide +kernel⟩, List.mem_of_getElem? (i := 357) (by decide +kernel), List.mem_of_getElem? (i := 496) (by decide +kernel), List.mem_of_getElem? (i := 497) (by decide +kernel)⟩
theorem lw_p15 : lw_okq (⟨"TriggerHall$Road", "seenIn", "(I[I)I"⟩, 3) := ⟨⟨by decide +kernel, by decide +kernel⟩, List.mem_of_getElem? (i := 357) (by decide +kernel), List.mem_of_getElem? (i := 500) (by decide +kernel), List.mem_of_getElem? (i := 501) (by decide +kernel)⟩
def lw_privs_1 : List (MethodName × Nat) := [(⟨"TriggerHall", "sheetAt", "(I)LTriggerHall$Sheet;"⟩, 16), (⟨"TriggerHall$Sheet", "lay", "(II)V"⟩, 4), (⟨"TriggerHall$Sheet", "has", "(I)Z"⟩, 4), (⟨"TriggerHall$Sheet", "put", "(II)V"⟩, 4), (⟨"TriggerHall$Sheet", "numberAt", "(I)I"⟩, 4), (⟨"TriggerHall$Road", "setSpan", "(II)V"⟩, 3), (⟨"java/util/ArrayList", "add", "(Ljava/lang/Object;[Ljava/lang/Object;I)V"⟩, 3), (⟨"java/util/ArrayList", "grow", "()[Ljava/lang/Object;"⟩, 3), (⟨"java/util/ArrayList", "grow", "(I)[Ljava/lang/Object;"⟩, 3), (⟨"TriggerHall", "roadAt", "(I)LTriggerHall$Road;"⟩, 16), (⟨"TriggerHall$Road", "spanTold", "(I)I"⟩, 3), (⟨"TriggerHall$Look", "see", "([I[I[I)V"⟩, 6), (⟨"TriggerHall$Look", "light", "(Ljava/util/List;)V"⟩, 6), (⟨"TriggerHall$Road", "isLit", "([I)Z"⟩, 3), (⟨"TriggerHall$Road", "layersHeld", "([I)I"⟩, 3), (⟨"TriggerHall$Road", "seenIn", "(I[I)I"⟩, 3)]
theorem lw_r1 : ∀ q ∈ lw_privs_1, lw_okq q := List.forall_mem_cons.mpr ⟨lw_p0, List.forall_mem_cons.mpr ⟨lw_p1, List.forall_mem_cons.mpr ⟨lw_p2, List.forall_mem_cons.mpr ⟨lw_p3, List.forall_mem_cons.mpr ⟨lw_p4, List.forall_mem_cons.mpr ⟨lw_p5, List.forall_mem_cons.mpr ⟨lw_p6, List.forall_mem_cons.mpr ⟨lw_p7, List.forall_mem_cons.mpr ⟨lw_p8, List.forall_mem_cons.mpr ⟨lw_p9, List.forall_mem_cons.mpr ⟨lw_p10, List.forall_mem_cons.mpr ⟨lw_p11, List.forall_mem_cons.mpr ⟨lw_p12, List.forall_mem_cons.mpr ⟨lw_p13, List.forall_mem_cons.mpr ⟨lw_p14, List.forall_mem_cons.mpr ⟨lw_p15, fun _ h => absurd h List.not_mem_nil⟩⟩⟩⟩⟩⟩⟩⟩⟩⟩⟩⟩⟩⟩⟩⟩
theorem lw_p16 : lw_okq (⟨"TriggerHall", "fitInHand", "(LTriggerHall$Road;)Z"⟩, 16) := ⟨⟨by decide +kernel, by decide +kernel⟩, List.mem_of_getElem? (i := 23) (by decide +kernel), List.mem_of_getElem? (i := 514) (by decide +kernel), List.mem_of_getElem? (i := 515) (by decide +kernel)⟩
theorem lw_p17 : lw_okq (⟨"TriggerHall$Look", "fitAlong", "(LTriggerHall$Road;)Z"⟩, 6) := ⟨⟨by decide +kernel, by decide +kernel⟩, List.mem_of_getElem? (i := 79) (by decide +kernel), List.mem_of_getElem? (i := 518) (by decide +kernel), List.mem_of_getElem? (i := 519) (by decide +kernel)⟩
theorem lw_p18 : lw_okq (⟨"TriggerHall$Fit", "along", "(LTriggerHall$Road;[I)V"⟩, 7) := ⟨⟨by decide +kernel, by decide +kernel⟩, List.mem_of_getElem? (i := 85) (by decide +kernel), List.mem_of_getElem? (i := 522) (by decide +kernel), List.mem_of_getElem? (i := 523) (by decide +kernel)⟩
theorem lw_p19 : lw_okq (⟨"TriggerHall$Fit", "tryCells", "(IIII)V"⟩, 7) := ⟨⟨by decide +kernel, by decide +kernel⟩, List.mem_of_getElem? (i := 85) (by decide +kernel), List.mem_of_getElem? (i := 528) (by decide +kernel), List.mem_of_getElem? (i := 529) (by decide +kernel)⟩
theorem lw_p20 : lw_okq (⟨"TriggerHall$Fit", "takeTrial", "(III)V"⟩, 7) := ⟨⟨by decide +kernel, by decide +kernel⟩, List.mem_of_getElem? (i := 85) (by decide +kernel), List.mem_of_getElem? (i := 532) (by decide +kernel), List.mem_of_getElem? (i := 533) (by decide +kernel)⟩
theorem lw_p21 : lw_okq (⟨"TriggerHall$Fit", "isPerfect", "()Z"⟩, 7) := ⟨⟨by decide +kernel, by decide +kernel⟩, List.mem_of_getElem? (i := 85) (by decide +kernel), List.mem_of_getElem? (i := 540) (by decide +kernel), List.mem_of_getElem? (i := 541) (by decide +kernel)⟩
theorem lw_p22 : lw_okq (⟨"TriggerHall$Fit", "above", "()I"⟩, 7) := ⟨⟨by decide +kernel, by decide +kernel⟩, List.mem_of_getElem? (i := 85) (by decide +kernel), List.mem_of_getElem? (i := 548) (by decide +kernel), List.mem_of_getElem? (i := 549) (by decide +kernel)⟩
theorem lw_p23 : lw_okq (⟨"TriggerHall$Fit", "below", "()I"⟩, 7) := ⟨⟨by decide +kernel, by decide +kernel⟩, List.mem_of_getElem? (i := 85) (by decide +kernel), List.mem_of_getElem? (i := 552) (by decide +kernel), List.mem_of_getElem? (i := 553) (by decide +kernel)⟩
theorem lw_p24 : lw_okq (⟨"TriggerHall$Fit", "worth", "()I"⟩, 7) := ⟨⟨by decide +kernel, by decide +kernel⟩, List.mem_of_getElem? (i := 85) (by decide +kernel), List.mem_of_getElem? (i := 565) (by decide +kernel), List.mem_of_getElem? (i := 566) (by decide +kernel)⟩
theorem lw_p25 : lw_okq (⟨"TriggerHall", "lookAt", "([I)V"⟩, 16) := ⟨⟨by decide +kernel, by decide +kernel⟩, List.mem_of_getElem? (i := 23) (by decide +kernel), List.mem_of_getElem? (i := 574) (by decide +kernel), List.mem_of_getElem? (i := 575) (by decide +kernel)⟩
theorem lw_p26 : lw_okq (⟨"TriggerHall$Look", "pile", "(Ljava/util/List;)V"⟩, 6) := ⟨⟨by decide +kernel, by decide +kernel⟩, List.mem_of_getElem? (i := 79) (by decide +kernel), List.mem_of_getElem? (i := 578) (by decide +kernel), List.mem_of_getElem? (i := 579) (by decide +kernel)⟩
theorem lw_p27 : lw_okq (⟨"TriggerHall$Heap", "empty", "()V"⟩, 7) := ⟨⟨by decide +kernel, by decide +kernel⟩, List.mem_of_getElem? (i := 115) (by decide +kernel), List.mem_of_getElem? (i := 582) (by decide +kernel), List.mem_of_getElem? (i := 583) (by decide +kernel)⟩
theorem lw_p28 : lw_okq (⟨"TriggerHall$Look", "isLit", "(I)Z"⟩, 6) := ⟨⟨by decide +kernel, by decide +kernel⟩, List.mem_of_getElem? (i := 79) (by decide +kernel), List.mem_of_getElem? (i := 586) (by decide +kernel), List.mem_of_getElem? (i := 587) (by decide +kernel)⟩
theorem lw_p29 : lw_okq (⟨"TriggerHall$Heap", "put", "(I[I)V"⟩, 7) := ⟨⟨by decide +kernel, by decide +kernel⟩, List.mem_of_getElem? (i := 115) (by decide +kernel), List.mem_of_getElem? (i := 591) (by decide +kernel), List.mem_of_getElem? (i := 592) (by decide +kernel)⟩
theorem lw_p30 : lw_okq (⟨"TriggerHall$Heap", "clash", "(II)Z"⟩, 7) := ⟨⟨by decide +kernel, by decide +kernel⟩, List.mem_of_getElem? (i := 115) (by decide +kernel), List.mem_of_getElem? (i := 595) (by decide +kernel), List.mem_of_getElem? (i := 596) (by decide +kernel)⟩
theorem lw_p31 : lw_okq (⟨"TriggerHall$Heap", "choose", "()V"⟩, 7) := ⟨⟨by decide +kernel, by decide +kernel⟩, List.mem_of_getElem? (i := 115) (by decide +kernel), List.mem_of_getElem? (i := 599) (by decide +kernel), List.mem_of_getElem? (i := 600) (by decide +kernel)⟩
def lw_privs_2 : List (MethodName × Nat) := [(⟨"TriggerHall", "fitInHand", "(LTriggerHall$Road;)Z"⟩, 16), (⟨"TriggerHall$Look", "fitAlong", "(LTriggerHall$Road;)Z"⟩, 6), (⟨"TriggerHall$Fit", "along", "(LTriggerHall$Road;[I)V"⟩, 7), (⟨"TriggerHall$Fit", "tryCells", "(IIII)V"⟩, 7), (⟨"TriggerHall$Fit", "takeTrial", "(III)V"⟩, 7), (⟨"TriggerHall$Fit", "isPerfect", "()Z"⟩, 7), (⟨"TriggerHall$Fit", "above", "()I"⟩, 7), (⟨"TriggerHall$Fit", "below", "()I"⟩, 7), (⟨"TriggerHall$Fit", "worth", "()I"⟩, 7), (⟨"TriggerHall", "lookAt", "([I)V"⟩, 16), (⟨"TriggerHall$Look", "pile", "(Ljava/util/List;)V"⟩, 6), (⟨"TriggerHall$Heap", "empty", "()V"⟩, 7), (⟨"TriggerHall$Look", "isLit", "(I)Z"⟩, 6), (⟨"TriggerHall$Heap", "put", "(I[I)V"⟩, 7), (⟨"TriggerHall$Heap", "clash", "(II)Z"⟩, 7), (⟨"TriggerHall$Heap", "choose", "()V"⟩, 7)]
theorem lw_r2 : ∀ q ∈ lw_privs_2, lw_okq q := List.forall_mem_cons.mpr ⟨lw_p16, List.forall_mem_cons.mpr ⟨lw_p17, List.forall_mem_cons.mpr ⟨lw_p18, List.forall_mem_cons.mpr ⟨lw_p19, List.forall_mem_cons.mpr ⟨lw_p20, List.forall_mem_cons.mpr ⟨lw_p21, List.forall_mem_cons.mpr ⟨lw_p22, List.forall_mem_cons.mpr ⟨lw_p23, List.forall_mem_cons.mpr ⟨lw_p24, List.forall_mem_cons.mpr ⟨lw_p25, List.forall_mem_cons.mpr ⟨lw_p26, List.forall_mem_cons.mpr ⟨lw_p27, List.forall_mem_cons.mpr ⟨lw_p28, List.forall_mem_cons.mpr ⟨lw_p29, List.forall_mem_cons.mpr ⟨lw_p30, List.forall_mem_cons.mpr ⟨lw_p31, fun _ h => absurd h List.not_mem_nil⟩⟩⟩⟩⟩⟩⟩⟩⟩⟩⟩⟩⟩⟩⟩⟩
theorem lw_p32 : lw_okq (⟨"TriggerHall$Heap", "chooseFrom", "(III)V"⟩, 7) := ⟨⟨by decide +kernel, by decide +kernel⟩, List.mem_of_getElem? (i := 115) (by decide +kernel), List.mem_of_getElem? (i := 603) (by decide +kernel), List.mem_of_getElem? (i := 604) (by decide +kernel)⟩
theorem lw_p33 : lw_okq (⟨"TriggerHall$Text", "put", "(C)V"⟩, 2) := ⟨⟨by decide +kernel, by decide +kernel⟩, List.mem_of_getElem? (i := 170) (by decide +kernel), List.mem_of_getElem? (i := 623) (by decide +kernel), List.mem_of_getElem? (i := 624) (by decide +kernel)⟩
theorem lw_p34 : lw_okq (⟨"TriggerHall$Reader", "read", "(LTriggerHall$Text;LTriggerHall$Look;)Z"⟩, 4) := ⟨⟨by decide +kernel, by decide +kernel⟩, List.mem_of_getElem? (i := 186) (by decide +kernel), List.mem_of_getElem? (i := 638) (by decide +kernel), List.mem_of_getElem? (i := 639) (by decide +kernel)⟩
theorem lw_p35 : lw_okq (⟨"TriggerHall$Reader", "readAny", "(I)Z"⟩, 4) := ⟨⟨by decide +kernel, by decide +kernel⟩, List.mem_of_getElem? (i := 186) (by decide +kernel), List.mem_of_getElem? (i := 642) (by decide +kernel), List.mem_of_getElem? (i := 643) (by decide +kernel)⟩
theorem lw_p36 : lw_okq (⟨"TriggerHall$Reader", "readBoth", "(I)Z"⟩, 4) := ⟨⟨by decide +kernel, by decide +kernel⟩, List.mem_of_getElem? (i := 186) (by decide +kernel), List.mem_of_getElem? (i := 646) (by decide +kernel), List.mem_of_getElem? (i := 647) (by decide +kernel)⟩
theorem lw_p37 : lw_okq (⟨"TriggerHall$Reader", "readOne", "(I)Z"⟩, 4) := ⟨⟨by decide +kernel, by decide +kernel⟩, List.mem_of_getElem? (i := 186) (by decide +kernel), List.mem_of_getElem? (i := 650) (by decide +kernel), List.mem_of_getElem? (i := 651) (by decide +kernel)⟩
theorem lw_p38 : lw_okq (⟨"TriggerHall$Text", "letterAt", "(I)I"⟩, 2) := ⟨⟨by decide +kernel, by decide +kernel⟩, List.mem_of_getElem? (i := 170) (by decide +kernel), List.mem_of_getElem? (i := 654) (by decide +kernel), List.mem_of_getElem? (i := 655) (by decide +kernel)⟩
theorem lw_p39 : lw_okq (⟨"TriggerHall$Reader", "readAsked", "()Z"⟩, 4) := ⟨⟨by decide +kernel, by decide +kernel⟩, List.mem_of_getElem? (i := 186) (by decide +kernel), List.mem_of_getElem? (i := 658) (by decide +kernel), List.mem_of_getElem? (i := 659) (by decide +kernel)⟩
theorem lw_p40 : lw_okq (⟨"TriggerHall$Reader", "fail", "()Z"⟩, 4) := ⟨⟨by decide +kernel, by decide +kernel⟩, List.mem_of_getElem? (i := 186) (by decide +kernel), List.mem_of_getElem? (i := 665) (by decide +kernel), List.mem_of_getElem? (i := 666) (by decide +kernel)⟩
theorem lw_p41 : lw_okq (⟨"TriggerHall$Reader", "readNumber", "()I"⟩, 4) := ⟨⟨by decide +kernel, by decide +kernel⟩, List.mem_of_getElem? (i := 186) (by decide +kernel), List.mem_of_getElem? (i := 669) (by decide +kernel), List.mem_of_getElem? (i := 670) (by decide +kernel)⟩
theorem lw_p42 : lw_okq (⟨"TriggerHall$Look", "answers", "(II)Z"⟩, 6) := ⟨⟨by decide +kernel, by decide +kernel⟩, List.mem_of_getElem? (i := 79) (by decide +kernel), List.mem_of_getElem? (i := 676) (by decide +kernel), List.mem_of_getElem? (i := 677) (by decide +kernel)⟩
theorem lw_p43 : lw_okq (⟨"TriggerHall$Reader", "passOver", "(C)Z"⟩, 4) := ⟨⟨by decide +kernel, by decide +kernel⟩, List.mem_of_getElem? (i := 186) (by decide +kernel), List.mem_of_getElem? (i := 681) (by decide +kernel), List.mem_of_getElem? (i := 682) (by decide +kernel)⟩
theorem lw_p44 : lw_okq (⟨"TriggerHall$Text", "copy", "(LTriggerHall$Text;)V"⟩, 2) := ⟨⟨by decide +kernel, by decide +kernel⟩, List.mem_of_getElem? (i := 170) (by decide +kernel), List.mem_of_getElem? (i := 693) (by decide +kernel), List.mem_of_getElem? (i := 694) (by decide +kernel)⟩
theorem lw_p45 : lw_okq (⟨"TriggerHall", "lineAt", "(I)LTriggerHall$Line;"⟩, 16) := ⟨⟨by decide +kernel, by decide +kernel⟩, List.mem_of_getElem? (i := 23) (by decide +kernel), List.mem_of_getElem? (i := 731) (by decide +kernel), List.mem_of_getElem? (i := 732) (by decide +kernel)⟩
theorem lw_p46 : lw_okq (⟨"TriggerHall", "loseCrossing", "()I"⟩, 16) := ⟨⟨by decide +kernel, by decide +kernel⟩, List.mem_of_getElem? (i := 23) (by decide +kernel), List.mem_of_getElem? (i := 747) (by decide +kernel), List.mem_of_getElem? (i := 748) (by decide +kernel)⟩
theorem lw_p47 : lw_okq (⟨"TriggerHall", "judgeCrossing", "(I)I"⟩, 16) := ⟨⟨by decide +kernel, by decide +kernel⟩, List.mem_of_getElem? (i := 23) (by decide +kernel), List.mem_of_getElem? (i := 751) (by decide +kernel), List.mem_of_getElem? (i := 752) (by decide +kernel)⟩
def lw_privs_3 : List (MethodName × Nat) := [(⟨"TriggerHall$Heap", "chooseFrom", "(III)V"⟩, 7), (⟨"TriggerHall$Text", "put", "(C)V"⟩, 2), (⟨"TriggerHall$Reader", "read", "(LTriggerHall$Text;LTriggerHall$Look;)Z"⟩, 4), (⟨"TriggerHall$Reader", "readAny", "(I)Z"⟩, 4), (⟨"TriggerHall$Reader", "readBoth", "(I)Z"⟩, 4), (⟨"TriggerHall$Reader", "readOne", "(I)Z"⟩, 4), (⟨"TriggerHall$Text", "letterAt", "(I)I"⟩, 2), (⟨"TriggerHall$Reader", "readAsked", "()Z"⟩, 4), (⟨"TriggerHall$Reader", "fail", "()Z"⟩, 4), (⟨"TriggerHall$Reader", "readNumber", "()I"⟩, 4), (⟨"TriggerHall$Look", "answers", "(II)Z"⟩, 6), (⟨"TriggerHall$Reader", "passOver", "(C)Z"⟩, 4), (⟨"TriggerHall$Text", "copy", "(LTriggerHall$Text;)V"⟩, 2), (⟨"TriggerHall", "lineAt", "(I)LTriggerHall$Line;"⟩, 16), (⟨"TriggerHall", "loseCrossing", "()I"⟩, 16), (⟨"TriggerHall", "judgeCrossing", "(I)I"⟩, 16)]
theorem lw_r3 : ∀ q ∈ lw_privs_3, lw_okq q := List.forall_mem_cons.mpr ⟨lw_p32, List.forall_mem_cons.mpr ⟨lw_p33, List.forall_mem_cons.mpr ⟨lw_p34, List.forall_mem_cons.mpr ⟨lw_p35, List.forall_mem_cons.mpr ⟨lw_p36, List.forall_mem_cons.mpr ⟨lw_p37, List.forall_mem_cons.mpr ⟨lw_p38, List.forall_mem_cons.mpr ⟨lw_p39, List.forall_mem_cons.mpr ⟨lw_p40, List.forall_mem_cons.mpr ⟨lw_p41, List.forall_mem_cons.mpr ⟨lw_p42, List.forall_mem_cons.mpr ⟨lw_p43, List.forall_mem_cons.mpr ⟨lw_p44, List.forall_mem_cons.mpr ⟨lw_p45, List.forall_mem_cons.mpr ⟨lw_p46, List.forall_mem_cons.mpr ⟨lw_p47, fun _ h => absurd h List.not_mem_nil⟩⟩⟩⟩⟩⟩⟩⟩⟩⟩⟩⟩⟩⟩⟩⟩
theorem lw_p48 : lw_okq (⟨"TriggerHall", "holdingLines", "()I"⟩, 16) := ⟨⟨by decide +kernel, by decide +kernel⟩, List.mem_of_getElem? (i := 23) (by decide +kernel), List.mem_of_getElem? (i := 755) (by decide +kernel), List.mem_of_getElem? (i := 756) (by decide +kernel)⟩
theorem lw_p49 : lw_okq (⟨"TriggerHall", "passLines", "(I)I"⟩, 16) := ⟨⟨by decide +kernel, by decide +kernel⟩, List.mem_of_getElem? (i := 23) (by decide +kernel), List.mem_of_getElem? (i := 759) (by decide +kernel), List.mem_of_getElem? (i := 760) (by decide +kernel)⟩
theorem lw_p50 : lw_okq (⟨"TriggerHall$Line", "countPasses", "()Z"⟩, 7) := ⟨⟨by decide +kernel, by decide +kernel⟩, List.mem_of_getElem? (i := 685) (by decide +kernel), List.mem_of_getElem? (i := 763) (by decide +kernel), List.mem_of_getElem? (i := 764) (by decide +kernel)⟩
theorem lw_p51 : lw_okq (⟨"TriggerHall", "barLines", "()I"⟩, 16) := ⟨⟨by decide +kernel, by decide +kernel⟩, List.mem_of_getElem? (i := 23) (by decide +kernel), List.mem_of_getElem? (i := 767) (by decide +kernel), List.mem_of_getElem? (i := 768) (by decide +kernel)⟩
theorem lw_p52 : lw_okq (⟨"TriggerHall", "creditLines", "(I)V"⟩, 16) := ⟨⟨by decide +kernel, by decide +kernel⟩, List.mem_of_getElem? (i := 23) (by decide +kernel), List.mem_of_getElem? (i := 771) (by decide +kernel), List.mem_of_getElem? (i := 772) (by decide +kernel)⟩
theorem lw_p53 : lw_okq (⟨"TriggerHall$Line", "credit", "(Z)V"⟩, 7) := ⟨⟨by decide +kernel, by decide +kernel⟩, List.mem_of_getElem? (i := 685) (by decide +kernel), List.mem_of_getElem? (i := 775) (by decide +kernel), List.mem_of_getElem? (i := 776) (by decide +kernel)⟩
theorem lw_p54 : lw_okq (⟨"TriggerHall$Raws", "keep", "(II[I)V"⟩, 4) := ⟨⟨by decide +kernel, by decide +kernel⟩, List.mem_of_getElem? (i := 206) (by decide +kernel), List.mem_of_getElem? (i := 779) (by decide +kernel), List.mem_of_getElem? (i := 780) (by decide +kernel)⟩
theorem lw_p55 : lw_okq (⟨"TriggerHall$Raws", "slotOf", "(I)I"⟩, 4) := ⟨⟨by decide +kernel, by decide +kernel⟩, List.mem_of_getElem? (i := 206) (by decide +kernel), List.mem_of_getElem? (i := 783) (by decide +kernel), List.mem_of_getElem? (i := 784) (by decide +kernel)⟩
theorem lw_p56 : lw_okq (⟨"TriggerHall$Raws", "size", "()I"⟩, 4) := ⟨⟨by decide +kernel, by decide +kernel⟩, List.mem_of_getElem? (i := 206) (by decide +kernel), List.mem_of_getElem? (i := 798) (by decide +kernel), List.mem_of_getElem? (i := 799) (by decide +kernel)⟩
theorem lw_p57 : lw_okq (⟨"TriggerHall$Raws", "has", "(I)Z"⟩, 4) := ⟨⟨by decide +kernel, by decide +kernel⟩, List.mem_of_getElem? (i := 206) (by decide +kernel), List.mem_of_getElem? (i := 807) (by decide +kernel), List.mem_of_getElem? (i := 808) (by decide +kernel)⟩
theorem lw_p58 : lw_okq (⟨"TriggerHall$Raws", "numberOf", "(I)I"⟩, 4) := ⟨⟨by decide +kernel, by decide +kernel⟩, List.mem_of_getElem? (i := 206) (by decide +kernel), List.mem_of_getElem? (i := 812) (by decide +kernel), List.mem_of_getElem? (i := 813) (by decide +kernel)⟩
theorem lw_p59 : lw_okq (⟨"TriggerHall$Raws", "passedAt", "(I)I"⟩, 4) := ⟨⟨by decide +kernel, by decide +kernel⟩, List.mem_of_getElem? (i := 206) (by decide +kernel), List.mem_of_getElem? (i := 816) (by decide +kernel), List.mem_of_getElem? (i := 817) (by decide +kernel)⟩
theorem lw_p60 : lw_okq (⟨"TriggerHall$Raws", "copyHits", "(I[I)V"⟩, 4) := ⟨⟨by decide +kernel, by decide +kernel⟩, List.mem_of_getElem? (i := 206) (by decide +kernel), List.mem_of_getElem? (i := 820) (by decide +kernel), List.mem_of_getElem? (i := 821) (by decide +kernel)⟩
theorem lw_p61 : lw_okq (⟨"TriggerHall$Line", "forget", "()V"⟩, 7) := ⟨⟨by decide +kernel, by decide +kernel⟩, List.mem_of_getElem? (i := 685) (by decide +kernel), List.mem_of_getElem? (i := 832) (by decide +kernel), List.mem_of_getElem? (i := 833) (by decide +kernel)⟩
theorem lw_p62 : lw_okq (⟨"TriggerHallModel", "allHits", "()I"⟩, 41) := ⟨⟨by decide +kernel, by decide +kernel⟩, List.mem_of_getElem? (i := 836) (by decide +kernel), List.mem_of_getElem? (i := 1001) (by decide +kernel), List.mem_of_getElem? (i := 1002) (by decide +kernel)⟩
theorem lw_p63 : lw_okq (⟨"TriggerHallModel", "seen", "(I)I"⟩, 41) := ⟨⟨by decide +kernel, by decide +kernel⟩, List.mem_of_getElem? (i := 836) (by decide +kernel), List.mem_of_getElem? (i := 1013) (by decide +kernel), List.mem_of_getElem? (i := 1014) (by decide +kernel)⟩
def lw_privs_4 : List (MethodName × Nat) := [(⟨"TriggerHall", "holdingLines", "()I"⟩, 16), (⟨"TriggerHall", "passLines", "(I)I"⟩, 16), (⟨"TriggerHall$Line", "countPasses", "()Z"⟩, 7), (⟨"TriggerHall", "barLines", "()I"⟩, 16), (⟨"TriggerHall", "creditLines", "(I)V"⟩, 16), (⟨"TriggerHall$Line", "credit", "(Z)V"⟩, 7), (⟨"TriggerHall$Raws", "keep", "(II[I)V"⟩, 4), (⟨"TriggerHall$Raws", "slotOf", "(I)I"⟩, 4), (⟨"TriggerHall$Raws", "size", "()I"⟩, 4), (⟨"TriggerHall$Raws", "has", "(I)Z"⟩, 4), (⟨"TriggerHall$Raws", "numberOf", "(I)I"⟩, 4), (⟨"TriggerHall$Raws", "passedAt", "(I)I"⟩, 4), (⟨"TriggerHall$Raws", "copyHits", "(I[I)V"⟩, 4), (⟨"TriggerHall$Line", "forget", "()V"⟩, 7), (⟨"TriggerHallModel", "allHits", "()I"⟩, 41), (⟨"TriggerHallModel", "seen", "(I)I"⟩, 41)]
theorem lw_r4 : ∀ q ∈ lw_privs_4, lw_okq q := List.forall_mem_cons.mpr ⟨lw_p48, List.forall_mem_cons.mpr ⟨lw_p49, List.forall_mem_cons.mpr ⟨lw_p50, List.forall_mem_cons.mpr ⟨lw_p51, List.forall_mem_cons.mpr ⟨lw_p52, List.forall_mem_cons.mpr ⟨lw_p53, List.forall_mem_cons.mpr ⟨lw_p54, List.forall_mem_cons.mpr ⟨lw_p55, List.forall_mem_cons.mpr ⟨lw_p56, List.forall_mem_cons.mpr ⟨lw_p57, List.forall_mem_cons.mpr ⟨lw_p58, List.forall_mem_cons.mpr ⟨lw_p59, List.forall_mem_cons.mpr ⟨lw_p60, List.forall_mem_cons.mpr ⟨lw_p61, List.forall_mem_cons.mpr ⟨lw_p62, List.forall_mem_cons.mpr ⟨lw_p63, fun _ h => absurd h List.not_mem_nil⟩⟩⟩⟩⟩⟩⟩⟩⟩⟩⟩⟩⟩⟩⟩⟩
theorem lw_p64 : lw_okq (⟨"TriggerHallModel", "isRoad", "(I)Z"⟩, 41) := ⟨⟨by decide +kernel, by decide +kernel⟩, List.mem_of_getElem? (i := 836) (by decide +kernel), List.mem_of_getElem? (i := 1029) (by decide +kernel), List.mem_of_getElem? (i := 1030) (by decide +kernel)⟩
theorem lw_p65 : lw_okq (⟨"TriggerHallModel", "isLit", "(I)Z"⟩, 41) := ⟨⟨by decide +kernel, by decide +kernel⟩, List.mem_of_getElem? (i := 836) (by decide +kernel), List.mem_of_getElem? (i := 1037) (by decide +kernel), List.mem_of_getElem? (i := 1038) (by decide +kernel)⟩
theorem lw_p66 : lw_okq (⟨"TriggerHallModel", "heldBy", "(IZ)I"⟩, 41) := ⟨⟨by decide +kernel, by decide +kernel⟩, List.mem_of_getElem? (i := 836) (by decide +kernel), List.mem_of_getElem? (i := 1041) (by decide +kernel), List.mem_of_getElem? (i := 1042) (by decide +kernel)⟩
theorem lw_p67 : lw_okq (⟨"TriggerHallModel", "isIn", "(III)Z"⟩, 41) := ⟨⟨by decide +kernel, by decide +kernel⟩, List.mem_of_getElem? (i := 836) (by decide +kernel), List.mem_of_getElem? (i := 1045) (by decide +kernel), List.mem_of_getElem? (i := 1046) (by decide +kernel)⟩
theorem lw_p68 : lw_okq (⟨"TriggerHallModel", "findTrack", "(I)Z"⟩, 41) := ⟨⟨by decide +kernel, by decide +kernel⟩, List.mem_of_getElem? (i := 836) (by decide +kernel), List.mem_of_getElem? (i := 1057) (by decide +kernel), List.mem_of_getElem? (i := 1058) (by decide +kernel)⟩
theorem lw_p69 : lw_okq (⟨"TriggerHallModel", "findFrom", "(III)V"⟩, 41) := ⟨⟨by decide +kernel, by decide +kernel⟩, List.mem_of_getElem? (i := 836) (by decide +kernel), List.mem_of_getElem? (i := 1061) (by decide +kernel), List.mem_of_getElem? (i := 1062) (by decide +kernel)⟩
theorem lw_p70 : lw_okq (⟨"TriggerHallModel", "miss", "(I)I"⟩, 41) := ⟨⟨by decide +kernel, by decide +kernel⟩, List.mem_of_getElem? (i := 836) (by decide +kernel), List.mem_of_getElem? (i := 1065) (by decide +kernel), List.mem_of_getElem? (i := 1066) (by decide +kernel)⟩
theorem lw_p71 : lw_okq (⟨"TriggerHallModel", "weightOf", "(I)I"⟩, 41) := ⟨⟨by decide +kernel, by decide +kernel⟩, List.mem_of_getElem? (i := 836) (by decide +kernel), List.mem_of_getElem? (i := 1080) (by decide +kernel), List.mem_of_getElem? (i := 1081) (by decide +kernel)⟩
theorem lw_p72 : lw_okq (⟨"TriggerHallModel", "findHeap", "()V"⟩, 41) := ⟨⟨by decide +kernel, by decide +kernel⟩, List.mem_of_getElem? (i := 836) (by decide +kernel), List.mem_of_getElem? (i := 1088) (by decide +kernel), List.mem_of_getElem? (i := 1089) (by decide +kernel)⟩
theorem lw_p73 : lw_okq (⟨"TriggerHallModel", "areApart", "(II)Z"⟩, 41) := ⟨⟨by decide +kernel, by decide +kernel⟩, List.mem_of_getElem? (i := 836) (by decide +kernel), List.mem_of_getElem? (i := 1092) (by decide +kernel), List.mem_of_getElem? (i := 1093) (by decide +kernel)⟩
theorem lw_p74 : lw_okq (⟨"TriggerHallModel", "faultOf", "()I"⟩, 41) := ⟨⟨by decide +kernel, by decide +kernel⟩, List.mem_of_getElem? (i := 836) (by decide +kernel), List.mem_of_getElem? (i := 1113) (by decide +kernel), List.mem_of_getElem? (i := 1114) (by decide +kernel)⟩
theorem lw_p75 : lw_okq (⟨"TriggerHallModel", "isLine", "(I)Z"⟩, 41) := ⟨⟨by decide +kernel, by decide +kernel⟩, List.mem_of_getElem? (i := 836) (by decide +kernel), List.mem_of_getElem? (i := 1127) (by decide +kernel), List.mem_of_getElem? (i := 1128) (by decide +kernel)⟩
theorem lw_p76 : lw_okq (⟨"TriggerHallModel", "holding", "()I"⟩, 41) := ⟨⟨by decide +kernel, by decide +kernel⟩, List.mem_of_getElem? (i := 836) (by decide +kernel), List.mem_of_getElem? (i := 1135) (by decide +kernel), List.mem_of_getElem? (i := 1136) (by decide +kernel)⟩
theorem lw_p77 : lw_okq (⟨"TriggerHallModel", "any", "()Z"⟩, 41) := ⟨⟨by decide +kernel, by decide +kernel⟩, List.mem_of_getElem? (i := 836) (by decide +kernel), List.mem_of_getElem? (i := 1139) (by decide +kernel), List.mem_of_getElem? (i := 1140) (by decide +kernel)⟩
theorem lw_p78 : lw_okq (⟨"TriggerHallModel", "both", "()Z"⟩, 41) := ⟨⟨by decide +kernel, by decide +kernel⟩, List.mem_of_getElem? (i := 836) (by decide +kernel), List.mem_of_getElem? (i := 1143) (by decide +kernel), List.mem_of_getElem? (i := 1144) (by decide +kernel)⟩
theorem lw_p79 : lw_okq (⟨"TriggerHallModel", "one", "()Z"⟩, 41) := ⟨⟨by decide +kernel, by decide +kernel⟩, List.mem_of_getElem? (i := 836) (by decide +kernel), List.mem_of_getElem? (i := 1147) (by decide +kernel), List.mem_of_getElem? (i := 1148) (by decide +kernel)⟩
def lw_privs_5 : List (MethodName × Nat) := [(⟨"TriggerHallModel", "isRoad", "(I)Z"⟩, 41), (⟨"TriggerHallModel", "isLit", "(I)Z"⟩, 41), (⟨"TriggerHallModel", "heldBy", "(IZ)I"⟩, 41), (⟨"TriggerHallModel", "isIn", "(III)Z"⟩, 41), (⟨"TriggerHallModel", "findTrack", "(I)Z"⟩, 41), (⟨"TriggerHallModel", "findFrom", "(III)V"⟩, 41), (⟨"TriggerHallModel", "miss", "(I)I"⟩, 41), (⟨"TriggerHallModel", "weightOf", "(I)I"⟩, 41), (⟨"TriggerHallModel", "findHeap", "()V"⟩, 41), (⟨"TriggerHallModel", "areApart", "(II)Z"⟩, 41), (⟨"TriggerHallModel", "faultOf", "()I"⟩, 41), (⟨"TriggerHallModel", "isLine", "(I)Z"⟩, 41), (⟨"TriggerHallModel", "holding", "()I"⟩, 41), (⟨"TriggerHallModel", "any", "()Z"⟩, 41), (⟨"TriggerHallModel", "both", "()Z"⟩, 41), (⟨"TriggerHallModel", "one", "()Z"⟩, 41)]
theorem lw_r5 : ∀ q ∈ lw_privs_5, lw_okq q := List.forall_mem_cons.mpr ⟨lw_p64, List.forall_mem_cons.mpr ⟨lw_p65, List.forall_mem_cons.mpr ⟨lw_p66, List.forall_mem_cons.mpr ⟨lw_p67, List.forall_mem_cons.mpr ⟨lw_p68, List.forall_mem_cons.mpr ⟨lw_p69, List.forall_mem_cons.mpr ⟨lw_p70, List.forall_mem_cons.mpr ⟨lw_p71, List.forall_mem_cons.mpr ⟨lw_p72, List.forall_mem_cons.mpr ⟨lw_p73, List.forall_mem_cons.mpr ⟨lw_p74, List.forall_mem_cons.mpr ⟨lw_p75, List.forall_mem_cons.mpr ⟨lw_p76, List.forall_mem_cons.mpr ⟨lw_p77, List.forall_mem_cons.mpr ⟨lw_p78, List.forall_mem_cons.mpr ⟨lw_p79, fun _ h => absurd h List.not_mem_nil⟩⟩⟩⟩⟩⟩⟩⟩⟩⟩⟩⟩⟩⟩⟩⟩
theorem lw_p80 : lw_okq (⟨"TriggerHallModel", "letter", "()I"⟩, 41) := ⟨⟨by decide +kernel, by decide +kernel⟩, List.mem_of_getElem? (i := 836) (by decide +kernel), List.mem_of_getElem? (i := 1151) (by decide +kernel), List.mem_of_getElem? (i := 1152) (by decide +kernel)⟩
theorem lw_p81 : lw_okq (⟨"TriggerHallModel", "is", "(II)Z"⟩, 41) := ⟨⟨by decide +kernel, by decide +kernel⟩, List.mem_of_getElem? (i := 836) (by decide +kernel), List.mem_of_getElem? (i := 1155) (by decide +kernel), List.mem_of_getElem? (i := 1156) (by decide +kernel)⟩
theorem lw_p82 : lw_okq (⟨"TriggerHallModel", "look", "()I"⟩, 41) := ⟨⟨by decide +kernel, by decide +kernel⟩, List.mem_of_getElem? (i := 836) (by decide +kernel), List.mem_of_getElem? (i := 1167) (by decide +kernel), List.mem_of_getElem? (i := 1168) (by decide +kernel)⟩
theorem lw_p83 : lw_okq (⟨"TriggerHallModel", "noHits", "()V"⟩, 41) := ⟨⟨by decide +kernel, by decide +kernel⟩, List.mem_of_getElem? (i := 836) (by decide +kernel), List.mem_of_getElem? (i := 1171) (by decide +kernel), List.mem_of_getElem? (i := 1172) (by decide +kernel)⟩
theorem lw_p84 : lw_okq (⟨"TriggerHallModel", "raws", "()I"⟩, 41) := ⟨⟨by decide +kernel, by decide +kernel⟩, List.mem_of_getElem? (i := 836) (by decide +kernel), List.mem_of_getElem? (i := 1184) (by decide +kernel), List.mem_of_getElem? (i := 1185) (by decide +kernel)⟩
theorem lw_p85 : lw_okq (⟨"TriggerHallModel", "rawAt", "(I)I"⟩, 41) := ⟨⟨by decide +kernel, by decide +kernel⟩, List.mem_of_getElem? (i := 836) (by decide +kernel), List.mem_of_getElem? (i := 1193) (by decide +kernel), List.mem_of_getElem? (i := 1194) (by decide +kernel)⟩
def lw_privs_6 : List (MethodName × Nat) := [(⟨"TriggerHallModel", "letter", "()I"⟩, 41), (⟨"TriggerHallModel", "is", "(II)Z"⟩, 41), (⟨"TriggerHallModel", "look", "()I"⟩, 41), (⟨"TriggerHallModel", "noHits", "()V"⟩, 41), (⟨"TriggerHallModel", "raws", "()I"⟩, 41), (⟨"TriggerHallModel", "rawAt", "(I)I"⟩, 41)]
theorem lw_r6 : ∀ q ∈ lw_privs_6, lw_okq q := List.forall_mem_cons.mpr ⟨lw_p80, List.forall_mem_cons.mpr ⟨lw_p81, List.forall_mem_cons.mpr ⟨lw_p82, List.forall_mem_cons.mpr ⟨lw_p83, List.forall_mem_cons.mpr ⟨lw_p84, List.forall_mem_cons.mpr ⟨lw_p85, fun _ h => absurd h List.not_mem_nil⟩⟩⟩⟩⟩⟩
def lw_privs : List (MethodName × Nat) := lw_privs_1 ++ (lw_privs_2 ++ (lw_privs_3 ++ (lw_privs_4 ++ (lw_privs_5 ++ (lw_privs_6)))))
def lw_tbl : List Cond := k2_sels lw_privs ++ tables_1
theorem lw_privs_ok : ∀ q ∈ lw_privs, lw_okq q := by
  show ∀ q ∈ lw_privs_1 ++ (lw_privs_2 ++ (lw_privs_3 ++ (lw_privs_4 ++ (lw_privs_5 ++ (lw_privs_6))))), lw_okq q
  exact List.forall_mem_append.mpr ⟨lw_r1, List.forall_mem_append.mpr ⟨lw_r2, List.forall_mem_append.mpr ⟨lw_r3, List.forall_mem_append.mpr ⟨lw_r4, List.forall_mem_append.mpr ⟨lw_r5, lw_r6⟩⟩⟩⟩⟩
def RX0 : String := "TriggerHall$Fit"
def TX0 : u_T := fun k => match k with
  | 0 => ("TriggerHall$Fit", "choices", "[I", true)
  | 1 => ("TriggerHall$Fit", "trial", "[I", true)
  | 2 => ("TriggerHall$Fit", "cells", "[I", true)
  | 3 => ("TriggerHall$Fit", "held", "I", false)
  | 4 => ("TriggerHall$Fit", "layerSum", "I", false)
  | 5 => ("TriggerHall$Fit", "spread", "I", false)
  | _ => ("TriggerHall$Fit", "least", "I", false)
def tyX0 : Nat → FieldType := fun k => match k with
  | 0 => .array .int
  | 1 => .array .int
  | 2 => .array .int
  | 3 => .int
  | 4 => .int
  | 5 => .int
  | _ => .int
abbrev wsX00 : List Cond := u_ws RX0 TX0 7
theorem nmX0 : ∀ a, a < 7 → ∀ b, b < 7 → a ≠ b → (TX0 a).2.1 ≠ (TX0 b).2.1 := by decide +kernel
theorem tyX0_ok : ∀ k, k < 7 → parseFieldDescriptor (TX0 k).2.2.1 = some (tyX0 k) := by decide +kernel
abbrev cX0_init : ByteArray := prog_2_method_1_code
def yX0_init : MethodName := ⟨RX0, "<init>", "()V"⟩
abbrev cX0_along : ByteArray := prog_2_method_2_code
def yX0_along : MethodName := ⟨RX0, "along", "(LTriggerHall$Road;[I)V"⟩
abbrev cX0_tryCells : ByteArray := prog_2_method_3_code
def yX0_tryCells : MethodName := ⟨RX0, "tryCells", "(IIII)V"⟩
abbrev cX0_isPerfect : ByteArray := prog_2_method_4_code
def yX0_isPerfect : MethodName := ⟨RX0, "isPerfect", "()Z"⟩
abbrev cX0_takeTrial : ByteArray := prog_2_method_5_code
def yX0_takeTrial : MethodName := ⟨RX0, "takeTrial", "(III)V"⟩
abbrev cX0_above : ByteArray := prog_2_method_6_code
def yX0_above : MethodName := ⟨RX0, "above", "()I"⟩
abbrev cX0_below : ByteArray := prog_2_method_7_code
def yX0_below : MethodName := ⟨RX0, "below", "()I"⟩
abbrev cX0_worth : ByteArray := prog_2_method_8_code
def yX0_worth : MethodName := ⟨RX0, "worth", "()I"⟩
def RX1 : String := "TriggerHall$Heap"
def TX1 : u_T := fun k => match k with
  | 0 => ("TriggerHall$Heap", "taken", "[I", true)
  | 1 => ("TriggerHall$Heap", "clashesAbove", "[I", true)
  | 2 => ("TriggerHall$Heap", "worths", "[I", true)
  | 3 => ("TriggerHall$Heap", "worthsUpTo", "[I", true)
  | 4 => ("TriggerHall$Heap", "size", "I", false)
  | 5 => ("TriggerHall$Heap", "bestRoads", "I", false)
  | _ => ("TriggerHall$Heap", "bestSum", "I", false)
def tyX1 : Nat → FieldType := fun k => match k with
  | 0 => .array .int
  | 1 => .array .int
  | 2 => .array .int
  | 3 => .array .int
  | 4 => .int
  | 5 => .int
  | _ => .int
abbrev wsX10 : List Cond := u_ws RX1 TX1 7
theorem nmX1 : ∀ a, a < 7 → ∀ b, b < 7 → a ≠ b → (TX1 a).2.1 ≠ (TX1 b).2.1 := by decide +kernel
theorem tyX1_ok : ∀ k, k < 7 → parseFieldDescriptor (TX1 k).2.2.1 = some (tyX1 k) := by decide +kernel
abbrev cX1_init : ByteArray := prog_3_method_1_code
def yX1_init : MethodName := ⟨RX1, "<init>", "()V"⟩
abbrev cX1_empty : ByteArray := prog_3_method_2_code
def yX1_empty : MethodName := ⟨RX1, "empty", "()V"⟩
abbrev cX1_put : ByteArray := prog_3_method_3_code
def yX1_put : MethodName := ⟨RX1, "put", "(I[I)V"⟩
abbrev cX1_clash : ByteArray := prog_3_method_4_code
def yX1_clash : MethodName := ⟨RX1, "clash", "(II)Z"⟩
abbrev cX1_choose : ByteArray := prog_3_method_5_code
def yX1_choose : MethodName := ⟨RX1, "choose", "()V"⟩
abbrev cX1_chooseFrom : ByteArray := prog_3_method_6_code
def yX1_chooseFrom : MethodName := ⟨RX1, "chooseFrom", "(III)V"⟩
def RX2 : String := "TriggerHall$Line"
def TX2 : u_T := fun k => match k with
  | 0 => ("TriggerHall$Line", "text", "LTriggerHall$Text;", true)
  | 1 => ("TriggerHall$Line", "bar", "Z", true)
  | 2 => ("TriggerHall$Line", "share", "I", false)
  | 3 => ("TriggerHall$Line", "count", "I", false)
  | 4 => ("TriggerHall$Line", "passed", "I", false)
  | 5 => ("TriggerHall$Line", "kept", "I", false)
  | _ => ("TriggerHall$Line", "keptAlone", "I", false)
def tyX2 : Nat → FieldType := fun k => match k with
  | 0 => .object "TriggerHall$Text"
  | 1 => .boolean
  | 2 => .int
  | 3 => .int
  | 4 => .int
  | 5 => .int
  | _ => .int
abbrev wsX20 : List Cond := u_ws RX2 TX2 7
theorem nmX2 : ∀ a, a < 7 → ∀ b, b < 7 → a ≠ b → (TX2 a).2.1 ≠ (TX2 b).2.1 := by decide +kernel
theorem tyX2_ok : ∀ k, k < 7 → parseFieldDescriptor (TX2 k).2.2.1 = some (tyX2 k) := by decide +kernel
abbrev cX2_init : ByteArray := prog_4_method_1_code
def yX2_init : MethodName := ⟨RX2, "<init>", "(LTriggerHall$Text;IZ)V"⟩
abbrev cX2_countPasses : ByteArray := prog_4_method_2_code
def yX2_countPasses : MethodName := ⟨RX2, "countPasses", "()Z"⟩
abbrev cX2_credit : ByteArray := prog_4_method_3_code
def yX2_credit : MethodName := ⟨RX2, "credit", "(Z)V"⟩
abbrev cX2_forget : ByteArray := prog_4_method_4_code
def yX2_forget : MethodName := ⟨RX2, "forget", "()V"⟩
def RX3 : String := "TriggerHall$Look"
def TX3 : u_T := fun k => match k with
  | 0 => ("TriggerHall$Look", "seen", "[I", true)
  | 1 => ("TriggerHall$Look", "fit", "LTriggerHall$Fit;", true)
  | 2 => ("TriggerHall$Look", "heap", "LTriggerHall$Heap;", true)
  | 3 => ("TriggerHall$Look", "cellsSeen", "I", false)
  | 4 => ("TriggerHall$Look", "layersSeen", "I", false)
  | _ => ("TriggerHall$Look", "litRoads", "I", false)
def tyX3 : Nat → FieldType := fun k => match k with
  | 0 => .array .int
  | 1 => .object "TriggerHall$Fit"
  | 2 => .object "TriggerHall$Heap"
  | 3 => .int
  | 4 => .int
  | _ => .int
abbrev wsX30 : List Cond := u_ws RX3 TX3 6
theorem nmX3 : ∀ a, a < 6 → ∀ b, b < 6 → a ≠ b → (TX3 a).2.1 ≠ (TX3 b).2.1 := by decide +kernel
theorem tyX3_ok : ∀ k, k < 6 → parseFieldDescriptor (TX3 k).2.2.1 = some (tyX3 k) := by decide +kernel
abbrev cX3_init : ByteArray := prog_5_method_1_code
def yX3_init : MethodName := ⟨RX3, "<init>", "()V"⟩
abbrev cX3_see : ByteArray := prog_5_method_2_code
def yX3_see : MethodName := ⟨RX3, "see", "([I[I[I)V"⟩
abbrev cX3_light : ByteArray := prog_5_method_3_code
def yX3_light : MethodName := ⟨RX3, "light", "(Ljava/util/List;)V"⟩
abbrev cX3_fitAlong : ByteArray := prog_5_method_4_code
def yX3_fitAlong : MethodName := ⟨RX3, "fitAlong", "(LTriggerHall$Road;)Z"⟩
abbrev cX3_pile : ByteArray := prog_5_method_5_code
def yX3_pile : MethodName := ⟨RX3, "pile", "(Ljava/util/List;)V"⟩
abbrev cX3_isLit : ByteArray := prog_5_method_6_code
def yX3_isLit : MethodName := ⟨RX3, "isLit", "(I)Z"⟩
abbrev cX3_answers : ByteArray := prog_5_method_7_code
def yX3_answers : MethodName := ⟨RX3, "answers", "(II)Z"⟩
def RX4 : String := "TriggerHall$Raws"
def TX4 : u_T := fun k => match k with
  | 0 => ("TriggerHall$Raws", "numbers", "[I", true)
  | 1 => ("TriggerHall$Raws", "passedLines", "[I", true)
  | 2 => ("TriggerHall$Raws", "rows", "[I", true)
  | _ => ("TriggerHall$Raws", "kept", "I", false)
def tyX4 : Nat → FieldType := fun k => match k with
  | 0 => .array .int
  | 1 => .array .int
  | 2 => .array .int
  | _ => .int
abbrev wsX40 : List Cond := u_ws RX4 TX4 4
theorem nmX4 : ∀ a, a < 4 → ∀ b, b < 4 → a ≠ b → (TX4 a).2.1 ≠ (TX4 b).2.1 := by decide +kernel
theorem tyX4_ok : ∀ k, k < 4 → parseFieldDescriptor (TX4 k).2.2.1 = some (tyX4 k) := by decide +kernel
abbrev cX4_init : ByteArray := prog_6_method_1_code
def yX4_init : MethodName := ⟨RX4, "<init>", "()V"⟩
abbrev cX4_size : ByteArray := prog_6_method_2_code
def yX4_size : MethodName := ⟨RX4, "size", "()I"⟩
abbrev cX4_has : ByteArray := prog_6_method_3_code
def yX4_has : MethodName := ⟨RX4, "has", "(I)Z"⟩
abbrev cX4_slotOf : ByteArray := prog_6_method_4_code
def yX4_slotOf : MethodName := ⟨RX4, "slotOf", "(I)I"⟩
abbrev cX4_keep : ByteArray := prog_6_method_5_code
def yX4_keep : MethodName := ⟨RX4, "keep", "(II[I)V"⟩
abbrev cX4_numberOf : ByteArray := prog_6_method_6_code
def yX4_numberOf : MethodName := ⟨RX4, "numberOf", "(I)I"⟩
abbrev cX4_passedAt : ByteArray := prog_6_method_7_code
def yX4_passedAt : MethodName := ⟨RX4, "passedAt", "(I)I"⟩
abbrev cX4_copyHits : ByteArray := prog_6_method_8_code
def yX4_copyHits : MethodName := ⟨RX4, "copyHits", "(I[I)V"⟩
def RX5 : String := "TriggerHall$Reader"
def TX5 : u_T := fun k => match k with
  | 0 => ("TriggerHall$Reader", "text", "LTriggerHall$Text;", false)
  | 1 => ("TriggerHall$Reader", "look", "LTriggerHall$Look;", false)
  | 2 => ("TriggerHall$Reader", "place", "I", false)
  | _ => ("TriggerHall$Reader", "fault", "I", false)
def tyX5 : Nat → FieldType := fun k => match k with
  | 0 => .object "TriggerHall$Text"
  | 1 => .object "TriggerHall$Look"
  | 2 => .int
  | _ => .int
abbrev wsX50 : List Cond := u_ws RX5 TX5 4
theorem nmX5 : ∀ a, a < 4 → ∀ b, b < 4 → a ≠ b → (TX5 a).2.1 ≠ (TX5 b).2.1 := by decide +kernel
theorem tyX5_ok : ∀ k, k < 4 → parseFieldDescriptor (TX5 k).2.2.1 = some (tyX5 k) := by decide +kernel
abbrev cX5_init : ByteArray := prog_7_method_1_code
def yX5_init : MethodName := ⟨RX5, "<init>", "()V"⟩
abbrev cX5_read : ByteArray := prog_7_method_2_code
def yX5_read : MethodName := ⟨RX5, "read", "(LTriggerHall$Text;LTriggerHall$Look;)Z"⟩
abbrev cX5_readAny : ByteArray := prog_7_method_3_code
def yX5_readAny : MethodName := ⟨RX5, "readAny", "(I)Z"⟩
abbrev cX5_readBoth : ByteArray := prog_7_method_4_code
def yX5_readBoth : MethodName := ⟨RX5, "readBoth", "(I)Z"⟩
abbrev cX5_readOne : ByteArray := prog_7_method_5_code
def yX5_readOne : MethodName := ⟨RX5, "readOne", "(I)Z"⟩
abbrev cX5_readAsked : ByteArray := prog_7_method_6_code
def yX5_readAsked : MethodName := ⟨RX5, "readAsked", "()Z"⟩
abbrev cX5_canAsk : ByteArray := prog_7_method_7_code
def yX5_canAsk : MethodName := ⟨RX5, "canAsk", "(I)Z"⟩
abbrev cX5_readNumber : ByteArray := prog_7_method_8_code
def yX5_readNumber : MethodName := ⟨RX5, "readNumber", "()I"⟩
abbrev cX5_isFigure : ByteArray := prog_7_method_9_code
def yX5_isFigure : MethodName := ⟨RX5, "isFigure", "(I)Z"⟩
abbrev cX5_passOver : ByteArray := prog_7_method_10_code
def yX5_passOver : MethodName := ⟨RX5, "passOver", "(C)Z"⟩
abbrev cX5_fail : ByteArray := prog_7_method_11_code
def yX5_fail : MethodName := ⟨RX5, "fail", "()Z"⟩
def RX6 : String := "TriggerHall$Road"
def TX6 : u_T := fun k => match k with
  | 0 => ("TriggerHall$Road", "first", "[I", true)
  | 1 => ("TriggerHall$Road", "last", "[I", true)
  | _ => ("TriggerHall$Road", "need", "I", true)
def tyX6 : Nat → FieldType := fun k => match k with
  | 0 => .array .int
  | 1 => .array .int
  | _ => .int
abbrev wsX60 : List Cond := u_ws RX6 TX6 3
theorem nmX6 : ∀ a, a < 3 → ∀ b, b < 3 → a ≠ b → (TX6 a).2.1 ≠ (TX6 b).2.1 := by decide +kernel
theorem tyX6_ok : ∀ k, k < 3 → parseFieldDescriptor (TX6 k).2.2.1 = some (tyX6 k) := by decide +kernel
abbrev cX6_init : ByteArray := prog_8_method_1_code
def yX6_init : MethodName := ⟨RX6, "<init>", "(I)V"⟩
abbrev cX6_setSpan : ByteArray := prog_8_method_2_code
def yX6_setSpan : MethodName := ⟨RX6, "setSpan", "(II)V"⟩
abbrev cX6_spanTold : ByteArray := prog_8_method_3_code
def yX6_spanTold : MethodName := ⟨RX6, "spanTold", "(I)I"⟩
abbrev cX6_seenIn : ByteArray := prog_8_method_4_code
def yX6_seenIn : MethodName := ⟨RX6, "seenIn", "(I[I)I"⟩
abbrev cX6_layersHeld : ByteArray := prog_8_method_5_code
def yX6_layersHeld : MethodName := ⟨RX6, "layersHeld", "([I)I"⟩
abbrev cX6_isLit : ByteArray := prog_8_method_6_code
def yX6_isLit : MethodName := ⟨RX6, "isLit", "([I)Z"⟩
def RX7 : String := "TriggerHall$Sheet"
def TX7 : u_T := fun k => match k with
  | 0 => ("TriggerHall$Sheet", "numbers", "[I", true)
  | 1 => ("TriggerHall$Sheet", "there", "Z", false)
  | 2 => ("TriggerHall$Sheet", "kind", "I", false)
  | _ => ("TriggerHall$Sheet", "length", "I", false)
def tyX7 : Nat → FieldType := fun k => match k with
  | 0 => .array .int
  | 1 => .boolean
  | 2 => .int
  | _ => .int
abbrev wsX70 : List Cond := u_ws RX7 TX7 4
theorem nmX7 : ∀ a, a < 4 → ∀ b, b < 4 → a ≠ b → (TX7 a).2.1 ≠ (TX7 b).2.1 := by decide +kernel
theorem tyX7_ok : ∀ k, k < 4 → parseFieldDescriptor (TX7 k).2.2.1 = some (tyX7 k) := by decide +kernel
abbrev cX7_init : ByteArray := prog_9_method_1_code
def yX7_init : MethodName := ⟨RX7, "<init>", "()V"⟩
abbrev cX7_lay : ByteArray := prog_9_method_2_code
def yX7_lay : MethodName := ⟨RX7, "lay", "(II)V"⟩
abbrev cX7_has : ByteArray := prog_9_method_3_code
def yX7_has : MethodName := ⟨RX7, "has", "(I)Z"⟩
abbrev cX7_numberAt : ByteArray := prog_9_method_4_code
def yX7_numberAt : MethodName := ⟨RX7, "numberAt", "(I)I"⟩
abbrev cX7_put : ByteArray := prog_9_method_5_code
def yX7_put : MethodName := ⟨RX7, "put", "(II)V"⟩
def RX8 : String := "TriggerHall$Text"
def TX8 : u_T := fun k => match k with
  | 0 => ("TriggerHall$Text", "letters", "[C", true)
  | _ => ("TriggerHall$Text", "length", "I", false)
def tyX8 : Nat → FieldType := fun k => match k with
  | 0 => .array .char
  | _ => .int
abbrev wsX80 : List Cond := u_ws RX8 TX8 2
theorem nmX8 : ∀ a, a < 2 → ∀ b, b < 2 → a ≠ b → (TX8 a).2.1 ≠ (TX8 b).2.1 := by decide +kernel
theorem tyX8_ok : ∀ k, k < 2 → parseFieldDescriptor (TX8 k).2.2.1 = some (tyX8 k) := by decide +kernel
abbrev cX8_init : ByteArray := prog_10_method_1_code
def yX8_init : MethodName := ⟨RX8, "<init>", "()V"⟩
abbrev cX8_put : ByteArray := prog_10_method_2_code
def yX8_put : MethodName := ⟨RX8, "put", "(C)V"⟩
abbrev cX8_copy : ByteArray := prog_10_method_3_code
def yX8_copy : MethodName := ⟨RX8, "copy", "(LTriggerHall$Text;)V"⟩
abbrev cX8_letterAt : ByteArray := prog_10_method_4_code
def yX8_letterAt : MethodName := ⟨RX8, "letterAt", "(I)I"⟩
def RX9 : String := "TriggerHall"
def TX9 : u_T := fun k => match k with
  | 0 => ("TriggerHall", "sheets", "[LTriggerHall$Sheet;", true)
  | 1 => ("TriggerHall", "hits", "[I", true)
  | 2 => ("TriggerHall", "dead", "[I", true)
  | 3 => ("TriggerHall", "noisy", "[I", true)
  | 4 => ("TriggerHall", "roads", "Ljava/util/List;", true)
  | 5 => ("TriggerHall", "look", "LTriggerHall$Look;", true)
  | 6 => ("TriggerHall", "tape", "LTriggerHall$Text;", true)
  | 7 => ("TriggerHall", "reader", "LTriggerHall$Reader;", true)
  | 8 => ("TriggerHall", "lines", "Ljava/util/List;", true)
  | 9 => ("TriggerHall", "raws", "LTriggerHall$Raws;", true)
  | 10 => ("TriggerHall", "rawHits", "[I", true)
  | 11 => ("TriggerHall", "rest", "I", false)
  | 12 => ("TriggerHall", "toLose", "I", false)
  | 13 => ("TriggerHall", "came", "I", false)
  | 14 => ("TriggerHall", "lost", "I", false)
  | _ => ("TriggerHall", "barred", "I", false)
def tyX9 : Nat → FieldType := fun k => match k with
  | 0 => .array (.object "TriggerHall$Sheet")
  | 1 => .array .int
  | 2 => .array .int
  | 3 => .array .int
  | 4 => .object "java/util/List"
  | 5 => .object "TriggerHall$Look"
  | 6 => .object "TriggerHall$Text"
  | 7 => .object "TriggerHall$Reader"
  | 8 => .object "java/util/List"
  | 9 => .object "TriggerHall$Raws"
  | 10 => .array .int
  | 11 => .int
  | 12 => .int
  | 13 => .int
  | 14 => .int
  | _ => .int
abbrev wsX90 : List Cond := u_ws RX9 TX9 16
theorem nmX9 : ∀ a, a < 16 → ∀ b, b < 16 → a ≠ b → (TX9 a).2.1 ≠ (TX9 b).2.1 := by decide +kernel
theorem tyX9_ok : ∀ k, k < 16 → parseFieldDescriptor (TX9 k).2.2.1 = some (tyX9 k) := by decide +kernel
abbrev cX9_init : ByteArray := prog_1_method_1_code
def yX9_init : MethodName := ⟨RX9, "<init>", "()V"⟩
abbrev cX9_sheet : ByteArray := prog_1_method_2_code
def yX9_sheet : MethodName := ⟨RX9, "sheet", "(III)I"⟩
abbrev cX9_cell : ByteArray := prog_1_method_3_code
def yX9_cell : MethodName := ⟨RX9, "cell", "(III)I"⟩
abbrev cX9_lose : ByteArray := prog_1_method_4_code
def yX9_lose : MethodName := ⟨RX9, "lose", "(I)I"⟩
abbrev cX9_hits : ByteArray := prog_1_method_5_code
def yX9_hits : MethodName := ⟨RX9, "hits", "(II)I"⟩
abbrev cX9_load : ByteArray := prog_1_method_6_code
def yX9_load : MethodName := ⟨RX9, "load", "(II)I"⟩
abbrev cX9_mask : ByteArray := prog_1_method_7_code
def yX9_mask : MethodName := ⟨RX9, "mask", "(III)I"⟩
abbrev cX9_layer : ByteArray := prog_1_method_8_code
def yX9_layer : MethodName := ⟨RX9, "layer", "(II)I"⟩
abbrev cX9_road : ByteArray := prog_1_method_9_code
def yX9_road : MethodName := ⟨RX9, "road", "(IIIIII)I"⟩
abbrev cX9_span : ByteArray := prog_1_method_10_code
def yX9_span : MethodName := ⟨RX9, "span", "(III)I"⟩
abbrev cX9_lit : ByteArray := prog_1_method_11_code
def yX9_lit : MethodName := ⟨RX9, "lit", "()I"⟩
abbrev cX9_held : ByteArray := prog_1_method_12_code
def yX9_held : MethodName := ⟨RX9, "held", "(I)I"⟩
abbrev cX9_track : ByteArray := prog_1_method_13_code
def yX9_track : MethodName := ⟨RX9, "track", "(II)I"⟩
abbrev cX9_miss : ByteArray := prog_1_method_14_code
def yX9_miss : MethodName := ⟨RX9, "miss", "(II)I"⟩
abbrev cX9_weight : ByteArray := prog_1_method_15_code
def yX9_weight : MethodName := ⟨RX9, "weight", "(I)I"⟩
abbrev cX9_heap : ByteArray := prog_1_method_16_code
def yX9_heap : MethodName := ⟨RX9, "heap", "(I)I"⟩
abbrev cX9_blind : ByteArray := prog_1_method_17_code
def yX9_blind : MethodName := ⟨RX9, "blind", "()I"⟩
abbrev cX9_feed : ByteArray := prog_1_method_18_code
def yX9_feed : MethodName := ⟨RX9, "feed", "(I)I"⟩
abbrev cX9_clear : ByteArray := prog_1_method_19_code
def yX9_clear : MethodName := ⟨RX9, "clear", "()I"⟩
abbrev cX9_line : ByteArray := prog_1_method_20_code
def yX9_line : MethodName := ⟨RX9, "line", "(IZ)I"⟩
abbrev cX9_thin : ByteArray := prog_1_method_21_code
def yX9_thin : MethodName := ⟨RX9, "thin", "(II)I"⟩
abbrev cX9_holds : ByteArray := prog_1_method_22_code
def yX9_holds : MethodName := ⟨RX9, "holds", "(I)I"⟩
abbrev cX9_of : ByteArray := prog_1_method_23_code
def yX9_of : MethodName := ⟨RX9, "of", "(II)I"⟩
abbrev cX9_fire : ByteArray := prog_1_method_24_code
def yX9_fire : MethodName := ⟨RX9, "fire", "()I"⟩
abbrev cX9_rest : ByteArray := prog_1_method_25_code
def yX9_rest : MethodName := ⟨RX9, "rest", "(I)I"⟩
abbrev cX9_many : ByteArray := prog_1_method_26_code
def yX9_many : MethodName := ⟨RX9, "many", "(I)I"⟩
abbrev cX9_raw : ByteArray := prog_1_method_27_code
def yX9_raw : MethodName := ⟨RX9, "raw", "(II)I"⟩
abbrev cX9_again : ByteArray := prog_1_method_28_code
def yX9_again : MethodName := ⟨RX9, "again", "(I)I"⟩
abbrev cX9_anew : ByteArray := prog_1_method_29_code
def yX9_anew : MethodName := ⟨RX9, "anew", "()I"⟩
abbrev cX9_isLayer : ByteArray := prog_1_method_30_code
def yX9_isLayer : MethodName := ⟨RX9, "isLayer", "(I)Z"⟩
abbrev cX9_areCells : ByteArray := prog_1_method_31_code
def yX9_areCells : MethodName := ⟨RX9, "areCells", "(I)Z"⟩
abbrev cX9_isShare : ByteArray := prog_1_method_32_code
def yX9_isShare : MethodName := ⟨RX9, "isShare", "(I)Z"⟩
abbrev cX9_isSpan : ByteArray := prog_1_method_33_code
def yX9_isSpan : MethodName := ⟨RX9, "isSpan", "(I)Z"⟩
abbrev cX9_cellsIn : ByteArray := prog_1_method_34_code
def yX9_cellsIn : MethodName := ⟨RX9, "cellsIn", "([I)I"⟩
abbrev cX9_letterIn : ByteArray := prog_1_method_35_code
def yX9_letterIn : MethodName := ⟨RX9, "letterIn", "(II)C"⟩
abbrev cX9_lettersIn : ByteArray := prog_1_method_36_code
def yX9_lettersIn : MethodName := ⟨RX9, "lettersIn", "(I)I"⟩
abbrev cX9_greatestDivisor : ByteArray := prog_1_method_37_code
def yX9_greatestDivisor : MethodName := ⟨RX9, "greatestDivisor", "(II)I"⟩
abbrev cX9_sheetAt : ByteArray := prog_1_method_38_code
def yX9_sheetAt : MethodName := ⟨RX9, "sheetAt", "(I)LTriggerHall$Sheet;"⟩
abbrev cX9_roadAt : ByteArray := prog_1_method_39_code
def yX9_roadAt : MethodName := ⟨RX9, "roadAt", "(I)LTriggerHall$Road;"⟩
abbrev cX9_lineAt : ByteArray := prog_1_method_40_code
def yX9_lineAt : MethodName := ⟨RX9, "lineAt", "(I)LTriggerHall$Line;"⟩
abbrev cX9_fitInHand : ByteArray := prog_1_method_41_code
def yX9_fitInHand : MethodName := ⟨RX9, "fitInHand", "(LTriggerHall$Road;)Z"⟩
abbrev cX9_lookAt : ByteArray := prog_1_method_42_code
def yX9_lookAt : MethodName := ⟨RX9, "lookAt", "([I)V"⟩
abbrev cX9_holdingLines : ByteArray := prog_1_method_43_code
def yX9_holdingLines : MethodName := ⟨RX9, "holdingLines", "()I"⟩
abbrev cX9_loseCrossing : ByteArray := prog_1_method_44_code
def yX9_loseCrossing : MethodName := ⟨RX9, "loseCrossing", "()I"⟩
abbrev cX9_judgeCrossing : ByteArray := prog_1_method_45_code
def yX9_judgeCrossing : MethodName := ⟨RX9, "judgeCrossing", "(I)I"⟩
abbrev cX9_passLines : ByteArray := prog_1_method_46_code
def yX9_passLines : MethodName := ⟨RX9, "passLines", "(I)I"⟩
abbrev cX9_barLines : ByteArray := prog_1_method_47_code
def yX9_barLines : MethodName := ⟨RX9, "barLines", "()I"⟩
abbrev cX9_creditLines : ByteArray := prog_1_method_48_code
def yX9_creditLines : MethodName := ⟨RX9, "creditLines", "(I)V"⟩
def RX10 : String := "TriggerHallModel"
def TX10 : u_T := fun k => match k with
  | 0 => ("TriggerHallModel", "kinds", "[I", true)
  | 1 => ("TriggerHallModel", "sizes", "[I", true)
  | 2 => ("TriggerHallModel", "numbers", "[I", true)
  | 3 => ("TriggerHallModel", "hits", "[I", true)
  | 4 => ("TriggerHallModel", "dead", "[I", true)
  | 5 => ("TriggerHallModel", "noisy", "[I", true)
  | 6 => ("TriggerHallModel", "roads", "I", false)
  | 7 => ("TriggerHallModel", "spans", "[I", true)
  | 8 => ("TriggerHallModel", "needs", "[I", true)
  | 9 => ("TriggerHallModel", "tape", "[B", true)
  | 10 => ("TriggerHallModel", "taped", "I", false)
  | 11 => ("TriggerHallModel", "lines", "I", false)
  | 12 => ("TriggerHallModel", "texts", "[B", true)
  | 13 => ("TriggerHallModel", "lengths", "[I", true)
  | 14 => ("TriggerHallModel", "shares", "[I", true)
  | 15 => ("TriggerHallModel", "bars", "[Z", true)
  | 16 => ("TriggerHallModel", "counts", "[I", true)
  | 17 => ("TriggerHallModel", "passed", "[I", true)
  | 18 => ("TriggerHallModel", "kept", "[I", true)
  | 19 => ("TriggerHallModel", "only", "[I", true)
  | 20 => ("TriggerHallModel", "came", "I", false)
  | 21 => ("TriggerHallModel", "lost", "I", false)
  | 22 => ("TriggerHallModel", "keptAll", "I", false)
  | 23 => ("TriggerHallModel", "barred", "I", false)
  | 24 => ("TriggerHallModel", "rest", "I", false)
  | 25 => ("TriggerHallModel", "left", "I", false)
  | 26 => ("TriggerHallModel", "rawNumber", "[I", true)
  | 27 => ("TriggerHallModel", "rawLines", "[I", true)
  | 28 => ("TriggerHallModel", "rawHits", "[I", true)
  | 29 => ("TriggerHallModel", "told", "[I", true)
  | 30 => ("TriggerHallModel", "row", "[I", true)
  | 31 => ("TriggerHallModel", "best", "[I", true)
  | 32 => ("TriggerHallModel", "bestTop", "[I", true)
  | 33 => ("TriggerHallModel", "bestLow", "[I", true)
  | 34 => ("TriggerHallModel", "low", "I", false)
  | 35 => ("TriggerHallModel", "heapSet", "I", false)
  | 36 => ("TriggerHallModel", "heapWeight", "I", false)
  | 37 => ("TriggerHallModel", "open", "[I", true)
  | 38 => ("TriggerHallModel", "asked", "I", false)
  | 39 => ("TriggerHallModel", "at", "I", false)
  | _ => ("TriggerHallModel", "hand", "[I", true)
def tyX10 : Nat → FieldType := fun k => match k with
  | 0 => .array .int
  | 1 => .array .int
  | 2 => .array .int
  | 3 => .array .int
  | 4 => .array .int
  | 5 => .array .int
  | 6 => .int
  | 7 => .array .int
  | 8 => .array .int
  | 9 => .array .byte
  | 10 => .int
  | 11 => .int
  | 12 => .array .byte
  | 13 => .array .int
  | 14 => .array .int
  | 15 => .array .boolean
  | 16 => .array .int
  | 17 => .array .int
  | 18 => .array .int
  | 19 => .array .int
  | 20 => .int
  | 21 => .int
  | 22 => .int
  | 23 => .int
  | 24 => .int
  | 25 => .int
  | 26 => .array .int
  | 27 => .array .int
  | 28 => .array .int
  | 29 => .array .int
  | 30 => .array .int
  | 31 => .array .int
  | 32 => .array .int
  | 33 => .array .int
  | 34 => .int
  | 35 => .int
  | 36 => .int
  | 37 => .array .int
  | 38 => .int
  | 39 => .int
  | _ => .array .int
abbrev wsX100 : List Cond := u_ws RX10 TX10 41
theorem nmX10 : ∀ a, a < 41 → ∀ b, b < 41 → a ≠ b → (TX10 a).2.1 ≠ (TX10 b).2.1 := by decide +kernel
theorem tyX10_ok : ∀ k, k < 41 → parseFieldDescriptor (TX10 k).2.2.1 = some (tyX10 k) := by decide +kernel
abbrev cX10_init : ByteArray := prog_12_method_1_code
def yX10_init : MethodName := ⟨RX10, "<init>", "()V"⟩
abbrev cX10_in : ByteArray := prog_12_method_2_code
def yX10_in : MethodName := ⟨RX10, "in", "(JJJ)Z"⟩
abbrev cX10_bitsOf : ByteArray := prog_12_method_3_code
def yX10_bitsOf : MethodName := ⟨RX10, "bitsOf", "(I)I"⟩
abbrev cX10_isLayer : ByteArray := prog_12_method_4_code
def yX10_isLayer : MethodName := ⟨RX10, "isLayer", "(I)Z"⟩
abbrev cX10_sheet : ByteArray := prog_12_method_5_code
def yX10_sheet : MethodName := ⟨RX10, "sheet", "(III)I"⟩
abbrev cX10_cell : ByteArray := prog_12_method_6_code
def yX10_cell : MethodName := ⟨RX10, "cell", "(III)I"⟩
abbrev cX10_lose : ByteArray := prog_12_method_7_code
def yX10_lose : MethodName := ⟨RX10, "lose", "(I)I"⟩
abbrev cX10_allHits : ByteArray := prog_12_method_8_code
def yX10_allHits : MethodName := ⟨RX10, "allHits", "()I"⟩
abbrev cX10_hits : ByteArray := prog_12_method_9_code
def yX10_hits : MethodName := ⟨RX10, "hits", "(II)I"⟩
abbrev cX10_load : ByteArray := prog_12_method_10_code
def yX10_load : MethodName := ⟨RX10, "load", "(II)I"⟩
abbrev cX10_mask : ByteArray := prog_12_method_11_code
def yX10_mask : MethodName := ⟨RX10, "mask", "(III)I"⟩
abbrev cX10_seen : ByteArray := prog_12_method_12_code
def yX10_seen : MethodName := ⟨RX10, "seen", "(I)I"⟩
abbrev cX10_layer : ByteArray := prog_12_method_13_code
def yX10_layer : MethodName := ⟨RX10, "layer", "(II)I"⟩
abbrev cX10_isSpan : ByteArray := prog_12_method_14_code
def yX10_isSpan : MethodName := ⟨RX10, "isSpan", "(I)Z"⟩
abbrev cX10_road : ByteArray := prog_12_method_15_code
def yX10_road : MethodName := ⟨RX10, "road", "(IIIIII)I"⟩
abbrev cX10_isRoad : ByteArray := prog_12_method_16_code
def yX10_isRoad : MethodName := ⟨RX10, "isRoad", "(I)Z"⟩
abbrev cX10_span : ByteArray := prog_12_method_17_code
def yX10_span : MethodName := ⟨RX10, "span", "(III)I"⟩
abbrev cX10_isIn : ByteArray := prog_12_method_18_code
def yX10_isIn : MethodName := ⟨RX10, "isIn", "(III)Z"⟩
abbrev cX10_heldBy : ByteArray := prog_12_method_19_code
def yX10_heldBy : MethodName := ⟨RX10, "heldBy", "(IZ)I"⟩
abbrev cX10_isLit : ByteArray := prog_12_method_20_code
def yX10_isLit : MethodName := ⟨RX10, "isLit", "(I)Z"⟩
abbrev cX10_lit : ByteArray := prog_12_method_21_code
def yX10_lit : MethodName := ⟨RX10, "lit", "()I"⟩
abbrev cX10_held : ByteArray := prog_12_method_22_code
def yX10_held : MethodName := ⟨RX10, "held", "(I)I"⟩
abbrev cX10_miss : ByteArray := prog_12_method_23_code
def yX10_miss : MethodName := ⟨RX10, "miss", "(I)I"⟩
abbrev cX10_findFrom : ByteArray := prog_12_method_24_code
def yX10_findFrom : MethodName := ⟨RX10, "findFrom", "(III)V"⟩
abbrev cX10_findTrack : ByteArray := prog_12_method_25_code
def yX10_findTrack : MethodName := ⟨RX10, "findTrack", "(I)Z"⟩
abbrev cX10_track : ByteArray := prog_12_method_26_code
def yX10_track : MethodName := ⟨RX10, "track", "(II)I"⟩
abbrev cX10_common : ByteArray := prog_12_method_27_code
def yX10_common : MethodName := ⟨RX10, "common", "(II)I"⟩
abbrev cX10_miss_ : ByteArray := prog_12_method_28_code
def yX10_miss_ : MethodName := ⟨RX10, "miss", "(II)I"⟩
abbrev cX10_weightOf : ByteArray := prog_12_method_29_code
def yX10_weightOf : MethodName := ⟨RX10, "weightOf", "(I)I"⟩
abbrev cX10_weight : ByteArray := prog_12_method_30_code
def yX10_weight : MethodName := ⟨RX10, "weight", "(I)I"⟩
abbrev cX10_areApart : ByteArray := prog_12_method_31_code
def yX10_areApart : MethodName := ⟨RX10, "areApart", "(II)Z"⟩
abbrev cX10_findHeap : ByteArray := prog_12_method_32_code
def yX10_findHeap : MethodName := ⟨RX10, "findHeap", "()V"⟩
abbrev cX10_heap : ByteArray := prog_12_method_33_code
def yX10_heap : MethodName := ⟨RX10, "heap", "(I)I"⟩
abbrev cX10_blind : ByteArray := prog_12_method_34_code
def yX10_blind : MethodName := ⟨RX10, "blind", "()I"⟩
abbrev cX10_feed : ByteArray := prog_12_method_35_code
def yX10_feed : MethodName := ⟨RX10, "feed", "(I)I"⟩
abbrev cX10_clear : ByteArray := prog_12_method_36_code
def yX10_clear : MethodName := ⟨RX10, "clear", "()I"⟩
abbrev cX10_isFigure : ByteArray := prog_12_method_37_code
def yX10_isFigure : MethodName := ⟨RX10, "isFigure", "(I)Z"⟩
abbrev cX10_isName : ByteArray := prog_12_method_38_code
def yX10_isName : MethodName := ⟨RX10, "isName", "(I)Z"⟩
abbrev cX10_faultOf : ByteArray := prog_12_method_39_code
def yX10_faultOf : MethodName := ⟨RX10, "faultOf", "()I"⟩
abbrev cX10_line : ByteArray := prog_12_method_40_code
def yX10_line : MethodName := ⟨RX10, "line", "(IZ)I"⟩
abbrev cX10_isLine : ByteArray := prog_12_method_41_code
def yX10_isLine : MethodName := ⟨RX10, "isLine", "(I)Z"⟩
abbrev cX10_thin : ByteArray := prog_12_method_42_code
def yX10_thin : MethodName := ⟨RX10, "thin", "(II)I"⟩
abbrev cX10_letter : ByteArray := prog_12_method_43_code
def yX10_letter : MethodName := ⟨RX10, "letter", "()I"⟩
abbrev cX10_any : ByteArray := prog_12_method_44_code
def yX10_any : MethodName := ⟨RX10, "any", "()Z"⟩
abbrev cX10_both : ByteArray := prog_12_method_45_code
def yX10_both : MethodName := ⟨RX10, "both", "()Z"⟩
abbrev cX10_one : ByteArray := prog_12_method_46_code
def yX10_one : MethodName := ⟨RX10, "one", "()Z"⟩
abbrev cX10_is : ByteArray := prog_12_method_47_code
def yX10_is : MethodName := ⟨RX10, "is", "(II)Z"⟩
abbrev cX10_holding : ByteArray := prog_12_method_48_code
def yX10_holding : MethodName := ⟨RX10, "holding", "()I"⟩
abbrev cX10_holds : ByteArray := prog_12_method_49_code
def yX10_holds : MethodName := ⟨RX10, "holds", "(I)I"⟩
abbrev cX10_of : ByteArray := prog_12_method_50_code
def yX10_of : MethodName := ⟨RX10, "of", "(II)I"⟩
abbrev cX10_noHits : ByteArray := prog_12_method_51_code
def yX10_noHits : MethodName := ⟨RX10, "noHits", "()V"⟩
abbrev cX10_look : ByteArray := prog_12_method_52_code
def yX10_look : MethodName := ⟨RX10, "look", "()I"⟩
abbrev cX10_fire : ByteArray := prog_12_method_53_code
def yX10_fire : MethodName := ⟨RX10, "fire", "()I"⟩
abbrev cX10_rest : ByteArray := prog_12_method_54_code
def yX10_rest : MethodName := ⟨RX10, "rest", "(I)I"⟩
abbrev cX10_raws : ByteArray := prog_12_method_55_code
def yX10_raws : MethodName := ⟨RX10, "raws", "()I"⟩
abbrev cX10_many : ByteArray := prog_12_method_56_code
def yX10_many : MethodName := ⟨RX10, "many", "(I)I"⟩
abbrev cX10_rawAt : ByteArray := prog_12_method_57_code
def yX10_rawAt : MethodName := ⟨RX10, "rawAt", "(I)I"⟩
abbrev cX10_raw : ByteArray := prog_12_method_58_code
def yX10_raw : MethodName := ⟨RX10, "raw", "(II)I"⟩
abbrev cX10_again : ByteArray := prog_12_method_59_code
def yX10_again : MethodName := ⟨RX10, "again", "(I)I"⟩
abbrev cX10_anew : ByteArray := prog_12_method_60_code
def yX10_anew : MethodName := ⟨RX10, "anew", "()I"⟩
def RJx145de : String := "java/io/Serializable"
def TJx145de : u_T := fun k => match k with
  | _ => ("", "", "", false)
def tyJx145de : Nat → FieldType := fun k => match k with
  | _ => .int
abbrev wsJx145de0 : List Cond := u_ws RJx145de TJx145de 0
theorem nmJx145de : ∀ a, a < 0 → ∀ b, b < 0 → a ≠ b → (TJx145de a).2.1 ≠ (TJx145de b).2.1 := by decide +kernel
theorem tyJx145de_ok : ∀ k, k < 0 → parseFieldDescriptor (TJx145de k).2.2.1 = some (tyJx145de k) := by decide +kernel
def RJx8e188 : String := "java/lang/Cloneable"
def TJx8e188 : u_T := fun k => match k with
  | _ => ("", "", "", false)
def tyJx8e188 : Nat → FieldType := fun k => match k with
  | _ => .int
abbrev wsJx8e1880 : List Cond := u_ws RJx8e188 TJx8e188 0
theorem nmJx8e188 : ∀ a, a < 0 → ∀ b, b < 0 → a ≠ b → (TJx8e188 a).2.1 ≠ (TJx8e188 b).2.1 := by decide +kernel
theorem tyJx8e188_ok : ∀ k, k < 0 → parseFieldDescriptor (TJx8e188 k).2.2.1 = some (tyJx8e188 k) := by decide +kernel
def RJ6 : String := "java/lang/Integer"
def TJ6 : u_T := fun k => match k with
  | _ => ("", "", "", false)
def tyJ6 : Nat → FieldType := fun k => match k with
  | _ => .int
abbrev wsJ60 : List Cond := u_ws RJ6 TJ6 0
theorem nmJ6 : ∀ a, a < 0 → ∀ b, b < 0 → a ≠ b → (TJ6 a).2.1 ≠ (TJ6 b).2.1 := by decide +kernel
theorem tyJ6_ok : ∀ k, k < 0 → parseFieldDescriptor (TJ6 k).2.2.1 = some (tyJ6 k) := by decide +kernel
abbrev cJ6_numberOfTrailingZeros_0f7a4 : ByteArray := prog_15_method_48_code
def yJ6_numberOfTrailingZeros_0f7a4 : MethodName := ⟨RJ6, "numberOfTrailingZeros", "(I)I"⟩
abbrev cJ6_bitCount_0f7a4 : ByteArray := prog_15_method_49_code
def yJ6_bitCount_0f7a4 : MethodName := ⟨RJ6, "bitCount", "(I)I"⟩
def RJxab1ab : String := "java/lang/Iterable"
def TJxab1ab : u_T := fun k => match k with
  | _ => ("", "", "", false)
def tyJxab1ab : Nat → FieldType := fun k => match k with
  | _ => .int
abbrev wsJxab1ab0 : List Cond := u_ws RJxab1ab TJxab1ab 0
theorem nmJxab1ab : ∀ a, a < 0 → ∀ b, b < 0 → a ≠ b → (TJxab1ab a).2.1 ≠ (TJxab1ab b).2.1 := by decide +kernel
theorem tyJxab1ab_ok : ∀ k, k < 0 → parseFieldDescriptor (TJxab1ab k).2.2.1 = some (tyJxab1ab k) := by decide +kernel
def RJ9 : String := "java/lang/Math"
def TJ9 : u_T := fun k => match k with
  | _ => ("", "", "", false)
def tyJ9 : Nat → FieldType := fun k => match k with
  | _ => .int
abbrev wsJ90 : List Cond := u_ws RJ9 TJ9 0
theorem nmJ9 : ∀ a, a < 0 → ∀ b, b < 0 → a ≠ b → (TJ9 a).2.1 ≠ (TJ9 b).2.1 := by decide +kernel
theorem tyJ9_ok : ∀ k, k < 0 → parseFieldDescriptor (TJ9 k).2.2.1 = some (tyJ9 k) := by decide +kernel
abbrev cJ9_floorMod_7cf53 : ByteArray := prog_17_method_50_code
def yJ9_floorMod_7cf53 : MethodName := ⟨RJ9, "floorMod", "(II)I"⟩
abbrev cJ9_max_7cf53 : ByteArray := prog_17_method_65_code
def yJ9_max_7cf53 : MethodName := ⟨RJ9, "max", "(II)I"⟩
abbrev cJ9_min_7cf53 : ByteArray := prog_17_method_69_code
def yJ9_min_7cf53 : MethodName := ⟨RJ9, "min", "(II)I"⟩
def RJ10 : String := "java/lang/System"
def TJ10 : u_T := fun k => match k with
  | _ => ("", "", "", false)
def tyJ10 : Nat → FieldType := fun k => match k with
  | _ => .int
abbrev wsJ100 : List Cond := u_ws RJ10 TJ10 0
theorem nmJ10 : ∀ a, a < 0 → ∀ b, b < 0 → a ≠ b → (TJ10 a).2.1 ≠ (TJ10 b).2.1 := by decide +kernel
theorem tyJ10_ok : ∀ k, k < 0 → parseFieldDescriptor (TJ10 k).2.2.1 = some (tyJ10 k) := by decide +kernel
def RJxa1e45 : String := "java/util/AbstractCollection"
def TJxa1e45 : u_T := fun k => match k with
  | _ => ("", "", "", false)
def tyJxa1e45 : Nat → FieldType := fun k => match k with
  | _ => .int
abbrev wsJxa1e450 : List Cond := u_ws RJxa1e45 TJxa1e45 0
theorem nmJxa1e45 : ∀ a, a < 0 → ∀ b, b < 0 → a ≠ b → (TJxa1e45 a).2.1 ≠ (TJxa1e45 b).2.1 := by decide +kernel
theorem tyJxa1e45_ok : ∀ k, k < 0 → parseFieldDescriptor (TJxa1e45 k).2.2.1 = some (tyJxa1e45 k) := by decide +kernel
abbrev cJxa1e45_init_da8c8 : ByteArray := prog_19_method_1_code
def yJxa1e45_init_da8c8 : MethodName := ⟨RJxa1e45, "<init>", "()V"⟩
def RJxc12de : String := "java/util/AbstractList"
def TJxc12de : u_T := fun k => match k with
  | _ => ("", "", "", false)
def tyJxc12de : Nat → FieldType := fun k => match k with
  | _ => .int
abbrev wsJxc12de0 : List Cond := u_ws RJxc12de TJxc12de 0
theorem nmJxc12de : ∀ a, a < 0 → ∀ b, b < 0 → a ≠ b → (TJxc12de a).2.1 ≠ (TJxc12de b).2.1 := by decide +kernel
theorem tyJxc12de_ok : ∀ k, k < 0 → parseFieldDescriptor (TJxc12de k).2.2.1 = some (tyJxc12de k) := by decide +kernel
abbrev cJxc12de_init_da8c8 : ByteArray := prog_20_method_1_code
def yJxc12de_init_da8c8 : MethodName := ⟨RJxc12de, "<init>", "()V"⟩
def RJx4a65c : String := "java/util/ArrayList"
def TJx4a65c : u_T := fun k => match k with
  | 0 => ("java/util/AbstractList", "modCount", "I", false)
  | 1 => ("java/util/ArrayList", "elementData", "[Ljava/lang/Object;", false)
  | _ => ("java/util/ArrayList", "size", "I", false)
def tyJx4a65c : Nat → FieldType := fun k => match k with
  | 0 => .int
  | 1 => .array (.object "java/lang/Object")
  | _ => .int
abbrev wsJx4a65c0 : List Cond := u_ws RJx4a65c TJx4a65c 3
theorem nmJx4a65c : ∀ a, a < 3 → ∀ b, b < 3 → a ≠ b → (TJx4a65c a).2.1 ≠ (TJx4a65c b).2.1 := by decide +kernel
theorem tyJx4a65c_ok : ∀ k, k < 3 → parseFieldDescriptor (TJx4a65c k).2.2.1 = some (tyJx4a65c k) := by decide +kernel
abbrev cJx4a65c_init_da8c8 : ByteArray := prog_21_method_2_code
def yJx4a65c_init_da8c8 : MethodName := ⟨RJx4a65c, "<init>", "()V"⟩
abbrev cJx4a65c_grow_92f84 : ByteArray := prog_21_method_6_code
def yJx4a65c_grow_92f84 : MethodName := ⟨RJx4a65c, "grow", "(I)[Ljava/lang/Object;"⟩
abbrev cJx4a65c_grow_d5877 : ByteArray := prog_21_method_7_code
def yJx4a65c_grow_d5877 : MethodName := ⟨RJx4a65c, "grow", "()[Ljava/lang/Object;"⟩
abbrev cJx4a65c_size_8abf5 : ByteArray := prog_21_method_8_code
def yJx4a65c_size_8abf5 : MethodName := ⟨RJx4a65c, "size", "()I"⟩
abbrev cJx4a65c_elementData_915e3 : ByteArray := prog_21_method_18_code
def yJx4a65c_elementData_915e3 : MethodName := ⟨RJx4a65c, "elementData", "(I)Ljava/lang/Object;"⟩
abbrev cJx4a65c_get_915e3 : ByteArray := prog_21_method_20_code
def yJx4a65c_get_915e3 : MethodName := ⟨RJx4a65c, "get", "(I)Ljava/lang/Object;"⟩
abbrev cJx4a65c_add_72be8 : ByteArray := prog_21_method_24_code
def yJx4a65c_add_72be8 : MethodName := ⟨RJx4a65c, "add", "(Ljava/lang/Object;[Ljava/lang/Object;I)V"⟩
abbrev cJx4a65c_add_9ea2d : ByteArray := prog_21_method_25_code
def yJx4a65c_add_9ea2d : MethodName := ⟨RJx4a65c, "add", "(Ljava/lang/Object;)Z"⟩
def RJ7 : String := "java/util/Arrays"
def TJ7 : u_T := fun k => match k with
  | _ => ("", "", "", false)
def tyJ7 : Nat → FieldType := fun k => match k with
  | _ => .int
abbrev wsJ70 : List Cond := u_ws RJ7 TJ7 0
theorem nmJ7 : ∀ a, a < 0 → ∀ b, b < 0 → a ≠ b → (TJ7 a).2.1 ≠ (TJ7 b).2.1 := by decide +kernel
theorem tyJ7_ok : ∀ k, k < 0 → parseFieldDescriptor (TJ7 k).2.2.1 = some (tyJ7 k) := by decide +kernel
abbrev cJ7_copyOf_1904c : ByteArray := prog_22_method_119_code
def yJ7_copyOf_1904c : MethodName := ⟨RJ7, "copyOf", "([Ljava/lang/Object;I)[Ljava/lang/Object;"⟩
abbrev cJ7_copyOf_6403c : ByteArray := prog_22_method_120_code
def yJ7_copyOf_6403c : MethodName := ⟨RJ7, "copyOf", "([Ljava/lang/Object;ILjava/lang/Class;)[Ljava/lang/Object;"⟩
def RJx5ef63 : String := "java/util/Collection"
def TJx5ef63 : u_T := fun k => match k with
  | _ => ("", "", "", false)
def tyJx5ef63 : Nat → FieldType := fun k => match k with
  | _ => .int
abbrev wsJx5ef630 : List Cond := u_ws RJx5ef63 TJx5ef63 0
theorem nmJx5ef63 : ∀ a, a < 0 → ∀ b, b < 0 → a ≠ b → (TJx5ef63 a).2.1 ≠ (TJx5ef63 b).2.1 := by decide +kernel
theorem tyJx5ef63_ok : ∀ k, k < 0 → parseFieldDescriptor (TJx5ef63 k).2.2.1 = some (tyJx5ef63 k) := by decide +kernel
def RJxbd725 : String := "java/util/List"
def TJxbd725 : u_T := fun k => match k with
  | _ => ("", "", "", false)
def tyJxbd725 : Nat → FieldType := fun k => match k with
  | _ => .int
abbrev wsJxbd7250 : List Cond := u_ws RJxbd725 TJxbd725 0
theorem nmJxbd725 : ∀ a, a < 0 → ∀ b, b < 0 → a ≠ b → (TJxbd725 a).2.1 ≠ (TJxbd725 b).2.1 := by decide +kernel
theorem tyJxbd725_ok : ∀ k, k < 0 → parseFieldDescriptor (TJxbd725 k).2.2.1 = some (tyJxbd725 k) := by decide +kernel
def RJ15 : String := "java/util/Objects"
def TJ15 : u_T := fun k => match k with
  | _ => ("", "", "", false)
def tyJ15 : Nat → FieldType := fun k => match k with
  | _ => .int
abbrev wsJ150 : List Cond := u_ws RJ15 TJ15 0
theorem nmJ15 : ∀ a, a < 0 → ∀ b, b < 0 → a ≠ b → (TJ15 a).2.1 ≠ (TJ15 b).2.1 := by decide +kernel
theorem tyJ15_ok : ∀ k, k < 0 → parseFieldDescriptor (TJ15 k).2.2.1 = some (tyJ15 k) := by decide +kernel
abbrev cJ15_checkIndex_7cf53 : ByteArray := prog_25_method_17_code
def yJ15_checkIndex_7cf53 : MethodName := ⟨RJ15, "checkIndex", "(II)I"⟩
def RJxf0a74 : String := "java/util/RandomAccess"
def TJxf0a74 : u_T := fun k => match k with
  | _ => ("", "", "", false)
def tyJxf0a74 : Nat → FieldType := fun k => match k with
  | _ => .int
abbrev wsJxf0a740 : List Cond := u_ws RJxf0a74 TJxf0a74 0
theorem nmJxf0a74 : ∀ a, a < 0 → ∀ b, b < 0 → a ≠ b → (TJxf0a74 a).2.1 ≠ (TJxf0a74 b).2.1 := by decide +kernel
theorem tyJxf0a74_ok : ∀ k, k < 0 → parseFieldDescriptor (TJxf0a74 k).2.2.1 = some (tyJxf0a74 k) := by decide +kernel
def RJxa66e6 : String := "java/util/SequencedCollection"
def TJxa66e6 : u_T := fun k => match k with
  | _ => ("", "", "", false)
def tyJxa66e6 : Nat → FieldType := fun k => match k with
  | _ => .int
abbrev wsJxa66e60 : List Cond := u_ws RJxa66e6 TJxa66e6 0
theorem nmJxa66e6 : ∀ a, a < 0 → ∀ b, b < 0 → a ≠ b → (TJxa66e6 a).2.1 ≠ (TJxa66e6 b).2.1 := by decide +kernel
theorem tyJxa66e6_ok : ∀ k, k < 0 → parseFieldDescriptor (TJxa66e6 k).2.2.1 = some (tyJxa66e6 k) := by decide +kernel
def RJ8 : String := "jdk/internal/util/ArraysSupport"
def TJ8 : u_T := fun k => match k with
  | _ => ("", "", "", false)
def tyJ8 : Nat → FieldType := fun k => match k with
  | _ => .int
abbrev wsJ80 : List Cond := u_ws RJ8 TJ8 0
theorem nmJ8 : ∀ a, a < 0 → ∀ b, b < 0 → a ≠ b → (TJ8 a).2.1 ≠ (TJ8 b).2.1 := by decide +kernel
theorem tyJ8_ok : ∀ k, k < 0 → parseFieldDescriptor (TJ8 k).2.2.1 = some (tyJ8 k) := by decide +kernel
abbrev cJ8_newLength_cabcc : ByteArray := prog_28_method_27_code
def yJ8_newLength_cabcc : MethodName := ⟨RJ8, "newLength", "(III)I"⟩
abbrev cJ8_hugeLength_7cf53 : ByteArray := prog_28_method_28_code
def yJ8_hugeLength_7cf53 : MethodName := ⟨RJ8, "hugeLength", "(II)I"⟩
def RJ3 : String := "jdk/internal/util/Preconditions"
def TJ3 : u_T := fun k => match k with
  | _ => ("", "", "", false)
def tyJ3 : Nat → FieldType := fun k => match k with
  | _ => .int
abbrev wsJ30 : List Cond := u_ws RJ3 TJ3 0
theorem nmJ3 : ∀ a, a < 0 → ∀ b, b < 0 → a ≠ b → (TJ3 a).2.1 ≠ (TJ3 b).2.1 := by decide +kernel
theorem tyJ3_ok : ∀ k, k < 0 → parseFieldDescriptor (TJ3 k).2.2.1 = some (tyJ3 k) := by decide +kernel
abbrev cJ3_checkIndex_8e157 : ByteArray := prog_29_method_11_code
def yJ3_checkIndex_8e157 : MethodName := ⟨RJ3, "checkIndex", "(IILjava/util/function/BiFunction;)I"⟩
def RL : String := "TriggerHallLaw"
abbrev cL_law : ByteArray := code
def yL_law : MethodName := ⟨RL, "law", "([I)Z"⟩
