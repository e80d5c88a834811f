/-! the methods, and what their instructions link: printed by program -/
abbrev kX0_init : th_M := (cX0_init, RX0, 1, none, "<init>")
set_option maxRecDepth 20000 in
theorem bX0_init : th_cB yX0_init kX0_init 0 := ⟨(th_mW 88 rfl rfl), (th_mW 7 (by decide +kernel) rfl), ⟨by decide, by decide, (by decide +kernel)⟩, by decide⟩
abbrev kX0_along : th_M := (cX0_along, RX0, 5, none, "along")
set_option maxRecDepth 20000 in
theorem bX0_along : th_cB yX0_along kX0_along 2 := ⟨(th_mW 524 rfl rfl), (th_mW 7 (by decide +kernel) rfl), ⟨by decide, by decide, (by decide +kernel)⟩, by decide⟩
abbrev kX0_tryCells : th_M := (cX0_tryCells, RX0, 7, none, "tryCells")
set_option maxRecDepth 20000 in
theorem bX0_tryCells : th_cB yX0_tryCells kX0_tryCells 4 := ⟨(th_mW 530 rfl rfl), (th_mW 7 (by decide +kernel) rfl), ⟨by decide, by decide, (by decide +kernel)⟩, by decide⟩
abbrev kX0_isPerfect : th_M := (cX0_isPerfect, RX0, 1, (some .boolean), "isPerfect")
set_option maxRecDepth 20000 in
theorem bX0_isPerfect : th_cB yX0_isPerfect kX0_isPerfect 0 := ⟨(th_mW 542 rfl rfl), (th_mW 7 (by decide +kernel) rfl), ⟨by decide, by decide, (by decide +kernel)⟩, by decide⟩
abbrev kX0_takeTrial : th_M := (cX0_takeTrial, RX0, 7, none, "takeTrial")
set_option maxRecDepth 20000 in
theorem bX0_takeTrial : th_cB yX0_takeTrial kX0_takeTrial 3 := ⟨(th_mW 534 rfl rfl), (th_mW 7 (by decide +kernel) rfl), ⟨by decide, by decide, (by decide +kernel)⟩, by decide⟩
abbrev kX0_above : th_M := (cX0_above, RX0, 1, (some .int), "above")
set_option maxRecDepth 20000 in
theorem bX0_above : th_cB yX0_above kX0_above 0 := ⟨(th_mW 550 rfl rfl), (th_mW 7 (by decide +kernel) rfl), ⟨by decide, by decide, (by decide +kernel)⟩, by decide⟩
abbrev kX0_below : th_M := (cX0_below, RX0, 1, (some .int), "below")
set_option maxRecDepth 20000 in
theorem bX0_below : th_cB yX0_below kX0_below 0 := ⟨(th_mW 554 rfl rfl), (th_mW 7 (by decide +kernel) rfl), ⟨by decide, by decide, (by decide +kernel)⟩, by decide⟩
abbrev kX0_worth : th_M := (cX0_worth, RX0, 1, (some .int), "worth")
set_option maxRecDepth 20000 in
theorem bX0_worth : th_cB yX0_worth kX0_worth 0 := ⟨(th_mW 567 rfl rfl), (th_mW 7 (by decide +kernel) rfl), ⟨by decide, by decide, (by decide +kernel)⟩, by decide⟩
abbrev kX1_init : th_M := (cX1_init, RX1, 1, none, "<init>")
set_option maxRecDepth 20000 in
theorem bX1_init : th_cB yX1_init kX1_init 0 := ⟨(th_mW 118 rfl rfl), (th_mW 8 (by decide +kernel) rfl), ⟨by decide, by decide, (by decide +kernel)⟩, by decide⟩
abbrev kX1_empty : th_M := (cX1_empty, RX1, 1, none, "empty")
set_option maxRecDepth 20000 in
theorem bX1_empty : th_cB yX1_empty kX1_empty 0 := ⟨(th_mW 584 rfl rfl), (th_mW 8 (by decide +kernel) rfl), ⟨by decide, by decide, (by decide +kernel)⟩, by decide⟩
abbrev kX1_put : th_M := (cX1_put, RX1, 4, none, "put")
set_option maxRecDepth 20000 in
theorem bX1_put : th_cB yX1_put kX1_put 2 := ⟨(th_mW 593 rfl rfl), (th_mW 8 (by decide +kernel) rfl), ⟨by decide, by decide, (by decide +kernel)⟩, by decide⟩
abbrev kX1_clash : th_M := (cX1_clash, RX1, 5, (some .boolean), "clash")
set_option maxRecDepth 20000 in
theorem bX1_clash : th_cB yX1_clash kX1_clash 2 := ⟨(th_mW 597 rfl rfl), (th_mW 8 (by decide +kernel) rfl), ⟨by decide, by decide, (by decide +kernel)⟩, by decide⟩
abbrev kX1_choose : th_M := (cX1_choose, RX1, 1, none, "choose")
set_option maxRecDepth 20000 in
theorem bX1_choose : th_cB yX1_choose kX1_choose 0 := ⟨(th_mW 601 rfl rfl), (th_mW 8 (by decide +kernel) rfl), ⟨by decide, by decide, (by decide +kernel)⟩, by decide⟩
abbrev kX1_chooseFrom : th_M := (cX1_chooseFrom, RX1, 4, none, "chooseFrom")
set_option maxRecDepth 20000 in
theorem bX1_chooseFrom : th_cB yX1_chooseFrom kX1_chooseFrom 3 := ⟨(th_mW 605 rfl rfl), (th_mW 8 (by decide +kernel) rfl), ⟨by decide, by decide, (by decide +kernel)⟩, by decide⟩
abbrev kX2_init : th_M := (cX2_init, RX2, 4, none, "<init>")
set_option maxRecDepth 20000 in
theorem bX2_init : th_cB yX2_init kX2_init 3 := ⟨(th_mW 688 rfl rfl), (th_mW 21 (by decide +kernel) rfl), ⟨by decide, by decide, (by decide +kernel)⟩, by decide⟩
abbrev kX2_countPasses : th_M := (cX2_countPasses, RX2, 1, (some .boolean), "countPasses")
set_option maxRecDepth 20000 in
theorem bX2_countPasses : th_cB yX2_countPasses kX2_countPasses 0 := ⟨(th_mW 765 rfl rfl), (th_mW 21 (by decide +kernel) rfl), ⟨by decide, by decide, (by decide +kernel)⟩, by decide⟩
abbrev kX2_credit : th_M := (cX2_credit, RX2, 2, none, "credit")
set_option maxRecDepth 20000 in
theorem bX2_credit : th_cB yX2_credit kX2_credit 1 := ⟨(th_mW 777 rfl rfl), (th_mW 21 (by decide +kernel) rfl), ⟨by decide, by decide, (by decide +kernel)⟩, by decide⟩
abbrev kX2_forget : th_M := (cX2_forget, RX2, 1, none, "forget")
set_option maxRecDepth 20000 in
theorem bX2_forget : th_cB yX2_forget kX2_forget 0 := ⟨(th_mW 834 rfl rfl), (th_mW 21 (by decide +kernel) rfl), ⟨by decide, by decide, (by decide +kernel)⟩, by decide⟩
abbrev kX3_init : th_M := (cX3_init, RX3, 1, none, "<init>")
set_option maxRecDepth 20000 in
theorem bX3_init : th_cB yX3_init kX3_init 0 := ⟨(th_mW 82 rfl rfl), (th_mW 6 (by decide +kernel) rfl), ⟨by decide, by decide, (by decide +kernel)⟩, by decide⟩
abbrev kX3_see : th_M := (cX3_see, RX3, 5, none, "see")
set_option maxRecDepth 20000 in
theorem bX3_see : th_cB yX3_see kX3_see 3 := ⟨(th_mW 480 rfl rfl), (th_mW 6 (by decide +kernel) rfl), ⟨by decide, by decide, (by decide +kernel)⟩, by decide⟩
abbrev kX3_light : th_M := (cX3_light, RX3, 3, none, "light")
set_option maxRecDepth 20000 in
theorem bX3_light : th_cB yX3_light kX3_light 1 := ⟨(th_mW 485 rfl rfl), (th_mW 6 (by decide +kernel) rfl), ⟨by decide, by decide, (by decide +kernel)⟩, by decide⟩
abbrev kX3_fitAlong : th_M := (cX3_fitAlong, RX3, 2, (some .boolean), "fitAlong")
set_option maxRecDepth 20000 in
theorem bX3_fitAlong : th_cB yX3_fitAlong kX3_fitAlong 1 := ⟨(th_mW 520 rfl rfl), (th_mW 6 (by decide +kernel) rfl), ⟨by decide, by decide, (by decide +kernel)⟩, by decide⟩
abbrev kX3_pile : th_M := (cX3_pile, RX3, 4, none, "pile")
set_option maxRecDepth 20000 in
theorem bX3_pile : th_cB yX3_pile kX3_pile 1 := ⟨(th_mW 580 rfl rfl), (th_mW 6 (by decide +kernel) rfl), ⟨by decide, by decide, (by decide +kernel)⟩, by decide⟩
abbrev kX3_isLit : th_M := (cX3_isLit, RX3, 2, (some .boolean), "isLit")
set_option maxRecDepth 20000 in
theorem bX3_isLit : th_cB yX3_isLit kX3_isLit 1 := ⟨(th_mW 588 rfl rfl), (th_mW 6 (by decide +kernel) rfl), ⟨by decide, by decide, (by decide +kernel)⟩, by decide⟩
abbrev kX3_answers : th_M := (cX3_answers, RX3, 3, (some .boolean), "answers")
set_option maxRecDepth 20000 in
theorem bX3_answers : th_cB yX3_answers kX3_answers 2 := ⟨(th_mW 678 rfl rfl), (th_mW 6 (by decide +kernel) rfl), ⟨by decide, by decide, (by decide +kernel)⟩, by decide⟩
abbrev kX4_init : th_M := (cX4_init, RX4, 1, none, "<init>")
set_option maxRecDepth 20000 in
theorem bX4_init : th_cB yX4_init kX4_init 0 := ⟨(th_mW 209 rfl rfl), (th_mW 11 (by decide +kernel) rfl), ⟨by decide, by decide, (by decide +kernel)⟩, by decide⟩
abbrev kX4_size : th_M := (cX4_size, RX4, 1, (some .int), "size")
set_option maxRecDepth 20000 in
theorem bX4_size : th_cB yX4_size kX4_size 0 := ⟨(th_mW 800 rfl rfl), (th_mW 11 (by decide +kernel) rfl), ⟨by decide, by decide, (by decide +kernel)⟩, by decide⟩
abbrev kX4_has : th_M := (cX4_has, RX4, 2, (some .boolean), "has")
set_option maxRecDepth 20000 in
theorem bX4_has : th_cB yX4_has kX4_has 1 := ⟨(th_mW 809 rfl rfl), (th_mW 11 (by decide +kernel) rfl), ⟨by decide, by decide, (by decide +kernel)⟩, by decide⟩
abbrev kX4_slotOf : th_M := (cX4_slotOf, RX4, 2, (some .int), "slotOf")
set_option maxRecDepth 20000 in
theorem bX4_slotOf : th_cB yX4_slotOf kX4_slotOf 1 := ⟨(th_mW 785 rfl rfl), (th_mW 11 (by decide +kernel) rfl), ⟨by decide, by decide, (by decide +kernel)⟩, by decide⟩
abbrev kX4_keep : th_M := (cX4_keep, RX4, 6, none, "keep")
set_option maxRecDepth 20000 in
theorem bX4_keep : th_cB yX4_keep kX4_keep 3 := ⟨(th_mW 781 rfl rfl), (th_mW 11 (by decide +kernel) rfl), ⟨by decide, by decide, (by decide +kernel)⟩, by decide⟩
abbrev kX4_numberOf : th_M := (cX4_numberOf, RX4, 2, (some .int), "numberOf")
set_option maxRecDepth 20000 in
theorem bX4_numberOf : th_cB yX4_numberOf kX4_numberOf 1 := ⟨(th_mW 814 rfl rfl), (th_mW 11 (by decide +kernel) rfl), ⟨by decide, by decide, (by decide +kernel)⟩, by decide⟩
abbrev kX4_passedAt : th_M := (cX4_passedAt, RX4, 2, (some .int), "passedAt")
set_option maxRecDepth 20000 in
theorem bX4_passedAt : th_cB yX4_passedAt kX4_passedAt 1 := ⟨(th_mW 818 rfl rfl), (th_mW 11 (by decide +kernel) rfl), ⟨by decide, by decide, (by decide +kernel)⟩, by decide⟩
abbrev kX4_copyHits : th_M := (cX4_copyHits, RX4, 5, none, "copyHits")
set_option maxRecDepth 20000 in
theorem bX4_copyHits : th_cB yX4_copyHits kX4_copyHits 2 := ⟨(th_mW 822 rfl rfl), (th_mW 11 (by decide +kernel) rfl), ⟨by decide, by decide, (by decide +kernel)⟩, by decide⟩
abbrev kX5_init : th_M := (cX5_init, RX5, 1, none, "<init>")
set_option maxRecDepth 20000 in
theorem bX5_init : th_cB yX5_init kX5_init 0 := ⟨(th_mW 189 rfl rfl), (th_mW 10 (by decide +kernel) rfl), ⟨by decide, by decide, (by decide +kernel)⟩, by decide⟩
abbrev kX5_read : th_M := (cX5_read, RX5, 4, (some .boolean), "read")
set_option maxRecDepth 20000 in
theorem bX5_read : th_cB yX5_read kX5_read 2 := ⟨(th_mW 640 rfl rfl), (th_mW 10 (by decide +kernel) rfl), ⟨by decide, by decide, (by decide +kernel)⟩, by decide⟩
abbrev kX5_readAny : th_M := (cX5_readAny, RX5, 5, (some .boolean), "readAny")
set_option maxRecDepth 20000 in
theorem bX5_readAny : th_cB yX5_readAny kX5_readAny 1 := ⟨(th_mW 644 rfl rfl), (th_mW 10 (by decide +kernel) rfl), ⟨by decide, by decide, (by decide +kernel)⟩, by decide⟩
abbrev kX5_readBoth : th_M := (cX5_readBoth, RX5, 5, (some .boolean), "readBoth")
set_option maxRecDepth 20000 in
theorem bX5_readBoth : th_cB yX5_readBoth kX5_readBoth 1 := ⟨(th_mW 648 rfl rfl), (th_mW 10 (by decide +kernel) rfl), ⟨by decide, by decide, (by decide +kernel)⟩, by decide⟩
abbrev kX5_readOne : th_M := (cX5_readOne, RX5, 4, (some .boolean), "readOne")
set_option maxRecDepth 20000 in
theorem bX5_readOne : th_cB yX5_readOne kX5_readOne 1 := ⟨(th_mW 652 rfl rfl), (th_mW 10 (by decide +kernel) rfl), ⟨by decide, by decide, (by decide +kernel)⟩, by decide⟩
abbrev kX5_readAsked : th_M := (cX5_readAsked, RX5, 3, (some .boolean), "readAsked")
set_option maxRecDepth 20000 in
theorem bX5_readAsked : th_cB yX5_readAsked kX5_readAsked 0 := ⟨(th_mW 660 rfl rfl), (th_mW 10 (by decide +kernel) rfl), ⟨by decide, by decide, (by decide +kernel)⟩, by decide⟩
abbrev kX5_canAsk : th_M := (cX5_canAsk, RX5, 1, (some .boolean), "canAsk")
set_option maxRecDepth 20000 in
theorem bX5_canAsk : th_cB yX5_canAsk kX5_canAsk 1 := ⟨(th_mW 663 rfl rfl), (th_mW 10 (by decide +kernel) rfl), ⟨by decide, by decide, (by decide +kernel)⟩, by decide⟩
abbrev kX5_readNumber : th_M := (cX5_readNumber, RX5, 3, (some .int), "readNumber")
set_option maxRecDepth 20000 in
theorem bX5_readNumber : th_cB yX5_readNumber kX5_readNumber 0 := ⟨(th_mW 671 rfl rfl), (th_mW 10 (by decide +kernel) rfl), ⟨by decide, by decide, (by decide +kernel)⟩, by decide⟩
abbrev kX5_isFigure : th_M := (cX5_isFigure, RX5, 1, (some .boolean), "isFigure")
set_option maxRecDepth 20000 in
theorem bX5_isFigure : th_cB yX5_isFigure kX5_isFigure 1 := ⟨(th_mW 674 rfl rfl), (th_mW 10 (by decide +kernel) rfl), ⟨by decide, by decide, (by decide +kernel)⟩, by decide⟩
abbrev kX5_passOver : th_M := (cX5_passOver, RX5, 2, (some .boolean), "passOver")
set_option maxRecDepth 20000 in
theorem bX5_passOver : th_cB yX5_passOver kX5_passOver 1 := ⟨(th_mW 683 rfl rfl), (th_mW 10 (by decide +kernel) rfl), ⟨by decide, by decide, (by decide +kernel)⟩, by decide⟩
abbrev kX5_fail : th_M := (cX5_fail, RX5, 1, (some .boolean), "fail")
set_option maxRecDepth 20000 in
theorem bX5_fail : th_cB yX5_fail kX5_fail 0 := ⟨(th_mW 667 rfl rfl), (th_mW 10 (by decide +kernel) rfl), ⟨by decide, by decide, (by decide +kernel)⟩, by decide⟩
abbrev kX6_init : th_M := (cX6_init, RX6, 2, none, "<init>")
set_option maxRecDepth 20000 in
theorem bX6_init : th_cB yX6_init kX6_init 1 := ⟨(th_mW 360 rfl rfl), (th_mW 14 (by decide +kernel) rfl), ⟨by decide, by decide, (by decide +kernel)⟩, by decide⟩
abbrev kX6_setSpan : th_M := (cX6_setSpan, RX6, 3, none, "setSpan")
set_option maxRecDepth 20000 in
theorem bX6_setSpan : th_cB yX6_setSpan kX6_setSpan 2 := ⟨(th_mW 375 rfl rfl), (th_mW 14 (by decide +kernel) rfl), ⟨by decide, by decide, (by decide +kernel)⟩, by decide⟩
abbrev kX6_spanTold : th_M := (cX6_spanTold, RX6, 2, (some .int), "spanTold")
set_option maxRecDepth 20000 in
theorem bX6_spanTold : th_cB yX6_spanTold kX6_spanTold 1 := ⟨(th_mW 472 rfl rfl), (th_mW 14 (by decide +kernel) rfl), ⟨by decide, by decide, (by decide +kernel)⟩, by decide⟩
abbrev kX6_seenIn : th_M := (cX6_seenIn, RX6, 5, (some .int), "seenIn")
set_option maxRecDepth 20000 in
theorem bX6_seenIn : th_cB yX6_seenIn kX6_seenIn 2 := ⟨(th_mW 502 rfl rfl), (th_mW 14 (by decide +kernel) rfl), ⟨by decide, by decide, (by decide +kernel)⟩, by decide⟩
abbrev kX6_layersHeld : th_M := (cX6_layersHeld, RX6, 4, (some .int), "layersHeld")
set_option maxRecDepth 20000 in
theorem bX6_layersHeld : th_cB yX6_layersHeld kX6_layersHeld 1 := ⟨(th_mW 498 rfl rfl), (th_mW 14 (by decide +kernel) rfl), ⟨by decide, by decide, (by decide +kernel)⟩, by decide⟩
abbrev kX6_isLit : th_M := (cX6_isLit, RX6, 2, (some .boolean), "isLit")
set_option maxRecDepth 20000 in
theorem bX6_isLit : th_cB yX6_isLit kX6_isLit 1 := ⟨(th_mW 494 rfl rfl), (th_mW 14 (by decide +kernel) rfl), ⟨by decide, by decide, (by decide +kernel)⟩, by decide⟩
abbrev kX7_init : th_M := (cX7_init, RX7, 1, none, "<init>")
set_option maxRecDepth 20000 in
theorem bX7_init : th_cB yX7_init kX7_init 0 := ⟨(th_mW 35 rfl rfl), (th_mW 2 (by decide +kernel) rfl), ⟨by decide, by decide, (by decide +kernel)⟩, by decide⟩
abbrev kX7_lay : th_M := (cX7_lay, RX7, 4, none, "lay")
set_option maxRecDepth 20000 in
theorem bX7_lay : th_cB yX7_lay kX7_lay 2 := ⟨(th_mW 285 rfl rfl), (th_mW 2 (by decide +kernel) rfl), ⟨by decide, by decide, (by decide +kernel)⟩, by decide⟩
abbrev kX7_has : th_M := (cX7_has, RX7, 2, (some .boolean), "has")
set_option maxRecDepth 20000 in
theorem bX7_has : th_cB yX7_has kX7_has 1 := ⟨(th_mW 293 rfl rfl), (th_mW 2 (by decide +kernel) rfl), ⟨by decide, by decide, (by decide +kernel)⟩, by decide⟩
abbrev kX7_numberAt : th_M := (cX7_numberAt, RX7, 2, (some .int), "numberAt")
set_option maxRecDepth 20000 in
theorem bX7_numberAt : th_cB yX7_numberAt kX7_numberAt 1 := ⟨(th_mW 327 rfl rfl), (th_mW 2 (by decide +kernel) rfl), ⟨by decide, by decide, (by decide +kernel)⟩, by decide⟩
abbrev kX7_put : th_M := (cX7_put, RX7, 3, none, "put")
set_option maxRecDepth 20000 in
theorem bX7_put : th_cB yX7_put kX7_put 2 := ⟨(th_mW 297 rfl rfl), (th_mW 2 (by decide +kernel) rfl), ⟨by decide, by decide, (by decide +kernel)⟩, by decide⟩
abbrev kX8_init : th_M := (cX8_init, RX8, 1, none, "<init>")
set_option maxRecDepth 20000 in
theorem bX8_init : th_cB yX8_init kX8_init 0 := ⟨(th_mW 173 rfl rfl), (th_mW 9 (by decide +kernel) rfl), ⟨by decide, by decide, (by decide +kernel)⟩, by decide⟩
abbrev kX8_put : th_M := (cX8_put, RX8, 2, none, "put")
set_option maxRecDepth 20000 in
theorem bX8_put : th_cB yX8_put kX8_put 1 := ⟨(th_mW 625 rfl rfl), (th_mW 9 (by decide +kernel) rfl), ⟨by decide, by decide, (by decide +kernel)⟩, by decide⟩
abbrev kX8_copy : th_M := (cX8_copy, RX8, 3, none, "copy")
set_option maxRecDepth 20000 in
theorem bX8_copy : th_cB yX8_copy kX8_copy 1 := ⟨(th_mW 695 rfl rfl), (th_mW 9 (by decide +kernel) rfl), ⟨by decide, by decide, (by decide +kernel)⟩, by decide⟩
abbrev kX8_letterAt : th_M := (cX8_letterAt, RX8, 2, (some .int), "letterAt")
set_option maxRecDepth 20000 in
theorem bX8_letterAt : th_cB yX8_letterAt kX8_letterAt 1 := ⟨(th_mW 656 rfl rfl), (th_mW 9 (by decide +kernel) rfl), ⟨by decide, by decide, (by decide +kernel)⟩, by decide⟩
abbrev kX9_init : th_M := (cX9_init, RX9, 1, none, "<init>")
set_option maxRecDepth 20000 in
theorem bX9_init : th_cB yX9_init kX9_init 0 := ⟨(th_mW 26 rfl rfl), (th_mW 1 (by decide +kernel) rfl), ⟨by decide, by decide, (by decide +kernel)⟩, by decide⟩
abbrev kX9_sheet : th_M := (cX9_sheet, RX9, 5, (some .int), "sheet")
set_option maxRecDepth 20000 in
theorem bX9_sheet : th_cB yX9_sheet kX9_sheet 3 := ⟨(th_mW 277 rfl rfl), (th_mW 1 (by decide +kernel) rfl), ⟨by decide, by decide, (by decide +kernel)⟩, by decide⟩
abbrev kX9_cell : th_M := (cX9_cell, RX9, 5, (some .int), "cell")
set_option maxRecDepth 20000 in
theorem bX9_cell : th_cB yX9_cell kX9_cell 3 := ⟨(th_mW 289 rfl rfl), (th_mW 1 (by decide +kernel) rfl), ⟨by decide, by decide, (by decide +kernel)⟩, by decide⟩
abbrev kX9_lose : th_M := (cX9_lose, RX9, 3, (some .int), "lose")
set_option maxRecDepth 20000 in
theorem bX9_lose : th_cB yX9_lose kX9_lose 1 := ⟨(th_mW 302 rfl rfl), (th_mW 1 (by decide +kernel) rfl), ⟨by decide, by decide, (by decide +kernel)⟩, by decide⟩
abbrev kX9_hits : th_M := (cX9_hits, RX9, 3, (some .int), "hits")
set_option maxRecDepth 20000 in
theorem bX9_hits : th_cB yX9_hits kX9_hits 2 := ⟨(th_mW 306 rfl rfl), (th_mW 1 (by decide +kernel) rfl), ⟨by decide, by decide, (by decide +kernel)⟩, by decide⟩
abbrev kX9_load : th_M := (cX9_load, RX9, 5, (some .int), "load")
set_option maxRecDepth 20000 in
theorem bX9_load : th_cB yX9_load kX9_load 2 := ⟨(th_mW 323 rfl rfl), (th_mW 1 (by decide +kernel) rfl), ⟨by decide, by decide, (by decide +kernel)⟩, by decide⟩
abbrev kX9_mask : th_M := (cX9_mask, RX9, 6, (some .int), "mask")
set_option maxRecDepth 20000 in
theorem bX9_mask : th_cB yX9_mask kX9_mask 3 := ⟨(th_mW 334 rfl rfl), (th_mW 1 (by decide +kernel) rfl), ⟨by decide, by decide, (by decide +kernel)⟩, by decide⟩
abbrev kX9_layer : th_M := (cX9_layer, RX9, 3, (some .int), "layer")
set_option maxRecDepth 20000 in
theorem bX9_layer : th_cB yX9_layer kX9_layer 2 := ⟨(th_mW 338 rfl rfl), (th_mW 1 (by decide +kernel) rfl), ⟨by decide, by decide, (by decide +kernel)⟩, by decide⟩
abbrev kX9_road : th_M := (cX9_road, RX9, 9, (some .int), "road")
set_option maxRecDepth 20000 in
theorem bX9_road : th_cB yX9_road kX9_road 6 := ⟨(th_mW 342 rfl rfl), (th_mW 1 (by decide +kernel) rfl), ⟨by decide, by decide, (by decide +kernel)⟩, by decide⟩
abbrev kX9_span : th_M := (cX9_span, RX9, 6, (some .int), "span")
set_option maxRecDepth 20000 in
theorem bX9_span : th_cB yX9_span kX9_span 3 := ⟨(th_mW 445 rfl rfl), (th_mW 1 (by decide +kernel) rfl), ⟨by decide, by decide, (by decide +kernel)⟩, by decide⟩
abbrev kX9_lit : th_M := (cX9_lit, RX9, 1, (some .int), "lit")
set_option maxRecDepth 20000 in
theorem bX9_lit : th_cB yX9_lit kX9_lit 0 := ⟨(th_mW 476 rfl rfl), (th_mW 1 (by decide +kernel) rfl), ⟨by decide, by decide, (by decide +kernel)⟩, by decide⟩
abbrev kX9_held : th_M := (cX9_held, RX9, 3, (some .int), "held")
set_option maxRecDepth 20000 in
theorem bX9_held : th_cB yX9_held kX9_held 1 := ⟨(th_mW 507 rfl rfl), (th_mW 1 (by decide +kernel) rfl), ⟨by decide, by decide, (by decide +kernel)⟩, by decide⟩
abbrev kX9_track : th_M := (cX9_track, RX9, 5, (some .int), "track")
set_option maxRecDepth 20000 in
theorem bX9_track : th_cB yX9_track kX9_track 2 := ⟨(th_mW 512 rfl rfl), (th_mW 1 (by decide +kernel) rfl), ⟨by decide, by decide, (by decide +kernel)⟩, by decide⟩
abbrev kX9_miss : th_M := (cX9_miss, RX9, 7, (some .int), "miss")
set_option maxRecDepth 20000 in
theorem bX9_miss : th_cB yX9_miss kX9_miss 2 := ⟨(th_mW 546 rfl rfl), (th_mW 1 (by decide +kernel) rfl), ⟨by decide, by decide, (by decide +kernel)⟩, by decide⟩
abbrev kX9_weight : th_M := (cX9_weight, RX9, 3, (some .int), "weight")
set_option maxRecDepth 20000 in
theorem bX9_weight : th_cB yX9_weight kX9_weight 1 := ⟨(th_mW 563 rfl rfl), (th_mW 1 (by decide +kernel) rfl), ⟨by decide, by decide, (by decide +kernel)⟩, by decide⟩
abbrev kX9_heap : th_M := (cX9_heap, RX9, 2, (some .int), "heap")
set_option maxRecDepth 20000 in
theorem bX9_heap : th_cB yX9_heap kX9_heap 1 := ⟨(th_mW 572 rfl rfl), (th_mW 1 (by decide +kernel) rfl), ⟨by decide, by decide, (by decide +kernel)⟩, by decide⟩
abbrev kX9_blind : th_M := (cX9_blind, RX9, 2, (some .int), "blind")
set_option maxRecDepth 20000 in
theorem bX9_blind : th_cB yX9_blind kX9_blind 0 := ⟨(th_mW 609 rfl rfl), (th_mW 1 (by decide +kernel) rfl), ⟨by decide, by decide, (by decide +kernel)⟩, by decide⟩
abbrev kX9_feed : th_M := (cX9_feed, RX9, 4, (some .int), "feed")
set_option maxRecDepth 20000 in
theorem bX9_feed : th_cB yX9_feed kX9_feed 1 := ⟨(th_mW 615 rfl rfl), (th_mW 1 (by decide +kernel) rfl), ⟨by decide, by decide, (by decide +kernel)⟩, by decide⟩
abbrev kX9_clear : th_M := (cX9_clear, RX9, 2, (some .int), "clear")
set_option maxRecDepth 20000 in
theorem bX9_clear : th_cB yX9_clear kX9_clear 0 := ⟨(th_mW 629 rfl rfl), (th_mW 1 (by decide +kernel) rfl), ⟨by decide, by decide, (by decide +kernel)⟩, by decide⟩
abbrev kX9_line : th_M := (cX9_line, RX9, 3, (some .int), "line")
set_option maxRecDepth 20000 in
theorem bX9_line : th_cB yX9_line kX9_line 2 := ⟨(th_mW 633 rfl rfl), (th_mW 1 (by decide +kernel) rfl), ⟨by decide, by decide, (by decide +kernel)⟩, by decide⟩
abbrev kX9_thin : th_M := (cX9_thin, RX9, 5, (some .int), "thin")
set_option maxRecDepth 20000 in
theorem bX9_thin : th_cB yX9_thin kX9_thin 2 := ⟨(th_mW 729 rfl rfl), (th_mW 1 (by decide +kernel) rfl), ⟨by decide, by decide, (by decide +kernel)⟩, by decide⟩
abbrev kX9_holds : th_M := (cX9_holds, RX9, 3, (some .int), "holds")
set_option maxRecDepth 20000 in
theorem bX9_holds : th_cB yX9_holds kX9_holds 1 := ⟨(th_mW 737 rfl rfl), (th_mW 1 (by decide +kernel) rfl), ⟨by decide, by decide, (by decide +kernel)⟩, by decide⟩
abbrev kX9_of : th_M := (cX9_of, RX9, 4, (some .int), "of")
set_option maxRecDepth 20000 in
theorem bX9_of : th_cB yX9_of kX9_of 2 := ⟨(th_mW 741 rfl rfl), (th_mW 1 (by decide +kernel) rfl), ⟨by decide, by decide, (by decide +kernel)⟩, by decide⟩
abbrev kX9_fire : th_M := (cX9_fire, RX9, 4, (some .int), "fire")
set_option maxRecDepth 20000 in
theorem bX9_fire : th_cB yX9_fire kX9_fire 0 := ⟨(th_mW 745 rfl rfl), (th_mW 1 (by decide +kernel) rfl), ⟨by decide, by decide, (by decide +kernel)⟩, by decide⟩
abbrev kX9_rest : th_M := (cX9_rest, RX9, 3, (some .int), "rest")
set_option maxRecDepth 20000 in
theorem bX9_rest : th_cB yX9_rest kX9_rest 1 := ⟨(th_mW 792 rfl rfl), (th_mW 1 (by decide +kernel) rfl), ⟨by decide, by decide, (by decide +kernel)⟩, by decide⟩
abbrev kX9_many : th_M := (cX9_many, RX9, 2, (some .int), "many")
set_option maxRecDepth 20000 in
theorem bX9_many : th_cB yX9_many kX9_many 1 := ⟨(th_mW 796 rfl rfl), (th_mW 1 (by decide +kernel) rfl), ⟨by decide, by decide, (by decide +kernel)⟩, by decide⟩
abbrev kX9_raw : th_M := (cX9_raw, RX9, 3, (some .int), "raw")
set_option maxRecDepth 20000 in
theorem bX9_raw : th_cB yX9_raw kX9_raw 2 := ⟨(th_mW 805 rfl rfl), (th_mW 1 (by decide +kernel) rfl), ⟨by decide, by decide, (by decide +kernel)⟩, by decide⟩
abbrev kX9_again : th_M := (cX9_again, RX9, 2, (some .int), "again")
set_option maxRecDepth 20000 in
theorem bX9_again : th_cB yX9_again kX9_again 1 := ⟨(th_mW 826 rfl rfl), (th_mW 1 (by decide +kernel) rfl), ⟨by decide, by decide, (by decide +kernel)⟩, by decide⟩
abbrev kX9_anew : th_M := (cX9_anew, RX9, 3, (some .int), "anew")
set_option maxRecDepth 20000 in
theorem bX9_anew : th_cB yX9_anew kX9_anew 0 := ⟨(th_mW 830 rfl rfl), (th_mW 1 (by decide +kernel) rfl), ⟨by decide, by decide, (by decide +kernel)⟩, by decide⟩
abbrev kX9_isLayer : th_M := (cX9_isLayer, RX9, 1, (some .boolean), "isLayer")
set_option maxRecDepth 20000 in
theorem bX9_isLayer : th_cB yX9_isLayer kX9_isLayer 1 := ⟨(th_mW 309 rfl rfl), (th_mW 1 (by decide +kernel) rfl), ⟨by decide, by decide, (by decide +kernel)⟩, by decide⟩
abbrev kX9_areCells : th_M := (cX9_areCells, RX9, 1, (some .boolean), "areCells")
set_option maxRecDepth 20000 in
theorem bX9_areCells : th_cB yX9_areCells kX9_areCells 1 := ⟨(th_mW 312 rfl rfl), (th_mW 1 (by decide +kernel) rfl), ⟨by decide, by decide, (by decide +kernel)⟩, by decide⟩
abbrev kX9_isShare : th_M := (cX9_isShare, RX9, 1, (some .boolean), "isShare")
set_option maxRecDepth 20000 in
theorem bX9_isShare : th_cB yX9_isShare kX9_isShare 1 := ⟨(th_mW 636 rfl rfl), (th_mW 1 (by decide +kernel) rfl), ⟨by decide, by decide, (by decide +kernel)⟩, by decide⟩
abbrev kX9_isSpan : th_M := (cX9_isSpan, RX9, 3, (some .boolean), "isSpan")
set_option maxRecDepth 20000 in
theorem bX9_isSpan : th_cB yX9_isSpan kX9_isSpan 1 := ⟨(th_mW 345 rfl rfl), (th_mW 1 (by decide +kernel) rfl), ⟨by decide, by decide, (by decide +kernel)⟩, by decide⟩
abbrev kX9_cellsIn : th_M := (cX9_cellsIn, RX9, 6, (some .int), "cellsIn")
set_option maxRecDepth 20000 in
theorem bX9_cellsIn : th_cB yX9_cellsIn kX9_cellsIn 1 := ⟨(th_mW 330 rfl rfl), (th_mW 1 (by decide +kernel) rfl), ⟨by decide, by decide, (by decide +kernel)⟩, by decide⟩
abbrev kX9_letterIn : th_M := (cX9_letterIn, RX9, 2, (some .char), "letterIn")
set_option maxRecDepth 20000 in
theorem bX9_letterIn : th_cB yX9_letterIn kX9_letterIn 2 := ⟨(th_mW 621 rfl rfl), (th_mW 1 (by decide +kernel) rfl), ⟨by decide, by decide, (by decide +kernel)⟩, by decide⟩
abbrev kX9_lettersIn : th_M := (cX9_lettersIn, RX9, 2, (some .int), "lettersIn")
set_option maxRecDepth 20000 in
theorem bX9_lettersIn : th_cB yX9_lettersIn kX9_lettersIn 1 := ⟨(th_mW 618 rfl rfl), (th_mW 1 (by decide +kernel) rfl), ⟨by decide, by decide, (by decide +kernel)⟩, by decide⟩
abbrev kX9_greatestDivisor : th_M := (cX9_greatestDivisor, RX9, 6, (some .int), "greatestDivisor")
set_option maxRecDepth 20000 in
theorem bX9_greatestDivisor : th_cB yX9_greatestDivisor kX9_greatestDivisor 2 := ⟨(th_mW 558 rfl rfl), (th_mW 1 (by decide +kernel) rfl), ⟨by decide, by decide, (by decide +kernel)⟩, by decide⟩
abbrev kX9_sheetAt : th_M := (cX9_sheetAt, RX9, 2, (some (.object "TriggerHall$Sheet")), "sheetAt")
set_option maxRecDepth 20000 in
theorem bX9_sheetAt : th_cB yX9_sheetAt kX9_sheetAt 1 := ⟨(th_mW 281 rfl rfl), (th_mW 1 (by decide +kernel) rfl), ⟨by decide, by decide, (by decide +kernel)⟩, by decide⟩
abbrev kX9_roadAt : th_M := (cX9_roadAt, RX9, 2, (some (.object "TriggerHall$Road")), "roadAt")
set_option maxRecDepth 20000 in
theorem bX9_roadAt : th_cB yX9_roadAt kX9_roadAt 1 := ⟨(th_mW 449 rfl rfl), (th_mW 1 (by decide +kernel) rfl), ⟨by decide, by decide, (by decide +kernel)⟩, by decide⟩
abbrev kX9_lineAt : th_M := (cX9_lineAt, RX9, 2, (some (.object "TriggerHall$Line")), "lineAt")
set_option maxRecDepth 20000 in
theorem bX9_lineAt : th_cB yX9_lineAt kX9_lineAt 1 := ⟨(th_mW 733 rfl rfl), (th_mW 1 (by decide +kernel) rfl), ⟨by decide, by decide, (by decide +kernel)⟩, by decide⟩
abbrev kX9_fitInHand : th_M := (cX9_fitInHand, RX9, 2, (some .boolean), "fitInHand")
set_option maxRecDepth 20000 in
theorem bX9_fitInHand : th_cB yX9_fitInHand kX9_fitInHand 1 := ⟨(th_mW 516 rfl rfl), (th_mW 1 (by decide +kernel) rfl), ⟨by decide, by decide, (by decide +kernel)⟩, by decide⟩
abbrev kX9_lookAt : th_M := (cX9_lookAt, RX9, 2, none, "lookAt")
set_option maxRecDepth 20000 in
theorem bX9_lookAt : th_cB yX9_lookAt kX9_lookAt 1 := ⟨(th_mW 576 rfl rfl), (th_mW 1 (by decide +kernel) rfl), ⟨by decide, by decide, (by decide +kernel)⟩, by decide⟩
abbrev kX9_holdingLines : th_M := (cX9_holdingLines, RX9, 3, (some .int), "holdingLines")
set_option maxRecDepth 20000 in
theorem bX9_holdingLines : th_cB yX9_holdingLines kX9_holdingLines 0 := ⟨(th_mW 757 rfl rfl), (th_mW 1 (by decide +kernel) rfl), ⟨by decide, by decide, (by decide +kernel)⟩, by decide⟩
abbrev kX9_loseCrossing : th_M := (cX9_loseCrossing, RX9, 1, (some .int), "loseCrossing")
set_option maxRecDepth 20000 in
theorem bX9_loseCrossing : th_cB yX9_loseCrossing kX9_loseCrossing 0 := ⟨(th_mW 749 rfl rfl), (th_mW 1 (by decide +kernel) rfl), ⟨by decide, by decide, (by decide +kernel)⟩, by decide⟩
abbrev kX9_judgeCrossing : th_M := (cX9_judgeCrossing, RX9, 5, (some .int), "judgeCrossing")
set_option maxRecDepth 20000 in
theorem bX9_judgeCrossing : th_cB yX9_judgeCrossing kX9_judgeCrossing 1 := ⟨(th_mW 753 rfl rfl), (th_mW 1 (by decide +kernel) rfl), ⟨by decide, by decide, (by decide +kernel)⟩, by decide⟩
abbrev kX9_passLines : th_M := (cX9_passLines, RX9, 4, (some .int), "passLines")
set_option maxRecDepth 20000 in
theorem bX9_passLines : th_cB yX9_passLines kX9_passLines 1 := ⟨(th_mW 761 rfl rfl), (th_mW 1 (by decide +kernel) rfl), ⟨by decide, by decide, (by decide +kernel)⟩, by decide⟩
abbrev kX9_barLines : th_M := (cX9_barLines, RX9, 3, (some .int), "barLines")
set_option maxRecDepth 20000 in
theorem bX9_barLines : th_cB yX9_barLines kX9_barLines 0 := ⟨(th_mW 769 rfl rfl), (th_mW 1 (by decide +kernel) rfl), ⟨by decide, by decide, (by decide +kernel)⟩, by decide⟩
abbrev kX9_creditLines : th_M := (cX9_creditLines, RX9, 4, none, "creditLines")
set_option maxRecDepth 20000 in
theorem bX9_creditLines : th_cB yX9_creditLines kX9_creditLines 1 := ⟨(th_mW 773 rfl rfl), (th_mW 1 (by decide +kernel) rfl), ⟨by decide, by decide, (by decide +kernel)⟩, by decide⟩
abbrev kX10_init : th_M := (cX10_init, RX10, 2, none, "<init>")
set_option maxRecDepth 20000 in
theorem bX10_init : th_cB yX10_init kX10_init 0 := ⟨(th_mW 839 rfl rfl), (th_mW 12 (by decide +kernel) rfl), ⟨by decide, by decide, (by decide +kernel)⟩, by decide⟩
abbrev kX10_in : th_M := (cX10_in, RX10, 6, (some .boolean), "in")
set_option maxRecDepth 20000 in
theorem bX10_in : th_cB yX10_in kX10_in 3 := ⟨(th_mW 974 rfl rfl), (th_mW 12 (by decide +kernel) rfl), ⟨by decide, by decide, (by decide +kernel)⟩, by decide⟩
abbrev kX10_bitsOf : th_M := (cX10_bitsOf, RX10, 3, (some .int), "bitsOf")
set_option maxRecDepth 20000 in
theorem bX10_bitsOf : th_cB yX10_bitsOf kX10_bitsOf 1 := ⟨(th_mW 994 rfl rfl), (th_mW 12 (by decide +kernel) rfl), ⟨by decide, by decide, (by decide +kernel)⟩, by decide⟩
abbrev kX10_isLayer : th_M := (cX10_isLayer, RX10, 1, (some .boolean), "isLayer")
set_option maxRecDepth 20000 in
theorem bX10_isLayer : th_cB yX10_isLayer kX10_isLayer 1 := ⟨(th_mW 989 rfl rfl), (th_mW 12 (by decide +kernel) rfl), ⟨by decide, by decide, (by decide +kernel)⟩, by decide⟩
abbrev kX10_sheet : th_M := (cX10_sheet, RX10, 5, (some .int), "sheet")
set_option maxRecDepth 20000 in
theorem bX10_sheet : th_cB yX10_sheet kX10_sheet 3 := ⟨(th_mW 970 rfl rfl), (th_mW 12 (by decide +kernel) rfl), ⟨by decide, by decide, (by decide +kernel)⟩, by decide⟩
abbrev kX10_cell : th_M := (cX10_cell, RX10, 4, (some .int), "cell")
set_option maxRecDepth 20000 in
theorem bX10_cell : th_cB yX10_cell kX10_cell 3 := ⟨(th_mW 978 rfl rfl), (th_mW 12 (by decide +kernel) rfl), ⟨by decide, by decide, (by decide +kernel)⟩, by decide⟩
abbrev kX10_lose : th_M := (cX10_lose, RX10, 2, (some .int), "lose")
set_option maxRecDepth 20000 in
theorem bX10_lose : th_cB yX10_lose kX10_lose 1 := ⟨(th_mW 982 rfl rfl), (th_mW 12 (by decide +kernel) rfl), ⟨by decide, by decide, (by decide +kernel)⟩, by decide⟩
abbrev kX10_allHits : th_M := (cX10_allHits, RX10, 3, (some .int), "allHits")
set_option maxRecDepth 20000 in
theorem bX10_allHits : th_cB yX10_allHits kX10_allHits 0 := ⟨(th_mW 1003 rfl rfl), (th_mW 12 (by decide +kernel) rfl), ⟨by decide, by decide, (by decide +kernel)⟩, by decide⟩
abbrev kX10_hits : th_M := (cX10_hits, RX10, 3, (some .int), "hits")
set_option maxRecDepth 20000 in
theorem bX10_hits : th_cB yX10_hits kX10_hits 2 := ⟨(th_mW 986 rfl rfl), (th_mW 12 (by decide +kernel) rfl), ⟨by decide, by decide, (by decide +kernel)⟩, by decide⟩
abbrev kX10_load : th_M := (cX10_load, RX10, 4, (some .int), "load")
set_option maxRecDepth 20000 in
theorem bX10_load : th_cB yX10_load kX10_load 2 := ⟨(th_mW 998 rfl rfl), (th_mW 12 (by decide +kernel) rfl), ⟨by decide, by decide, (by decide +kernel)⟩, by decide⟩
abbrev kX10_mask : th_M := (cX10_mask, RX10, 5, (some .int), "mask")
set_option maxRecDepth 20000 in
theorem bX10_mask : th_cB yX10_mask kX10_mask 3 := ⟨(th_mW 1007 rfl rfl), (th_mW 12 (by decide +kernel) rfl), ⟨by decide, by decide, (by decide +kernel)⟩, by decide⟩
abbrev kX10_seen : th_M := (cX10_seen, RX10, 2, (some .int), "seen")
set_option maxRecDepth 20000 in
theorem bX10_seen : th_cB yX10_seen kX10_seen 1 := ⟨(th_mW 1015 rfl rfl), (th_mW 12 (by decide +kernel) rfl), ⟨by decide, by decide, (by decide +kernel)⟩, by decide⟩
abbrev kX10_layer : th_M := (cX10_layer, RX10, 3, (some .int), "layer")
set_option maxRecDepth 20000 in
theorem bX10_layer : th_cB yX10_layer kX10_layer 2 := ⟨(th_mW 1011 rfl rfl), (th_mW 12 (by decide +kernel) rfl), ⟨by decide, by decide, (by decide +kernel)⟩, by decide⟩
abbrev kX10_isSpan : th_M := (cX10_isSpan, RX10, 1, (some .boolean), "isSpan")
set_option maxRecDepth 20000 in
theorem bX10_isSpan : th_cB yX10_isSpan kX10_isSpan 1 := ⟨(th_mW 1022 rfl rfl), (th_mW 12 (by decide +kernel) rfl), ⟨by decide, by decide, (by decide +kernel)⟩, by decide⟩
abbrev kX10_road : th_M := (cX10_road, RX10, 8, (some .int), "road")
set_option maxRecDepth 20000 in
theorem bX10_road : th_cB yX10_road kX10_road 6 := ⟨(th_mW 1019 rfl rfl), (th_mW 12 (by decide +kernel) rfl), ⟨by decide, by decide, (by decide +kernel)⟩, by decide⟩
abbrev kX10_isRoad : th_M := (cX10_isRoad, RX10, 2, (some .boolean), "isRoad")
set_option maxRecDepth 20000 in
theorem bX10_isRoad : th_cB yX10_isRoad kX10_isRoad 1 := ⟨(th_mW 1031 rfl rfl), (th_mW 12 (by decide +kernel) rfl), ⟨by decide, by decide, (by decide +kernel)⟩, by decide⟩
abbrev kX10_span : th_M := (cX10_span, RX10, 5, (some .int), "span")
set_option maxRecDepth 20000 in
theorem bX10_span : th_cB yX10_span kX10_span 3 := ⟨(th_mW 1027 rfl rfl), (th_mW 12 (by decide +kernel) rfl), ⟨by decide, by decide, (by decide +kernel)⟩, by decide⟩
abbrev kX10_isIn : th_M := (cX10_isIn, RX10, 5, (some .boolean), "isIn")
set_option maxRecDepth 20000 in
theorem bX10_isIn : th_cB yX10_isIn kX10_isIn 3 := ⟨(th_mW 1047 rfl rfl), (th_mW 12 (by decide +kernel) rfl), ⟨by decide, by decide, (by decide +kernel)⟩, by decide⟩
abbrev kX10_heldBy : th_M := (cX10_heldBy, RX10, 7, (some .int), "heldBy")
set_option maxRecDepth 20000 in
theorem bX10_heldBy : th_cB yX10_heldBy kX10_heldBy 2 := ⟨(th_mW 1043 rfl rfl), (th_mW 12 (by decide +kernel) rfl), ⟨by decide, by decide, (by decide +kernel)⟩, by decide⟩
abbrev kX10_isLit : th_M := (cX10_isLit, RX10, 2, (some .boolean), "isLit")
set_option maxRecDepth 20000 in
theorem bX10_isLit : th_cB yX10_isLit kX10_isLit 1 := ⟨(th_mW 1039 rfl rfl), (th_mW 12 (by decide +kernel) rfl), ⟨by decide, by decide, (by decide +kernel)⟩, by decide⟩
abbrev kX10_lit : th_M := (cX10_lit, RX10, 3, (some .int), "lit")
set_option maxRecDepth 20000 in
theorem bX10_lit : th_cB yX10_lit kX10_lit 0 := ⟨(th_mW 1035 rfl rfl), (th_mW 12 (by decide +kernel) rfl), ⟨by decide, by decide, (by decide +kernel)⟩, by decide⟩
abbrev kX10_held : th_M := (cX10_held, RX10, 2, (some .int), "held")
set_option maxRecDepth 20000 in
theorem bX10_held : th_cB yX10_held kX10_held 1 := ⟨(th_mW 1051 rfl rfl), (th_mW 12 (by decide +kernel) rfl), ⟨by decide, by decide, (by decide +kernel)⟩, by decide⟩
abbrev kX10_miss : th_M := (cX10_miss, RX10, 11, (some .int), "miss")
set_option maxRecDepth 20000 in
theorem bX10_miss : th_cB yX10_miss kX10_miss 1 := ⟨(th_mW 1067 rfl rfl), (th_mW 12 (by decide +kernel) rfl), ⟨by decide, by decide, (by decide +kernel)⟩, by decide⟩
abbrev kX10_findFrom : th_M := (cX10_findFrom, RX10, 6, none, "findFrom")
set_option maxRecDepth 20000 in
theorem bX10_findFrom : th_cB yX10_findFrom kX10_findFrom 3 := ⟨(th_mW 1063 rfl rfl), (th_mW 12 (by decide +kernel) rfl), ⟨by decide, by decide, (by decide +kernel)⟩, by decide⟩
abbrev kX10_findTrack : th_M := (cX10_findTrack, RX10, 2, (some .boolean), "findTrack")
set_option maxRecDepth 20000 in
theorem bX10_findTrack : th_cB yX10_findTrack kX10_findTrack 1 := ⟨(th_mW 1059 rfl rfl), (th_mW 12 (by decide +kernel) rfl), ⟨by decide, by decide, (by decide +kernel)⟩, by decide⟩
abbrev kX10_track : th_M := (cX10_track, RX10, 3, (some .int), "track")
set_option maxRecDepth 20000 in
theorem bX10_track : th_cB yX10_track kX10_track 2 := ⟨(th_mW 1055 rfl rfl), (th_mW 12 (by decide +kernel) rfl), ⟨by decide, by decide, (by decide +kernel)⟩, by decide⟩
abbrev kX10_common : th_M := (cX10_common, RX10, 5, (some .int), "common")
set_option maxRecDepth 20000 in
theorem bX10_common : th_cB yX10_common kX10_common 2 := ⟨(th_mW 1074 rfl rfl), (th_mW 12 (by decide +kernel) rfl), ⟨by decide, by decide, (by decide +kernel)⟩, by decide⟩
abbrev kX10_miss_ : th_M := (cX10_miss_, RX10, 4, (some .int), "miss")
set_option maxRecDepth 20000 in
theorem bX10_miss_ : th_cB yX10_miss_ kX10_miss_ 2 := ⟨(th_mW 1071 rfl rfl), (th_mW 12 (by decide +kernel) rfl), ⟨by decide, by decide, (by decide +kernel)⟩, by decide⟩
abbrev kX10_weightOf : th_M := (cX10_weightOf, RX10, 3, (some .int), "weightOf")
set_option maxRecDepth 20000 in
theorem bX10_weightOf : th_cB yX10_weightOf kX10_weightOf 1 := ⟨(th_mW 1082 rfl rfl), (th_mW 12 (by decide +kernel) rfl), ⟨by decide, by decide, (by decide +kernel)⟩, by decide⟩
abbrev kX10_weight : th_M := (cX10_weight, RX10, 2, (some .int), "weight")
set_option maxRecDepth 20000 in
theorem bX10_weight : th_cB yX10_weight kX10_weight 1 := ⟨(th_mW 1078 rfl rfl), (th_mW 12 (by decide +kernel) rfl), ⟨by decide, by decide, (by decide +kernel)⟩, by decide⟩
abbrev kX10_areApart : th_M := (cX10_areApart, RX10, 5, (some .boolean), "areApart")
set_option maxRecDepth 20000 in
theorem bX10_areApart : th_cB yX10_areApart kX10_areApart 2 := ⟨(th_mW 1094 rfl rfl), (th_mW 12 (by decide +kernel) rfl), ⟨by decide, by decide, (by decide +kernel)⟩, by decide⟩
abbrev kX10_findHeap : th_M := (cX10_findHeap, RX10, 7, none, "findHeap")
set_option maxRecDepth 20000 in
theorem bX10_findHeap : th_cB yX10_findHeap kX10_findHeap 0 := ⟨(th_mW 1090 rfl rfl), (th_mW 12 (by decide +kernel) rfl), ⟨by decide, by decide, (by decide +kernel)⟩, by decide⟩
abbrev kX10_heap : th_M := (cX10_heap, RX10, 2, (some .int), "heap")
set_option maxRecDepth 20000 in
theorem bX10_heap : th_cB yX10_heap kX10_heap 1 := ⟨(th_mW 1086 rfl rfl), (th_mW 12 (by decide +kernel) rfl), ⟨by decide, by decide, (by decide +kernel)⟩, by decide⟩
abbrev kX10_blind : th_M := (cX10_blind, RX10, 3, (some .int), "blind")
set_option maxRecDepth 20000 in
theorem bX10_blind : th_cB yX10_blind kX10_blind 0 := ⟨(th_mW 1098 rfl rfl), (th_mW 12 (by decide +kernel) rfl), ⟨by decide, by decide, (by decide +kernel)⟩, by decide⟩
abbrev kX10_feed : th_M := (cX10_feed, RX10, 4, (some .int), "feed")
set_option maxRecDepth 20000 in
theorem bX10_feed : th_cB yX10_feed kX10_feed 1 := ⟨(th_mW 1102 rfl rfl), (th_mW 12 (by decide +kernel) rfl), ⟨by decide, by decide, (by decide +kernel)⟩, by decide⟩
abbrev kX10_clear : th_M := (cX10_clear, RX10, 2, (some .int), "clear")
set_option maxRecDepth 20000 in
theorem bX10_clear : th_cB yX10_clear kX10_clear 0 := ⟨(th_mW 1106 rfl rfl), (th_mW 12 (by decide +kernel) rfl), ⟨by decide, by decide, (by decide +kernel)⟩, by decide⟩
abbrev kX10_isFigure : th_M := (cX10_isFigure, RX10, 1, (some .boolean), "isFigure")
set_option maxRecDepth 20000 in
theorem bX10_isFigure : th_cB yX10_isFigure kX10_isFigure 1 := ⟨(th_mW 1121 rfl rfl), (th_mW 12 (by decide +kernel) rfl), ⟨by decide, by decide, (by decide +kernel)⟩, by decide⟩
abbrev kX10_isName : th_M := (cX10_isName, RX10, 1, (some .boolean), "isName")
set_option maxRecDepth 20000 in
theorem bX10_isName : th_cB yX10_isName kX10_isName 1 := ⟨(th_mW 1118 rfl rfl), (th_mW 12 (by decide +kernel) rfl), ⟨by decide, by decide, (by decide +kernel)⟩, by decide⟩
abbrev kX10_faultOf : th_M := (cX10_faultOf, RX10, 6, (some .int), "faultOf")
set_option maxRecDepth 20000 in
theorem bX10_faultOf : th_cB yX10_faultOf kX10_faultOf 0 := ⟨(th_mW 1115 rfl rfl), (th_mW 12 (by decide +kernel) rfl), ⟨by decide, by decide, (by decide +kernel)⟩, by decide⟩
abbrev kX10_line : th_M := (cX10_line, RX10, 5, (some .int), "line")
set_option maxRecDepth 20000 in
theorem bX10_line : th_cB yX10_line kX10_line 2 := ⟨(th_mW 1110 rfl rfl), (th_mW 12 (by decide +kernel) rfl), ⟨by decide, by decide, (by decide +kernel)⟩, by decide⟩
abbrev kX10_isLine : th_M := (cX10_isLine, RX10, 2, (some .boolean), "isLine")
set_option maxRecDepth 20000 in
theorem bX10_isLine : th_cB yX10_isLine kX10_isLine 1 := ⟨(th_mW 1129 rfl rfl), (th_mW 12 (by decide +kernel) rfl), ⟨by decide, by decide, (by decide +kernel)⟩, by decide⟩
abbrev kX10_thin : th_M := (cX10_thin, RX10, 4, (some .int), "thin")
set_option maxRecDepth 20000 in
theorem bX10_thin : th_cB yX10_thin kX10_thin 2 := ⟨(th_mW 1125 rfl rfl), (th_mW 12 (by decide +kernel) rfl), ⟨by decide, by decide, (by decide +kernel)⟩, by decide⟩
abbrev kX10_letter : th_M := (cX10_letter, RX10, 1, (some .int), "letter")
set_option maxRecDepth 20000 in
theorem bX10_letter : th_cB yX10_letter kX10_letter 0 := ⟨(th_mW 1153 rfl rfl), (th_mW 12 (by decide +kernel) rfl), ⟨by decide, by decide, (by decide +kernel)⟩, by decide⟩
abbrev kX10_any : th_M := (cX10_any, RX10, 3, (some .boolean), "any")
set_option maxRecDepth 20000 in
theorem bX10_any : th_cB yX10_any kX10_any 0 := ⟨(th_mW 1141 rfl rfl), (th_mW 12 (by decide +kernel) rfl), ⟨by decide, by decide, (by decide +kernel)⟩, by decide⟩
abbrev kX10_both : th_M := (cX10_both, RX10, 3, (some .boolean), "both")
set_option maxRecDepth 20000 in
theorem bX10_both : th_cB yX10_both kX10_both 0 := ⟨(th_mW 1145 rfl rfl), (th_mW 12 (by decide +kernel) rfl), ⟨by decide, by decide, (by decide +kernel)⟩, by decide⟩
abbrev kX10_one : th_M := (cX10_one, RX10, 3, (some .boolean), "one")
set_option maxRecDepth 20000 in
theorem bX10_one : th_cB yX10_one kX10_one 0 := ⟨(th_mW 1149 rfl rfl), (th_mW 12 (by decide +kernel) rfl), ⟨by decide, by decide, (by decide +kernel)⟩, by decide⟩
abbrev kX10_is : th_M := (cX10_is, RX10, 5, (some .boolean), "is")
set_option maxRecDepth 20000 in
theorem bX10_is : th_cB yX10_is kX10_is 2 := ⟨(th_mW 1157 rfl rfl), (th_mW 12 (by decide +kernel) rfl), ⟨by decide, by decide, (by decide +kernel)⟩, by decide⟩
abbrev kX10_holding : th_M := (cX10_holding, RX10, 2, (some .int), "holding")
set_option maxRecDepth 20000 in
theorem bX10_holding : th_cB yX10_holding kX10_holding 0 := ⟨(th_mW 1137 rfl rfl), (th_mW 12 (by decide +kernel) rfl), ⟨by decide, by decide, (by decide +kernel)⟩, by decide⟩
abbrev kX10_holds : th_M := (cX10_holds, RX10, 2, (some .int), "holds")
set_option maxRecDepth 20000 in
theorem bX10_holds : th_cB yX10_holds kX10_holds 1 := ⟨(th_mW 1133 rfl rfl), (th_mW 12 (by decide +kernel) rfl), ⟨by decide, by decide, (by decide +kernel)⟩, by decide⟩
abbrev kX10_of : th_M := (cX10_of, RX10, 3, (some .int), "of")
set_option maxRecDepth 20000 in
theorem bX10_of : th_cB yX10_of kX10_of 2 := ⟨(th_mW 1161 rfl rfl), (th_mW 12 (by decide +kernel) rfl), ⟨by decide, by decide, (by decide +kernel)⟩, by decide⟩
abbrev kX10_noHits : th_M := (cX10_noHits, RX10, 2, none, "noHits")
set_option maxRecDepth 20000 in
theorem bX10_noHits : th_cB yX10_noHits kX10_noHits 0 := ⟨(th_mW 1173 rfl rfl), (th_mW 12 (by decide +kernel) rfl), ⟨by decide, by decide, (by decide +kernel)⟩, by decide⟩
abbrev kX10_look : th_M := (cX10_look, RX10, 7, (some .int), "look")
set_option maxRecDepth 20000 in
theorem bX10_look : th_cB yX10_look kX10_look 0 := ⟨(th_mW 1169 rfl rfl), (th_mW 12 (by decide +kernel) rfl), ⟨by decide, by decide, (by decide +kernel)⟩, by decide⟩
abbrev kX10_fire : th_M := (cX10_fire, RX10, 2, (some .int), "fire")
set_option maxRecDepth 20000 in
theorem bX10_fire : th_cB yX10_fire kX10_fire 0 := ⟨(th_mW 1165 rfl rfl), (th_mW 12 (by decide +kernel) rfl), ⟨by decide, by decide, (by decide +kernel)⟩, by decide⟩
abbrev kX10_rest : th_M := (cX10_rest, RX10, 3, (some .int), "rest")
set_option maxRecDepth 20000 in
theorem bX10_rest : th_cB yX10_rest kX10_rest 1 := ⟨(th_mW 1177 rfl rfl), (th_mW 12 (by decide +kernel) rfl), ⟨by decide, by decide, (by decide +kernel)⟩, by decide⟩
abbrev kX10_raws : th_M := (cX10_raws, RX10, 1, (some .int), "raws")
set_option maxRecDepth 20000 in
theorem bX10_raws : th_cB yX10_raws kX10_raws 0 := ⟨(th_mW 1186 rfl rfl), (th_mW 12 (by decide +kernel) rfl), ⟨by decide, by decide, (by decide +kernel)⟩, by decide⟩
abbrev kX10_many : th_M := (cX10_many, RX10, 2, (some .int), "many")
set_option maxRecDepth 20000 in
theorem bX10_many : th_cB yX10_many kX10_many 1 := ⟨(th_mW 1182 rfl rfl), (th_mW 12 (by decide +kernel) rfl), ⟨by decide, by decide, (by decide +kernel)⟩, by decide⟩
abbrev kX10_rawAt : th_M := (cX10_rawAt, RX10, 2, (some .int), "rawAt")
set_option maxRecDepth 20000 in
theorem bX10_rawAt : th_cB yX10_rawAt kX10_rawAt 1 := ⟨(th_mW 1195 rfl rfl), (th_mW 12 (by decide +kernel) rfl), ⟨by decide, by decide, (by decide +kernel)⟩, by decide⟩
abbrev kX10_raw : th_M := (cX10_raw, RX10, 6, (some .int), "raw")
set_option maxRecDepth 20000 in
theorem bX10_raw : th_cB yX10_raw kX10_raw 2 := ⟨(th_mW 1190 rfl rfl), (th_mW 12 (by decide +kernel) rfl), ⟨by decide, by decide, (by decide +kernel)⟩, by decide⟩
abbrev kX10_again : th_M := (cX10_again, RX10, 4, (some .int), "again")
set_option maxRecDepth 20000 in
theorem bX10_again : th_cB yX10_again kX10_again 1 := ⟨(th_mW 1199 rfl rfl), (th_mW 12 (by decide +kernel) rfl), ⟨by decide, by decide, (by decide +kernel)⟩, by decide⟩
abbrev kX10_anew : th_M := (cX10_anew, RX10, 3, (some .int), "anew")
set_option maxRecDepth 20000 in
theorem bX10_anew : th_cB yX10_anew kX10_anew 0 := ⟨(th_mW 1203 rfl rfl), (th_mW 12 (by decide +kernel) rfl), ⟨by decide, by decide, (by decide +kernel)⟩, by decide⟩
abbrev kJ6_numberOfTrailingZeros_0f7a4 : th_M := (cJ6_numberOfTrailingZeros_0f7a4, RJ6, 2, (some .int), "numberOfTrailingZeros")
set_option maxRecDepth 20000 in
theorem bJ6_numberOfTrailingZeros_0f7a4 : th_cB yJ6_numberOfTrailingZeros_0f7a4 kJ6_numberOfTrailingZeros_0f7a4 1 := ⟨(th_mW 537 rfl rfl), (th_mW 13 (by decide +kernel) rfl), ⟨by decide, by decide, (by decide +kernel)⟩, by decide⟩
abbrev kJ6_bitCount_0f7a4 : th_M := (cJ6_bitCount_0f7a4, RJ6, 1, (some .int), "bitCount")
set_option maxRecDepth 20000 in
theorem bJ6_bitCount_0f7a4 : th_cB yJ6_bitCount_0f7a4 kJ6_bitCount_0f7a4 1 := ⟨(th_mW 316 rfl rfl), (th_mW 13 (by decide +kernel) rfl), ⟨by decide, by decide, (by decide +kernel)⟩, by decide⟩
abbrev kJ9_floorMod_7cf53 : th_M := (cJ9_floorMod_7cf53, RJ9, 3, (some .int), "floorMod")
set_option maxRecDepth 20000 in
theorem bJ9_floorMod_7cf53 : th_cB yJ9_floorMod_7cf53 kJ9_floorMod_7cf53 2 := ⟨(th_mW 788 rfl rfl), (th_mW 16 (by decide +kernel) rfl), ⟨by decide, by decide, (by decide +kernel)⟩, by decide⟩
abbrev kJ9_max_7cf53 : th_M := (cJ9_max_7cf53, RJ9, 2, (some .int), "max")
set_option maxRecDepth 20000 in
theorem bJ9_max_7cf53 : th_cB yJ9_max_7cf53 kJ9_max_7cf53 2 := ⟨(th_mW 404 rfl rfl), (th_mW 16 (by decide +kernel) rfl), ⟨by decide, by decide, (by decide +kernel)⟩, by decide⟩
abbrev kJ9_min_7cf53 : th_M := (cJ9_min_7cf53, RJ9, 2, (some .int), "min")
set_option maxRecDepth 20000 in
theorem bJ9_min_7cf53 : th_cB yJ9_min_7cf53 kJ9_min_7cf53 2 := ⟨(th_mW 436 rfl rfl), (th_mW 16 (by decide +kernel) rfl), ⟨by decide, by decide, (by decide +kernel)⟩, by decide⟩
abbrev kJxa1e45_init_da8c8 : th_M := (cJxa1e45_init_da8c8, RJxa1e45, 1, none, "<init>")
set_option maxRecDepth 20000 in
theorem bJxa1e45_init_da8c8 : th_cB yJxa1e45_init_da8c8 kJxa1e45_init_da8c8 0 := ⟨(th_mW 62 rfl rfl), (th_mW 3 (by decide +kernel) rfl), ⟨by decide, by decide, (by decide +kernel)⟩, by decide⟩
abbrev kJxc12de_init_da8c8 : th_M := (cJxc12de_init_da8c8, RJxc12de, 1, none, "<init>")
set_option maxRecDepth 20000 in
theorem bJxc12de_init_da8c8 : th_cB yJxc12de_init_da8c8 kJxc12de_init_da8c8 0 := ⟨(th_mW 59 rfl rfl), (th_mW 4 (by decide +kernel) rfl), ⟨by decide, by decide, (by decide +kernel)⟩, by decide⟩
abbrev kJx4a65c_init_da8c8 : th_M := (cJx4a65c_init_da8c8, RJx4a65c, 1, none, "<init>")
set_option maxRecDepth 20000 in
theorem bJx4a65c_init_da8c8 : th_cB yJx4a65c_init_da8c8 kJx4a65c_init_da8c8 0 := ⟨(th_mW 56 rfl rfl), (th_mW 5 (by decide +kernel) rfl), ⟨by decide, by decide, (by decide +kernel)⟩, by decide⟩
abbrev kJx4a65c_grow_92f84 : th_M := (cJx4a65c_grow_92f84, RJx4a65c, 4, (some (.array (.object "java/lang/Object"))), "grow")
set_option maxRecDepth 20000 in
theorem bJx4a65c_grow_92f84 : th_cB yJx4a65c_grow_92f84 kJx4a65c_grow_92f84 1 := ⟨(th_mW 398 rfl rfl), (th_mW 5 (by decide +kernel) rfl), ⟨by decide, by decide, (by decide +kernel)⟩, by decide⟩
abbrev kJx4a65c_grow_d5877 : th_M := (cJx4a65c_grow_d5877, RJx4a65c, 1, (some (.array (.object "java/lang/Object"))), "grow")
set_option maxRecDepth 20000 in
theorem bJx4a65c_grow_d5877 : th_cB yJx4a65c_grow_d5877 kJx4a65c_grow_d5877 0 := ⟨(th_mW 394 rfl rfl), (th_mW 5 (by decide +kernel) rfl), ⟨by decide, by decide, (by decide +kernel)⟩, by decide⟩
abbrev kJx4a65c_size_8abf5 : th_M := (cJx4a65c_size_8abf5, RJx4a65c, 1, (some .int), "size")
set_option maxRecDepth 20000 in
theorem bJx4a65c_size_8abf5 : th_cB yJx4a65c_size_8abf5 kJx4a65c_size_8abf5 0 := ⟨(th_mW 355 rfl rfl), (th_mW 5 (by decide +kernel) rfl), ⟨by decide, by decide, (by decide +kernel)⟩, by decide⟩
abbrev kJx4a65c_elementData_915e3 : th_M := (cJx4a65c_elementData_915e3, RJx4a65c, 2, (some (.object "java/lang/Object")), "elementData")
set_option maxRecDepth 20000 in
theorem bJx4a65c_elementData_915e3 : th_cB yJx4a65c_elementData_915e3 kJx4a65c_elementData_915e3 1 := ⟨(th_mW 468 rfl rfl), (th_mW 5 (by decide +kernel) rfl), ⟨by decide, by decide, (by decide +kernel)⟩, by decide⟩
abbrev kJx4a65c_get_915e3 : th_M := (cJx4a65c_get_915e3, RJx4a65c, 2, (some (.object "java/lang/Object")), "get")
set_option maxRecDepth 20000 in
theorem bJx4a65c_get_915e3 : th_cB yJx4a65c_get_915e3 kJx4a65c_get_915e3 1 := ⟨(th_mW 458 rfl rfl), (th_mW 5 (by decide +kernel) rfl), ⟨by decide, by decide, (by decide +kernel)⟩, by decide⟩
abbrev kJx4a65c_add_72be8 : th_M := (cJx4a65c_add_72be8, RJx4a65c, 4, none, "add")
set_option maxRecDepth 20000 in
theorem bJx4a65c_add_72be8 : th_cB yJx4a65c_add_72be8 kJx4a65c_add_72be8 3 := ⟨(th_mW 390 rfl rfl), (th_mW 5 (by decide +kernel) rfl), ⟨by decide, by decide, (by decide +kernel)⟩, by decide⟩
abbrev kJx4a65c_add_9ea2d : th_M := (cJx4a65c_add_9ea2d, RJx4a65c, 2, (some .boolean), "add")
set_option maxRecDepth 20000 in
theorem bJx4a65c_add_9ea2d : th_cB yJx4a65c_add_9ea2d kJx4a65c_add_9ea2d 1 := ⟨(th_mW 386 rfl rfl), (th_mW 5 (by decide +kernel) rfl), ⟨by decide, by decide, (by decide +kernel)⟩, by decide⟩
abbrev kJ7_copyOf_1904c : th_M := (cJ7_copyOf_1904c, RJ7, 2, (some (.array (.object "java/lang/Object"))), "copyOf")
set_option maxRecDepth 20000 in
theorem bJ7_copyOf_1904c : th_cB yJ7_copyOf_1904c kJ7_copyOf_1904c 2 := ⟨(th_mW 411 rfl rfl), (th_mW 17 (by decide +kernel) rfl), ⟨by decide, by decide, (by decide +kernel)⟩, by decide⟩
abbrev kJ7_copyOf_6403c : th_M := (cJ7_copyOf_6403c, RJ7, 4, (some (.array (.object "java/lang/Object"))), "copyOf")
set_option maxRecDepth 20000 in
theorem bJ7_copyOf_6403c : th_cB yJ7_copyOf_6403c kJ7_copyOf_6403c 3 := ⟨(th_mW 430 rfl rfl), (th_mW 17 (by decide +kernel) rfl), ⟨by decide, by decide, (by decide +kernel)⟩, by decide⟩
abbrev kJ15_checkIndex_7cf53 : th_M := (cJ15_checkIndex_7cf53, RJ15, 2, (some .int), "checkIndex")
set_option maxRecDepth 20000 in
theorem bJ15_checkIndex_7cf53 : th_cB yJ15_checkIndex_7cf53 kJ15_checkIndex_7cf53 2 := ⟨(th_mW 461 rfl rfl), (th_mW 19 (by decide +kernel) rfl), ⟨by decide, by decide, (by decide +kernel)⟩, by decide⟩
abbrev kJ8_newLength_cabcc : th_M := (cJ8_newLength_cabcc, RJ8, 4, (some .int), "newLength")
set_option maxRecDepth 20000 in
theorem bJ8_newLength_cabcc : th_cB yJ8_newLength_cabcc kJ8_newLength_cabcc 3 := ⟨(th_mW 401 rfl rfl), (th_mW 15 (by decide +kernel) rfl), ⟨by decide, by decide, (by decide +kernel)⟩, by decide⟩
abbrev kJ8_hugeLength_7cf53 : th_M := (cJ8_hugeLength_7cf53, RJ8, 3, (some .int), "hugeLength")
set_option maxRecDepth 20000 in
theorem bJ8_hugeLength_7cf53 : th_cB yJ8_hugeLength_7cf53 kJ8_hugeLength_7cf53 2 := ⟨(th_mW 408 rfl rfl), (th_mW 15 (by decide +kernel) rfl), ⟨by decide, by decide, (by decide +kernel)⟩, by decide⟩
abbrev kJ3_checkIndex_8e157 : th_M := (cJ3_checkIndex_8e157, RJ3, 3, (some .int), "checkIndex")
set_option maxRecDepth 20000 in
theorem bJ3_checkIndex_8e157 : th_cB yJ3_checkIndex_8e157 kJ3_checkIndex_8e157 3 := ⟨(th_mW 464 rfl rfl), (th_mW 20 (by decide +kernel) rfl), ⟨by decide, by decide, (by decide +kernel)⟩, by decide⟩
abbrev kL_law : th_M := (cL_law, RL, 4, ret, "law")
theorem g_X7_9 : th_gf RX7 9 7 0 := ⟨_, _, _, rfl, by decide, (Or.inl (th_mW 37 (by decide +kernel) rfl))⟩
theorem p_X7_9 : th_pf RX7 "<init>" 9 7 0 := ⟨_, _, _, rfl, by decide, Or.inr ⟨rfl, rfl, rfl, (th_mW 37 (by decide +kernel) rfl)⟩⟩
theorem g_X7_15 : th_gf RX7 15 7 1 := ⟨_, _, _, rfl, by decide, (Or.inl (th_mW 38 (by decide +kernel) rfl))⟩
theorem p_X7_15 (nm : String) : th_pf RX7 nm 15 7 1 := ⟨_, _, _, rfl, by decide, Or.inl ⟨rfl, (Or.inl (th_mW 38 (by decide +kernel) rfl))⟩⟩
theorem g_X9_75 : th_gf RX9 75 7 1 := ⟨_, _, _, rfl, by decide, (Or.inr (Or.inr ⟨"TriggerHall", (th_mN 39 (by decide +kernel) rfl)⟩))⟩
theorem p_X9_75 (nm : String) : th_pf RX9 nm 75 7 1 := ⟨_, _, _, rfl, by decide, Or.inl ⟨rfl, (Or.inr (Or.inr ⟨"TriggerHall", (th_mN 39 (by decide +kernel) rfl)⟩))⟩⟩
theorem g_X7_19 : th_gf RX7 19 7 2 := ⟨_, _, _, rfl, by decide, (Or.inl (th_mW 40 (by decide +kernel) rfl))⟩
theorem p_X7_19 (nm : String) : th_pf RX7 nm 19 7 2 := ⟨_, _, _, rfl, by decide, Or.inl ⟨rfl, (Or.inl (th_mW 40 (by decide +kernel) rfl))⟩⟩
theorem g_X7_23 : th_gf RX7 23 7 3 := ⟨_, _, _, rfl, by decide, (Or.inl (th_mW 41 (by decide +kernel) rfl))⟩
theorem p_X7_23 (nm : String) : th_pf RX7 nm 23 7 3 := ⟨_, _, _, rfl, by decide, Or.inl ⟨rfl, (Or.inl (th_mW 41 (by decide +kernel) rfl))⟩⟩
theorem sl_Jx4a65c_39 : Cond.fieldLink RJx4a65c 39 "java/util/ArrayList" "DEFAULTCAPACITY_EMPTY_ELEMENTDATA" "[Ljava/lang/Object;" ∈ th_W := (th_mW 64 (by decide +kernel) rfl)
theorem g_Jx4a65c_9 : th_gf RJx4a65c 9 11 1 := ⟨_, _, _, rfl, by decide, (Or.inl (th_mW 66 (by decide +kernel) rfl))⟩
theorem p_Jx4a65c_9 (nm : String) : th_pf RJx4a65c nm 9 11 1 := ⟨_, _, _, rfl, by decide, Or.inl ⟨rfl, (Or.inl (th_mW 66 (by decide +kernel) rfl))⟩⟩
theorem g_Jx4a65c_48 : th_gf RJx4a65c 48 11 2 := ⟨_, _, _, rfl, by decide, (Or.inl (th_mW 67 (by decide +kernel) rfl))⟩
theorem p_Jx4a65c_48 (nm : String) : th_pf RJx4a65c nm 48 11 2 := ⟨_, _, _, rfl, by decide, Or.inl ⟨rfl, (Or.inl (th_mW 67 (by decide +kernel) rfl))⟩⟩
theorem g_Jxc12de_7 : th_gf RJxc12de 7 11 0 := ⟨_, _, _, rfl, by decide, (Or.inl (th_mW 68 (by decide +kernel) rfl))⟩
theorem p_Jxc12de_7 (nm : String) : th_pf RJxc12de nm 7 11 0 := ⟨_, _, _, rfl, by decide, Or.inl ⟨rfl, (Or.inl (th_mW 68 (by decide +kernel) rfl))⟩⟩
theorem g_Jx4a65c_63 : th_gf RJx4a65c 63 11 0 := ⟨_, _, _, rfl, by decide, (Or.inr (Or.inl ⟨"java/util/ArrayList", (th_mW 69 (by decide +kernel) rfl), (th_mW 70 (by decide +kernel) rfl)⟩))⟩
theorem p_Jx4a65c_63 (nm : String) : th_pf RJx4a65c nm 63 11 0 := ⟨_, _, _, rfl, by decide, Or.inl ⟨rfl, (Or.inr (Or.inl ⟨"java/util/ArrayList", (th_mW 69 (by decide +kernel) rfl), (th_mW 70 (by decide +kernel) rfl)⟩))⟩⟩
theorem g_X0_9 : th_gf RX0 9 0 0 := ⟨_, _, _, rfl, by decide, (Or.inl (th_mW 90 (by decide +kernel) rfl))⟩
theorem p_X0_9 : th_pf RX0 "<init>" 9 0 0 := ⟨_, _, _, rfl, by decide, Or.inr ⟨rfl, rfl, rfl, (th_mW 90 (by decide +kernel) rfl)⟩⟩
theorem g_X0_15 : th_gf RX0 15 0 1 := ⟨_, _, _, rfl, by decide, (Or.inl (th_mW 91 (by decide +kernel) rfl))⟩
theorem p_X0_15 : th_pf RX0 "<init>" 15 0 1 := ⟨_, _, _, rfl, by decide, Or.inr ⟨rfl, rfl, rfl, (th_mW 91 (by decide +kernel) rfl)⟩⟩
theorem g_X0_18 : th_gf RX0 18 0 2 := ⟨_, _, _, rfl, by decide, (Or.inl (th_mW 92 (by decide +kernel) rfl))⟩
theorem p_X0_18 : th_pf RX0 "<init>" 18 0 2 := ⟨_, _, _, rfl, by decide, Or.inr ⟨rfl, rfl, rfl, (th_mW 92 (by decide +kernel) rfl)⟩⟩
theorem g_X3_72 : th_gf RX3 72 0 2 := ⟨_, _, _, rfl, by decide, (Or.inr (Or.inr ⟨"TriggerHall", (th_mN 93 (by decide +kernel) rfl)⟩))⟩
theorem g_X9_160 : th_gf RX9 160 0 2 := ⟨_, _, _, rfl, by decide, (Or.inr (Or.inr ⟨"TriggerHall", (th_mN 94 (by decide +kernel) rfl)⟩))⟩
theorem g_X0_21 : th_gf RX0 21 0 3 := ⟨_, _, _, rfl, by decide, (Or.inl (th_mW 95 (by decide +kernel) rfl))⟩
theorem p_X0_21 (nm : String) : th_pf RX0 nm 21 0 3 := ⟨_, _, _, rfl, by decide, Or.inl ⟨rfl, (Or.inl (th_mW 95 (by decide +kernel) rfl))⟩⟩
theorem g_X0_25 : th_gf RX0 25 0 4 := ⟨_, _, _, rfl, by decide, (Or.inl (th_mW 96 (by decide +kernel) rfl))⟩
theorem p_X0_25 (nm : String) : th_pf RX0 nm 25 0 4 := ⟨_, _, _, rfl, by decide, Or.inl ⟨rfl, (Or.inl (th_mW 96 (by decide +kernel) rfl))⟩⟩
theorem g_X0_34 : th_gf RX0 34 0 5 := ⟨_, _, _, rfl, by decide, (Or.inl (th_mW 97 (by decide +kernel) rfl))⟩
theorem p_X0_34 (nm : String) : th_pf RX0 nm 34 0 5 := ⟨_, _, _, rfl, by decide, Or.inl ⟨rfl, (Or.inl (th_mW 97 (by decide +kernel) rfl))⟩⟩
theorem g_X0_38 : th_gf RX0 38 0 6 := ⟨_, _, _, rfl, by decide, (Or.inl (th_mW 98 (by decide +kernel) rfl))⟩
theorem p_X0_38 (nm : String) : th_pf RX0 nm 38 0 6 := ⟨_, _, _, rfl, by decide, Or.inl ⟨rfl, (Or.inl (th_mW 98 (by decide +kernel) rfl))⟩⟩
theorem g_X1_9 : th_gf RX1 9 1 0 := ⟨_, _, _, rfl, by decide, (Or.inl (th_mW 120 (by decide +kernel) rfl))⟩
theorem p_X1_9 : th_pf RX1 "<init>" 9 1 0 := ⟨_, _, _, rfl, by decide, Or.inr ⟨rfl, rfl, rfl, (th_mW 120 (by decide +kernel) rfl)⟩⟩
theorem g_X1_15 : th_gf RX1 15 1 1 := ⟨_, _, _, rfl, by decide, (Or.inl (th_mW 121 (by decide +kernel) rfl))⟩
theorem p_X1_15 : th_pf RX1 "<init>" 15 1 1 := ⟨_, _, _, rfl, by decide, Or.inr ⟨rfl, rfl, rfl, (th_mW 121 (by decide +kernel) rfl)⟩⟩
theorem g_X1_18 : th_gf RX1 18 1 2 := ⟨_, _, _, rfl, by decide, (Or.inl (th_mW 122 (by decide +kernel) rfl))⟩
theorem p_X1_18 : th_pf RX1 "<init>" 18 1 2 := ⟨_, _, _, rfl, by decide, Or.inr ⟨rfl, rfl, rfl, (th_mW 122 (by decide +kernel) rfl)⟩⟩
theorem g_X1_21 : th_gf RX1 21 1 3 := ⟨_, _, _, rfl, by decide, (Or.inl (th_mW 123 (by decide +kernel) rfl))⟩
theorem p_X1_21 : th_pf RX1 "<init>" 21 1 3 := ⟨_, _, _, rfl, by decide, Or.inr ⟨rfl, rfl, rfl, (th_mW 123 (by decide +kernel) rfl)⟩⟩
theorem g_X1_24 : th_gf RX1 24 1 4 := ⟨_, _, _, rfl, by decide, (Or.inl (th_mW 124 (by decide +kernel) rfl))⟩
theorem p_X1_24 (nm : String) : th_pf RX1 nm 24 1 4 := ⟨_, _, _, rfl, by decide, Or.inl ⟨rfl, (Or.inl (th_mW 124 (by decide +kernel) rfl))⟩⟩
theorem g_X1_28 : th_gf RX1 28 1 5 := ⟨_, _, _, rfl, by decide, (Or.inl (th_mW 125 (by decide +kernel) rfl))⟩
theorem p_X1_28 (nm : String) : th_pf RX1 nm 28 1 5 := ⟨_, _, _, rfl, by decide, Or.inl ⟨rfl, (Or.inl (th_mW 125 (by decide +kernel) rfl))⟩⟩
theorem g_X3_82 : th_gf RX3 82 1 5 := ⟨_, _, _, rfl, by decide, (Or.inr (Or.inr ⟨"TriggerHall", (th_mN 126 (by decide +kernel) rfl)⟩))⟩
theorem p_X3_82 (nm : String) : th_pf RX3 nm 82 1 5 := ⟨_, _, _, rfl, by decide, Or.inl ⟨rfl, (Or.inr (Or.inr ⟨"TriggerHall", (th_mN 126 (by decide +kernel) rfl)⟩))⟩⟩
theorem g_X9_186 : th_gf RX9 186 1 5 := ⟨_, _, _, rfl, by decide, (Or.inr (Or.inr ⟨"TriggerHall", (th_mN 127 (by decide +kernel) rfl)⟩))⟩
theorem p_X9_186 (nm : String) : th_pf RX9 nm 186 1 5 := ⟨_, _, _, rfl, by decide, Or.inl ⟨rfl, (Or.inr (Or.inr ⟨"TriggerHall", (th_mN 127 (by decide +kernel) rfl)⟩))⟩⟩
theorem g_X1_31 : th_gf RX1 31 1 6 := ⟨_, _, _, rfl, by decide, (Or.inl (th_mW 128 (by decide +kernel) rfl))⟩
theorem p_X1_31 (nm : String) : th_pf RX1 nm 31 1 6 := ⟨_, _, _, rfl, by decide, Or.inl ⟨rfl, (Or.inl (th_mW 128 (by decide +kernel) rfl))⟩⟩
theorem g_X3_91 : th_gf RX3 91 1 6 := ⟨_, _, _, rfl, by decide, (Or.inr (Or.inr ⟨"TriggerHall", (th_mN 129 (by decide +kernel) rfl)⟩))⟩
theorem p_X3_91 (nm : String) : th_pf RX3 nm 91 1 6 := ⟨_, _, _, rfl, by decide, Or.inl ⟨rfl, (Or.inr (Or.inr ⟨"TriggerHall", (th_mN 129 (by decide +kernel) rfl)⟩))⟩⟩
theorem g_X9_191 : th_gf RX9 191 1 6 := ⟨_, _, _, rfl, by decide, (Or.inr (Or.inr ⟨"TriggerHall", (th_mN 130 (by decide +kernel) rfl)⟩))⟩
theorem p_X9_191 (nm : String) : th_pf RX9 nm 191 1 6 := ⟨_, _, _, rfl, by decide, Or.inl ⟨rfl, (Or.inr (Or.inr ⟨"TriggerHall", (th_mN 130 (by decide +kernel) rfl)⟩))⟩⟩
theorem g_X3_9 : th_gf RX3 9 3 0 := ⟨_, _, _, rfl, by decide, (Or.inl (th_mW 146 (by decide +kernel) rfl))⟩
theorem p_X3_9 : th_pf RX3 "<init>" 9 3 0 := ⟨_, _, _, rfl, by decide, Or.inr ⟨rfl, rfl, rfl, (th_mW 146 (by decide +kernel) rfl)⟩⟩
theorem g_X9_146 : th_gf RX9 146 3 0 := ⟨_, _, _, rfl, by decide, (Or.inr (Or.inr ⟨"TriggerHall", (th_mN 147 (by decide +kernel) rfl)⟩))⟩
theorem g_X3_18 : th_gf RX3 18 3 1 := ⟨_, _, _, rfl, by decide, (Or.inl (th_mW 148 (by decide +kernel) rfl))⟩
theorem p_X3_18 : th_pf RX3 "<init>" 18 3 1 := ⟨_, _, _, rfl, by decide, Or.inr ⟨rfl, rfl, rfl, (th_mW 148 (by decide +kernel) rfl)⟩⟩
theorem g_X9_156 : th_gf RX9 156 3 1 := ⟨_, _, _, rfl, by decide, (Or.inr (Or.inr ⟨"TriggerHall", (th_mN 149 (by decide +kernel) rfl)⟩))⟩
theorem g_X3_25 : th_gf RX3 25 3 2 := ⟨_, _, _, rfl, by decide, (Or.inl (th_mW 150 (by decide +kernel) rfl))⟩
theorem p_X3_25 : th_pf RX3 "<init>" 25 3 2 := ⟨_, _, _, rfl, by decide, Or.inr ⟨rfl, rfl, rfl, (th_mW 150 (by decide +kernel) rfl)⟩⟩
theorem g_X9_182 : th_gf RX9 182 3 2 := ⟨_, _, _, rfl, by decide, (Or.inr (Or.inr ⟨"TriggerHall", (th_mN 151 (by decide +kernel) rfl)⟩))⟩
theorem g_X3_37 : th_gf RX3 37 3 3 := ⟨_, _, _, rfl, by decide, (Or.inl (th_mW 152 (by decide +kernel) rfl))⟩
theorem p_X3_37 (nm : String) : th_pf RX3 nm 37 3 3 := ⟨_, _, _, rfl, by decide, Or.inl ⟨rfl, (Or.inl (th_mW 152 (by decide +kernel) rfl))⟩⟩
theorem g_X3_29 : th_gf RX3 29 3 4 := ⟨_, _, _, rfl, by decide, (Or.inl (th_mW 153 (by decide +kernel) rfl))⟩
theorem p_X3_29 (nm : String) : th_pf RX3 nm 29 3 4 := ⟨_, _, _, rfl, by decide, Or.inl ⟨rfl, (Or.inl (th_mW 153 (by decide +kernel) rfl))⟩⟩
theorem g_X3_40 : th_gf RX3 40 3 5 := ⟨_, _, _, rfl, by decide, (Or.inl (th_mW 154 (by decide +kernel) rfl))⟩
theorem p_X3_40 (nm : String) : th_pf RX3 nm 40 3 5 := ⟨_, _, _, rfl, by decide, Or.inl ⟨rfl, (Or.inl (th_mW 154 (by decide +kernel) rfl))⟩⟩
theorem g_X9_142 : th_gf RX9 142 3 5 := ⟨_, _, _, rfl, by decide, (Or.inr (Or.inr ⟨"TriggerHall", (th_mN 155 (by decide +kernel) rfl)⟩))⟩
theorem p_X9_142 (nm : String) : th_pf RX9 nm 142 3 5 := ⟨_, _, _, rfl, by decide, Or.inl ⟨rfl, (Or.inr (Or.inr ⟨"TriggerHall", (th_mN 155 (by decide +kernel) rfl)⟩))⟩⟩
theorem g_X8_9 : th_gf RX8 9 8 0 := ⟨_, _, _, rfl, by decide, (Or.inl (th_mW 175 (by decide +kernel) rfl))⟩
theorem p_X8_9 : th_pf RX8 "<init>" 9 8 0 := ⟨_, _, _, rfl, by decide, Or.inr ⟨rfl, rfl, rfl, (th_mW 175 (by decide +kernel) rfl)⟩⟩
theorem g_X8_15 : th_gf RX8 15 8 1 := ⟨_, _, _, rfl, by decide, (Or.inl (th_mW 176 (by decide +kernel) rfl))⟩
theorem p_X8_15 (nm : String) : th_pf RX8 nm 15 8 1 := ⟨_, _, _, rfl, by decide, Or.inl ⟨rfl, (Or.inl (th_mW 176 (by decide +kernel) rfl))⟩⟩
theorem g_X5_30 : th_gf RX5 30 8 1 := ⟨_, _, _, rfl, by decide, (Or.inr (Or.inr ⟨"TriggerHall", (th_mN 177 (by decide +kernel) rfl)⟩))⟩
theorem p_X5_30 (nm : String) : th_pf RX5 nm 30 8 1 := ⟨_, _, _, rfl, by decide, Or.inl ⟨rfl, (Or.inr (Or.inr ⟨"TriggerHall", (th_mN 177 (by decide +kernel) rfl)⟩))⟩⟩
theorem g_X9_200 : th_gf RX9 200 8 1 := ⟨_, _, _, rfl, by decide, (Or.inr (Or.inr ⟨"TriggerHall", (th_mN 178 (by decide +kernel) rfl)⟩))⟩
theorem p_X9_200 (nm : String) : th_pf RX9 nm 200 8 1 := ⟨_, _, _, rfl, by decide, Or.inl ⟨rfl, (Or.inr (Or.inr ⟨"TriggerHall", (th_mN 178 (by decide +kernel) rfl)⟩))⟩⟩
theorem g_X5_9 : th_gf RX5 9 5 0 := ⟨_, _, _, rfl, by decide, (Or.inl (th_mW 191 (by decide +kernel) rfl))⟩
theorem p_X5_9 (nm : String) : th_pf RX5 nm 9 5 0 := ⟨_, _, _, rfl, by decide, Or.inl ⟨rfl, (Or.inl (th_mW 191 (by decide +kernel) rfl))⟩⟩
theorem g_X5_15 : th_gf RX5 15 5 1 := ⟨_, _, _, rfl, by decide, (Or.inl (th_mW 192 (by decide +kernel) rfl))⟩
theorem p_X5_15 (nm : String) : th_pf RX5 nm 15 5 1 := ⟨_, _, _, rfl, by decide, Or.inl ⟨rfl, (Or.inl (th_mW 192 (by decide +kernel) rfl))⟩⟩
theorem g_X5_19 : th_gf RX5 19 5 2 := ⟨_, _, _, rfl, by decide, (Or.inl (th_mW 193 (by decide +kernel) rfl))⟩
theorem p_X5_19 (nm : String) : th_pf RX5 nm 19 5 2 := ⟨_, _, _, rfl, by decide, Or.inl ⟨rfl, (Or.inl (th_mW 193 (by decide +kernel) rfl))⟩⟩
theorem g_X5_23 : th_gf RX5 23 5 3 := ⟨_, _, _, rfl, by decide, (Or.inl (th_mW 194 (by decide +kernel) rfl))⟩
theorem p_X5_23 (nm : String) : th_pf RX5 nm 23 5 3 := ⟨_, _, _, rfl, by decide, Or.inl ⟨rfl, (Or.inl (th_mW 194 (by decide +kernel) rfl))⟩⟩
theorem g_X9_217 : th_gf RX9 217 5 3 := ⟨_, _, _, rfl, by decide, (Or.inr (Or.inr ⟨"TriggerHall", (th_mN 195 (by decide +kernel) rfl)⟩))⟩
theorem p_X9_217 (nm : String) : th_pf RX9 nm 217 5 3 := ⟨_, _, _, rfl, by decide, Or.inl ⟨rfl, (Or.inr (Or.inr ⟨"TriggerHall", (th_mN 195 (by decide +kernel) rfl)⟩))⟩⟩
theorem g_X4_9 : th_gf RX4 9 4 0 := ⟨_, _, _, rfl, by decide, (Or.inl (th_mW 211 (by decide +kernel) rfl))⟩
theorem p_X4_9 : th_pf RX4 "<init>" 9 4 0 := ⟨_, _, _, rfl, by decide, Or.inr ⟨rfl, rfl, rfl, (th_mW 211 (by decide +kernel) rfl)⟩⟩
theorem g_X4_15 : th_gf RX4 15 4 1 := ⟨_, _, _, rfl, by decide, (Or.inl (th_mW 212 (by decide +kernel) rfl))⟩
theorem p_X4_15 : th_pf RX4 "<init>" 15 4 1 := ⟨_, _, _, rfl, by decide, Or.inr ⟨rfl, rfl, rfl, (th_mW 212 (by decide +kernel) rfl)⟩⟩
theorem g_X4_18 : th_gf RX4 18 4 2 := ⟨_, _, _, rfl, by decide, (Or.inl (th_mW 213 (by decide +kernel) rfl))⟩
theorem p_X4_18 : th_pf RX4 "<init>" 18 4 2 := ⟨_, _, _, rfl, by decide, Or.inr ⟨rfl, rfl, rfl, (th_mW 213 (by decide +kernel) rfl)⟩⟩
theorem g_X4_21 : th_gf RX4 21 4 3 := ⟨_, _, _, rfl, by decide, (Or.inl (th_mW 214 (by decide +kernel) rfl))⟩
theorem p_X4_21 (nm : String) : th_pf RX4 nm 21 4 3 := ⟨_, _, _, rfl, by decide, Or.inl ⟨rfl, (Or.inl (th_mW 214 (by decide +kernel) rfl))⟩⟩
theorem g_X9_268 : th_gf RX9 268 4 3 := ⟨_, _, _, rfl, by decide, (Or.inr (Or.inr ⟨"TriggerHall", (th_mN 215 (by decide +kernel) rfl)⟩))⟩
theorem p_X9_268 (nm : String) : th_pf RX9 nm 268 4 3 := ⟨_, _, _, rfl, by decide, Or.inl ⟨rfl, (Or.inr (Or.inr ⟨"TriggerHall", (th_mN 215 (by decide +kernel) rfl)⟩))⟩⟩
theorem g_X9_10 : th_gf RX9 10 9 0 := ⟨_, _, _, rfl, by decide, (Or.inl (th_mW 225 (by decide +kernel) rfl))⟩
theorem p_X9_10 : th_pf RX9 "<init>" 10 9 0 := ⟨_, _, _, rfl, by decide, Or.inr ⟨rfl, rfl, rfl, (th_mW 225 (by decide +kernel) rfl)⟩⟩
theorem g_X9_16 : th_gf RX9 16 9 1 := ⟨_, _, _, rfl, by decide, (Or.inl (th_mW 226 (by decide +kernel) rfl))⟩
theorem p_X9_16 : th_pf RX9 "<init>" 16 9 1 := ⟨_, _, _, rfl, by decide, Or.inr ⟨rfl, rfl, rfl, (th_mW 226 (by decide +kernel) rfl)⟩⟩
theorem g_X9_20 : th_gf RX9 20 9 2 := ⟨_, _, _, rfl, by decide, (Or.inl (th_mW 227 (by decide +kernel) rfl))⟩
theorem p_X9_20 : th_pf RX9 "<init>" 20 9 2 := ⟨_, _, _, rfl, by decide, Or.inr ⟨rfl, rfl, rfl, (th_mW 227 (by decide +kernel) rfl)⟩⟩
theorem g_X9_23 : th_gf RX9 23 9 3 := ⟨_, _, _, rfl, by decide, (Or.inl (th_mW 228 (by decide +kernel) rfl))⟩
theorem p_X9_23 : th_pf RX9 "<init>" 23 9 3 := ⟨_, _, _, rfl, by decide, Or.inr ⟨rfl, rfl, rfl, (th_mW 228 (by decide +kernel) rfl)⟩⟩
theorem g_X9_29 : th_gf RX9 29 9 4 := ⟨_, _, _, rfl, by decide, (Or.inl (th_mW 229 (by decide +kernel) rfl))⟩
theorem p_X9_29 : th_pf RX9 "<init>" 29 9 4 := ⟨_, _, _, rfl, by decide, Or.inr ⟨rfl, rfl, rfl, (th_mW 229 (by decide +kernel) rfl)⟩⟩
theorem g_X9_36 : th_gf RX9 36 9 5 := ⟨_, _, _, rfl, by decide, (Or.inl (th_mW 230 (by decide +kernel) rfl))⟩
theorem p_X9_36 : th_pf RX9 "<init>" 36 9 5 := ⟨_, _, _, rfl, by decide, Or.inr ⟨rfl, rfl, rfl, (th_mW 230 (by decide +kernel) rfl)⟩⟩
theorem g_X9_43 : th_gf RX9 43 9 6 := ⟨_, _, _, rfl, by decide, (Or.inl (th_mW 231 (by decide +kernel) rfl))⟩
theorem p_X9_43 : th_pf RX9 "<init>" 43 9 6 := ⟨_, _, _, rfl, by decide, Or.inr ⟨rfl, rfl, rfl, (th_mW 231 (by decide +kernel) rfl)⟩⟩
theorem g_X9_50 : th_gf RX9 50 9 7 := ⟨_, _, _, rfl, by decide, (Or.inl (th_mW 232 (by decide +kernel) rfl))⟩
theorem p_X9_50 : th_pf RX9 "<init>" 50 9 7 := ⟨_, _, _, rfl, by decide, Or.inr ⟨rfl, rfl, rfl, (th_mW 232 (by decide +kernel) rfl)⟩⟩
theorem g_X9_54 : th_gf RX9 54 9 8 := ⟨_, _, _, rfl, by decide, (Or.inl (th_mW 233 (by decide +kernel) rfl))⟩
theorem p_X9_54 : th_pf RX9 "<init>" 54 9 8 := ⟨_, _, _, rfl, by decide, Or.inr ⟨rfl, rfl, rfl, (th_mW 233 (by decide +kernel) rfl)⟩⟩
theorem g_X9_60 : th_gf RX9 60 9 9 := ⟨_, _, _, rfl, by decide, (Or.inl (th_mW 234 (by decide +kernel) rfl))⟩
theorem p_X9_60 : th_pf RX9 "<init>" 60 9 9 := ⟨_, _, _, rfl, by decide, Or.inr ⟨rfl, rfl, rfl, (th_mW 234 (by decide +kernel) rfl)⟩⟩
theorem g_X9_64 : th_gf RX9 64 9 10 := ⟨_, _, _, rfl, by decide, (Or.inl (th_mW 235 (by decide +kernel) rfl))⟩
theorem p_X9_64 : th_pf RX9 "<init>" 64 9 10 := ⟨_, _, _, rfl, by decide, Or.inr ⟨rfl, rfl, rfl, (th_mW 235 (by decide +kernel) rfl)⟩⟩
theorem g_X9_262 : th_gf RX9 262 9 11 := ⟨_, _, _, rfl, by decide, (Or.inl (th_mW 236 (by decide +kernel) rfl))⟩
theorem p_X9_262 (nm : String) : th_pf RX9 nm 262 9 11 := ⟨_, _, _, rfl, by decide, Or.inl ⟨rfl, (Or.inl (th_mW 236 (by decide +kernel) rfl))⟩⟩
theorem g_X9_253 : th_gf RX9 253 9 12 := ⟨_, _, _, rfl, by decide, (Or.inl (th_mW 237 (by decide +kernel) rfl))⟩
theorem p_X9_253 (nm : String) : th_pf RX9 nm 253 9 12 := ⟨_, _, _, rfl, by decide, Or.inl ⟨rfl, (Or.inl (th_mW 237 (by decide +kernel) rfl))⟩⟩
theorem g_X9_250 : th_gf RX9 250 9 13 := ⟨_, _, _, rfl, by decide, (Or.inl (th_mW 238 (by decide +kernel) rfl))⟩
theorem p_X9_250 (nm : String) : th_pf RX9 nm 250 9 13 := ⟨_, _, _, rfl, by decide, Or.inl ⟨rfl, (Or.inl (th_mW 238 (by decide +kernel) rfl))⟩⟩
theorem g_X9_265 : th_gf RX9 265 9 14 := ⟨_, _, _, rfl, by decide, (Or.inl (th_mW 239 (by decide +kernel) rfl))⟩
theorem p_X9_265 (nm : String) : th_pf RX9 nm 265 9 14 := ⟨_, _, _, rfl, by decide, Or.inl ⟨rfl, (Or.inl (th_mW 239 (by decide +kernel) rfl))⟩⟩
theorem g_X9_269 : th_gf RX9 269 9 15 := ⟨_, _, _, rfl, by decide, (Or.inl (th_mW 240 (by decide +kernel) rfl))⟩
theorem p_X9_269 (nm : String) : th_pf RX9 nm 269 9 15 := ⟨_, _, _, rfl, by decide, Or.inl ⟨rfl, (Or.inl (th_mW 240 (by decide +kernel) rfl))⟩⟩
theorem g_X6_9 : th_gf RX6 9 6 0 := ⟨_, _, _, rfl, by decide, (Or.inl (th_mW 362 (by decide +kernel) rfl))⟩
theorem p_X6_9 : th_pf RX6 "<init>" 9 6 0 := ⟨_, _, _, rfl, by decide, Or.inr ⟨rfl, rfl, rfl, (th_mW 362 (by decide +kernel) rfl)⟩⟩
theorem g_X6_15 : th_gf RX6 15 6 1 := ⟨_, _, _, rfl, by decide, (Or.inl (th_mW 363 (by decide +kernel) rfl))⟩
theorem p_X6_15 : th_pf RX6 "<init>" 15 6 1 := ⟨_, _, _, rfl, by decide, Or.inr ⟨rfl, rfl, rfl, (th_mW 363 (by decide +kernel) rfl)⟩⟩
theorem g_X6_18 : th_gf RX6 18 6 2 := ⟨_, _, _, rfl, by decide, (Or.inl (th_mW 364 (by decide +kernel) rfl))⟩
theorem p_X6_18 : th_pf RX6 "<init>" 18 6 2 := ⟨_, _, _, rfl, by decide, Or.inr ⟨rfl, rfl, rfl, (th_mW 364 (by decide +kernel) rfl)⟩⟩
theorem sl_X9_194 : Cond.fieldLink RX9 194 "TriggerHall" "NO_CELLS" "[I" ∈ th_W := (th_mW 610 (by decide +kernel) rfl)
theorem g_X2_10 : th_gf RX2 10 2 0 := ⟨_, _, _, rfl, by decide, (Or.inl (th_mW 697 (by decide +kernel) rfl))⟩
theorem p_X2_10 : th_pf RX2 "<init>" 10 2 0 := ⟨_, _, _, rfl, by decide, Or.inr ⟨rfl, rfl, rfl, (th_mW 697 (by decide +kernel) rfl)⟩⟩
theorem g_X9_232 : th_gf RX9 232 2 0 := ⟨_, _, _, rfl, by decide, (Or.inr (Or.inr ⟨"TriggerHall", (th_mN 698 (by decide +kernel) rfl)⟩))⟩
theorem g_X2_24 : th_gf RX2 24 2 1 := ⟨_, _, _, rfl, by decide, (Or.inl (th_mW 699 (by decide +kernel) rfl))⟩
theorem p_X2_24 : th_pf RX2 "<init>" 24 2 1 := ⟨_, _, _, rfl, by decide, Or.inr ⟨rfl, rfl, rfl, (th_mW 699 (by decide +kernel) rfl)⟩⟩
theorem g_X9_235 : th_gf RX9 235 2 1 := ⟨_, _, _, rfl, by decide, (Or.inr (Or.inr ⟨"TriggerHall", (th_mN 700 (by decide +kernel) rfl)⟩))⟩
theorem g_X2_20 : th_gf RX2 20 2 2 := ⟨_, _, _, rfl, by decide, (Or.inl (th_mW 701 (by decide +kernel) rfl))⟩
theorem p_X2_20 (nm : String) : th_pf RX2 nm 20 2 2 := ⟨_, _, _, rfl, by decide, Or.inl ⟨rfl, (Or.inl (th_mW 701 (by decide +kernel) rfl))⟩⟩
theorem g_X9_229 : th_gf RX9 229 2 2 := ⟨_, _, _, rfl, by decide, (Or.inr (Or.inr ⟨"TriggerHall", (th_mN 702 (by decide +kernel) rfl)⟩))⟩
theorem p_X9_229 (nm : String) : th_pf RX9 nm 229 2 2 := ⟨_, _, _, rfl, by decide, Or.inl ⟨rfl, (Or.inr (Or.inr ⟨"TriggerHall", (th_mN 702 (by decide +kernel) rfl)⟩))⟩⟩
theorem g_X2_28 : th_gf RX2 28 2 3 := ⟨_, _, _, rfl, by decide, (Or.inl (th_mW 703 (by decide +kernel) rfl))⟩
theorem p_X2_28 (nm : String) : th_pf RX2 nm 28 2 3 := ⟨_, _, _, rfl, by decide, Or.inl ⟨rfl, (Or.inl (th_mW 703 (by decide +kernel) rfl))⟩⟩
theorem g_X9_238 : th_gf RX9 238 2 3 := ⟨_, _, _, rfl, by decide, (Or.inr (Or.inr ⟨"TriggerHall", (th_mN 704 (by decide +kernel) rfl)⟩))⟩
theorem p_X9_238 (nm : String) : th_pf RX9 nm 238 2 3 := ⟨_, _, _, rfl, by decide, Or.inl ⟨rfl, (Or.inr (Or.inr ⟨"TriggerHall", (th_mN 704 (by decide +kernel) rfl)⟩))⟩⟩
theorem g_X2_31 : th_gf RX2 31 2 4 := ⟨_, _, _, rfl, by decide, (Or.inl (th_mW 705 (by decide +kernel) rfl))⟩
theorem p_X2_31 (nm : String) : th_pf RX2 nm 31 2 4 := ⟨_, _, _, rfl, by decide, Or.inl ⟨rfl, (Or.inl (th_mW 705 (by decide +kernel) rfl))⟩⟩
theorem g_X9_241 : th_gf RX9 241 2 4 := ⟨_, _, _, rfl, by decide, (Or.inr (Or.inr ⟨"TriggerHall", (th_mN 706 (by decide +kernel) rfl)⟩))⟩
theorem p_X9_241 (nm : String) : th_pf RX9 nm 241 2 4 := ⟨_, _, _, rfl, by decide, Or.inl ⟨rfl, (Or.inr (Or.inr ⟨"TriggerHall", (th_mN 706 (by decide +kernel) rfl)⟩))⟩⟩
theorem g_X2_34 : th_gf RX2 34 2 5 := ⟨_, _, _, rfl, by decide, (Or.inl (th_mW 707 (by decide +kernel) rfl))⟩
theorem p_X2_34 (nm : String) : th_pf RX2 nm 34 2 5 := ⟨_, _, _, rfl, by decide, Or.inl ⟨rfl, (Or.inl (th_mW 707 (by decide +kernel) rfl))⟩⟩
theorem g_X9_244 : th_gf RX9 244 2 5 := ⟨_, _, _, rfl, by decide, (Or.inr (Or.inr ⟨"TriggerHall", (th_mN 708 (by decide +kernel) rfl)⟩))⟩
theorem p_X9_244 (nm : String) : th_pf RX9 nm 244 2 5 := ⟨_, _, _, rfl, by decide, Or.inl ⟨rfl, (Or.inr (Or.inr ⟨"TriggerHall", (th_mN 708 (by decide +kernel) rfl)⟩))⟩⟩
theorem g_X2_37 : th_gf RX2 37 2 6 := ⟨_, _, _, rfl, by decide, (Or.inl (th_mW 709 (by decide +kernel) rfl))⟩
theorem p_X2_37 (nm : String) : th_pf RX2 nm 37 2 6 := ⟨_, _, _, rfl, by decide, Or.inl ⟨rfl, (Or.inl (th_mW 709 (by decide +kernel) rfl))⟩⟩
theorem g_X9_247 : th_gf RX9 247 2 6 := ⟨_, _, _, rfl, by decide, (Or.inr (Or.inr ⟨"TriggerHall", (th_mN 710 (by decide +kernel) rfl)⟩))⟩
theorem p_X9_247 (nm : String) : th_pf RX9 nm 247 2 6 := ⟨_, _, _, rfl, by decide, Or.inl ⟨rfl, (Or.inr (Or.inr ⟨"TriggerHall", (th_mN 710 (by decide +kernel) rfl)⟩))⟩⟩
theorem g_X10_9 : th_gf RX10 9 10 0 := ⟨_, _, _, rfl, by decide, (Or.inl (th_mW 841 (by decide +kernel) rfl))⟩
theorem p_X10_9 : th_pf RX10 "<init>" 9 10 0 := ⟨_, _, _, rfl, by decide, Or.inr ⟨rfl, rfl, rfl, (th_mW 841 (by decide +kernel) rfl)⟩⟩
theorem g_X10_13 : th_gf RX10 13 10 1 := ⟨_, _, _, rfl, by decide, (Or.inl (th_mW 842 (by decide +kernel) rfl))⟩
theorem p_X10_13 : th_pf RX10 "<init>" 13 10 1 := ⟨_, _, _, rfl, by decide, Or.inr ⟨rfl, rfl, rfl, (th_mW 842 (by decide +kernel) rfl)⟩⟩
theorem g_X10_16 : th_gf RX10 16 10 2 := ⟨_, _, _, rfl, by decide, (Or.inl (th_mW 843 (by decide +kernel) rfl))⟩
theorem p_X10_16 : th_pf RX10 "<init>" 16 10 2 := ⟨_, _, _, rfl, by decide, Or.inr ⟨rfl, rfl, rfl, (th_mW 843 (by decide +kernel) rfl)⟩⟩
theorem g_X10_19 : th_gf RX10 19 10 3 := ⟨_, _, _, rfl, by decide, (Or.inl (th_mW 844 (by decide +kernel) rfl))⟩
theorem p_X10_19 : th_pf RX10 "<init>" 19 10 3 := ⟨_, _, _, rfl, by decide, Or.inr ⟨rfl, rfl, rfl, (th_mW 844 (by decide +kernel) rfl)⟩⟩
theorem g_X10_22 : th_gf RX10 22 10 4 := ⟨_, _, _, rfl, by decide, (Or.inl (th_mW 845 (by decide +kernel) rfl))⟩
theorem p_X10_22 : th_pf RX10 "<init>" 22 10 4 := ⟨_, _, _, rfl, by decide, Or.inr ⟨rfl, rfl, rfl, (th_mW 845 (by decide +kernel) rfl)⟩⟩
theorem g_X10_25 : th_gf RX10 25 10 5 := ⟨_, _, _, rfl, by decide, (Or.inl (th_mW 846 (by decide +kernel) rfl))⟩
theorem p_X10_25 : th_pf RX10 "<init>" 25 10 5 := ⟨_, _, _, rfl, by decide, Or.inr ⟨rfl, rfl, rfl, (th_mW 846 (by decide +kernel) rfl)⟩⟩
theorem g_X10_124 : th_gf RX10 124 10 6 := ⟨_, _, _, rfl, by decide, (Or.inl (th_mW 847 (by decide +kernel) rfl))⟩
theorem p_X10_124 (nm : String) : th_pf RX10 nm 124 10 6 := ⟨_, _, _, rfl, by decide, Or.inl ⟨rfl, (Or.inl (th_mW 847 (by decide +kernel) rfl))⟩⟩
theorem g_X10_28 : th_gf RX10 28 10 7 := ⟨_, _, _, rfl, by decide, (Or.inl (th_mW 848 (by decide +kernel) rfl))⟩
theorem p_X10_28 : th_pf RX10 "<init>" 28 10 7 := ⟨_, _, _, rfl, by decide, Or.inr ⟨rfl, rfl, rfl, (th_mW 848 (by decide +kernel) rfl)⟩⟩
theorem g_X10_31 : th_gf RX10 31 10 8 := ⟨_, _, _, rfl, by decide, (Or.inl (th_mW 849 (by decide +kernel) rfl))⟩
theorem p_X10_31 : th_pf RX10 "<init>" 31 10 8 := ⟨_, _, _, rfl, by decide, Or.inr ⟨rfl, rfl, rfl, (th_mW 849 (by decide +kernel) rfl)⟩⟩
theorem g_X10_34 : th_gf RX10 34 10 9 := ⟨_, _, _, rfl, by decide, (Or.inl (th_mW 850 (by decide +kernel) rfl))⟩
theorem p_X10_34 : th_pf RX10 "<init>" 34 10 9 := ⟨_, _, _, rfl, by decide, Or.inr ⟨rfl, rfl, rfl, (th_mW 850 (by decide +kernel) rfl)⟩⟩
theorem g_X10_175 : th_gf RX10 175 10 10 := ⟨_, _, _, rfl, by decide, (Or.inl (th_mW 851 (by decide +kernel) rfl))⟩
theorem p_X10_175 (nm : String) : th_pf RX10 nm 175 10 10 := ⟨_, _, _, rfl, by decide, Or.inl ⟨rfl, (Or.inl (th_mW 851 (by decide +kernel) rfl))⟩⟩
theorem g_X10_186 : th_gf RX10 186 10 11 := ⟨_, _, _, rfl, by decide, (Or.inl (th_mW 852 (by decide +kernel) rfl))⟩
theorem p_X10_186 (nm : String) : th_pf RX10 nm 186 10 11 := ⟨_, _, _, rfl, by decide, Or.inl ⟨rfl, (Or.inl (th_mW 852 (by decide +kernel) rfl))⟩⟩
theorem g_X10_38 : th_gf RX10 38 10 12 := ⟨_, _, _, rfl, by decide, (Or.inl (th_mW 853 (by decide +kernel) rfl))⟩
theorem p_X10_38 : th_pf RX10 "<init>" 38 10 12 := ⟨_, _, _, rfl, by decide, Or.inr ⟨rfl, rfl, rfl, (th_mW 853 (by decide +kernel) rfl)⟩⟩
theorem g_X10_41 : th_gf RX10 41 10 13 := ⟨_, _, _, rfl, by decide, (Or.inl (th_mW 854 (by decide +kernel) rfl))⟩
theorem p_X10_41 : th_pf RX10 "<init>" 41 10 13 := ⟨_, _, _, rfl, by decide, Or.inr ⟨rfl, rfl, rfl, (th_mW 854 (by decide +kernel) rfl)⟩⟩
theorem g_X10_44 : th_gf RX10 44 10 14 := ⟨_, _, _, rfl, by decide, (Or.inl (th_mW 855 (by decide +kernel) rfl))⟩
theorem p_X10_44 : th_pf RX10 "<init>" 44 10 14 := ⟨_, _, _, rfl, by decide, Or.inr ⟨rfl, rfl, rfl, (th_mW 855 (by decide +kernel) rfl)⟩⟩
theorem g_X10_47 : th_gf RX10 47 10 15 := ⟨_, _, _, rfl, by decide, (Or.inl (th_mW 856 (by decide +kernel) rfl))⟩
theorem p_X10_47 : th_pf RX10 "<init>" 47 10 15 := ⟨_, _, _, rfl, by decide, Or.inr ⟨rfl, rfl, rfl, (th_mW 856 (by decide +kernel) rfl)⟩⟩
theorem g_X10_51 : th_gf RX10 51 10 16 := ⟨_, _, _, rfl, by decide, (Or.inl (th_mW 857 (by decide +kernel) rfl))⟩
theorem p_X10_51 : th_pf RX10 "<init>" 51 10 16 := ⟨_, _, _, rfl, by decide, Or.inr ⟨rfl, rfl, rfl, (th_mW 857 (by decide +kernel) rfl)⟩⟩
theorem g_X10_54 : th_gf RX10 54 10 17 := ⟨_, _, _, rfl, by decide, (Or.inl (th_mW 858 (by decide +kernel) rfl))⟩
theorem p_X10_54 : th_pf RX10 "<init>" 54 10 17 := ⟨_, _, _, rfl, by decide, Or.inr ⟨rfl, rfl, rfl, (th_mW 858 (by decide +kernel) rfl)⟩⟩
theorem g_X10_57 : th_gf RX10 57 10 18 := ⟨_, _, _, rfl, by decide, (Or.inl (th_mW 859 (by decide +kernel) rfl))⟩
theorem p_X10_57 : th_pf RX10 "<init>" 57 10 18 := ⟨_, _, _, rfl, by decide, Or.inr ⟨rfl, rfl, rfl, (th_mW 859 (by decide +kernel) rfl)⟩⟩
theorem g_X10_60 : th_gf RX10 60 10 19 := ⟨_, _, _, rfl, by decide, (Or.inl (th_mW 860 (by decide +kernel) rfl))⟩
theorem p_X10_60 : th_pf RX10 "<init>" 60 10 19 := ⟨_, _, _, rfl, by decide, Or.inr ⟨rfl, rfl, rfl, (th_mW 860 (by decide +kernel) rfl)⟩⟩
theorem g_X10_226 : th_gf RX10 226 10 20 := ⟨_, _, _, rfl, by decide, (Or.inl (th_mW 861 (by decide +kernel) rfl))⟩
theorem p_X10_226 (nm : String) : th_pf RX10 nm 226 10 20 := ⟨_, _, _, rfl, by decide, Or.inl ⟨rfl, (Or.inl (th_mW 861 (by decide +kernel) rfl))⟩⟩
theorem g_X10_235 : th_gf RX10 235 10 21 := ⟨_, _, _, rfl, by decide, (Or.inl (th_mW 862 (by decide +kernel) rfl))⟩
theorem p_X10_235 (nm : String) : th_pf RX10 nm 235 10 21 := ⟨_, _, _, rfl, by decide, Or.inl ⟨rfl, (Or.inl (th_mW 862 (by decide +kernel) rfl))⟩⟩
theorem g_X10_223 : th_gf RX10 223 10 22 := ⟨_, _, _, rfl, by decide, (Or.inl (th_mW 863 (by decide +kernel) rfl))⟩
theorem p_X10_223 (nm : String) : th_pf RX10 nm 223 10 22 := ⟨_, _, _, rfl, by decide, Or.inl ⟨rfl, (Or.inl (th_mW 863 (by decide +kernel) rfl))⟩⟩
theorem g_X10_220 : th_gf RX10 220 10 23 := ⟨_, _, _, rfl, by decide, (Or.inl (th_mW 864 (by decide +kernel) rfl))⟩
theorem p_X10_220 (nm : String) : th_pf RX10 nm 220 10 23 := ⟨_, _, _, rfl, by decide, Or.inl ⟨rfl, (Or.inl (th_mW 864 (by decide +kernel) rfl))⟩⟩
theorem g_X10_229 : th_gf RX10 229 10 24 := ⟨_, _, _, rfl, by decide, (Or.inl (th_mW 865 (by decide +kernel) rfl))⟩
theorem p_X10_229 (nm : String) : th_pf RX10 nm 229 10 24 := ⟨_, _, _, rfl, by decide, Or.inl ⟨rfl, (Or.inl (th_mW 865 (by decide +kernel) rfl))⟩⟩
theorem g_X10_232 : th_gf RX10 232 10 25 := ⟨_, _, _, rfl, by decide, (Or.inl (th_mW 866 (by decide +kernel) rfl))⟩
theorem p_X10_232 (nm : String) : th_pf RX10 nm 232 10 25 := ⟨_, _, _, rfl, by decide, Or.inl ⟨rfl, (Or.inl (th_mW 866 (by decide +kernel) rfl))⟩⟩
theorem g_X10_63 : th_gf RX10 63 10 26 := ⟨_, _, _, rfl, by decide, (Or.inl (th_mW 867 (by decide +kernel) rfl))⟩
theorem p_X10_63 : th_pf RX10 "<init>" 63 10 26 := ⟨_, _, _, rfl, by decide, Or.inr ⟨rfl, rfl, rfl, (th_mW 867 (by decide +kernel) rfl)⟩⟩
theorem g_X10_66 : th_gf RX10 66 10 27 := ⟨_, _, _, rfl, by decide, (Or.inl (th_mW 868 (by decide +kernel) rfl))⟩
theorem p_X10_66 : th_pf RX10 "<init>" 66 10 27 := ⟨_, _, _, rfl, by decide, Or.inr ⟨rfl, rfl, rfl, (th_mW 868 (by decide +kernel) rfl)⟩⟩
theorem g_X10_69 : th_gf RX10 69 10 28 := ⟨_, _, _, rfl, by decide, (Or.inl (th_mW 869 (by decide +kernel) rfl))⟩
theorem p_X10_69 : th_pf RX10 "<init>" 69 10 28 := ⟨_, _, _, rfl, by decide, Or.inr ⟨rfl, rfl, rfl, (th_mW 869 (by decide +kernel) rfl)⟩⟩
theorem g_X10_72 : th_gf RX10 72 10 29 := ⟨_, _, _, rfl, by decide, (Or.inl (th_mW 870 (by decide +kernel) rfl))⟩
theorem p_X10_72 : th_pf RX10 "<init>" 72 10 29 := ⟨_, _, _, rfl, by decide, Or.inr ⟨rfl, rfl, rfl, (th_mW 870 (by decide +kernel) rfl)⟩⟩
theorem g_X10_75 : th_gf RX10 75 10 30 := ⟨_, _, _, rfl, by decide, (Or.inl (th_mW 871 (by decide +kernel) rfl))⟩
theorem p_X10_75 : th_pf RX10 "<init>" 75 10 30 := ⟨_, _, _, rfl, by decide, Or.inr ⟨rfl, rfl, rfl, (th_mW 871 (by decide +kernel) rfl)⟩⟩
theorem g_X10_78 : th_gf RX10 78 10 31 := ⟨_, _, _, rfl, by decide, (Or.inl (th_mW 872 (by decide +kernel) rfl))⟩
theorem p_X10_78 : th_pf RX10 "<init>" 78 10 31 := ⟨_, _, _, rfl, by decide, Or.inr ⟨rfl, rfl, rfl, (th_mW 872 (by decide +kernel) rfl)⟩⟩
theorem g_X10_81 : th_gf RX10 81 10 32 := ⟨_, _, _, rfl, by decide, (Or.inl (th_mW 873 (by decide +kernel) rfl))⟩
theorem p_X10_81 : th_pf RX10 "<init>" 81 10 32 := ⟨_, _, _, rfl, by decide, Or.inr ⟨rfl, rfl, rfl, (th_mW 873 (by decide +kernel) rfl)⟩⟩
theorem g_X10_84 : th_gf RX10 84 10 33 := ⟨_, _, _, rfl, by decide, (Or.inl (th_mW 874 (by decide +kernel) rfl))⟩
theorem p_X10_84 : th_pf RX10 "<init>" 84 10 33 := ⟨_, _, _, rfl, by decide, Or.inr ⟨rfl, rfl, rfl, (th_mW 874 (by decide +kernel) rfl)⟩⟩
theorem g_X10_142 : th_gf RX10 142 10 34 := ⟨_, _, _, rfl, by decide, (Or.inl (th_mW 875 (by decide +kernel) rfl))⟩
theorem p_X10_142 (nm : String) : th_pf RX10 nm 142 10 34 := ⟨_, _, _, rfl, by decide, Or.inl ⟨rfl, (Or.inl (th_mW 875 (by decide +kernel) rfl))⟩⟩
theorem g_X10_162 : th_gf RX10 162 10 35 := ⟨_, _, _, rfl, by decide, (Or.inl (th_mW 876 (by decide +kernel) rfl))⟩
theorem p_X10_162 (nm : String) : th_pf RX10 nm 162 10 35 := ⟨_, _, _, rfl, by decide, Or.inl ⟨rfl, (Or.inl (th_mW 876 (by decide +kernel) rfl))⟩⟩
theorem g_X10_165 : th_gf RX10 165 10 36 := ⟨_, _, _, rfl, by decide, (Or.inl (th_mW 877 (by decide +kernel) rfl))⟩
theorem p_X10_165 (nm : String) : th_pf RX10 nm 165 10 36 := ⟨_, _, _, rfl, by decide, Or.inl ⟨rfl, (Or.inl (th_mW 877 (by decide +kernel) rfl))⟩⟩
theorem g_X10_87 : th_gf RX10 87 10 37 := ⟨_, _, _, rfl, by decide, (Or.inl (th_mW 878 (by decide +kernel) rfl))⟩
theorem p_X10_87 : th_pf RX10 "<init>" 87 10 37 := ⟨_, _, _, rfl, by decide, Or.inr ⟨rfl, rfl, rfl, (th_mW 878 (by decide +kernel) rfl)⟩⟩
theorem g_X10_198 : th_gf RX10 198 10 38 := ⟨_, _, _, rfl, by decide, (Or.inl (th_mW 879 (by decide +kernel) rfl))⟩
theorem p_X10_198 (nm : String) : th_pf RX10 nm 198 10 38 := ⟨_, _, _, rfl, by decide, Or.inl ⟨rfl, (Or.inl (th_mW 879 (by decide +kernel) rfl))⟩⟩
theorem g_X10_195 : th_gf RX10 195 10 39 := ⟨_, _, _, rfl, by decide, (Or.inl (th_mW 880 (by decide +kernel) rfl))⟩
theorem p_X10_195 (nm : String) : th_pf RX10 nm 195 10 39 := ⟨_, _, _, rfl, by decide, Or.inl ⟨rfl, (Or.inl (th_mW 880 (by decide +kernel) rfl))⟩⟩
theorem g_X10_90 : th_gf RX10 90 10 40 := ⟨_, _, _, rfl, by decide, (Or.inl (th_mW 881 (by decide +kernel) rfl))⟩
theorem p_X10_90 : th_pf RX10 "<init>" 90 10 40 := ⟨_, _, _, rfl, by decide, Or.inr ⟨rfl, rfl, rfl, (th_mW 881 (by decide +kernel) rfl)⟩⟩
theorem l_L_9 : th_cI RL 9 yX9_init kX9_init 0 := ⟨bX9_init, (Or.inl (th_mW 24 (by decide +kernel) rfl)), (th_mW 25 (by decide +kernel) rfl), rfl, rfl⟩
theorem l_X9_1 : Cond.methodLink RX9 1 objectInit ∈ th_W := (th_mW 27 (by decide +kernel) rfl)
theorem l_X9_9 : th_cI RX9 9 yX7_init kX7_init 0 := ⟨bX7_init, (Or.inr ⟨"TriggerHall", (th_mN 33 (by decide +kernel) rfl)⟩), (th_mW 34 (by decide +kernel) rfl), rfl, rfl⟩
theorem l_X7_3 : Cond.methodLink RX7 3 objectInit ∈ th_W := (th_mW 36 (by decide +kernel) rfl)
theorem l_X9_28 : th_cI RX9 28 yJx4a65c_init_da8c8 kJx4a65c_init_da8c8 0 := ⟨bJx4a65c_init_da8c8, (Or.inl (th_mW 54 (by decide +kernel) rfl)), (th_mW 55 (by decide +kernel) rfl), rfl, rfl⟩
theorem l_Jx4a65c_1 : th_cI RJx4a65c 1 yJxc12de_init_da8c8 kJxc12de_init_da8c8 0 := ⟨bJxc12de_init_da8c8, (Or.inl (th_mW 57 (by decide +kernel) rfl)), (th_mW 58 (by decide +kernel) rfl), rfl, rfl⟩
theorem l_Jxc12de_1 : th_cI RJxc12de 1 yJxa1e45_init_da8c8 kJxa1e45_init_da8c8 0 := ⟨bJxa1e45_init_da8c8, (Or.inl (th_mW 60 (by decide +kernel) rfl)), (th_mW 61 (by decide +kernel) rfl), rfl, rfl⟩
theorem l_Jxa1e45_1 : Cond.methodLink RJxa1e45 1 objectInit ∈ th_W := (th_mW 63 (by decide +kernel) rfl)
theorem l_X9_35 : th_cI RX9 35 yX3_init kX3_init 0 := ⟨bX3_init, (Or.inr ⟨"TriggerHall", (th_mN 80 (by decide +kernel) rfl)⟩), (th_mW 81 (by decide +kernel) rfl), rfl, rfl⟩
theorem l_X3_3 : Cond.methodLink RX3 3 objectInit ∈ th_W := (th_mW 83 (by decide +kernel) rfl)
theorem l_X3_17 : th_cI RX3 17 yX0_init kX0_init 0 := ⟨bX0_init, (Or.inr ⟨"TriggerHall", (th_mN 86 (by decide +kernel) rfl)⟩), (th_mW 87 (by decide +kernel) rfl), rfl, rfl⟩
theorem l_X0_3 : Cond.methodLink RX0 3 objectInit ∈ th_W := (th_mW 89 (by decide +kernel) rfl)
theorem l_X3_24 : th_cI RX3 24 yX1_init kX1_init 0 := ⟨bX1_init, (Or.inr ⟨"TriggerHall", (th_mN 116 (by decide +kernel) rfl)⟩), (th_mW 117 (by decide +kernel) rfl), rfl, rfl⟩
theorem l_X1_3 : Cond.methodLink RX1 3 objectInit ∈ th_W := (th_mW 119 (by decide +kernel) rfl)
theorem l_X9_42 : th_cI RX9 42 yX8_init kX8_init 0 := ⟨bX8_init, (Or.inr ⟨"TriggerHall", (th_mN 171 (by decide +kernel) rfl)⟩), (th_mW 172 (by decide +kernel) rfl), rfl, rfl⟩
theorem l_X8_3 : Cond.methodLink RX8 3 objectInit ∈ th_W := (th_mW 174 (by decide +kernel) rfl)
theorem l_X9_49 : th_cI RX9 49 yX5_init kX5_init 0 := ⟨bX5_init, (Or.inr ⟨"TriggerHall", (th_mN 187 (by decide +kernel) rfl)⟩), (th_mW 188 (by decide +kernel) rfl), rfl, rfl⟩
theorem l_X5_3 : Cond.methodLink RX5 3 objectInit ∈ th_W := (th_mW 190 (by decide +kernel) rfl)
theorem l_X9_59 : th_cI RX9 59 yX4_init kX4_init 0 := ⟨bX4_init, (Or.inr ⟨"TriggerHall", (th_mN 207 (by decide +kernel) rfl)⟩), (th_mW 208 (by decide +kernel) rfl), rfl, rfl⟩
theorem l_X4_3 : Cond.methodLink RX4 3 objectInit ∈ th_W := (th_mW 210 (by decide +kernel) rfl)
theorem l_L_13 : th_cV RL 13 yX9_sheet kX9_sheet 3 := ⟨bX9_sheet, (Or.inl (th_mW 274 (by decide +kernel) rfl)), (th_mW 275 (by decide +kernel) rfl), (th_mW 276 (by decide +kernel) rfl)⟩
theorem l_X9_67 : th_cV RX9 67 yX9_sheetAt kX9_sheetAt 1 := ⟨bX9_sheetAt, (Or.inl (th_mW 278 (by decide +kernel) rfl)), (th_mW 280 (by decide +kernel) rfl), (th_mS 0 (by decide +kernel) rfl)⟩
theorem l_X9_71 : th_cV RX9 71 yX7_lay kX7_lay 2 := ⟨bX7_lay, (Or.inr ⟨"TriggerHall", (th_mN 282 (by decide +kernel) rfl)⟩), (th_mW 284 (by decide +kernel) rfl), (th_mS 1 (by decide +kernel) rfl)⟩
theorem l_L_18 : th_cV RL 18 yX9_cell kX9_cell 3 := ⟨bX9_cell, (Or.inl (th_mW 286 (by decide +kernel) rfl)), (th_mW 287 (by decide +kernel) rfl), (th_mW 288 (by decide +kernel) rfl)⟩
theorem l_X9_79 : th_cV RX9 79 yX7_has kX7_has 1 := ⟨bX7_has, (Or.inr ⟨"TriggerHall", (th_mN 290 (by decide +kernel) rfl)⟩), (th_mW 292 (by decide +kernel) rfl), (th_mS 2 (by decide +kernel) rfl)⟩
theorem l_X9_83 : th_cV RX9 83 yX7_put kX7_put 2 := ⟨bX7_put, (Or.inr ⟨"TriggerHall", (th_mN 294 (by decide +kernel) rfl)⟩), (th_mW 296 (by decide +kernel) rfl), (th_mS 3 (by decide +kernel) rfl)⟩
theorem l_X7_26 : th_cV RX7 26 yX7_has kX7_has 1 := ⟨bX7_has, (Or.inl (th_mW 298 (by decide +kernel) rfl)), (th_mW 292 (by decide +kernel) rfl), (th_mS 2 (by decide +kernel) rfl)⟩
theorem l_L_22 : th_cV RL 22 yX9_lose kX9_lose 1 := ⟨bX9_lose, (Or.inl (th_mW 299 (by decide +kernel) rfl)), (th_mW 300 (by decide +kernel) rfl), (th_mW 301 (by decide +kernel) rfl)⟩
theorem l_L_27 : th_cV RL 27 yX9_hits kX9_hits 2 := ⟨bX9_hits, (Or.inl (th_mW 303 (by decide +kernel) rfl)), (th_mW 304 (by decide +kernel) rfl), (th_mW 305 (by decide +kernel) rfl)⟩
theorem l_X9_86 : th_cS RX9 86 yX9_isLayer kX9_isLayer 1 := ⟨bX9_isLayer, (Or.inl (th_mW 307 (by decide +kernel) rfl)), (th_mW 308 (by decide +kernel) rfl)⟩
theorem l_X9_89 : th_cS RX9 89 yX9_areCells kX9_areCells 1 := ⟨bX9_areCells, (Or.inl (th_mW 310 (by decide +kernel) rfl)), (th_mW 311 (by decide +kernel) rfl)⟩
theorem l_X9_92 : th_cS RX9 92 yJ6_bitCount_0f7a4 kJ6_bitCount_0f7a4 1 := ⟨bJ6_bitCount_0f7a4, (Or.inl (th_mW 314 (by decide +kernel) rfl)), (th_mW 315 (by decide +kernel) rfl)⟩
theorem l_L_32 : th_cV RL 32 yX9_load kX9_load 2 := ⟨bX9_load, (Or.inl (th_mW 320 (by decide +kernel) rfl)), (th_mW 321 (by decide +kernel) rfl), (th_mW 322 (by decide +kernel) rfl)⟩
theorem l_X9_98 : th_cV RX9 98 yX7_numberAt kX7_numberAt 1 := ⟨bX7_numberAt, (Or.inr ⟨"TriggerHall", (th_mN 324 (by decide +kernel) rfl)⟩), (th_mW 326 (by decide +kernel) rfl), (th_mS 4 (by decide +kernel) rfl)⟩
theorem l_X9_102 : th_cS RX9 102 yX9_cellsIn kX9_cellsIn 1 := ⟨bX9_cellsIn, (Or.inl (th_mW 328 (by decide +kernel) rfl)), (th_mW 329 (by decide +kernel) rfl)⟩
theorem l_L_36 : th_cV RL 36 yX9_mask kX9_mask 3 := ⟨bX9_mask, (Or.inl (th_mW 331 (by decide +kernel) rfl)), (th_mW 332 (by decide +kernel) rfl), (th_mW 333 (by decide +kernel) rfl)⟩
theorem l_L_40 : th_cV RL 40 yX9_layer kX9_layer 2 := ⟨bX9_layer, (Or.inl (th_mW 335 (by decide +kernel) rfl)), (th_mW 336 (by decide +kernel) rfl), (th_mW 337 (by decide +kernel) rfl)⟩
theorem l_L_44 : th_cV RL 44 yX9_road kX9_road 6 := ⟨bX9_road, (Or.inl (th_mW 339 (by decide +kernel) rfl)), (th_mW 340 (by decide +kernel) rfl), (th_mW 341 (by decide +kernel) rfl)⟩
theorem l_X9_106 : th_cS RX9 106 yX9_isSpan kX9_isSpan 1 := ⟨bX9_isSpan, (Or.inl (th_mW 343 (by decide +kernel) rfl)), (th_mW 344 (by decide +kernel) rfl)⟩
theorem l_X9_109 : th_cF RX9 109 yLi_size yJx4a65c_size_8abf5 kJx4a65c_size_8abf5 0 := ⟨bJx4a65c_size_8abf5, (th_mW 347 (by decide +kernel) rfl), (th_mW 351 (by decide +kernel) rfl), (th_mW 353 (by decide +kernel) rfl), Or.inl ⟨rfl, rfl⟩⟩
theorem l_X9_117 : th_cI RX9 117 yX6_init kX6_init 1 := ⟨bX6_init, (Or.inr ⟨"TriggerHall", (th_mN 358 (by decide +kernel) rfl)⟩), (th_mW 359 (by decide +kernel) rfl), rfl, rfl⟩
theorem l_X6_3 : Cond.methodLink RX6 3 objectInit ∈ th_W := (th_mW 361 (by decide +kernel) rfl)
theorem l_X9_120 : th_cV RX9 120 yX6_setSpan kX6_setSpan 2 := ⟨bX6_setSpan, (Or.inr ⟨"TriggerHall", (th_mN 372 (by decide +kernel) rfl)⟩), (th_mW 374 (by decide +kernel) rfl), (th_mS 5 (by decide +kernel) rfl)⟩
theorem l_X6_22 : th_cS RX6 22 yX9_isLayer kX9_isLayer 1 := ⟨bX9_isLayer, (Or.inr ⟨"TriggerHall", (th_mN 376 (by decide +kernel) rfl)⟩), (th_mW 308 (by decide +kernel) rfl)⟩
theorem l_X6_26 : th_cS RX6 26 yX9_isSpan kX9_isSpan 1 := ⟨bX9_isSpan, (Or.inr ⟨"TriggerHall", (th_mN 377 (by decide +kernel) rfl)⟩), (th_mW 344 (by decide +kernel) rfl)⟩
theorem l_X9_123 : th_cF RX9 123 yLi_add yJx4a65c_add_9ea2d kJx4a65c_add_9ea2d 1 := ⟨bJx4a65c_add_9ea2d, (th_mW 379 (by decide +kernel) rfl), (th_mW 382 (by decide +kernel) rfl), (th_mW 384 (by decide +kernel) rfl), Or.inr (Or.inr ⟨rfl, rfl⟩)⟩
theorem l_Jx4a65c_131 : th_cV RJx4a65c 131 yJx4a65c_add_72be8 kJx4a65c_add_72be8 3 := ⟨bJx4a65c_add_72be8, (Or.inl (th_mW 387 (by decide +kernel) rfl)), (th_mW 389 (by decide +kernel) rfl), (th_mS 6 (by decide +kernel) rfl)⟩
theorem l_Jx4a65c_129 : th_cV RJx4a65c 129 yJx4a65c_grow_d5877 kJx4a65c_grow_d5877 0 := ⟨bJx4a65c_grow_d5877, (Or.inl (th_mW 391 (by decide +kernel) rfl)), (th_mW 393 (by decide +kernel) rfl), (th_mS 7 (by decide +kernel) rfl)⟩
theorem l_Jx4a65c_69 : th_cV RJx4a65c 69 yJx4a65c_grow_92f84 kJx4a65c_grow_92f84 1 := ⟨bJx4a65c_grow_92f84, (Or.inl (th_mW 395 (by decide +kernel) rfl)), (th_mW 397 (by decide +kernel) rfl), (th_mS 8 (by decide +kernel) rfl)⟩
theorem l_Jx4a65c_73 : th_cS RJx4a65c 73 yJ8_newLength_cabcc kJ8_newLength_cabcc 3 := ⟨bJ8_newLength_cabcc, (Or.inl (th_mW 399 (by decide +kernel) rfl)), (th_mW 400 (by decide +kernel) rfl)⟩
theorem l_J8_194 : th_cS RJ8 194 yJ9_max_7cf53 kJ9_max_7cf53 2 := ⟨bJ9_max_7cf53, (Or.inl (th_mW 402 (by decide +kernel) rfl)), (th_mW 403 (by decide +kernel) rfl)⟩
theorem l_J8_201 : th_cS RJ8 201 yJ8_hugeLength_7cf53 kJ8_hugeLength_7cf53 2 := ⟨bJ8_hugeLength_7cf53, (Or.inl (th_mW 406 (by decide +kernel) rfl)), (th_mW 407 (by decide +kernel) rfl)⟩
theorem l_Jx4a65c_66 : th_cS RJx4a65c 66 yJ7_copyOf_1904c kJ7_copyOf_1904c 2 := ⟨bJ7_copyOf_1904c, (Or.inl (th_mW 409 (by decide +kernel) rfl)), (th_mW 410 (by decide +kernel) rfl)⟩
theorem l_J7_300 : th_cS RJ7 300 yJ7_copyOf_6403c kJ7_copyOf_6403c 3 := ⟨bJ7_copyOf_6403c, (Or.inl (th_mW 428 (by decide +kernel) rfl)), (th_mW 429 (by decide +kernel) rfl)⟩
theorem l_J7_304 : th_cS RJ7 304 yJ9_min_7cf53 kJ9_min_7cf53 2 := ⟨bJ9_min_7cf53, (Or.inl (th_mW 434 (by decide +kernel) rfl)), (th_mW 435 (by decide +kernel) rfl)⟩
theorem l_Jx4a65c_79 : th_cS RJx4a65c 79 yJ9_max_7cf53 kJ9_max_7cf53 2 := ⟨bJ9_max_7cf53, (Or.inl (th_mW 440 (by decide +kernel) rfl)), (th_mW 403 (by decide +kernel) rfl)⟩
theorem l_L_49 : th_cV RL 49 yX9_span kX9_span 3 := ⟨bX9_span, (Or.inl (th_mW 442 (by decide +kernel) rfl)), (th_mW 443 (by decide +kernel) rfl), (th_mW 444 (by decide +kernel) rfl)⟩
theorem l_X9_127 : th_cV RX9 127 yX9_roadAt kX9_roadAt 1 := ⟨bX9_roadAt, (Or.inl (th_mW 446 (by decide +kernel) rfl)), (th_mW 448 (by decide +kernel) rfl), (th_mS 9 (by decide +kernel) rfl)⟩
theorem l_X9_287 : th_cF RX9 287 yLi_get yJx4a65c_get_915e3 kJx4a65c_get_915e3 1 := ⟨bJx4a65c_get_915e3, (th_mW 451 (by decide +kernel) rfl), (th_mW 454 (by decide +kernel) rfl), (th_mW 456 (by decide +kernel) rfl), Or.inr (Or.inl ⟨rfl, rfl⟩)⟩
theorem l_Jx4a65c_118 : th_cS RJx4a65c 118 yJ15_checkIndex_7cf53 kJ15_checkIndex_7cf53 2 := ⟨bJ15_checkIndex_7cf53, (Or.inl (th_mW 459 (by decide +kernel) rfl)), (th_mW 460 (by decide +kernel) rfl)⟩
theorem l_J15_105 : th_cS RJ15 105 yJ3_checkIndex_8e157 kJ3_checkIndex_8e157 3 := ⟨bJ3_checkIndex_8e157, (Or.inl (th_mW 462 (by decide +kernel) rfl)), (th_mW 463 (by decide +kernel) rfl)⟩
theorem l_Jx4a65c_123 : th_cV RJx4a65c 123 yJx4a65c_elementData_915e3 kJx4a65c_elementData_915e3 1 := ⟨bJx4a65c_elementData_915e3, (Or.inl (th_mW 465 (by decide +kernel) rfl)), (th_mW 466 (by decide +kernel) rfl), (th_mW 467 (by decide +kernel) rfl)⟩
theorem l_X9_131 : th_cV RX9 131 yX6_spanTold kX6_spanTold 1 := ⟨bX6_spanTold, (Or.inr ⟨"TriggerHall", (th_mN 469 (by decide +kernel) rfl)⟩), (th_mW 471 (by decide +kernel) rfl), (th_mS 10 (by decide +kernel) rfl)⟩
theorem l_L_53 : th_cV RL 53 yX9_lit kX9_lit 0 := ⟨bX9_lit, (Or.inl (th_mW 473 (by decide +kernel) rfl)), (th_mW 474 (by decide +kernel) rfl), (th_mW 475 (by decide +kernel) rfl)⟩
theorem l_X9_134 : th_cV RX9 134 yX3_see kX3_see 3 := ⟨bX3_see, (Or.inr ⟨"TriggerHall", (th_mN 477 (by decide +kernel) rfl)⟩), (th_mW 479 (by decide +kernel) rfl), (th_mS 11 (by decide +kernel) rfl)⟩
theorem l_X3_33 : th_cS RX3 33 yX9_cellsIn kX9_cellsIn 1 := ⟨bX9_cellsIn, (Or.inr ⟨"TriggerHall", (th_mN 481 (by decide +kernel) rfl)⟩), (th_mW 329 (by decide +kernel) rfl)⟩
theorem l_X9_138 : th_cV RX9 138 yX3_light kX3_light 1 := ⟨bX3_light, (Or.inr ⟨"TriggerHall", (th_mN 482 (by decide +kernel) rfl)⟩), (th_mW 484 (by decide +kernel) rfl), (th_mS 12 (by decide +kernel) rfl)⟩
theorem l_X3_43 : th_cF RX3 43 yLi_size yJx4a65c_size_8abf5 kJx4a65c_size_8abf5 0 := ⟨bJx4a65c_size_8abf5, (th_mW 487 (by decide +kernel) rfl), (th_mW 351 (by decide +kernel) rfl), (th_mW 353 (by decide +kernel) rfl), Or.inl ⟨rfl, rfl⟩⟩
theorem l_X3_49 : th_cF RX3 49 yLi_get yJx4a65c_get_915e3 kJx4a65c_get_915e3 1 := ⟨bJx4a65c_get_915e3, (th_mW 489 (by decide +kernel) rfl), (th_mW 454 (by decide +kernel) rfl), (th_mW 456 (by decide +kernel) rfl), Or.inr (Or.inl ⟨rfl, rfl⟩)⟩
theorem l_X3_55 : th_cV RX3 55 yX6_isLit kX6_isLit 1 := ⟨bX6_isLit, (Or.inr ⟨"TriggerHall", (th_mN 491 (by decide +kernel) rfl)⟩), (th_mW 493 (by decide +kernel) rfl), (th_mS 13 (by decide +kernel) rfl)⟩
theorem l_X6_33 : th_cV RX6 33 yX6_layersHeld kX6_layersHeld 1 := ⟨bX6_layersHeld, (Or.inl (th_mW 495 (by decide +kernel) rfl)), (th_mW 497 (by decide +kernel) rfl), (th_mS 14 (by decide +kernel) rfl)⟩
theorem l_X6_29 : th_cV RX6 29 yX6_seenIn kX6_seenIn 2 := ⟨bX6_seenIn, (Or.inl (th_mW 499 (by decide +kernel) rfl)), (th_mW 501 (by decide +kernel) rfl), (th_mS 15 (by decide +kernel) rfl)⟩
theorem l_X6_37 : th_cS RX6 37 yJ6_bitCount_0f7a4 kJ6_bitCount_0f7a4 1 := ⟨bJ6_bitCount_0f7a4, (Or.inl (th_mW 503 (by decide +kernel) rfl)), (th_mW 315 (by decide +kernel) rfl)⟩
theorem l_L_58 : th_cV RL 58 yX9_held kX9_held 1 := ⟨bX9_held, (Or.inl (th_mW 504 (by decide +kernel) rfl)), (th_mW 505 (by decide +kernel) rfl), (th_mW 506 (by decide +kernel) rfl)⟩
theorem l_X9_149 : th_cV RX9 149 yX6_layersHeld kX6_layersHeld 1 := ⟨bX6_layersHeld, (Or.inr ⟨"TriggerHall", (th_mN 508 (by decide +kernel) rfl)⟩), (th_mW 497 (by decide +kernel) rfl), (th_mS 14 (by decide +kernel) rfl)⟩
theorem l_L_62 : th_cV RL 62 yX9_track kX9_track 2 := ⟨bX9_track, (Or.inl (th_mW 509 (by decide +kernel) rfl)), (th_mW 510 (by decide +kernel) rfl), (th_mW 511 (by decide +kernel) rfl)⟩
theorem l_X9_152 : th_cV RX9 152 yX9_fitInHand kX9_fitInHand 1 := ⟨bX9_fitInHand, (Or.inl (th_mW 513 (by decide +kernel) rfl)), (th_mW 515 (by decide +kernel) rfl), (th_mS 16 (by decide +kernel) rfl)⟩
theorem l_X9_299 : th_cV RX9 299 yX3_fitAlong kX3_fitAlong 1 := ⟨bX3_fitAlong, (Or.inr ⟨"TriggerHall", (th_mN 517 (by decide +kernel) rfl)⟩), (th_mW 519 (by decide +kernel) rfl), (th_mS 17 (by decide +kernel) rfl)⟩
theorem l_X3_59 : th_cV RX3 59 yX0_along kX0_along 2 := ⟨bX0_along, (Or.inr ⟨"TriggerHall", (th_mN 521 (by decide +kernel) rfl)⟩), (th_mW 523 (by decide +kernel) rfl), (th_mS 18 (by decide +kernel) rfl)⟩
theorem l_X0_28 : th_cV RX0 28 yX6_seenIn kX6_seenIn 2 := ⟨bX6_seenIn, (Or.inr ⟨"TriggerHall", (th_mN 525 (by decide +kernel) rfl)⟩), (th_mW 501 (by decide +kernel) rfl), (th_mS 15 (by decide +kernel) rfl)⟩
theorem l_X0_41 : th_cV RX0 41 yX0_tryCells kX0_tryCells 4 := ⟨bX0_tryCells, (Or.inl (th_mW 527 (by decide +kernel) rfl)), (th_mW 529 (by decide +kernel) rfl), (th_mS 19 (by decide +kernel) rfl)⟩
theorem l_X0_45 : th_cV RX0 45 yX0_takeTrial kX0_takeTrial 3 := ⟨bX0_takeTrial, (Or.inl (th_mW 531 (by decide +kernel) rfl)), (th_mW 533 (by decide +kernel) rfl), (th_mS 20 (by decide +kernel) rfl)⟩
theorem l_X0_49 : th_cS RX0 49 yJ6_numberOfTrailingZeros_0f7a4 kJ6_numberOfTrailingZeros_0f7a4 1 := ⟨bJ6_numberOfTrailingZeros_0f7a4, (Or.inl (th_mW 535 (by decide +kernel) rfl)), (th_mW 536 (by decide +kernel) rfl)⟩
theorem l_X0_55 : th_cV RX0 55 yX0_isPerfect kX0_isPerfect 0 := ⟨bX0_isPerfect, (Or.inl (th_mW 539 (by decide +kernel) rfl)), (th_mW 541 (by decide +kernel) rfl), (th_mS 21 (by decide +kernel) rfl)⟩
theorem l_L_66 : th_cV RL 66 yX9_miss kX9_miss 2 := ⟨bX9_miss, (Or.inl (th_mW 543 (by decide +kernel) rfl)), (th_mW 544 (by decide +kernel) rfl), (th_mW 545 (by decide +kernel) rfl)⟩
theorem l_X9_165 : th_cV RX9 165 yX0_above kX0_above 0 := ⟨bX0_above, (Or.inr ⟨"TriggerHall", (th_mN 547 (by decide +kernel) rfl)⟩), (th_mW 549 (by decide +kernel) rfl), (th_mS 22 (by decide +kernel) rfl)⟩
theorem l_X9_168 : th_cV RX9 168 yX0_below kX0_below 0 := ⟨bX0_below, (Or.inr ⟨"TriggerHall", (th_mN 551 (by decide +kernel) rfl)⟩), (th_mW 553 (by decide +kernel) rfl), (th_mS 23 (by decide +kernel) rfl)⟩
theorem l_X0_59 : th_cS RX0 59 yJ9_max_7cf53 kJ9_max_7cf53 2 := ⟨bJ9_max_7cf53, (Or.inl (th_mW 555 (by decide +kernel) rfl)), (th_mW 403 (by decide +kernel) rfl)⟩
theorem l_X9_171 : th_cS RX9 171 yX9_greatestDivisor kX9_greatestDivisor 2 := ⟨bX9_greatestDivisor, (Or.inl (th_mW 556 (by decide +kernel) rfl)), (th_mW 557 (by decide +kernel) rfl)⟩
theorem l_X9_294 : th_cS RX9 294 yJ9_max_7cf53 kJ9_max_7cf53 2 := ⟨bJ9_max_7cf53, (Or.inl (th_mW 559 (by decide +kernel) rfl)), (th_mW 403 (by decide +kernel) rfl)⟩
theorem l_L_70 : th_cV RL 70 yX9_weight kX9_weight 1 := ⟨bX9_weight, (Or.inl (th_mW 560 (by decide +kernel) rfl)), (th_mW 561 (by decide +kernel) rfl), (th_mW 562 (by decide +kernel) rfl)⟩
theorem l_X9_175 : th_cV RX9 175 yX0_worth kX0_worth 0 := ⟨bX0_worth, (Or.inr ⟨"TriggerHall", (th_mN 564 (by decide +kernel) rfl)⟩), (th_mW 566 (by decide +kernel) rfl), (th_mS 24 (by decide +kernel) rfl)⟩
theorem l_X0_65 : th_cV RX0 65 yX0_below kX0_below 0 := ⟨bX0_below, (Or.inl (th_mW 568 (by decide +kernel) rfl)), (th_mW 553 (by decide +kernel) rfl), (th_mS 23 (by decide +kernel) rfl)⟩
theorem l_L_74 : th_cV RL 74 yX9_heap kX9_heap 1 := ⟨bX9_heap, (Or.inl (th_mW 569 (by decide +kernel) rfl)), (th_mW 570 (by decide +kernel) rfl), (th_mW 571 (by decide +kernel) rfl)⟩
theorem l_X9_178 : th_cV RX9 178 yX9_lookAt kX9_lookAt 1 := ⟨bX9_lookAt, (Or.inl (th_mW 573 (by decide +kernel) rfl)), (th_mW 575 (by decide +kernel) rfl), (th_mS 25 (by decide +kernel) rfl)⟩
theorem l_X9_302 : th_cV RX9 302 yX3_pile kX3_pile 1 := ⟨bX3_pile, (Or.inr ⟨"TriggerHall", (th_mN 577 (by decide +kernel) rfl)⟩), (th_mW 579 (by decide +kernel) rfl), (th_mS 26 (by decide +kernel) rfl)⟩
theorem l_X3_63 : th_cV RX3 63 yX1_empty kX1_empty 0 := ⟨bX1_empty, (Or.inr ⟨"TriggerHall", (th_mN 581 (by decide +kernel) rfl)⟩), (th_mW 583 (by decide +kernel) rfl), (th_mS 27 (by decide +kernel) rfl)⟩
theorem l_X3_66 : th_cV RX3 66 yX3_isLit kX3_isLit 1 := ⟨bX3_isLit, (Or.inl (th_mW 585 (by decide +kernel) rfl)), (th_mW 587 (by decide +kernel) rfl), (th_mS 28 (by decide +kernel) rfl)⟩
theorem l_X3_69 : th_cV RX3 69 yX0_worth kX0_worth 0 := ⟨bX0_worth, (Or.inr ⟨"TriggerHall", (th_mN 589 (by decide +kernel) rfl)⟩), (th_mW 566 (by decide +kernel) rfl), (th_mS 24 (by decide +kernel) rfl)⟩
theorem l_X3_75 : th_cV RX3 75 yX1_put kX1_put 2 := ⟨bX1_put, (Or.inr ⟨"TriggerHall", (th_mN 590 (by decide +kernel) rfl)⟩), (th_mW 592 (by decide +kernel) rfl), (th_mS 29 (by decide +kernel) rfl)⟩
theorem l_X1_34 : th_cV RX1 34 yX1_clash kX1_clash 2 := ⟨bX1_clash, (Or.inl (th_mW 594 (by decide +kernel) rfl)), (th_mW 596 (by decide +kernel) rfl), (th_mS 30 (by decide +kernel) rfl)⟩
theorem l_X3_79 : th_cV RX3 79 yX1_choose kX1_choose 0 := ⟨bX1_choose, (Or.inr ⟨"TriggerHall", (th_mN 598 (by decide +kernel) rfl)⟩), (th_mW 600 (by decide +kernel) rfl), (th_mS 31 (by decide +kernel) rfl)⟩
theorem l_X1_38 : th_cV RX1 38 yX1_chooseFrom kX1_chooseFrom 3 := ⟨bX1_chooseFrom, (Or.inl (th_mW 602 (by decide +kernel) rfl)), (th_mW 604 (by decide +kernel) rfl), (th_mS 32 (by decide +kernel) rfl)⟩
theorem l_L_78 : th_cV RL 78 yX9_blind kX9_blind 0 := ⟨bX9_blind, (Or.inl (th_mW 606 (by decide +kernel) rfl)), (th_mW 607 (by decide +kernel) rfl), (th_mW 608 (by decide +kernel) rfl)⟩
theorem l_L_82 : th_cV RL 82 yX9_feed kX9_feed 1 := ⟨bX9_feed, (Or.inl (th_mW 612 (by decide +kernel) rfl)), (th_mW 613 (by decide +kernel) rfl), (th_mW 614 (by decide +kernel) rfl)⟩
theorem l_X9_197 : th_cS RX9 197 yX9_lettersIn kX9_lettersIn 1 := ⟨bX9_lettersIn, (Or.inl (th_mW 616 (by decide +kernel) rfl)), (th_mW 617 (by decide +kernel) rfl)⟩
theorem l_X9_203 : th_cS RX9 203 yX9_letterIn kX9_letterIn 2 := ⟨bX9_letterIn, (Or.inl (th_mW 619 (by decide +kernel) rfl)), (th_mW 620 (by decide +kernel) rfl)⟩
theorem l_X9_207 : th_cV RX9 207 yX8_put kX8_put 1 := ⟨bX8_put, (Or.inr ⟨"TriggerHall", (th_mN 622 (by decide +kernel) rfl)⟩), (th_mW 624 (by decide +kernel) rfl), (th_mS 33 (by decide +kernel) rfl)⟩
theorem l_L_86 : th_cV RL 86 yX9_clear kX9_clear 0 := ⟨bX9_clear, (Or.inl (th_mW 626 (by decide +kernel) rfl)), (th_mW 627 (by decide +kernel) rfl), (th_mW 628 (by decide +kernel) rfl)⟩
theorem l_L_90 : th_cV RL 90 yX9_line kX9_line 2 := ⟨bX9_line, (Or.inl (th_mW 630 (by decide +kernel) rfl)), (th_mW 631 (by decide +kernel) rfl), (th_mW 632 (by decide +kernel) rfl)⟩
theorem l_X9_210 : th_cS RX9 210 yX9_isShare kX9_isShare 1 := ⟨bX9_isShare, (Or.inl (th_mW 634 (by decide +kernel) rfl)), (th_mW 635 (by decide +kernel) rfl)⟩
theorem l_X9_213 : th_cV RX9 213 yX5_read kX5_read 2 := ⟨bX5_read, (Or.inr ⟨"TriggerHall", (th_mN 637 (by decide +kernel) rfl)⟩), (th_mW 639 (by decide +kernel) rfl), (th_mS 34 (by decide +kernel) rfl)⟩
theorem l_X5_26 : th_cV RX5 26 yX5_readAny kX5_readAny 1 := ⟨bX5_readAny, (Or.inl (th_mW 641 (by decide +kernel) rfl)), (th_mW 643 (by decide +kernel) rfl), (th_mS 35 (by decide +kernel) rfl)⟩
theorem l_X5_39 : th_cV RX5 39 yX5_readBoth kX5_readBoth 1 := ⟨bX5_readBoth, (Or.inl (th_mW 645 (by decide +kernel) rfl)), (th_mW 647 (by decide +kernel) rfl), (th_mS 36 (by decide +kernel) rfl)⟩
theorem l_X5_46 : th_cV RX5 46 yX5_readOne kX5_readOne 1 := ⟨bX5_readOne, (Or.inl (th_mW 649 (by decide +kernel) rfl)), (th_mW 651 (by decide +kernel) rfl), (th_mS 37 (by decide +kernel) rfl)⟩
theorem l_X5_49 : th_cV RX5 49 yX8_letterAt kX8_letterAt 1 := ⟨bX8_letterAt, (Or.inr ⟨"TriggerHall", (th_mN 653 (by decide +kernel) rfl)⟩), (th_mW 655 (by decide +kernel) rfl), (th_mS 38 (by decide +kernel) rfl)⟩
theorem l_X5_53 : th_cV RX5 53 yX5_readAsked kX5_readAsked 0 := ⟨bX5_readAsked, (Or.inl (th_mW 657 (by decide +kernel) rfl)), (th_mW 659 (by decide +kernel) rfl), (th_mS 39 (by decide +kernel) rfl)⟩
theorem l_X5_56 : th_cS RX5 56 yX5_canAsk kX5_canAsk 1 := ⟨bX5_canAsk, (Or.inl (th_mW 661 (by decide +kernel) rfl)), (th_mW 662 (by decide +kernel) rfl)⟩
theorem l_X5_35 : th_cV RX5 35 yX5_fail kX5_fail 0 := ⟨bX5_fail, (Or.inl (th_mW 664 (by decide +kernel) rfl)), (th_mW 666 (by decide +kernel) rfl), (th_mS 40 (by decide +kernel) rfl)⟩
theorem l_X5_59 : th_cV RX5 59 yX5_readNumber kX5_readNumber 0 := ⟨bX5_readNumber, (Or.inl (th_mW 668 (by decide +kernel) rfl)), (th_mW 670 (by decide +kernel) rfl), (th_mS 41 (by decide +kernel) rfl)⟩
theorem l_X5_69 : th_cS RX5 69 yX5_isFigure kX5_isFigure 1 := ⟨bX5_isFigure, (Or.inl (th_mW 672 (by decide +kernel) rfl)), (th_mW 673 (by decide +kernel) rfl)⟩
theorem l_X5_63 : th_cV RX5 63 yX3_answers kX3_answers 2 := ⟨bX3_answers, (Or.inr ⟨"TriggerHall", (th_mN 675 (by decide +kernel) rfl)⟩), (th_mW 677 (by decide +kernel) rfl), (th_mS 42 (by decide +kernel) rfl)⟩
theorem l_X3_85 : th_cS RX3 85 yJ6_bitCount_0f7a4 kJ6_bitCount_0f7a4 1 := ⟨bJ6_bitCount_0f7a4, (Or.inl (th_mW 679 (by decide +kernel) rfl)), (th_mW 315 (by decide +kernel) rfl)⟩
theorem l_X5_42 : th_cV RX5 42 yX5_passOver kX5_passOver 1 := ⟨bX5_passOver, (Or.inl (th_mW 680 (by decide +kernel) rfl)), (th_mW 682 (by decide +kernel) rfl), (th_mS 43 (by decide +kernel) rfl)⟩
theorem l_X9_222 : th_cI RX9 222 yX2_init kX2_init 3 := ⟨bX2_init, (Or.inr ⟨"TriggerHall", (th_mN 686 (by decide +kernel) rfl)⟩), (th_mW 687 (by decide +kernel) rfl), rfl, rfl⟩
theorem l_X2_1 : Cond.methodLink RX2 1 objectInit ∈ th_W := (th_mW 689 (by decide +kernel) rfl)
theorem l_X2_9 : th_cI RX2 9 yX8_init kX8_init 0 := ⟨bX8_init, (Or.inr ⟨"TriggerHall", (th_mN 691 (by decide +kernel) rfl)⟩), (th_mW 172 (by decide +kernel) rfl), rfl, rfl⟩
theorem l_X2_16 : th_cV RX2 16 yX8_copy kX8_copy 1 := ⟨bX8_copy, (Or.inr ⟨"TriggerHall", (th_mN 692 (by decide +kernel) rfl)⟩), (th_mW 694 (by decide +kernel) rfl), (th_mS 44 (by decide +kernel) rfl)⟩
theorem l_X8_19 : th_cV RX8 19 yX8_put kX8_put 1 := ⟨bX8_put, (Or.inl (th_mW 696 (by decide +kernel) rfl)), (th_mW 624 (by decide +kernel) rfl), (th_mS 33 (by decide +kernel) rfl)⟩
theorem l_L_95 : th_cV RL 95 yX9_thin kX9_thin 2 := ⟨bX9_thin, (Or.inl (th_mW 726 (by decide +kernel) rfl)), (th_mW 727 (by decide +kernel) rfl), (th_mW 728 (by decide +kernel) rfl)⟩
theorem l_X9_225 : th_cV RX9 225 yX9_lineAt kX9_lineAt 1 := ⟨bX9_lineAt, (Or.inl (th_mW 730 (by decide +kernel) rfl)), (th_mW 732 (by decide +kernel) rfl), (th_mS 45 (by decide +kernel) rfl)⟩
theorem l_L_99 : th_cV RL 99 yX9_holds kX9_holds 1 := ⟨bX9_holds, (Or.inl (th_mW 734 (by decide +kernel) rfl)), (th_mW 735 (by decide +kernel) rfl), (th_mW 736 (by decide +kernel) rfl)⟩
theorem l_L_103 : th_cV RL 103 yX9_of kX9_of 2 := ⟨bX9_of, (Or.inl (th_mW 738 (by decide +kernel) rfl)), (th_mW 739 (by decide +kernel) rfl), (th_mW 740 (by decide +kernel) rfl)⟩
theorem l_L_107 : th_cV RL 107 yX9_fire kX9_fire 0 := ⟨bX9_fire, (Or.inl (th_mW 742 (by decide +kernel) rfl)), (th_mW 743 (by decide +kernel) rfl), (th_mW 744 (by decide +kernel) rfl)⟩
theorem l_X9_256 : th_cV RX9 256 yX9_loseCrossing kX9_loseCrossing 0 := ⟨bX9_loseCrossing, (Or.inl (th_mW 746 (by decide +kernel) rfl)), (th_mW 748 (by decide +kernel) rfl), (th_mS 46 (by decide +kernel) rfl)⟩
theorem l_X9_259 : th_cV RX9 259 yX9_judgeCrossing kX9_judgeCrossing 1 := ⟨bX9_judgeCrossing, (Or.inl (th_mW 750 (by decide +kernel) rfl)), (th_mW 752 (by decide +kernel) rfl), (th_mS 47 (by decide +kernel) rfl)⟩
theorem l_X9_284 : th_cV RX9 284 yX9_holdingLines kX9_holdingLines 0 := ⟨bX9_holdingLines, (Or.inl (th_mW 754 (by decide +kernel) rfl)), (th_mW 756 (by decide +kernel) rfl), (th_mS 48 (by decide +kernel) rfl)⟩
theorem l_X9_305 : th_cV RX9 305 yX9_passLines kX9_passLines 1 := ⟨bX9_passLines, (Or.inl (th_mW 758 (by decide +kernel) rfl)), (th_mW 760 (by decide +kernel) rfl), (th_mS 49 (by decide +kernel) rfl)⟩
theorem l_X9_318 : th_cV RX9 318 yX2_countPasses kX2_countPasses 0 := ⟨bX2_countPasses, (Or.inr ⟨"TriggerHall", (th_mN 762 (by decide +kernel) rfl)⟩), (th_mW 764 (by decide +kernel) rfl), (th_mS 50 (by decide +kernel) rfl)⟩
theorem l_X9_308 : th_cV RX9 308 yX9_barLines kX9_barLines 0 := ⟨bX9_barLines, (Or.inl (th_mW 766 (by decide +kernel) rfl)), (th_mW 768 (by decide +kernel) rfl), (th_mS 51 (by decide +kernel) rfl)⟩
theorem l_X9_311 : th_cV RX9 311 yX9_creditLines kX9_creditLines 1 := ⟨bX9_creditLines, (Or.inl (th_mW 770 (by decide +kernel) rfl)), (th_mW 772 (by decide +kernel) rfl), (th_mS 52 (by decide +kernel) rfl)⟩
theorem l_X9_322 : th_cV RX9 322 yX2_credit kX2_credit 1 := ⟨bX2_credit, (Or.inr ⟨"TriggerHall", (th_mN 774 (by decide +kernel) rfl)⟩), (th_mW 776 (by decide +kernel) rfl), (th_mS 53 (by decide +kernel) rfl)⟩
theorem l_X9_314 : th_cV RX9 314 yX4_keep kX4_keep 3 := ⟨bX4_keep, (Or.inr ⟨"TriggerHall", (th_mN 778 (by decide +kernel) rfl)⟩), (th_mW 780 (by decide +kernel) rfl), (th_mS 54 (by decide +kernel) rfl)⟩
theorem l_X4_38 : th_cV RX4 38 yX4_slotOf kX4_slotOf 1 := ⟨bX4_slotOf, (Or.inl (th_mW 782 (by decide +kernel) rfl)), (th_mW 784 (by decide +kernel) rfl), (th_mS 55 (by decide +kernel) rfl)⟩
theorem l_X4_35 : th_cS RX4 35 yJ9_floorMod_7cf53 kJ9_floorMod_7cf53 2 := ⟨bJ9_floorMod_7cf53, (Or.inl (th_mW 786 (by decide +kernel) rfl)), (th_mW 787 (by decide +kernel) rfl)⟩
theorem l_L_111 : th_cV RL 111 yX9_rest kX9_rest 1 := ⟨bX9_rest, (Or.inl (th_mW 789 (by decide +kernel) rfl)), (th_mW 790 (by decide +kernel) rfl), (th_mW 791 (by decide +kernel) rfl)⟩
theorem l_L_115 : th_cV RL 115 yX9_many kX9_many 1 := ⟨bX9_many, (Or.inl (th_mW 793 (by decide +kernel) rfl)), (th_mW 794 (by decide +kernel) rfl), (th_mW 795 (by decide +kernel) rfl)⟩
theorem l_X9_272 : th_cV RX9 272 yX4_size kX4_size 0 := ⟨bX4_size, (Or.inr ⟨"TriggerHall", (th_mN 797 (by decide +kernel) rfl)⟩), (th_mW 799 (by decide +kernel) rfl), (th_mS 56 (by decide +kernel) rfl)⟩
theorem l_X4_25 : th_cS RX4 25 yJ9_min_7cf53 kJ9_min_7cf53 2 := ⟨bJ9_min_7cf53, (Or.inl (th_mW 801 (by decide +kernel) rfl)), (th_mW 435 (by decide +kernel) rfl)⟩
theorem l_L_119 : th_cV RL 119 yX9_raw kX9_raw 2 := ⟨bX9_raw, (Or.inl (th_mW 802 (by decide +kernel) rfl)), (th_mW 803 (by decide +kernel) rfl), (th_mW 804 (by decide +kernel) rfl)⟩
theorem l_X9_273 : th_cV RX9 273 yX4_has kX4_has 1 := ⟨bX4_has, (Or.inr ⟨"TriggerHall", (th_mN 806 (by decide +kernel) rfl)⟩), (th_mW 808 (by decide +kernel) rfl), (th_mS 57 (by decide +kernel) rfl)⟩
theorem l_X4_31 : th_cV RX4 31 yX4_size kX4_size 0 := ⟨bX4_size, (Or.inl (th_mW 810 (by decide +kernel) rfl)), (th_mW 799 (by decide +kernel) rfl), (th_mS 56 (by decide +kernel) rfl)⟩
theorem l_X9_274 : th_cV RX9 274 yX4_numberOf kX4_numberOf 1 := ⟨bX4_numberOf, (Or.inr ⟨"TriggerHall", (th_mN 811 (by decide +kernel) rfl)⟩), (th_mW 813 (by decide +kernel) rfl), (th_mS 58 (by decide +kernel) rfl)⟩
theorem l_X9_277 : th_cV RX9 277 yX4_passedAt kX4_passedAt 1 := ⟨bX4_passedAt, (Or.inr ⟨"TriggerHall", (th_mN 815 (by decide +kernel) rfl)⟩), (th_mW 817 (by decide +kernel) rfl), (th_mS 59 (by decide +kernel) rfl)⟩
theorem l_X9_280 : th_cV RX9 280 yX4_copyHits kX4_copyHits 2 := ⟨bX4_copyHits, (Or.inr ⟨"TriggerHall", (th_mN 819 (by decide +kernel) rfl)⟩), (th_mW 821 (by decide +kernel) rfl), (th_mS 60 (by decide +kernel) rfl)⟩
theorem l_L_123 : th_cV RL 123 yX9_again kX9_again 1 := ⟨bX9_again, (Or.inl (th_mW 823 (by decide +kernel) rfl)), (th_mW 824 (by decide +kernel) rfl), (th_mW 825 (by decide +kernel) rfl)⟩
theorem l_L_127 : th_cV RL 127 yX9_anew kX9_anew 0 := ⟨bX9_anew, (Or.inl (th_mW 827 (by decide +kernel) rfl)), (th_mW 828 (by decide +kernel) rfl), (th_mW 829 (by decide +kernel) rfl)⟩
theorem l_X9_291 : th_cV RX9 291 yX2_forget kX2_forget 0 := ⟨bX2_forget, (Or.inr ⟨"TriggerHall", (th_mN 831 (by decide +kernel) rfl)⟩), (th_mW 833 (by decide +kernel) rfl), (th_mS 61 (by decide +kernel) rfl)⟩
theorem l_L_12 : th_cI RL 12 yX10_init kX10_init 0 := ⟨bX10_init, (Or.inl (th_mW 837 (by decide +kernel) rfl)), (th_mW 838 (by decide +kernel) rfl), rfl, rfl⟩
theorem l_X10_1 : Cond.methodLink RX10 1 objectInit ∈ th_W := (th_mW 840 (by decide +kernel) rfl)
theorem l_L_17 : th_cV RL 17 yX10_sheet kX10_sheet 3 := ⟨bX10_sheet, (Or.inl (th_mW 967 (by decide +kernel) rfl)), (th_mW 968 (by decide +kernel) rfl), (th_mW 969 (by decide +kernel) rfl)⟩
theorem l_X10_95 : th_cS RX10 95 yX10_in kX10_in 3 := ⟨bX10_in, (Or.inl (th_mW 972 (by decide +kernel) rfl)), (th_mW 973 (by decide +kernel) rfl)⟩
theorem l_L_21 : th_cV RL 21 yX10_cell kX10_cell 3 := ⟨bX10_cell, (Or.inl (th_mW 975 (by decide +kernel) rfl)), (th_mW 976 (by decide +kernel) rfl), (th_mW 977 (by decide +kernel) rfl)⟩
theorem l_L_26 : th_cV RL 26 yX10_lose kX10_lose 1 := ⟨bX10_lose, (Or.inl (th_mW 979 (by decide +kernel) rfl)), (th_mW 980 (by decide +kernel) rfl), (th_mW 981 (by decide +kernel) rfl)⟩
theorem l_L_31 : th_cV RL 31 yX10_hits kX10_hits 2 := ⟨bX10_hits, (Or.inl (th_mW 983 (by decide +kernel) rfl)), (th_mW 984 (by decide +kernel) rfl), (th_mW 985 (by decide +kernel) rfl)⟩
theorem l_X10_105 : th_cS RX10 105 yX10_isLayer kX10_isLayer 1 := ⟨bX10_isLayer, (Or.inl (th_mW 987 (by decide +kernel) rfl)), (th_mW 988 (by decide +kernel) rfl)⟩
theorem l_X10_101 : th_cS RX10 101 yX10_bitsOf kX10_bitsOf 1 := ⟨bX10_bitsOf, (Or.inl (th_mW 992 (by decide +kernel) rfl)), (th_mW 993 (by decide +kernel) rfl)⟩
theorem l_L_35 : th_cV RL 35 yX10_load kX10_load 2 := ⟨bX10_load, (Or.inl (th_mW 995 (by decide +kernel) rfl)), (th_mW 996 (by decide +kernel) rfl), (th_mW 997 (by decide +kernel) rfl)⟩
theorem l_X10_112 : th_cV RX10 112 yX10_allHits kX10_allHits 0 := ⟨bX10_allHits, (Or.inl (th_mW 1000 (by decide +kernel) rfl)), (th_mW 1002 (by decide +kernel) rfl), (th_mS 62 (by decide +kernel) rfl)⟩
theorem l_L_39 : th_cV RL 39 yX10_mask kX10_mask 3 := ⟨bX10_mask, (Or.inl (th_mW 1004 (by decide +kernel) rfl)), (th_mW 1005 (by decide +kernel) rfl), (th_mW 1006 (by decide +kernel) rfl)⟩
theorem l_L_43 : th_cV RL 43 yX10_layer kX10_layer 2 := ⟨bX10_layer, (Or.inl (th_mW 1008 (by decide +kernel) rfl)), (th_mW 1009 (by decide +kernel) rfl), (th_mW 1010 (by decide +kernel) rfl)⟩
theorem l_X10_116 : th_cV RX10 116 yX10_seen kX10_seen 1 := ⟨bX10_seen, (Or.inl (th_mW 1012 (by decide +kernel) rfl)), (th_mW 1014 (by decide +kernel) rfl), (th_mS 63 (by decide +kernel) rfl)⟩
theorem l_L_48 : th_cV RL 48 yX10_road kX10_road 6 := ⟨bX10_road, (Or.inl (th_mW 1016 (by decide +kernel) rfl)), (th_mW 1017 (by decide +kernel) rfl), (th_mW 1018 (by decide +kernel) rfl)⟩
theorem l_X10_119 : th_cS RX10 119 yX10_isSpan kX10_isSpan 1 := ⟨bX10_isSpan, (Or.inl (th_mW 1020 (by decide +kernel) rfl)), (th_mW 1021 (by decide +kernel) rfl)⟩
theorem l_L_52 : th_cV RL 52 yX10_span kX10_span 3 := ⟨bX10_span, (Or.inl (th_mW 1024 (by decide +kernel) rfl)), (th_mW 1025 (by decide +kernel) rfl), (th_mW 1026 (by decide +kernel) rfl)⟩
theorem l_X10_128 : th_cV RX10 128 yX10_isRoad kX10_isRoad 1 := ⟨bX10_isRoad, (Or.inl (th_mW 1028 (by decide +kernel) rfl)), (th_mW 1030 (by decide +kernel) rfl), (th_mS 64 (by decide +kernel) rfl)⟩
theorem l_L_57 : th_cV RL 57 yX10_lit kX10_lit 0 := ⟨bX10_lit, (Or.inl (th_mW 1032 (by decide +kernel) rfl)), (th_mW 1033 (by decide +kernel) rfl), (th_mW 1034 (by decide +kernel) rfl)⟩
theorem l_X10_139 : th_cV RX10 139 yX10_isLit kX10_isLit 1 := ⟨bX10_isLit, (Or.inl (th_mW 1036 (by decide +kernel) rfl)), (th_mW 1038 (by decide +kernel) rfl), (th_mS 65 (by decide +kernel) rfl)⟩
theorem l_X10_135 : th_cV RX10 135 yX10_heldBy kX10_heldBy 2 := ⟨bX10_heldBy, (Or.inl (th_mW 1040 (by decide +kernel) rfl)), (th_mW 1042 (by decide +kernel) rfl), (th_mS 66 (by decide +kernel) rfl)⟩
theorem l_X10_131 : th_cV RX10 131 yX10_isIn kX10_isIn 3 := ⟨bX10_isIn, (Or.inl (th_mW 1044 (by decide +kernel) rfl)), (th_mW 1046 (by decide +kernel) rfl), (th_mS 67 (by decide +kernel) rfl)⟩
theorem l_L_61 : th_cV RL 61 yX10_held kX10_held 1 := ⟨bX10_held, (Or.inl (th_mW 1048 (by decide +kernel) rfl)), (th_mW 1049 (by decide +kernel) rfl), (th_mW 1050 (by decide +kernel) rfl)⟩
theorem l_L_65 : th_cV RL 65 yX10_track kX10_track 2 := ⟨bX10_track, (Or.inl (th_mW 1052 (by decide +kernel) rfl)), (th_mW 1053 (by decide +kernel) rfl), (th_mW 1054 (by decide +kernel) rfl)⟩
theorem l_X10_152 : th_cV RX10 152 yX10_findTrack kX10_findTrack 1 := ⟨bX10_findTrack, (Or.inl (th_mW 1056 (by decide +kernel) rfl)), (th_mW 1058 (by decide +kernel) rfl), (th_mS 68 (by decide +kernel) rfl)⟩
theorem l_X10_148 : th_cV RX10 148 yX10_findFrom kX10_findFrom 3 := ⟨bX10_findFrom, (Or.inl (th_mW 1060 (by decide +kernel) rfl)), (th_mW 1062 (by decide +kernel) rfl), (th_mS 69 (by decide +kernel) rfl)⟩
theorem l_X10_145 : th_cV RX10 145 yX10_miss kX10_miss 1 := ⟨bX10_miss, (Or.inl (th_mW 1064 (by decide +kernel) rfl)), (th_mW 1066 (by decide +kernel) rfl), (th_mS 70 (by decide +kernel) rfl)⟩
theorem l_L_69 : th_cV RL 69 yX10_miss_ kX10_miss_ 2 := ⟨bX10_miss_, (Or.inl (th_mW 1068 (by decide +kernel) rfl)), (th_mW 1069 (by decide +kernel) rfl), (th_mW 1070 (by decide +kernel) rfl)⟩
theorem l_X10_155 : th_cS RX10 155 yX10_common kX10_common 2 := ⟨bX10_common, (Or.inl (th_mW 1072 (by decide +kernel) rfl)), (th_mW 1073 (by decide +kernel) rfl)⟩
theorem l_L_73 : th_cV RL 73 yX10_weight kX10_weight 1 := ⟨bX10_weight, (Or.inl (th_mW 1075 (by decide +kernel) rfl)), (th_mW 1076 (by decide +kernel) rfl), (th_mW 1077 (by decide +kernel) rfl)⟩
theorem l_X10_159 : th_cV RX10 159 yX10_weightOf kX10_weightOf 1 := ⟨bX10_weightOf, (Or.inl (th_mW 1079 (by decide +kernel) rfl)), (th_mW 1081 (by decide +kernel) rfl), (th_mS 71 (by decide +kernel) rfl)⟩
theorem l_L_77 : th_cV RL 77 yX10_heap kX10_heap 1 := ⟨bX10_heap, (Or.inl (th_mW 1083 (by decide +kernel) rfl)), (th_mW 1084 (by decide +kernel) rfl), (th_mW 1085 (by decide +kernel) rfl)⟩
theorem l_X10_172 : th_cV RX10 172 yX10_findHeap kX10_findHeap 0 := ⟨bX10_findHeap, (Or.inl (th_mW 1087 (by decide +kernel) rfl)), (th_mW 1089 (by decide +kernel) rfl), (th_mS 72 (by decide +kernel) rfl)⟩
theorem l_X10_168 : th_cV RX10 168 yX10_areApart kX10_areApart 2 := ⟨bX10_areApart, (Or.inl (th_mW 1091 (by decide +kernel) rfl)), (th_mW 1093 (by decide +kernel) rfl), (th_mS 73 (by decide +kernel) rfl)⟩
theorem l_L_81 : th_cV RL 81 yX10_blind kX10_blind 0 := ⟨bX10_blind, (Or.inl (th_mW 1095 (by decide +kernel) rfl)), (th_mW 1096 (by decide +kernel) rfl), (th_mW 1097 (by decide +kernel) rfl)⟩
theorem l_L_85 : th_cV RL 85 yX10_feed kX10_feed 1 := ⟨bX10_feed, (Or.inl (th_mW 1099 (by decide +kernel) rfl)), (th_mW 1100 (by decide +kernel) rfl), (th_mW 1101 (by decide +kernel) rfl)⟩
theorem l_L_89 : th_cV RL 89 yX10_clear kX10_clear 0 := ⟨bX10_clear, (Or.inl (th_mW 1103 (by decide +kernel) rfl)), (th_mW 1104 (by decide +kernel) rfl), (th_mW 1105 (by decide +kernel) rfl)⟩
theorem l_L_94 : th_cV RL 94 yX10_line kX10_line 2 := ⟨bX10_line, (Or.inl (th_mW 1107 (by decide +kernel) rfl)), (th_mW 1108 (by decide +kernel) rfl), (th_mW 1109 (by decide +kernel) rfl)⟩
theorem l_X10_189 : th_cV RX10 189 yX10_faultOf kX10_faultOf 0 := ⟨bX10_faultOf, (Or.inl (th_mW 1112 (by decide +kernel) rfl)), (th_mW 1114 (by decide +kernel) rfl), (th_mS 74 (by decide +kernel) rfl)⟩
theorem l_X10_178 : th_cS RX10 178 yX10_isName kX10_isName 1 := ⟨bX10_isName, (Or.inl (th_mW 1116 (by decide +kernel) rfl)), (th_mW 1117 (by decide +kernel) rfl)⟩
theorem l_X10_181 : th_cS RX10 181 yX10_isFigure kX10_isFigure 1 := ⟨bX10_isFigure, (Or.inl (th_mW 1119 (by decide +kernel) rfl)), (th_mW 1120 (by decide +kernel) rfl)⟩
theorem l_L_98 : th_cV RL 98 yX10_thin kX10_thin 2 := ⟨bX10_thin, (Or.inl (th_mW 1122 (by decide +kernel) rfl)), (th_mW 1123 (by decide +kernel) rfl), (th_mW 1124 (by decide +kernel) rfl)⟩
theorem l_X10_192 : th_cV RX10 192 yX10_isLine kX10_isLine 1 := ⟨bX10_isLine, (Or.inl (th_mW 1126 (by decide +kernel) rfl)), (th_mW 1128 (by decide +kernel) rfl), (th_mS 75 (by decide +kernel) rfl)⟩
theorem l_L_102 : th_cV RL 102 yX10_holds kX10_holds 1 := ⟨bX10_holds, (Or.inl (th_mW 1130 (by decide +kernel) rfl)), (th_mW 1131 (by decide +kernel) rfl), (th_mW 1132 (by decide +kernel) rfl)⟩
theorem l_X10_217 : th_cV RX10 217 yX10_holding kX10_holding 0 := ⟨bX10_holding, (Or.inl (th_mW 1134 (by decide +kernel) rfl)), (th_mW 1136 (by decide +kernel) rfl), (th_mS 76 (by decide +kernel) rfl)⟩
theorem l_X10_211 : th_cV RX10 211 yX10_any kX10_any 0 := ⟨bX10_any, (Or.inl (th_mW 1138 (by decide +kernel) rfl)), (th_mW 1140 (by decide +kernel) rfl), (th_mS 77 (by decide +kernel) rfl)⟩
theorem l_X10_201 : th_cV RX10 201 yX10_both kX10_both 0 := ⟨bX10_both, (Or.inl (th_mW 1142 (by decide +kernel) rfl)), (th_mW 1144 (by decide +kernel) rfl), (th_mS 78 (by decide +kernel) rfl)⟩
theorem l_X10_208 : th_cV RX10 208 yX10_one kX10_one 0 := ⟨bX10_one, (Or.inl (th_mW 1146 (by decide +kernel) rfl)), (th_mW 1148 (by decide +kernel) rfl), (th_mS 79 (by decide +kernel) rfl)⟩
theorem l_X10_205 : th_cV RX10 205 yX10_letter kX10_letter 0 := ⟨bX10_letter, (Or.inl (th_mW 1150 (by decide +kernel) rfl)), (th_mW 1152 (by decide +kernel) rfl), (th_mS 80 (by decide +kernel) rfl)⟩
theorem l_X10_214 : th_cV RX10 214 yX10_is kX10_is 2 := ⟨bX10_is, (Or.inl (th_mW 1154 (by decide +kernel) rfl)), (th_mW 1156 (by decide +kernel) rfl), (th_mS 81 (by decide +kernel) rfl)⟩
theorem l_L_106 : th_cV RL 106 yX10_of kX10_of 2 := ⟨bX10_of, (Or.inl (th_mW 1158 (by decide +kernel) rfl)), (th_mW 1159 (by decide +kernel) rfl), (th_mW 1160 (by decide +kernel) rfl)⟩
theorem l_L_110 : th_cV RL 110 yX10_fire kX10_fire 0 := ⟨bX10_fire, (Or.inl (th_mW 1162 (by decide +kernel) rfl)), (th_mW 1163 (by decide +kernel) rfl), (th_mW 1164 (by decide +kernel) rfl)⟩
theorem l_X10_238 : th_cV RX10 238 yX10_look kX10_look 0 := ⟨bX10_look, (Or.inl (th_mW 1166 (by decide +kernel) rfl)), (th_mW 1168 (by decide +kernel) rfl), (th_mS 82 (by decide +kernel) rfl)⟩
theorem l_X10_241 : th_cV RX10 241 yX10_noHits kX10_noHits 0 := ⟨bX10_noHits, (Or.inl (th_mW 1170 (by decide +kernel) rfl)), (th_mW 1172 (by decide +kernel) rfl), (th_mS 83 (by decide +kernel) rfl)⟩
theorem l_L_114 : th_cV RL 114 yX10_rest kX10_rest 1 := ⟨bX10_rest, (Or.inl (th_mW 1174 (by decide +kernel) rfl)), (th_mW 1175 (by decide +kernel) rfl), (th_mW 1176 (by decide +kernel) rfl)⟩
theorem l_L_118 : th_cV RL 118 yX10_many kX10_many 1 := ⟨bX10_many, (Or.inl (th_mW 1179 (by decide +kernel) rfl)), (th_mW 1180 (by decide +kernel) rfl), (th_mW 1181 (by decide +kernel) rfl)⟩
theorem l_X10_246 : th_cV RX10 246 yX10_raws kX10_raws 0 := ⟨bX10_raws, (Or.inl (th_mW 1183 (by decide +kernel) rfl)), (th_mW 1185 (by decide +kernel) rfl), (th_mS 84 (by decide +kernel) rfl)⟩
theorem l_L_122 : th_cV RL 122 yX10_raw kX10_raw 2 := ⟨bX10_raw, (Or.inl (th_mW 1187 (by decide +kernel) rfl)), (th_mW 1188 (by decide +kernel) rfl), (th_mW 1189 (by decide +kernel) rfl)⟩
theorem l_X10_251 : th_cV RX10 251 yX10_rawAt kX10_rawAt 1 := ⟨bX10_rawAt, (Or.inl (th_mW 1192 (by decide +kernel) rfl)), (th_mW 1194 (by decide +kernel) rfl), (th_mS 85 (by decide +kernel) rfl)⟩
theorem l_L_126 : th_cV RL 126 yX10_again kX10_again 1 := ⟨bX10_again, (Or.inl (th_mW 1196 (by decide +kernel) rfl)), (th_mW 1197 (by decide +kernel) rfl), (th_mW 1198 (by decide +kernel) rfl)⟩
theorem l_L_130 : th_cV RL 130 yX10_anew kX10_anew 0 := ⟨bX10_anew, (Or.inl (th_mW 1200 (by decide +kernel) rfl)), (th_mW 1201 (by decide +kernel) rfl), (th_mW 1202 (by decide +kernel) rfl)⟩
theorem l_oi1 : Cond.instanceMethod objectInit ∈ th_W := (th_mW 28 (by decide +kernel) rfl)
set_option maxRecDepth 20000 in
theorem l_oi2 : Cond.code objectInit ⟨#[0xb1]⟩ 1 none ∈ th_W := (th_mW 29 rfl rfl)
theorem n_L_7 : Cond.classLink RL 7 "TriggerHall" ∈ th_W := (th_mW 22 (by decide +kernel) rfl)
theorem i1_X9 : Cond.instantiable RX9 16 ∈ th_W := (th_mW 23 (by decide +kernel) rfl)
theorem i2_X9 : Cond.initialized RX9 ∈ th_W := (th_mW 1 (by decide +kernel) rfl)
theorem n_X9_7 : Cond.classLink RX9 7 "TriggerHall$Sheet" ∈ th_W := (th_mW 30 (by decide +kernel) rfl)
theorem i1_X7 : Cond.instantiable RX7 4 ∈ th_W := (th_mW 32 (by decide +kernel) rfl)
theorem i2_X7 : Cond.initialized RX7 ∈ th_W := (th_mW 2 (by decide +kernel) rfl)
theorem ac_int : Cond.arrayClass .int ∈ th_W := (th_mW 51 (by decide +kernel) rfl)
theorem n_X9_26 : Cond.classLink RX9 26 "java/util/ArrayList" ∈ th_W := (th_mW 52 (by decide +kernel) rfl)
theorem i1_Jx4a65c : Cond.instantiable RJx4a65c 3 ∈ th_W := (th_mW 53 (by decide +kernel) rfl)
theorem i2_Jx4a65c : Cond.initialized RJx4a65c ∈ th_W := (th_mW 5 (by decide +kernel) rfl)
theorem n_X9_33 : Cond.classLink RX9 33 "TriggerHall$Look" ∈ th_W := (th_mW 78 (by decide +kernel) rfl)
theorem i1_X3 : Cond.instantiable RX3 6 ∈ th_W := (th_mW 79 (by decide +kernel) rfl)
theorem i2_X3 : Cond.initialized RX3 ∈ th_W := (th_mW 6 (by decide +kernel) rfl)
theorem n_X3_15 : Cond.classLink RX3 15 "TriggerHall$Fit" ∈ th_W := (th_mW 84 (by decide +kernel) rfl)
theorem i1_X0 : Cond.instantiable RX0 7 ∈ th_W := (th_mW 85 (by decide +kernel) rfl)
theorem i2_X0 : Cond.initialized RX0 ∈ th_W := (th_mW 7 (by decide +kernel) rfl)
theorem n_X3_22 : Cond.classLink RX3 22 "TriggerHall$Heap" ∈ th_W := (th_mW 114 (by decide +kernel) rfl)
theorem i1_X1 : Cond.instantiable RX1 7 ∈ th_W := (th_mW 115 (by decide +kernel) rfl)
theorem i2_X1 : Cond.initialized RX1 ∈ th_W := (th_mW 8 (by decide +kernel) rfl)
theorem n_X9_40 : Cond.classLink RX9 40 "TriggerHall$Text" ∈ th_W := (th_mW 169 (by decide +kernel) rfl)
theorem i1_X8 : Cond.instantiable RX8 2 ∈ th_W := (th_mW 170 (by decide +kernel) rfl)
theorem i2_X8 : Cond.initialized RX8 ∈ th_W := (th_mW 9 (by decide +kernel) rfl)
theorem ac_char : Cond.arrayClass .char ∈ th_W := (th_mW 184 (by decide +kernel) rfl)
theorem n_X9_47 : Cond.classLink RX9 47 "TriggerHall$Reader" ∈ th_W := (th_mW 185 (by decide +kernel) rfl)
theorem i1_X5 : Cond.instantiable RX5 4 ∈ th_W := (th_mW 186 (by decide +kernel) rfl)
theorem i2_X5 : Cond.initialized RX5 ∈ th_W := (th_mW 10 (by decide +kernel) rfl)
theorem n_X9_57 : Cond.classLink RX9 57 "TriggerHall$Raws" ∈ th_W := (th_mW 205 (by decide +kernel) rfl)
theorem i1_X4 : Cond.instantiable RX4 4 ∈ th_W := (th_mW 206 (by decide +kernel) rfl)
theorem i2_X4 : Cond.initialized RX4 ∈ th_W := (th_mW 11 (by decide +kernel) rfl)
theorem q_X9_101 : Cond.constant RX9 101 (65535 : Int32) ∈ th_W := (th_mW 313 (by decide +kernel) rfl)
theorem q_J6_265 : Cond.constant RJ6 265 (1431655765 : Int32) ∈ th_W := (th_mW 317 (by decide +kernel) rfl)
theorem q_J6_266 : Cond.constant RJ6 266 (858993459 : Int32) ∈ th_W := (th_mW 318 (by decide +kernel) rfl)
theorem q_J6_267 : Cond.constant RJ6 267 (252645135 : Int32) ∈ th_W := (th_mW 319 (by decide +kernel) rfl)
theorem n_X9_115 : Cond.classLink RX9 115 "TriggerHall$Road" ∈ th_W := (th_mW 356 (by decide +kernel) rfl)
theorem i1_X6 : Cond.instantiable RX6 3 ∈ th_W := (th_mW 357 (by decide +kernel) rfl)
theorem i2_X6 : Cond.initialized RX6 ∈ th_W := (th_mW 14 (by decide +kernel) rfl)
theorem q_J8_200 : Cond.constant RJ8 200 (2147483639 : Int32) ∈ th_W := (th_mW 405 (by decide +kernel) rfl)
theorem n_J7_110 : Cond.classLink RJ7 110 "[Ljava/lang/Object;" ∈ th_W := (th_mW 431 (by decide +kernel) rfl)
theorem n_J7_2 : Cond.classLink RJ7 2 "java/lang/Object" ∈ th_W := (th_mW 433 (by decide +kernel) rfl)
theorem n_Jx4a65c_7 : Cond.classLink RJx4a65c 7 "java/lang/Object" ∈ th_W := (th_mW 441 (by decide +kernel) rfl)
theorem n_X3_53 : Cond.classLink RX3 53 "TriggerHall$Road" ∈ th_W := (th_mW 490 (by decide +kernel) rfl)
theorem q_X0_37 : Cond.constant RX0 37 (1073741824 : Int32) ∈ th_W := (th_mW 526 (by decide +kernel) rfl)
theorem q_J6_264 : Cond.constant RJ6 264 (65536 : Int32) ∈ th_W := (th_mW 538 (by decide +kernel) rfl)
theorem n_X9_220 : Cond.classLink RX9 220 "TriggerHall$Line" ∈ th_W := (th_mW 684 (by decide +kernel) rfl)
theorem i1_X2 : Cond.instantiable RX2 7 ∈ th_W := (th_mW 685 (by decide +kernel) rfl)
theorem i2_X2 : Cond.initialized RX2 ∈ th_W := (th_mW 21 (by decide +kernel) rfl)
theorem n_X2_7 : Cond.classLink RX2 7 "TriggerHall$Text" ∈ th_W := (th_mW 690 (by decide +kernel) rfl)
theorem n_L_10 : Cond.classLink RL 10 "TriggerHallModel" ∈ th_W := (th_mW 835 (by decide +kernel) rfl)
theorem i1_X10 : Cond.instantiable RX10 41 ∈ th_W := (th_mW 836 (by decide +kernel) rfl)
theorem i2_X10 : Cond.initialized RX10 ∈ th_W := (th_mW 12 (by decide +kernel) rfl)
theorem ac_byte : Cond.arrayClass .byte ∈ th_W := (th_mW 965 (by decide +kernel) rfl)
theorem ac_boolean : Cond.arrayClass .boolean ∈ th_W := (th_mW 966 (by decide +kernel) rfl)
theorem q_X10_99 : Cond.constantLong RX10 99 (2 : Int64) ∈ th_W := (th_mW 971 (by decide +kernel) rfl)
theorem q_X10_93 : Cond.constantLong RX10 93 (4 : Int64) ∈ th_W := (th_mW 990 (by decide +kernel) rfl)
theorem q_X10_109 : Cond.constantLong RX10 109 (65535 : Int64) ∈ th_W := (th_mW 991 (by decide +kernel) rfl)
theorem q_X10_111 : Cond.constant RX10 111 (65535 : Int32) ∈ th_W := (th_mW 999 (by decide +kernel) rfl)
theorem q_X10_122 : Cond.constantLong RX10 122 (5 : Int64) ∈ th_W := (th_mW 1023 (by decide +kernel) rfl)
theorem q_X10_184 : Cond.constantLong RX10 184 (100 : Int64) ∈ th_W := (th_mW 1111 (by decide +kernel) rfl)
theorem q_X10_244 : Cond.constantLong RX10 244 (20 : Int64) ∈ th_W := (th_mW 1178 (by decide +kernel) rfl)
theorem q_X10_249 : Cond.constantLong RX10 249 (7 : Int64) ∈ th_W := (th_mW 1191 (by decide +kernel) rfl)
