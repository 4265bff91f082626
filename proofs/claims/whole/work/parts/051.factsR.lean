/-! What the tables say of the model, of fields and of calls. -/
set_option maxRecDepth 100000 in
theorem inR : ∀ w ∈ u_ws RX1 TR1 7, w ∈ tG := fun w h => tG_in ((show ∀ w ∈ u_ws RX1 TR1 7, w ∈ lw_tbl by decide +kernel) w h) (List.all_eq_true.mp (show (u_ws RX1 TR1 7).all goodWord = true by decide +kernel) w h)
set_option maxRecDepth 100000 in
theorem flR_7 : Cond.fieldLink RX1 7 RX1 (TR1 2).2.1 (TR1 2).2.2.1 ∈ tG := tG_in (List.mem_of_getElem? (i := 442) (by decide +kernel)) (by decide +kernel)
set_option maxRecDepth 100000 in
theorem flR_13 : Cond.fieldLink RX1 13 RX1 (TR1 4).2.1 (TR1 4).2.2.1 ∈ tG := tG_in (List.mem_of_getElem? (i := 444) (by decide +kernel)) (by decide +kernel)
set_option maxRecDepth 100000 in
theorem flR_17 : Cond.fieldLink RX1 17 RX1 (TR1 5).2.1 (TR1 5).2.2.1 ∈ tG := tG_in (List.mem_of_getElem? (i := 445) (by decide +kernel)) (by decide +kernel)
set_option maxRecDepth 100000 in
theorem flR_20 : Cond.fieldLink RX1 20 RX1 (TR1 6).2.1 (TR1 6).2.2.1 ∈ tG := tG_in (List.mem_of_getElem? (i := 446) (by decide +kernel)) (by decide +kernel)
set_option maxRecDepth 100000 in
theorem flR_23 : Cond.fieldLink RX1 23 RX1 (TR1 0).2.1 (TR1 0).2.2.1 ∈ tG := tG_in (List.mem_of_getElem? (i := 440) (by decide +kernel)) (by decide +kernel)
set_option maxRecDepth 100000 in
theorem flR_27 : Cond.fieldLink RX1 27 RX1 (TR1 1).2.1 (TR1 1).2.2.1 ∈ tG := tG_in (List.mem_of_getElem? (i := 441) (by decide +kernel)) (by decide +kernel)
set_option maxRecDepth 100000 in
theorem flR_34 : Cond.fieldLink RX1 34 RX1 (TR1 3).2.1 (TR1 3).2.2.1 ∈ tG := tG_in (List.mem_of_getElem? (i := 443) (by decide +kernel)) (by decide +kernel)
set_option maxRecDepth 100000 in
theorem kR_30 : kS RX1 30 yX1_isColumn cX1_isColumn 1 (some .boolean) 1 := ⟨⟨tG_in (List.mem_of_getElem? (i := 478) (by decide +kernel)) (by decide +kernel), tG_in (List.mem_of_getElem? (i := 480) (by decide +kernel)) (by decide +kernel), tG_in (List.mem_of_getElem? (i := 35) (by decide +kernel)) (by decide +kernel), by decide +kernel, by decide +kernel, by decide +kernel⟩, tG_in (List.mem_of_getElem? (i := 479) (by decide +kernel)) (by decide +kernel)⟩
set_option maxRecDepth 100000 in
theorem kR_37 : kS RX1 37 yX1_holds cX1_holds 5 (some .boolean) 3 := ⟨⟨tG_in (List.mem_of_getElem? (i := 501) (by decide +kernel)) (by decide +kernel), tG_in (List.mem_of_getElem? (i := 503) (by decide +kernel)) (by decide +kernel), tG_in (List.mem_of_getElem? (i := 35) (by decide +kernel)) (by decide +kernel), by decide +kernel, by decide +kernel, by decide +kernel⟩, tG_in (List.mem_of_getElem? (i := 502) (by decide +kernel)) (by decide +kernel)⟩
set_option maxRecDepth 100000 in
theorem kR_41 : kV RX1 41 yX1_isChosen cX1_isChosen 4 (some .boolean) 1 := ⟨⟨tG_in (List.mem_of_getElem? (i := 497) (by decide +kernel)) (by decide +kernel), tG_in (List.mem_of_getElem? (i := 500) (by decide +kernel)) (by decide +kernel), tG_in (List.mem_of_getElem? (i := 35) (by decide +kernel)) (by decide +kernel), by decide +kernel, by decide +kernel, by decide +kernel⟩, tG_in (List.mem_of_getElem? (i := 499) (by decide +kernel)) (by decide +kernel), tG_in (List.mem_of_getElem? (i := 24) (by decide +kernel)) (by decide +kernel)⟩
set_option maxRecDepth 100000 in
theorem kR_44 : kV RX1 44 yX1_countChosen cX1_countChosen 3 (some .int) 0 := ⟨⟨tG_in (List.mem_of_getElem? (i := 493) (by decide +kernel)) (by decide +kernel), tG_in (List.mem_of_getElem? (i := 496) (by decide +kernel)) (by decide +kernel), tG_in (List.mem_of_getElem? (i := 35) (by decide +kernel)) (by decide +kernel), by decide +kernel, by decide +kernel, by decide +kernel⟩, tG_in (List.mem_of_getElem? (i := 495) (by decide +kernel)) (by decide +kernel), tG_in (List.mem_of_getElem? (i := 23) (by decide +kernel)) (by decide +kernel)⟩
set_option maxRecDepth 100000 in
theorem kR_48 : kV RX1 48 yX1_least cX1_least 6 (some .long) 2 := ⟨⟨tG_in (List.mem_of_getElem? (i := 512) (by decide +kernel)) (by decide +kernel), tG_in (List.mem_of_getElem? (i := 515) (by decide +kernel)) (by decide +kernel), tG_in (List.mem_of_getElem? (i := 35) (by decide +kernel)) (by decide +kernel), by decide +kernel, by decide +kernel, by decide +kernel⟩, tG_in (List.mem_of_getElem? (i := 514) (by decide +kernel)) (by decide +kernel), tG_in (List.mem_of_getElem? (i := 25) (by decide +kernel)) (by decide +kernel)⟩
set_option maxRecDepth 100000 in
theorem kR_52 : kV RX1 52 yX1_greatest cX1_greatest 6 (some .long) 2 := ⟨⟨tG_in (List.mem_of_getElem? (i := 516) (by decide +kernel)) (by decide +kernel), tG_in (List.mem_of_getElem? (i := 519) (by decide +kernel)) (by decide +kernel), tG_in (List.mem_of_getElem? (i := 35) (by decide +kernel)) (by decide +kernel), by decide +kernel, by decide +kernel, by decide +kernel⟩, tG_in (List.mem_of_getElem? (i := 518) (by decide +kernel)) (by decide +kernel), tG_in (List.mem_of_getElem? (i := 26) (by decide +kernel)) (by decide +kernel)⟩
set_option maxRecDepth 100000 in
theorem kR_55 : kS RX1 55 yX1_could cX1_could 7 (some .boolean) 4 := ⟨⟨tG_in (List.mem_of_getElem? (i := 520) (by decide +kernel)) (by decide +kernel), tG_in (List.mem_of_getElem? (i := 522) (by decide +kernel)) (by decide +kernel), tG_in (List.mem_of_getElem? (i := 35) (by decide +kernel)) (by decide +kernel), by decide +kernel, by decide +kernel, by decide +kernel⟩, tG_in (List.mem_of_getElem? (i := 521) (by decide +kernel)) (by decide +kernel)⟩
set_option maxRecDepth 100000 in
theorem kR_59 : kS RX1 59 yX1_width cX1_width 5 (some .int) 1 := ⟨⟨tG_in (List.mem_of_getElem? (i := 539) (by decide +kernel)) (by decide +kernel), tG_in (List.mem_of_getElem? (i := 541) (by decide +kernel)) (by decide +kernel), tG_in (List.mem_of_getElem? (i := 35) (by decide +kernel)) (by decide +kernel), by decide +kernel, by decide +kernel, by decide +kernel⟩, tG_in (List.mem_of_getElem? (i := 540) (by decide +kernel)) (by decide +kernel)⟩
set_option maxRecDepth 100000 in
theorem kR_63 : kV RX1 63 yX1_need cX1_need 12 (some .int) 3 := ⟨⟨tG_in (List.mem_of_getElem? (i := 535) (by decide +kernel)) (by decide +kernel), tG_in (List.mem_of_getElem? (i := 538) (by decide +kernel)) (by decide +kernel), tG_in (List.mem_of_getElem? (i := 35) (by decide +kernel)) (by decide +kernel), by decide +kernel, by decide +kernel, by decide +kernel⟩, tG_in (List.mem_of_getElem? (i := 537) (by decide +kernel)) (by decide +kernel), tG_in (List.mem_of_getElem? (i := 29) (by decide +kernel)) (by decide +kernel)⟩
set_option maxRecDepth 100000 in
theorem kR_67 : kV RX1 67 yX1_lacks cX1_lacks 3 (some .boolean) 2 := ⟨⟨tG_in (List.mem_of_getElem? (i := 527) (by decide +kernel)) (by decide +kernel), tG_in (List.mem_of_getElem? (i := 530) (by decide +kernel)) (by decide +kernel), tG_in (List.mem_of_getElem? (i := 35) (by decide +kernel)) (by decide +kernel), by decide +kernel, by decide +kernel, by decide +kernel⟩, tG_in (List.mem_of_getElem? (i := 529) (by decide +kernel)) (by decide +kernel), tG_in (List.mem_of_getElem? (i := 27) (by decide +kernel)) (by decide +kernel)⟩
set_option maxRecDepth 100000 in
theorem kR_71 : kV RX1 71 yX1_best cX1_best 6 (some .int) 2 := ⟨⟨tG_in (List.mem_of_getElem? (i := 531) (by decide +kernel)) (by decide +kernel), tG_in (List.mem_of_getElem? (i := 534) (by decide +kernel)) (by decide +kernel), tG_in (List.mem_of_getElem? (i := 35) (by decide +kernel)) (by decide +kernel), by decide +kernel, by decide +kernel, by decide +kernel⟩, tG_in (List.mem_of_getElem? (i := 533) (by decide +kernel)) (by decide +kernel), tG_in (List.mem_of_getElem? (i := 28) (by decide +kernel)) (by decide +kernel)⟩
set_option maxRecDepth 100000 in
theorem kR_79 : kV RX1 79 yX1_isFirst cX1_isFirst 5 (some .boolean) 2 := ⟨⟨tG_in (List.mem_of_getElem? (i := 568) (by decide +kernel)) (by decide +kernel), tG_in (List.mem_of_getElem? (i := 571) (by decide +kernel)) (by decide +kernel), tG_in (List.mem_of_getElem? (i := 35) (by decide +kernel)) (by decide +kernel), by decide +kernel, by decide +kernel, by decide +kernel⟩, tG_in (List.mem_of_getElem? (i := 570) (by decide +kernel)) (by decide +kernel), tG_in (List.mem_of_getElem? (i := 31) (by decide +kernel)) (by decide +kernel)⟩
set_option maxRecDepth 100000 in
theorem kR_82 : kV RX1 82 yX1_countGroups cX1_countGroups 4 (some .int) 1 := ⟨⟨tG_in (List.mem_of_getElem? (i := 564) (by decide +kernel)) (by decide +kernel), tG_in (List.mem_of_getElem? (i := 567) (by decide +kernel)) (by decide +kernel), tG_in (List.mem_of_getElem? (i := 35) (by decide +kernel)) (by decide +kernel), by decide +kernel, by decide +kernel, by decide +kernel⟩, tG_in (List.mem_of_getElem? (i := 566) (by decide +kernel)) (by decide +kernel), tG_in (List.mem_of_getElem? (i := 30) (by decide +kernel)) (by decide +kernel)⟩
set_option maxRecDepth 100000 in
theorem kR_86 : kV RX1 86 yX1_firstOf cX1_firstOf 7 (some .int) 2 := ⟨⟨tG_in (List.mem_of_getElem? (i := 576) (by decide +kernel)) (by decide +kernel), tG_in (List.mem_of_getElem? (i := 579) (by decide +kernel)) (by decide +kernel), tG_in (List.mem_of_getElem? (i := 35) (by decide +kernel)) (by decide +kernel), by decide +kernel, by decide +kernel, by decide +kernel⟩, tG_in (List.mem_of_getElem? (i := 578) (by decide +kernel)) (by decide +kernel), tG_in (List.mem_of_getElem? (i := 32) (by decide +kernel)) (by decide +kernel)⟩
set_option maxRecDepth 100000 in
theorem ldR_75 : Cond.constantLong RX1 75 (-9223372036854775808) ∈ tG := tG_in (List.mem_of_getElem? (i := 554) (by decide +kernel)) (by decide +kernel)
set_option maxRecDepth 100000 in
theorem ldR_77 : Cond.constantLong RX1 77 9223372036854775807 ∈ tG := tG_in (List.mem_of_getElem? (i := 555) (by decide +kernel)) (by decide +kernel)
