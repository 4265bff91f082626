/-! What the tables say, of fields and of calls. -/
set_option maxRecDepth 100000 in
theorem inX : ∀ w ∈ u_ws RX0 TX0 11, w ∈ tG := fun w h => tG_in ((show ∀ w ∈ u_ws RX0 TX0 11, w ∈ lw_tbl by decide +kernel) w h) (List.all_eq_true.mp (show (u_ws RX0 TX0 11).all goodWord = true by decide +kernel) w h)
set_option maxRecDepth 100000 in
theorem flX_9 : Cond.fieldLink RX0 9 RX0 (TX0 0).2.1 (TX0 0).2.2.1 ∈ tG := tG_in (List.mem_of_getElem? (i := 52) (by decide +kernel)) (by decide +kernel)
set_option maxRecDepth 100000 in
theorem flX_13 : Cond.fieldLink RX0 13 RX0 (TX0 1).2.1 (TX0 1).2.2.1 ∈ tG := tG_in (List.mem_of_getElem? (i := 53) (by decide +kernel)) (by decide +kernel)
set_option maxRecDepth 100000 in
theorem flX_17 : Cond.fieldLink RX0 17 RX0 (TX0 2).2.1 (TX0 2).2.2.1 ∈ tG := tG_in (List.mem_of_getElem? (i := 54) (by decide +kernel)) (by decide +kernel)
set_option maxRecDepth 100000 in
theorem flX_21 : Cond.fieldLink RX0 21 RX0 (TX0 3).2.1 (TX0 3).2.2.1 ∈ tG := tG_in (List.mem_of_getElem? (i := 55) (by decide +kernel)) (by decide +kernel)
set_option maxRecDepth 100000 in
theorem flX_24 : Cond.fieldLink RX0 24 RX0 (TX0 4).2.1 (TX0 4).2.2.1 ∈ tG := tG_in (List.mem_of_getElem? (i := 56) (by decide +kernel)) (by decide +kernel)
set_option maxRecDepth 100000 in
theorem flX_27 : Cond.fieldLink RX0 27 RX0 (TX0 5).2.1 (TX0 5).2.2.1 ∈ tG := tG_in (List.mem_of_getElem? (i := 57) (by decide +kernel)) (by decide +kernel)
set_option maxRecDepth 100000 in
theorem flX_30 : Cond.fieldLink RX0 30 RX0 (TX0 6).2.1 (TX0 6).2.2.1 ∈ tG := tG_in (List.mem_of_getElem? (i := 58) (by decide +kernel)) (by decide +kernel)
set_option maxRecDepth 100000 in
theorem flX_33 : Cond.fieldLink RX0 33 RX0 (TX0 7).2.1 (TX0 7).2.2.1 ∈ tG := tG_in (List.mem_of_getElem? (i := 59) (by decide +kernel)) (by decide +kernel)
set_option maxRecDepth 100000 in
theorem flX_36 : Cond.fieldLink RX0 36 RX0 (TX0 8).2.1 (TX0 8).2.2.1 ∈ tG := tG_in (List.mem_of_getElem? (i := 60) (by decide +kernel)) (by decide +kernel)
set_option maxRecDepth 100000 in
theorem flX_39 : Cond.fieldLink RX0 39 RX0 (TX0 9).2.1 (TX0 9).2.2.1 ∈ tG := tG_in (List.mem_of_getElem? (i := 61) (by decide +kernel)) (by decide +kernel)
set_option maxRecDepth 100000 in
theorem flX_42 : Cond.fieldLink RX0 42 RX0 (TX0 10).2.1 (TX0 10).2.2.1 ∈ tG := tG_in (List.mem_of_getElem? (i := 62) (by decide +kernel)) (by decide +kernel)
set_option maxRecDepth 100000 in
theorem kX_52 : kS RX0 52 yX0_spot cX0_spot 2 (some .int) 2 := ⟨⟨tG_in (List.mem_of_getElem? (i := 133) (by decide +kernel)) (by decide +kernel), tG_in (List.mem_of_getElem? (i := 135) (by decide +kernel)) (by decide +kernel), tG_in (List.mem_of_getElem? (i := 34) (by decide +kernel)) (by decide +kernel), by decide +kernel, by decide +kernel, by decide +kernel⟩, tG_in (List.mem_of_getElem? (i := 134) (by decide +kernel)) (by decide +kernel)⟩
set_option maxRecDepth 100000 in
theorem kX_56 : kV RX0 56 yX0_packBlock cX0_packBlock 3 none 1 := ⟨⟨tG_in (List.mem_of_getElem? (i := 152) (by decide +kernel)) (by decide +kernel), tG_in (List.mem_of_getElem? (i := 155) (by decide +kernel)) (by decide +kernel), tG_in (List.mem_of_getElem? (i := 34) (by decide +kernel)) (by decide +kernel), by decide +kernel, by decide +kernel, by decide +kernel⟩, tG_in (List.mem_of_getElem? (i := 154) (by decide +kernel)) (by decide +kernel), tG_in (List.mem_of_getElem? (i := 8) (by decide +kernel)) (by decide +kernel)⟩
set_option maxRecDepth 100000 in
theorem kX_60 : kS RX0 60 yX0_refuseBadColumn cX0_refuseBadColumn 1 none 1 := ⟨⟨tG_in (List.mem_of_getElem? (i := 275) (by decide +kernel)) (by decide +kernel), tG_in (List.mem_of_getElem? (i := 277) (by decide +kernel)) (by decide +kernel), tG_in (List.mem_of_getElem? (i := 34) (by decide +kernel)) (by decide +kernel), by decide +kernel, by decide +kernel, by decide +kernel⟩, tG_in (List.mem_of_getElem? (i := 276) (by decide +kernel)) (by decide +kernel)⟩
set_option maxRecDepth 100000 in
theorem kX_75 : kV RX0 75 yX0_pick cX0_pick 3 (some .int) 0 := ⟨⟨tG_in (List.mem_of_getElem? (i := 100) (by decide +kernel)) (by decide +kernel), tG_in (List.mem_of_getElem? (i := 103) (by decide +kernel)) (by decide +kernel), tG_in (List.mem_of_getElem? (i := 34) (by decide +kernel)) (by decide +kernel), by decide +kernel, by decide +kernel, by decide +kernel⟩, tG_in (List.mem_of_getElem? (i := 102) (by decide +kernel)) (by decide +kernel), tG_in (List.mem_of_getElem? (i := 0) (by decide +kernel)) (by decide +kernel)⟩
set_option maxRecDepth 100000 in
theorem kX_81 : kV RX0 81 yX0_startedBlocks cX0_startedBlocks 1 (some .int) 0 := ⟨⟨tG_in (List.mem_of_getElem? (i := 104) (by decide +kernel)) (by decide +kernel), tG_in (List.mem_of_getElem? (i := 107) (by decide +kernel)) (by decide +kernel), tG_in (List.mem_of_getElem? (i := 34) (by decide +kernel)) (by decide +kernel), by decide +kernel, by decide +kernel, by decide +kernel⟩, tG_in (List.mem_of_getElem? (i := 106) (by decide +kernel)) (by decide +kernel), tG_in (List.mem_of_getElem? (i := 1) (by decide +kernel)) (by decide +kernel)⟩
set_option maxRecDepth 100000 in
theorem kX_84 : kV RX0 84 yX0_isPassedOver cX0_isPassedOver 4 (some .boolean) 1 := ⟨⟨tG_in (List.mem_of_getElem? (i := 108) (by decide +kernel)) (by decide +kernel), tG_in (List.mem_of_getElem? (i := 111) (by decide +kernel)) (by decide +kernel), tG_in (List.mem_of_getElem? (i := 34) (by decide +kernel)) (by decide +kernel), by decide +kernel, by decide +kernel, by decide +kernel⟩, tG_in (List.mem_of_getElem? (i := 110) (by decide +kernel)) (by decide +kernel), tG_in (List.mem_of_getElem? (i := 2) (by decide +kernel)) (by decide +kernel)⟩
set_option maxRecDepth 100000 in
theorem kX_88 : kV RX0 88 yX0_sumOfPicked cX0_sumOfPicked 7 (some .long) 3 := ⟨⟨tG_in (List.mem_of_getElem? (i := 334) (by decide +kernel)) (by decide +kernel), tG_in (List.mem_of_getElem? (i := 337) (by decide +kernel)) (by decide +kernel), tG_in (List.mem_of_getElem? (i := 34) (by decide +kernel)) (by decide +kernel), by decide +kernel, by decide +kernel, by decide +kernel⟩, tG_in (List.mem_of_getElem? (i := 336) (by decide +kernel)) (by decide +kernel), tG_in (List.mem_of_getElem? (i := 16) (by decide +kernel)) (by decide +kernel)⟩
set_option maxRecDepth 100000 in
theorem kX_97 : kV RX0 97 yX0_boundOfPicked cX0_boundOfPicked 10 (some .long) 4 := ⟨⟨tG_in (List.mem_of_getElem? (i := 362) (by decide +kernel)) (by decide +kernel), tG_in (List.mem_of_getElem? (i := 365) (by decide +kernel)) (by decide +kernel), tG_in (List.mem_of_getElem? (i := 34) (by decide +kernel)) (by decide +kernel), by decide +kernel, by decide +kernel, by decide +kernel⟩, tG_in (List.mem_of_getElem? (i := 364) (by decide +kernel)) (by decide +kernel), tG_in (List.mem_of_getElem? (i := 17) (by decide +kernel)) (by decide +kernel)⟩
set_option maxRecDepth 100000 in
theorem kX_101 : kV RX0 101 yX0_sortPicked cX0_sortPicked 9 none 3 := ⟨⟨tG_in (List.mem_of_getElem? (i := 373) (by decide +kernel)) (by decide +kernel), tG_in (List.mem_of_getElem? (i := 376) (by decide +kernel)) (by decide +kernel), tG_in (List.mem_of_getElem? (i := 34) (by decide +kernel)) (by decide +kernel), by decide +kernel, by decide +kernel, by decide +kernel⟩, tG_in (List.mem_of_getElem? (i := 375) (by decide +kernel)) (by decide +kernel), tG_in (List.mem_of_getElem? (i := 18) (by decide +kernel)) (by decide +kernel)⟩
set_option maxRecDepth 100000 in
theorem kX_105 : kV RX0 105 yX0_startsGroup cX0_startsGroup 3 (some .boolean) 2 := ⟨⟨tG_in (List.mem_of_getElem? (i := 387) (by decide +kernel)) (by decide +kernel), tG_in (List.mem_of_getElem? (i := 390) (by decide +kernel)) (by decide +kernel), tG_in (List.mem_of_getElem? (i := 34) (by decide +kernel)) (by decide +kernel), by decide +kernel, by decide +kernel, by decide +kernel⟩, tG_in (List.mem_of_getElem? (i := 389) (by decide +kernel)) (by decide +kernel), tG_in (List.mem_of_getElem? (i := 19) (by decide +kernel)) (by decide +kernel)⟩
set_option maxRecDepth 100000 in
theorem kX_111 : kV RX0 111 yX0_groupStart cX0_groupStart 6 (some .int) 3 := ⟨⟨tG_in (List.mem_of_getElem? (i := 399) (by decide +kernel)) (by decide +kernel), tG_in (List.mem_of_getElem? (i := 402) (by decide +kernel)) (by decide +kernel), tG_in (List.mem_of_getElem? (i := 34) (by decide +kernel)) (by decide +kernel), by decide +kernel, by decide +kernel, by decide +kernel⟩, tG_in (List.mem_of_getElem? (i := 401) (by decide +kernel)) (by decide +kernel), tG_in (List.mem_of_getElem? (i := 20) (by decide +kernel)) (by decide +kernel)⟩
set_option maxRecDepth 100000 in
theorem kX_117 : kV RX0 117 yX0_groupEnd cX0_groupEnd 5 (some .int) 3 := ⟨⟨tG_in (List.mem_of_getElem? (i := 404) (by decide +kernel)) (by decide +kernel), tG_in (List.mem_of_getElem? (i := 407) (by decide +kernel)) (by decide +kernel), tG_in (List.mem_of_getElem? (i := 34) (by decide +kernel)) (by decide +kernel), by decide +kernel, by decide +kernel, by decide +kernel⟩, tG_in (List.mem_of_getElem? (i := 406) (by decide +kernel)) (by decide +kernel), tG_in (List.mem_of_getElem? (i := 21) (by decide +kernel)) (by decide +kernel)⟩
set_option maxRecDepth 100000 in
theorem kX_120 : kV RX0 120 yX0_refuseUnpackedBlock cX0_refuseUnpackedBlock 2 none 1 := ⟨⟨tG_in (List.mem_of_getElem? (i := 422) (by decide +kernel)) (by decide +kernel), tG_in (List.mem_of_getElem? (i := 425) (by decide +kernel)) (by decide +kernel), tG_in (List.mem_of_getElem? (i := 34) (by decide +kernel)) (by decide +kernel), by decide +kernel, by decide +kernel, by decide +kernel⟩, tG_in (List.mem_of_getElem? (i := 424) (by decide +kernel)) (by decide +kernel), tG_in (List.mem_of_getElem? (i := 22) (by decide +kernel)) (by decide +kernel)⟩
set_option maxRecDepth 100000 in
theorem kX_123 : kS RX0 123 yX0_place cX0_place 2 (some .int) 2 := ⟨⟨tG_in (List.mem_of_getElem? (i := 116) (by decide +kernel)) (by decide +kernel), tG_in (List.mem_of_getElem? (i := 118) (by decide +kernel)) (by decide +kernel), tG_in (List.mem_of_getElem? (i := 34) (by decide +kernel)) (by decide +kernel), by decide +kernel, by decide +kernel, by decide +kernel⟩, tG_in (List.mem_of_getElem? (i := 117) (by decide +kernel)) (by decide +kernel)⟩
set_option maxRecDepth 100000 in
theorem kX_126 : kV RX0 126 yX0_moveRow cX0_moveRow 4 none 2 := ⟨⟨tG_in (List.mem_of_getElem? (i := 144) (by decide +kernel)) (by decide +kernel), tG_in (List.mem_of_getElem? (i := 147) (by decide +kernel)) (by decide +kernel), tG_in (List.mem_of_getElem? (i := 34) (by decide +kernel)) (by decide +kernel), by decide +kernel, by decide +kernel, by decide +kernel⟩, tG_in (List.mem_of_getElem? (i := 146) (by decide +kernel)) (by decide +kernel), tG_in (List.mem_of_getElem? (i := 6) (by decide +kernel)) (by decide +kernel)⟩
set_option maxRecDepth 100000 in
theorem kX_130 : kV RX0 130 yX0_packFullBlocks cX0_packFullBlocks 2 none 0 := ⟨⟨tG_in (List.mem_of_getElem? (i := 148) (by decide +kernel)) (by decide +kernel), tG_in (List.mem_of_getElem? (i := 151) (by decide +kernel)) (by decide +kernel), tG_in (List.mem_of_getElem? (i := 34) (by decide +kernel)) (by decide +kernel), by decide +kernel, by decide +kernel, by decide +kernel⟩, tG_in (List.mem_of_getElem? (i := 150) (by decide +kernel)) (by decide +kernel), tG_in (List.mem_of_getElem? (i := 7) (by decide +kernel)) (by decide +kernel)⟩
set_option maxRecDepth 100000 in
theorem kX_135 : kV RX0 135 yX0_fullBlocks cX0_fullBlocks 1 (some .int) 0 := ⟨⟨tG_in (List.mem_of_getElem? (i := 112) (by decide +kernel)) (by decide +kernel), tG_in (List.mem_of_getElem? (i := 115) (by decide +kernel)) (by decide +kernel), tG_in (List.mem_of_getElem? (i := 34) (by decide +kernel)) (by decide +kernel), by decide +kernel, by decide +kernel, by decide +kernel⟩, tG_in (List.mem_of_getElem? (i := 114) (by decide +kernel)) (by decide +kernel), tG_in (List.mem_of_getElem? (i := 3) (by decide +kernel)) (by decide +kernel)⟩
set_option maxRecDepth 100000 in
theorem kX_140 : kV RX0 140 yX0_pickFromBlock cX0_pickFromBlock 6 (some .int) 2 := ⟨⟨tG_in (List.mem_of_getElem? (i := 122) (by decide +kernel)) (by decide +kernel), tG_in (List.mem_of_getElem? (i := 125) (by decide +kernel)) (by decide +kernel), tG_in (List.mem_of_getElem? (i := 34) (by decide +kernel)) (by decide +kernel), by decide +kernel, by decide +kernel, by decide +kernel⟩, tG_in (List.mem_of_getElem? (i := 124) (by decide +kernel)) (by decide +kernel), tG_in (List.mem_of_getElem? (i := 4) (by decide +kernel)) (by decide +kernel)⟩
set_option maxRecDepth 100000 in
theorem kX_148 : kV RX0 148 yX0_isChosen cX0_isChosen 5 (some .boolean) 1 := ⟨⟨tG_in (List.mem_of_getElem? (i := 129) (by decide +kernel)) (by decide +kernel), tG_in (List.mem_of_getElem? (i := 132) (by decide +kernel)) (by decide +kernel), tG_in (List.mem_of_getElem? (i := 34) (by decide +kernel)) (by decide +kernel), by decide +kernel, by decide +kernel, by decide +kernel⟩, tG_in (List.mem_of_getElem? (i := 131) (by decide +kernel)) (by decide +kernel), tG_in (List.mem_of_getElem? (i := 5) (by decide +kernel)) (by decide +kernel)⟩
set_option maxRecDepth 100000 in
theorem kX_151 : kS RX0 151 yX0_couldHold cX0_couldHold 7 (some .boolean) 4 := ⟨⟨tG_in (List.mem_of_getElem? (i := 119) (by decide +kernel)) (by decide +kernel), tG_in (List.mem_of_getElem? (i := 121) (by decide +kernel)) (by decide +kernel), tG_in (List.mem_of_getElem? (i := 34) (by decide +kernel)) (by decide +kernel), by decide +kernel, by decide +kernel, by decide +kernel⟩, tG_in (List.mem_of_getElem? (i := 120) (by decide +kernel)) (by decide +kernel)⟩
set_option maxRecDepth 100000 in
theorem kX_155 : kS RX0 155 yX0_comesBefore cX0_comesBefore 5 (some .boolean) 3 := ⟨⟨tG_in (List.mem_of_getElem? (i := 377) (by decide +kernel)) (by decide +kernel), tG_in (List.mem_of_getElem? (i := 379) (by decide +kernel)) (by decide +kernel), tG_in (List.mem_of_getElem? (i := 34) (by decide +kernel)) (by decide +kernel), by decide +kernel, by decide +kernel, by decide +kernel⟩, tG_in (List.mem_of_getElem? (i := 378) (by decide +kernel)) (by decide +kernel)⟩
set_option maxRecDepth 100000 in
theorem kX_159 : kV RX0 159 yX0_packColumn cX0_packColumn 8 none 2 := ⟨⟨tG_in (List.mem_of_getElem? (i := 156) (by decide +kernel)) (by decide +kernel), tG_in (List.mem_of_getElem? (i := 159) (by decide +kernel)) (by decide +kernel), tG_in (List.mem_of_getElem? (i := 34) (by decide +kernel)) (by decide +kernel), by decide +kernel, by decide +kernel, by decide +kernel⟩, tG_in (List.mem_of_getElem? (i := 158) (by decide +kernel)) (by decide +kernel), tG_in (List.mem_of_getElem? (i := 9) (by decide +kernel)) (by decide +kernel)⟩
set_option maxRecDepth 100000 in
theorem kX_162 : kV RX0 162 yX0_noteBounds cX0_noteBounds 8 none 2 := ⟨⟨tG_in (List.mem_of_getElem? (i := 160) (by decide +kernel)) (by decide +kernel), tG_in (List.mem_of_getElem? (i := 163) (by decide +kernel)) (by decide +kernel), tG_in (List.mem_of_getElem? (i := 34) (by decide +kernel)) (by decide +kernel), by decide +kernel, by decide +kernel, by decide +kernel⟩, tG_in (List.mem_of_getElem? (i := 162) (by decide +kernel)) (by decide +kernel), tG_in (List.mem_of_getElem? (i := 10) (by decide +kernel)) (by decide +kernel)⟩
set_option maxRecDepth 100000 in
theorem kX_165 : kV RX0 165 yX0_differentCells cX0_differentCells 4 (some .int) 1 := ⟨⟨tG_in (List.mem_of_getElem? (i := 170) (by decide +kernel)) (by decide +kernel), tG_in (List.mem_of_getElem? (i := 173) (by decide +kernel)) (by decide +kernel), tG_in (List.mem_of_getElem? (i := 34) (by decide +kernel)) (by decide +kernel), by decide +kernel, by decide +kernel, by decide +kernel⟩, tG_in (List.mem_of_getElem? (i := 172) (by decide +kernel)) (by decide +kernel), tG_in (List.mem_of_getElem? (i := 11) (by decide +kernel)) (by decide +kernel)⟩
set_option maxRecDepth 100000 in
theorem kX_169 : kS RX0 169 yX0_widthOf cX0_widthOf 3 (some .int) 1 := ⟨⟨tG_in (List.mem_of_getElem? (i := 178) (by decide +kernel)) (by decide +kernel), tG_in (List.mem_of_getElem? (i := 180) (by decide +kernel)) (by decide +kernel), tG_in (List.mem_of_getElem? (i := 34) (by decide +kernel)) (by decide +kernel), by decide +kernel, by decide +kernel, by decide +kernel⟩, tG_in (List.mem_of_getElem? (i := 179) (by decide +kernel)) (by decide +kernel)⟩
set_option maxRecDepth 100000 in
theorem kX_173 : kV RX0 173 yX0_runsOfCells cX0_runsOfCells 4 (some .int) 1 := ⟨⟨tG_in (List.mem_of_getElem? (i := 181) (by decide +kernel)) (by decide +kernel), tG_in (List.mem_of_getElem? (i := 184) (by decide +kernel)) (by decide +kernel), tG_in (List.mem_of_getElem? (i := 34) (by decide +kernel)) (by decide +kernel), by decide +kernel, by decide +kernel, by decide +kernel⟩, tG_in (List.mem_of_getElem? (i := 183) (by decide +kernel)) (by decide +kernel), tG_in (List.mem_of_getElem? (i := 13) (by decide +kernel)) (by decide +kernel)⟩
set_option maxRecDepth 100000 in
theorem kX_176 : kV RX0 176 yX0_offerWay cX0_offerWay 4 none 3 := ⟨⟨tG_in (List.mem_of_getElem? (i := 185) (by decide +kernel)) (by decide +kernel), tG_in (List.mem_of_getElem? (i := 188) (by decide +kernel)) (by decide +kernel), tG_in (List.mem_of_getElem? (i := 34) (by decide +kernel)) (by decide +kernel), by decide +kernel, by decide +kernel, by decide +kernel⟩, tG_in (List.mem_of_getElem? (i := 187) (by decide +kernel)) (by decide +kernel), tG_in (List.mem_of_getElem? (i := 14) (by decide +kernel)) (by decide +kernel)⟩
set_option maxRecDepth 100000 in
theorem kX_186 : kV RX0 186 yX0_stoodBefore cX0_stoodBefore 4 (some .boolean) 2 := ⟨⟨tG_in (List.mem_of_getElem? (i := 174) (by decide +kernel)) (by decide +kernel), tG_in (List.mem_of_getElem? (i := 177) (by decide +kernel)) (by decide +kernel), tG_in (List.mem_of_getElem? (i := 34) (by decide +kernel)) (by decide +kernel), by decide +kernel, by decide +kernel, by decide +kernel⟩, tG_in (List.mem_of_getElem? (i := 176) (by decide +kernel)) (by decide +kernel), tG_in (List.mem_of_getElem? (i := 12) (by decide +kernel)) (by decide +kernel)⟩
set_option maxRecDepth 100000 in
theorem mt_i : Cond.initialized "java/lang/Math" ∈ tG := tG_in (List.mem_of_getElem? (i := 40) (by decide +kernel)) (by decide +kernel)
set_option maxRecDepth 100000 in
theorem mi_l : Cond.methodLink RX0 143 Lib.Math.min.name ∈ tG := tG_in (List.mem_of_getElem? (i := 126) (by decide +kernel)) (by decide +kernel)
set_option maxRecDepth 100000 in
theorem mi_s : Cond.static Lib.Math.min.name ∈ tG := tG_in (List.mem_of_getElem? (i := 127) (by decide +kernel)) (by decide +kernel)
set_option maxRecDepth 100000 in
theorem mi_c : Cond.code Lib.Math.min.name Lib.Math.min.code 2 (some .int) ∈ tG := tG_in (List.mem_of_getElem? (i := 128) (by decide +kernel)) (by decide +kernel)
set_option maxRecDepth 100000 in
theorem ml_l : Cond.methodLink RX0 180 Lib.MathLoose.min_long.x ∈ tG := tG_in (List.mem_of_getElem? (i := 164) (by decide +kernel)) (by decide +kernel)
set_option maxRecDepth 100000 in
theorem ml_s : Cond.static Lib.MathLoose.min_long.x ∈ tG := tG_in (List.mem_of_getElem? (i := 165) (by decide +kernel)) (by decide +kernel)
set_option maxRecDepth 100000 in
theorem ml_c : Cond.code Lib.MathLoose.min_long.x Lib.MathLoose.min_long.code 4 (some .long) ∈ tG := tG_in (List.mem_of_getElem? (i := 166) (by decide +kernel)) (by decide +kernel)
set_option maxRecDepth 100000 in
theorem mxl_l : Cond.methodLink RX0 183 Lib.MathLoose.max_long.x ∈ tG := tG_in (List.mem_of_getElem? (i := 167) (by decide +kernel)) (by decide +kernel)
set_option maxRecDepth 100000 in
theorem mxl_s : Cond.static Lib.MathLoose.max_long.x ∈ tG := tG_in (List.mem_of_getElem? (i := 168) (by decide +kernel)) (by decide +kernel)
set_option maxRecDepth 100000 in
theorem mxl_c : Cond.code Lib.MathLoose.max_long.x Lib.MathLoose.max_long.code 4 (some .long) ∈ tG := tG_in (List.mem_of_getElem? (i := 169) (by decide +kernel)) (by decide +kernel)
