set_option maxRecDepth 100000 in
theorem xin_ok0 : ((List.range' 0 60).all (fun m => decide (xin m = decide ((xy m).name = "<init>")))) = true := by decide +kernel
set_option maxRecDepth 100000 in
theorem xin_ok60 : ((List.range' 60 60).all (fun m => decide (xin m = decide ((xy m).name = "<init>")))) = true := by decide +kernel
set_option maxRecDepth 100000 in
theorem xin_ok120 : ((List.range' 120 60).all (fun m => decide (xin m = decide ((xy m).name = "<init>")))) = true := by decide +kernel
set_option maxRecDepth 100000 in
theorem xin_ok180 : ((List.range' 180 60).all (fun m => decide (xin m = decide ((xy m).name = "<init>")))) = true := by decide +kernel
set_option maxRecDepth 100000 in
theorem xin_ok240 : ((List.range' 240 60).all (fun m => decide (xin m = decide ((xy m).name = "<init>")))) = true := by decide +kernel
set_option maxRecDepth 100000 in
theorem xin_ok300 : ((List.range' 300 60).all (fun m => decide (xin m = decide ((xy m).name = "<init>")))) = true := by decide +kernel
set_option maxRecDepth 100000 in
theorem xin_ok360 : ((List.range' 360 60).all (fun m => decide (xin m = decide ((xy m).name = "<init>")))) = true := by decide +kernel
set_option maxRecDepth 100000 in
theorem xin_ok420 : ((List.range' 420 20).all (fun m => decide (xin m = decide ((xy m).name = "<init>")))) = true := by decide +kernel
/-- a method's words by their places: code, static or instance, initialized, selects -/
theorem xtb0 {w : Cond} (h : w ∈ tables_1_1) : w ∈ lw_tbl := List.mem_append_right _ (List.mem_append_left _ h)
theorem xtb1 {w : Cond} (h : w ∈ tables_1_2) : w ∈ lw_tbl := List.mem_append_right _ (List.mem_append_right _ (List.mem_append_left _ h))
theorem xtb2 {w : Cond} (h : w ∈ tables_1_3) : w ∈ lw_tbl := List.mem_append_right _ (List.mem_append_right _ (List.mem_append_right _ (List.mem_append_left _ h)))
theorem xtb3 {w : Cond} (h : w ∈ tables_1_4) : w ∈ lw_tbl := List.mem_append_right _ (List.mem_append_right _ (List.mem_append_right _ (List.mem_append_right _ (List.mem_append_left _ h))))
theorem xtb4 {w : Cond} (h : w ∈ tables_1_5) : w ∈ lw_tbl := List.mem_append_right _ (List.mem_append_right _ (List.mem_append_right _ (List.mem_append_right _ (List.mem_append_right _ (List.mem_append_left _ h)))))
theorem xtb5 {w : Cond} (h : w ∈ tables_1_6) : w ∈ lw_tbl := List.mem_append_right _ (List.mem_append_right _ (List.mem_append_right _ (List.mem_append_right _ (List.mem_append_right _ (List.mem_append_right _ (List.mem_append_left _ h))))))
theorem xtb6 {w : Cond} (h : w ∈ tables_1_7) : w ∈ lw_tbl := List.mem_append_right _ (List.mem_append_right _ (List.mem_append_right _ (List.mem_append_right _ (List.mem_append_right _ (List.mem_append_right _ (List.mem_append_right _ (List.mem_append_left _ h)))))))
theorem xtb7 {w : Cond} (h : w ∈ tables_1_8) : w ∈ lw_tbl := List.mem_append_right _ (List.mem_append_right _ (List.mem_append_right _ (List.mem_append_right _ (List.mem_append_right _ (List.mem_append_right _ (List.mem_append_right _ (List.mem_append_right _ (List.mem_append_left _ h))))))))
theorem xtb8 {w : Cond} (h : w ∈ tables_1_9) : w ∈ lw_tbl := List.mem_append_right _ (List.mem_append_right _ (List.mem_append_right _ (List.mem_append_right _ (List.mem_append_right _ (List.mem_append_right _ (List.mem_append_right _ (List.mem_append_right _ (List.mem_append_right _ (List.mem_append_left _ h)))))))))
theorem xtb9 {w : Cond} (h : w ∈ tables_1_10) : w ∈ lw_tbl := List.mem_append_right _ (List.mem_append_right _ (List.mem_append_right _ (List.mem_append_right _ (List.mem_append_right _ (List.mem_append_right _ (List.mem_append_right _ (List.mem_append_right _ (List.mem_append_right _ (List.mem_append_right _ (List.mem_append_left _ h))))))))))
theorem xtb10 {w : Cond} (h : w ∈ tables_1_11) : w ∈ lw_tbl := List.mem_append_right _ (List.mem_append_right _ (List.mem_append_right _ (List.mem_append_right _ (List.mem_append_right _ (List.mem_append_right _ (List.mem_append_right _ (List.mem_append_right _ (List.mem_append_right _ (List.mem_append_right _ (List.mem_append_right _ (List.mem_append_left _ h)))))))))))
theorem xtb11 {w : Cond} (h : w ∈ tables_1_12) : w ∈ lw_tbl := List.mem_append_right _ (List.mem_append_right _ (List.mem_append_right _ (List.mem_append_right _ (List.mem_append_right _ (List.mem_append_right _ (List.mem_append_right _ (List.mem_append_right _ (List.mem_append_right _ (List.mem_append_right _ (List.mem_append_right _ (List.mem_append_right _ (List.mem_append_left _ h))))))))))))
theorem xtb12 {w : Cond} (h : w ∈ tables_1_13) : w ∈ lw_tbl := List.mem_append_right _ (List.mem_append_right _ (List.mem_append_right _ (List.mem_append_right _ (List.mem_append_right _ (List.mem_append_right _ (List.mem_append_right _ (List.mem_append_right _ (List.mem_append_right _ (List.mem_append_right _ (List.mem_append_right _ (List.mem_append_right _ (List.mem_append_right _ (h)))))))))))))
theorem xmc1 : Cond.codeWith (⟨"GraphHouseLaw", "node", "(LGraphHouse;I[J)I"⟩ : MethodName) cL_node 4 (some .int) [(0, 9, 12, 13), (0, 9, 15, 15)] ∈ am_T := xps_T ⟨xtb4 (List.mem_of_getElem? (i := 183) rfl), rfl⟩
theorem xmc2 : Cond.codeWith (⟨"GraphHouseLaw", "arc", "(LGraphHouse;IIIII[J)I"⟩ : MethodName) cL_arc 8 (some .int) [(0, 16, 19, 13), (0, 16, 23, 15)] ∈ am_T := xps_T ⟨xtb5 (List.mem_of_getElem? (i := 38) rfl), rfl⟩
theorem xmc3 : Cond.codeWith (⟨"GraphHouseLaw", "take", "(LGraphHouse;I[J)I"⟩ : MethodName) cL_take 4 (some .int) [(0, 9, 12, 13), (0, 9, 15, 15)] ∈ am_T := xps_T ⟨xtb5 (List.mem_of_getElem? (i := 47) rfl), rfl⟩
theorem xmc4 : Cond.codeWith (⟨"GraphHouseLaw", "set", "(LGraphHouse;III[J)I"⟩ : MethodName) cL_set 6 (some .int) [(0, 12, 15, 13), (0, 12, 19, 15)] ∈ am_T := xps_T ⟨xtb5 (List.mem_of_getElem? (i := 56) rfl), rfl⟩
theorem xmc5 : Cond.codeWith (⟨"GraphHouseLaw", "label", "(LGraphHouse;II[J)I"⟩ : MethodName) cL_label 5 (some .int) [(0, 10, 13, 13), (0, 10, 17, 15)] ∈ am_T := xps_T ⟨xtb5 (List.mem_of_getElem? (i := 73) rfl), rfl⟩
theorem xmc6 : Cond.codeWith (⟨"GraphHouseLaw", "view", "(LGraphHouse;I[J)I"⟩ : MethodName) cL_view 4 (some .int) [(0, 9, 12, 13)] ∈ am_T := xps_T ⟨xtb5 (List.mem_of_getElem? (i := 85) rfl), rfl⟩
theorem xmc7 : Cond.codeWith (⟨"GraphHouseLaw", "size", "(LGraphHouse;I[J)I"⟩ : MethodName) cL_size 4 (some .int) [(0, 9, 12, 13)] ∈ am_T := xps_T ⟨xtb5 (List.mem_of_getElem? (i := 100) rfl), rfl⟩
theorem xmc8 : Cond.codeWith (⟨"GraphHouseLaw", "told", "(LGraphHouse;II[J)I"⟩ : MethodName) cL_told 5 (some .int) [(0, 9, 12, 13)] ∈ am_T := xps_T ⟨xtb5 (List.mem_of_getElem? (i := 108) rfl), rfl⟩
theorem xmc9 : Cond.codeWith (⟨"GraphHouseLaw", "labelOf", "(LGraphHouse;I[J)I"⟩ : MethodName) cL_labelOf 4 (some .int) [(0, 9, 12, 13)] ∈ am_T := xps_T ⟨xtb5 (List.mem_of_getElem? (i := 116) rfl), rfl⟩
theorem xmc10 : Cond.codeWith (⟨"GraphHouseLaw", "arcAt", "(LGraphHouse;III[J)I"⟩ : MethodName) cL_arcAt 6 (some .int) [(0, 12, 15, 13)] ∈ am_T := xps_T ⟨xtb5 (List.mem_of_getElem? (i := 123) rfl), rfl⟩
theorem xmc11 : Cond.codeWith (⟨"GraphHouseLaw", "type", "(LGraphHouse;I[J)I"⟩ : MethodName) cL_type 4 (some .int) [(0, 9, 12, 13), (0, 9, 15, 15)] ∈ am_T := xps_T ⟨xtb5 (List.mem_of_getElem? (i := 139) rfl), rfl⟩
theorem xmc12 : Cond.codeWith (⟨"GraphHouseLaw", "fault", "(LGraphHouse;I[J)I"⟩ : MethodName) cL_fault 4 (some .int) [(0, 9, 12, 13)] ∈ am_T := xps_T ⟨xtb5 (List.mem_of_getElem? (i := 146) rfl), rfl⟩
theorem xmc13 : Cond.codeWith (⟨"GraphHouseLaw", "printed", "(LGraphHouse;I[J)I"⟩ : MethodName) cL_printed 4 (some .int) [(0, 9, 12, 13)] ∈ am_T := xps_T ⟨xtb5 (List.mem_of_getElem? (i := 153) rfl), rfl⟩
theorem xmc14 : Cond.codeWith (⟨"GraphHouseLaw", "distance", "(LGraphHouse;II[J)I"⟩ : MethodName) cL_distance 5 (some .int) [(0, 9, 12, 13)] ∈ am_T := xps_T ⟨xtb5 (List.mem_of_getElem? (i := 160) rfl), rfl⟩
theorem xmc15 : Cond.codeWith (⟨"GraphHouseLaw", "way", "(LGraphHouse;III[J)I"⟩ : MethodName) cL_way 6 (some .int) [(0, 12, 15, 13)] ∈ am_T := xps_T ⟨xtb5 (List.mem_of_getElem? (i := 196) rfl), rfl⟩
theorem xmc16 : Cond.codeWith (⟨"GraphHouseLaw", "width", "(LGraphHouse;II[J)I"⟩ : MethodName) cL_width 5 (some .int) [(0, 10, 13, 13)] ∈ am_T := xps_T ⟨xtb5 (List.mem_of_getElem? (i := 212) rfl), rfl⟩
theorem xmc17 : Cond.codeWith (⟨"GraphHouseLaw", "shorts", "(LGraphHouse;II[J)I"⟩ : MethodName) cL_shorts 5 (some .int) [(0, 10, 13, 13)] ∈ am_T := xps_T ⟨xtb5 (List.mem_of_getElem? (i := 235) rfl), rfl⟩
theorem xmc18 : Cond.codeWith (⟨"GraphHouseLaw", "shortArc", "(LGraphHouse;IIII[J)I"⟩ : MethodName) cL_shortArc 7 (some .int) [(0, 14, 17, 13)] ∈ am_T := xps_T ⟨xtb6 (List.mem_of_getElem? (i := 28) rfl), rfl⟩
theorem xmc19 : Cond.codeWith (⟨"GraphHouseLaw", "part", "(LGraphHouse;II[J)I"⟩ : MethodName) cL_part 5 (some .int) [(0, 10, 13, 13)] ∈ am_T := xps_T ⟨xtb6 (List.mem_of_getElem? (i := 41) rfl), rfl⟩
theorem xmc20 : Cond.codeWith (⟨"GraphHouseLaw", "bridge", "(LGraphHouse;I[J)I"⟩ : MethodName) cL_bridge 4 (some .int) [(0, 16, 19, 13)] ∈ am_T := xps_T ⟨xtb6 (List.mem_of_getElem? (i := 59) rfl), rfl⟩
theorem xmc21 : Cond.codeWith (⟨"GraphHouseLaw", "cut", "(LGraphHouse;I[J)I"⟩ : MethodName) cL_cut 4 (some .int) [(0, 16, 19, 13)] ∈ am_T := xps_T ⟨xtb6 (List.mem_of_getElem? (i := 71) rfl), rfl⟩
theorem xmc22 : Cond.codeWith (⟨"GraphHouseLaw", "order", "(LGraphHouse;I[J)I"⟩ : MethodName) cL_order 4 (some .int) [(0, 9, 12, 13)] ∈ am_T := xps_T ⟨xtb6 (List.mem_of_getElem? (i := 82) rfl), rfl⟩
theorem xmc23 : Cond.codeWith (⟨"GraphHouseLaw", "core", "(LGraphHouse;I[J)I"⟩ : MethodName) cL_core 4 (some .int) [(0, 9, 12, 13)] ∈ am_T := xps_T ⟨xtb6 (List.mem_of_getElem? (i := 101) rfl), rfl⟩
theorem xmc24 : Cond.codeWith (⟨"GraphHouseLaw", "clique", "(LGraphHouse;I[J)I"⟩ : MethodName) cL_clique 4 (some .int) [(0, 9, 12, 13)] ∈ am_T := xps_T ⟨xtb6 (List.mem_of_getElem? (i := 126) rfl), rfl⟩
theorem xmc25 : Cond.codeWith (⟨"GraphHouseLaw", "colour", "(LGraphHouse;I[J)I"⟩ : MethodName) cL_colour 4 (some .int) [(0, 9, 12, 13)] ∈ am_T := xps_T ⟨xtb6 (List.mem_of_getElem? (i := 145) rfl), rfl⟩
theorem xmc26 : Cond.codeWith (⟨"GraphHouseLaw", "flow", "(LGraphHouse;II[J)I"⟩ : MethodName) cL_flow 5 (some .int) [(0, 9, 12, 13)] ∈ am_T := xps_T ⟨xtb6 (List.mem_of_getElem? (i := 205) rfl), rfl⟩
theorem xmc27 : Cond.codeWith (⟨"GraphHouseLaw", "side", "(LGraphHouse;III[J)I"⟩ : MethodName) cL_side 6 (some .int) [(0, 19, 22, 13)] ∈ am_T := xps_T ⟨xtb6 (List.mem_of_getElem? (i := 234) rfl), rfl⟩
theorem xmc28 : Cond.codeWith (⟨"GraphHouseLaw", "cost", "(LGraphHouse;III[J)I"⟩ : MethodName) cL_cost 6 (some .int) [(0, 11, 14, 13)] ∈ am_T := xps_T ⟨xtb7 (List.mem_of_getElem? (i := 1) rfl), rfl⟩
theorem xmc29 : Cond.codeWith (⟨"GraphHouseLaw", "pairing", "(LGraphHouse;I[J)I"⟩ : MethodName) cL_pairing 4 (some .int) [(0, 8, 11, 13)] ∈ am_T := xps_T ⟨xtb7 (List.mem_of_getElem? (i := 55) rfl), rfl⟩
theorem xmc30 : Cond.codeWith (⟨"GraphHouseLaw", "tree", "(LGraphHouse;I[J)I"⟩ : MethodName) cL_tree 4 (some .int) [(0, 8, 11, 13)] ∈ am_T := xps_T ⟨xtb7 (List.mem_of_getElem? (i := 69) rfl), rfl⟩
theorem xmc31 : Cond.codeWith (⟨"GraphHouseLaw", "span", "(LGraphHouse;I[J)I"⟩ : MethodName) cL_span 4 (some .int) [(0, 16, 19, 13)] ∈ am_T := xps_T ⟨xtb7 (List.mem_of_getElem? (i := 103) rfl), rfl⟩
theorem xmc32 : Cond.codeWith (⟨"GraphHouseLaw", "rank", "(LGraphHouse;II[J)I"⟩ : MethodName) cL_rank 5 (some .int) [(0, 9, 12, 13)] ∈ am_T := xps_T ⟨xtb7 (List.mem_of_getElem? (i := 118) rfl), rfl⟩
theorem xmc33 : Cond.codeWith (⟨"GraphHouseLaw", "shortest", "(LGraphHouse;IIII[J)I"⟩ : MethodName) cL_shortest 7 (some .int) [(0, 14, 17, 13)] ∈ am_T := xps_T ⟨xtb7 (List.mem_of_getElem? (i := 138) rfl), rfl⟩
theorem xmc34 : Cond.codeWith (⟨"GraphHouseLaw", "group", "(LGraphHouse;I[J)I"⟩ : MethodName) cL_group 4 (some .int) [(0, 9, 12, 13)] ∈ am_T := xps_T ⟨xtb7 (List.mem_of_getElem? (i := 158) rfl), rfl⟩
theorem xmc35 : Cond.codeWith (⟨"GraphHouseLaw", "figures", "(LGraphHouse;I[J)I"⟩ : MethodName) cL_figures 4 (some .int) [(0, 8, 11, 13)] ∈ am_T := xps_T ⟨xtb7 (List.mem_of_getElem? (i := 169) rfl), rfl⟩
theorem xmc36 : Cond.codeWith (⟨"GraphHouseLaw", "fits", "(LGraphHouse;II[J)I"⟩ : MethodName) cL_fits 5 (some .int) [(0, 10, 13, 13)] ∈ am_T := xps_T ⟨xtb7 (List.mem_of_getElem? (i := 187) rfl), rfl⟩
theorem xmc37 : Cond.codeWith (⟨"GraphHouseLaw", "run", "(LGraphHouse;IIIJ[J)I"⟩ : MethodName) cL_run 8 (some .int) [(0, 14, 17, 13)] ∈ am_T := xps_T ⟨xtb7 (List.mem_of_getElem? (i := 209) rfl), rfl⟩
theorem xmc38 : Cond.codeWith (⟨"GraphHouseLaw", "state", "(LGraphHouse;I[J)I"⟩ : MethodName) cL_state 4 (some .int) [(0, 8, 11, 13)] ∈ am_T := xps_T ⟨xtb8 (List.mem_of_getElem? (i := 36) rfl), rfl⟩
theorem xmc39 : Cond.codeWith (⟨"GraphHouseLaw", "letters", "(LGraphHouse;I[J)I"⟩ : MethodName) cL_letters 4 (some .int) [(0, 9, 12, 13)] ∈ am_T := xps_T ⟨xtb8 (List.mem_of_getElem? (i := 43) rfl), rfl⟩
theorem xmc40 : Cond.code (⟨"GraphHouse$Colours", "<init>", "()V"⟩ : MethodName) cX0_init 1 (none) ∈ am_T := xps_T ⟨xtb1 (List.mem_of_getElem? (i := 105) rfl), rfl⟩
theorem xmc41 : Cond.code (⟨"GraphHouse$Colours", "greatestClique", "(LGraphHouse$Graph;)I"⟩ : MethodName) cX0_greatestClique 2 (some .int) ∈ am_T := xps_T ⟨xtb6 (List.mem_of_getElem? (i := 134) rfl), rfl⟩
theorem xmc42 : Cond.code (⟨"GraphHouse$Colours", "growClique", "([IIII)V"⟩ : MethodName) cX0_growClique 8 (none) ∈ am_T := xps_T ⟨xtb6 (List.mem_of_getElem? (i := 140) rfl), rfl⟩
theorem xmc43 : Cond.code (⟨"GraphHouse$Colours", "colourOf", "(LGraphHouse$Graph;I)I"⟩ : MethodName) cX0_colourOf 3 (some .int) ∈ am_T := xps_T ⟨xtb6 (List.mem_of_getElem? (i := 153) rfl), rfl⟩
theorem xmc44 : Cond.code (⟨"GraphHouse$Colours", "makeColours", "(LGraphHouse$Graph;)V"⟩ : MethodName) cX0_makeColours 4 (none) ∈ am_T := xps_T ⟨xtb6 (List.mem_of_getElem? (i := 157) rfl), rfl⟩
theorem xmc45 : Cond.code (⟨"GraphHouse$Colours", "classOf", "(I)I"⟩ : MethodName) cX0_classOf 3 (some .int) ∈ am_T := xps_T ⟨xtb6 (List.mem_of_getElem? (i := 197) rfl), rfl⟩
theorem xmc46 : Cond.code (⟨"GraphHouse$Colours", "fill", "([III)Z"⟩ : MethodName) cX0_fill 9 (some .boolean) ∈ am_T := xps_T ⟨xtb6 (List.mem_of_getElem? (i := 164) rfl), rfl⟩
theorem xmc47 : Cond.code (⟨"GraphHouse$Colours", "fillPiece", "([III)Z"⟩ : MethodName) cX0_fillPiece 10 (some .boolean) ∈ am_T := xps_T ⟨xtb6 (List.mem_of_getElem? (i := 177) rfl), rfl⟩
theorem xmc48 : Cond.code (⟨"GraphHouse$Colours", "besides", "([II)I"⟩ : MethodName) cX0_besides 4 (some .int) ∈ am_T := xps_T ⟨xtb6 (List.mem_of_getElem? (i := 185) rfl), rfl⟩
theorem xmc49 : Cond.code (⟨"GraphHouse$Colours", "setAside", "([II)I"⟩ : MethodName) cX0_setAside 8 (some .int) ∈ am_T := xps_T ⟨xtb6 (List.mem_of_getElem? (i := 168) rfl), rfl⟩
theorem xmc50 : Cond.code (⟨"GraphHouse$Colours", "takeBack", "([II)V"⟩ : MethodName) cX0_takeBack 5 (none) ∈ am_T := xps_T ⟨xtb6 (List.mem_of_getElem? (i := 189) rfl), rfl⟩
theorem xmc51 : Cond.code (⟨"GraphHouse$Colours", "freeColours", "(I)I"⟩ : MethodName) cX0_freeColours 4 (some .int) ∈ am_T := xps_T ⟨xtb6 (List.mem_of_getElem? (i := 172) rfl), rfl⟩
theorem xmc52 : Cond.code (⟨"GraphHouse$Colours", "tightest", "([II)I"⟩ : MethodName) cX0_tightest 8 (some .int) ∈ am_T := xps_T ⟨xtb6 (List.mem_of_getElem? (i := 181) rfl), rfl⟩
theorem xmc53 : Cond.code (⟨"GraphHouse$Colours", "lessen", "(LGraphHouse$Graph;II)I"⟩ : MethodName) cX0_lessen 6 (some .int) ∈ am_T := xps_T ⟨xtb6 (List.mem_of_getElem? (i := 193) rfl), rfl⟩
theorem xmc54 : Cond.code (⟨"GraphHouse$Colours", "canLower", "(LGraphHouse$Graph;III)Z"⟩ : MethodName) cX0_canLower 9 (some .boolean) ∈ am_T := xps_T ⟨xtb6 (List.mem_of_getElem? (i := 201) rfl), rfl⟩
theorem xmc55 : Cond.code (⟨"GraphHouse$Engine", "<init>", "()V"⟩ : MethodName) cX1_init 1 (none) ∈ am_T := xps_T ⟨xtb2 (List.mem_of_getElem? (i := 83) rfl), rfl⟩
theorem xmc56 : Cond.code (⟨"GraphHouse$Engine", "adopt", "(LGraphHouse$Script;)Z"⟩ : MethodName) cX1_adopt 3 (some .boolean) ∈ am_T := xps_T ⟨xtb4 (List.mem_of_getElem? (i := 144) rfl), rfl⟩
theorem xmc57 : Cond.code (⟨"GraphHouse$Engine", "emit", "(I)Z"⟩ : MethodName) cX1_emit 2 (some .boolean) ∈ am_T := xps_T ⟨xtb4 (List.mem_of_getElem? (i := 174) rfl), rfl⟩
theorem xmc58 : Cond.code (⟨"GraphHouse$Engine", "readExpression", "(LGraphHouse$Script;I)Z"⟩ : MethodName) cX1_readExpression 4 (some .boolean) ∈ am_T := xps_T ⟨xtb4 (List.mem_of_getElem? (i := 151) rfl), rfl⟩
theorem xmc59 : Cond.code (⟨"GraphHouse$Engine", "readSum", "(LGraphHouse$Script;I)Z"⟩ : MethodName) cX1_readSum 5 (some .boolean) ∈ am_T := xps_T ⟨xtb4 (List.mem_of_getElem? (i := 155) rfl), rfl⟩
theorem xmc60 : Cond.code (⟨"GraphHouse$Engine", "readProduct", "(LGraphHouse$Script;I)Z"⟩ : MethodName) cX1_readProduct 4 (some .boolean) ∈ am_T := xps_T ⟨xtb4 (List.mem_of_getElem? (i := 159) rfl), rfl⟩
theorem xmc61 : Cond.code (⟨"GraphHouse$Engine", "readFactor", "(LGraphHouse$Script;I)Z"⟩ : MethodName) cX1_readFactor 4 (some .boolean) ∈ am_T := xps_T ⟨xtb4 (List.mem_of_getElem? (i := 163) rfl), rfl⟩
theorem xmc62 : Cond.code (⟨"GraphHouse$Engine", "readAtom", "(LGraphHouse$Script;)Z"⟩ : MethodName) cX1_readAtom 4 (some .boolean) ∈ am_T := xps_T ⟨xtb4 (List.mem_of_getElem? (i := 167) rfl), rfl⟩
theorem xmc63 : Cond.code (⟨"GraphHouse$Engine", "work", "(LGraphHouse$Graph;I)I"⟩ : MethodName) cX1_work 4 (some .int) ∈ am_T := xps_T ⟨xtb7 (List.mem_of_getElem? (i := 217) rfl), rfl⟩
theorem xmc64 : Cond.code (⟨"GraphHouse$Engine", "doRound", "(LGraphHouse$Graph;I)Z"⟩ : MethodName) cX1_doRound 5 (some .boolean) ∈ am_T := xps_T ⟨xtb7 (List.mem_of_getElem? (i := 223) rfl), rfl⟩
theorem xmc65 : Cond.code (⟨"GraphHouse$Engine", "look", "(LGraphHouse$Graph;II)V"⟩ : MethodName) cX1_look 16 (none) ∈ am_T := xps_T ⟨xtb7 (List.mem_of_getElem? (i := 227) rfl), rfl⟩
theorem xmc66 : Cond.code (⟨"GraphHouse$Engine", "compute", "(II)J"⟩ : MethodName) cX1_compute 6 (some .long) ∈ am_T := xps_T ⟨xtb8 (List.mem_of_getElem? (i := 4) rfl), rfl⟩
theorem xmc67 : Cond.code (⟨"GraphHouse$Engine", "combine", "(IJJ)J"⟩ : MethodName) cX1_combine 5 (some .long) ∈ am_T := xps_T ⟨xtb8 (List.mem_of_getElem? (i := 7) rfl), rfl⟩
theorem xmc68 : Cond.code (⟨"GraphHouse$Engine", "times", "(JJ)J"⟩ : MethodName) cX1_times 4 (some .long) ∈ am_T := xps_T ⟨xtb8 (List.mem_of_getElem? (i := 10) rfl), rfl⟩
theorem xmc69 : Cond.code (⟨"GraphHouse$Engine", "clip", "(J)J"⟩ : MethodName) cX1_clip 2 (some .long) ∈ am_T := xps_T ⟨xtb7 (List.mem_of_getElem? (i := 232) rfl), rfl⟩
theorem xmc70 : Cond.code (⟨"GraphHouse$Engine", "post", "(LGraphHouse$Graph;IIIJ)V"⟩ : MethodName) cX1_post 11 (none) ∈ am_T := xps_T ⟨xtb8 (List.mem_of_getElem? (i := 17) rfl), rfl⟩
theorem xmc71 : Cond.code (⟨"GraphHouse$Engine", "lettersOf", "(LGraphHouse$Graph;I)I"⟩ : MethodName) cX1_lettersOf 6 (some .int) ∈ am_T := xps_T ⟨xtb8 (List.mem_of_getElem? (i := 20) rfl), rfl⟩
theorem xmc72 : Cond.code (⟨"GraphHouse$Engine", "sendAll", "(IIJ)I"⟩ : MethodName) cX1_sendAll 7 (some .int) ∈ am_T := xps_T ⟨xtb8 (List.mem_of_getElem? (i := 26) rfl), rfl⟩
theorem xmc73 : Cond.code (⟨"GraphHouse$Engine", "draw", "(J)J"⟩ : MethodName) cX1_draw 4 (some .long) ∈ am_T := xps_T ⟨xtb8 (List.mem_of_getElem? (i := 30) rfl), rfl⟩
theorem xmc74 : Cond.code (⟨"GraphHouse$Flows", "<init>", "()V"⟩ : MethodName) cX2_init 1 (none) ∈ am_T := xps_T ⟨xtb1 (List.mem_of_getElem? (i := 139) rfl), rfl⟩
theorem xmc75 : Cond.code (⟨"GraphHouse$Flows", "greatest", "(LGraphHouse$Graph;II)J"⟩ : MethodName) cX2_greatest 5 (some .long) ∈ am_T := xps_T ⟨xtb6 (List.mem_of_getElem? (i := 213) rfl), rfl⟩
theorem xmc76 : Cond.code (⟨"GraphHouse$Flows", "openAll", "(LGraphHouse$Graph;)V"⟩ : MethodName) cX2_openAll 3 (none) ∈ am_T := xps_T ⟨xtb6 (List.mem_of_getElem? (i := 217) rfl), rfl⟩
theorem xmc77 : Cond.code (⟨"GraphHouse$Flows", "reach", "(II)Z"⟩ : MethodName) cX2_reach 11 (some .boolean) ∈ am_T := xps_T ⟨xtb6 (List.mem_of_getElem? (i := 224) rfl), rfl⟩
theorem xmc78 : Cond.code (⟨"GraphHouse$Flows", "push", "(II)I"⟩ : MethodName) cX2_push 7 (some .int) ∈ am_T := xps_T ⟨xtb6 (List.mem_of_getElem? (i := 229) rfl), rfl⟩
theorem xmc79 : Cond.code (⟨"GraphHouse$Flows", "cheapest", "(LGraphHouse$Graph;III)J"⟩ : MethodName) cX2_cheapest 9 (some .long) ∈ am_T := xps_T ⟨xtb7 (List.mem_of_getElem? (i := 10) rfl), rfl⟩
theorem xmc80 : Cond.code (⟨"GraphHouse$Flows", "layArcs", "(LGraphHouse$Graph;)J"⟩ : MethodName) cX2_layArcs 5 (some .long) ∈ am_T := xps_T ⟨xtb7 (List.mem_of_getElem? (i := 16) rfl), rfl⟩
theorem xmc81 : Cond.code (⟨"GraphHouse$Flows", "turnEarners", "(III)V"⟩ : MethodName) cX2_turnEarners 8 (none) ∈ am_T := xps_T ⟨xtb7 (List.mem_of_getElem? (i := 26) rfl), rfl⟩
theorem xmc82 : Cond.code (⟨"GraphHouse$Flows", "turn", "(II)V"⟩ : MethodName) cX2_turn 3 (none) ∈ am_T := xps_T ⟨xtb7 (List.mem_of_getElem? (i := 40) rfl), rfl⟩
theorem xmc83 : Cond.code (⟨"GraphHouse$Flows", "carryAll", "(II)V"⟩ : MethodName) cX2_carryAll 5 (none) ∈ am_T := xps_T ⟨xtb7 (List.mem_of_getElem? (i := 44) rfl), rfl⟩
theorem xmc84 : Cond.code (⟨"GraphHouse$Flows", "lay", "(IIII)V"⟩ : MethodName) cX2_lay 5 (none) ∈ am_T := xps_T ⟨xtb7 (List.mem_of_getElem? (i := 20) rfl), rfl⟩
theorem xmc85 : Cond.code (⟨"GraphHouse$Flows", "nearestLack", "(II)I"⟩ : MethodName) cX2_nearestLack 5 (some .int) ∈ am_T := xps_T ⟨xtb7 (List.mem_of_getElem? (i := 48) rfl), rfl⟩
theorem xmc86 : Cond.code (⟨"GraphHouse$Flows", "relaxAll", "(II)V"⟩ : MethodName) cX2_relaxAll 6 (none) ∈ am_T := xps_T ⟨xtb7 (List.mem_of_getElem? (i := 31) rfl), rfl⟩
theorem xmc87 : Cond.code (⟨"GraphHouse$Flows", "relaxPipe", "(II)Z"⟩ : MethodName) cX2_relaxPipe 5 (some .boolean) ∈ am_T := xps_T ⟨xtb7 (List.mem_of_getElem? (i := 35) rfl), rfl⟩
theorem xmc88 : Cond.code (⟨"GraphHouse$Flows", "carryTo", "(I)J"⟩ : MethodName) cX2_carryTo 7 (some .long) ∈ am_T := xps_T ⟨xtb7 (List.mem_of_getElem? (i := 52) rfl), rfl⟩
theorem xmc89 : Cond.code (⟨"GraphHouse$Flows", "pair", "(LGraphHouse$Graph;)V"⟩ : MethodName) cX2_pair 4 (none) ∈ am_T := xps_T ⟨xtb7 (List.mem_of_getElem? (i := 63) rfl), rfl⟩
theorem xmc90 : Cond.code (⟨"GraphHouse$Flows", "isLow", "(LGraphHouse$Graph;I)Z"⟩ : MethodName) cX2_isLow 2 (some .boolean) ∈ am_T := xps_T ⟨xtb7 (List.mem_of_getElem? (i := 66) rfl), rfl⟩
theorem xmc91 : Cond.code (⟨"GraphHouse$Graph", "<init>", "()V"⟩ : MethodName) cX3_init 1 (none) ∈ am_T := xps_T ⟨xtb0 (List.mem_of_getElem? (i := 47) rfl), rfl⟩
theorem xmc92 : Cond.code (⟨"GraphHouse$Graph", "clear", "()V"⟩ : MethodName) cX3_clear 1 (none) ∈ am_T := xps_T ⟨xtb5 (List.mem_of_getElem? (i := 97) rfl), rfl⟩
theorem xmc93 : Cond.code (⟨"GraphHouse$Graph", "copyOf", "(LGraphHouse$Graph;)V"⟩ : MethodName) cX3_copyOf 2 (none) ∈ am_T := xps_T ⟨xtb2 (List.mem_of_getElem? (i := 186) rfl), rfl⟩
theorem xmc94 : Cond.code (⟨"GraphHouse$Graph", "hasNode", "(I)Z"⟩ : MethodName) cX3_hasNode 2 (some .boolean) ∈ am_T := xps_T ⟨xtb3 (List.mem_of_getElem? (i := 162) rfl), rfl⟩
theorem xmc95 : Cond.code (⟨"GraphHouse$Graph", "hasTwo", "(II)Z"⟩ : MethodName) cX3_hasTwo 3 (some .boolean) ∈ am_T := xps_T ⟨xtb6 (List.mem_of_getElem? (i := 3) rfl), rfl⟩
theorem xmc96 : Cond.code (⟨"GraphHouse$Graph", "hasArc", "(I)Z"⟩ : MethodName) cX3_hasArc 2 (some .boolean) ∈ am_T := xps_T ⟨xtb3 (List.mem_of_getElem? (i := 185) rfl), rfl⟩
theorem xmc97 : Cond.code (⟨"GraphHouse$Graph", "isJoint", "(I)Z"⟩ : MethodName) cX3_isJoint 2 (some .boolean) ∈ am_T := xps_T ⟨xtb4 (List.mem_of_getElem? (i := 1) rfl), rfl⟩
theorem xmc98 : Cond.code (⟨"GraphHouse$Graph", "joints", "()I"⟩ : MethodName) cX3_joints 3 (some .int) ∈ am_T := xps_T ⟨xtb4 (List.mem_of_getElem? (i := 45) rfl), rfl⟩
theorem xmc99 : Cond.code (⟨"GraphHouse$Graph", "countJoints", "([I)V"⟩ : MethodName) cX3_countJoints 3 (none) ∈ am_T := xps_T ⟨xtb4 (List.mem_of_getElem? (i := 50) rfl), rfl⟩
theorem xmc100 : Cond.code (⟨"GraphHouse$Graph", "valueOf", "(II)I"⟩ : MethodName) cX3_valueOf 3 (some .int) ∈ am_T := xps_T ⟨xtb5 (List.mem_of_getElem? (i := 69) rfl), rfl⟩
theorem xmc101 : Cond.code (⟨"GraphHouse$Graph", "freePlace", "()I"⟩ : MethodName) cX3_freePlace 2 (some .int) ∈ am_T := xps_T ⟨xtb3 (List.mem_of_getElem? (i := 181) rfl), rfl⟩
theorem xmc102 : Cond.code (⟨"GraphHouse$Graph", "allNodes", "()I"⟩ : MethodName) cX3_allNodes 1 (some .int) ∈ am_T := xps_T ⟨xtb5 (List.mem_of_getElem? (i := 226) rfl), rfl⟩
theorem xmc103 : Cond.code (⟨"GraphHouse$Graph", "outCount", "(I)I"⟩ : MethodName) cX3_outCount 2 (some .int) ∈ am_T := xps_T ⟨xtb5 (List.mem_of_getElem? (i := 132) rfl), rfl⟩
theorem xmc104 : Cond.code (⟨"GraphHouse$Graph", "inCount", "(I)I"⟩ : MethodName) cX3_inCount 2 (some .int) ∈ am_T := xps_T ⟨xtb5 (List.mem_of_getElem? (i := 136) rfl), rfl⟩
theorem xmc105 : Cond.code (⟨"GraphHouse$Graph", "dropAt", "(I)V"⟩ : MethodName) cX3_dropAt 2 (none) ∈ am_T := xps_T ⟨xtb3 (List.mem_of_getElem? (i := 150) rfl), rfl⟩
theorem xmc106 : Cond.code (⟨"GraphHouse$Graph", "tie", "()V"⟩ : MethodName) cX3_tie 2 (none) ∈ am_T := xps_T ⟨xtb4 (List.mem_of_getElem? (i := 37) rfl), rfl⟩
theorem xmc107 : Cond.code (⟨"GraphHouse$Graph", "tieEnds", "(II)V"⟩ : MethodName) cX3_tieEnds 3 (none) ∈ am_T := xps_T ⟨xtb4 (List.mem_of_getElem? (i := 41) rfl), rfl⟩
theorem xmc108 : Cond.code (⟨"GraphHouse$Groups", "<init>", "()V"⟩ : MethodName) cX4_init 1 (none) ∈ am_T := xps_T ⟨xtb2 (List.mem_of_getElem? (i := 9) rfl), rfl⟩
theorem xmc109 : Cond.code (⟨"GraphHouse$Groups", "unitsOf", "(LGraphHouse$Graph;II)J"⟩ : MethodName) cX4_unitsOf 4 (some .long) ∈ am_T := xps_T ⟨xtb7 (List.mem_of_getElem? (i := 126) rfl), rfl⟩
theorem xmc110 : Cond.code (⟨"GraphHouse$Groups", "shareOut", "(LGraphHouse$Graph;)V"⟩ : MethodName) cX4_shareOut 9 (none) ∈ am_T := xps_T ⟨xtb7 (List.mem_of_getElem? (i := 132) rfl), rfl⟩
theorem xmc111 : Cond.code (⟨"GraphHouse$Groups", "groupOf", "(LGraphHouse$Graph;I)I"⟩ : MethodName) cX4_groupOf 3 (some .int) ∈ am_T := xps_T ⟨xtb7 (List.mem_of_getElem? (i := 166) rfl), rfl⟩
theorem xmc112 : Cond.code (⟨"GraphHouse$Groups", "totalGain", "(LGraphHouse$Graph;)J"⟩ : MethodName) cX4_totalGain 5 (some .long) ∈ am_T := xps_T ⟨xtb4 (List.mem_of_getElem? (i := 25) rfl), rfl⟩
theorem xmc113 : Cond.code (⟨"GraphHouse$Groups", "settle", "(LGraphHouse$Graph;)V"⟩ : MethodName) cX4_settle 5 (none) ∈ am_T := xps_T ⟨xtb4 (List.mem_of_getElem? (i := 29) rfl), rfl⟩
theorem xmc114 : Cond.code (⟨"GraphHouse$Groups", "begin", "(LGraphHouse$Graph;)V"⟩ : MethodName) cX4_begin 3 (none) ∈ am_T := xps_T ⟨xtb4 (List.mem_of_getElem? (i := 33) rfl), rfl⟩
theorem xmc115 : Cond.code (⟨"GraphHouse$Groups", "settleNode", "(LGraphHouse$Graph;I)Z"⟩ : MethodName) cX4_settleNode 10 (some .boolean) ∈ am_T := xps_T ⟨xtb4 (List.mem_of_getElem? (i := 55) rfl), rfl⟩
theorem xmc116 : Cond.code (⟨"GraphHouse$Groups", "isBetter", "(III)Z"⟩ : MethodName) cX4_isBetter 6 (some .boolean) ∈ am_T := xps_T ⟨xtb4 (List.mem_of_getElem? (i := 77) rfl), rfl⟩
theorem xmc117 : Cond.code (⟨"GraphHouse$Groups", "countLinks", "(LGraphHouse$Graph;I)V"⟩ : MethodName) cX4_countLinks 4 (none) ∈ am_T := xps_T ⟨xtb4 (List.mem_of_getElem? (i := 59) rfl), rfl⟩
theorem xmc118 : Cond.code (⟨"GraphHouse$Groups", "score", "(II)J"⟩ : MethodName) cX4_score 4 (some .long) ∈ am_T := xps_T ⟨xtb4 (List.mem_of_getElem? (i := 63) rfl), rfl⟩
theorem xmc119 : Cond.code (⟨"GraphHouse$Groups", "freeGroup", "()I"⟩ : MethodName) cX4_freeGroup 2 (some .int) ∈ am_T := xps_T ⟨xtb4 (List.mem_of_getElem? (i := 81) rfl), rfl⟩
theorem xmc120 : Cond.code (⟨"GraphHouse$Groups", "moveTo", "(II)Z"⟩ : MethodName) cX4_moveTo 4 (some .boolean) ∈ am_T := xps_T ⟨xtb4 (List.mem_of_getElem? (i := 85) rfl), rfl⟩
theorem xmc121 : Cond.code (⟨"GraphHouse$Ledger", "<init>", "()V"⟩ : MethodName) cX5_init 1 (none) ∈ am_T := xps_T ⟨xtb0 (List.mem_of_getElem? (i := 41) rfl), rfl⟩
theorem xmc122 : Cond.code (⟨"GraphHouse$Ledger", "isFull", "()Z"⟩ : MethodName) cX5_isFull 1 (some .boolean) ∈ am_T := xps_T ⟨xtb3 (List.mem_of_getElem? (i := 112) rfl), rfl⟩
theorem xmc123 : Cond.code (⟨"GraphHouse$Ledger", "isGoodArc", "(IIIII)Z"⟩ : MethodName) cX5_isGoodArc 6 (some .boolean) ∈ am_T := xps_T ⟨xtb3 (List.mem_of_getElem? (i := 158) rfl), rfl⟩
theorem xmc124 : Cond.code (⟨"GraphHouse$Ledger", "addNode", "(I)I"⟩ : MethodName) cX5_addNode 2 (some .int) ∈ am_T := xps_T ⟨xtb3 (List.mem_of_getElem? (i := 116) rfl), rfl⟩
theorem xmc125 : Cond.code (⟨"GraphHouse$Ledger", "addArc", "(IIIII)I"⟩ : MethodName) cX5_addArc 8 (some .int) ∈ am_T := xps_T ⟨xtb3 (List.mem_of_getElem? (i := 177) rfl), rfl⟩
theorem xmc126 : Cond.code (⟨"GraphHouse$Ledger", "dropArc", "(I)V"⟩ : MethodName) cX5_dropArc 2 (none) ∈ am_T := xps_T ⟨xtb3 (List.mem_of_getElem? (i := 189) rfl), rfl⟩
theorem xmc127 : Cond.code (⟨"GraphHouse$Ledger", "changeArc", "(III)V"⟩ : MethodName) cX5_changeArc 4 (none) ∈ am_T := xps_T ⟨xtb3 (List.mem_of_getElem? (i := 193) rfl), rfl⟩
theorem xmc128 : Cond.code (⟨"GraphHouse$Ledger", "relabel", "(II)V"⟩ : MethodName) cX5_relabel 3 (none) ∈ am_T := xps_T ⟨xtb5 (List.mem_of_getElem? (i := 82) rfl), rfl⟩
theorem xmc129 : Cond.code (⟨"GraphHouse$Ledger", "note", "(IIII)V"⟩ : MethodName) cX5_note 6 (none) ∈ am_T := xps_T ⟨xtb3 (List.mem_of_getElem? (i := 120) rfl), rfl⟩
theorem xmc130 : Cond.code (⟨"GraphHouse$Ledger", "openRow", "()I"⟩ : MethodName) cX5_openRow 2 (some .int) ∈ am_T := xps_T ⟨xtb3 (List.mem_of_getElem? (i := 124) rfl), rfl⟩
theorem xmc131 : Cond.code (⟨"GraphHouse$Ledger", "apply", "(LGraphHouse$Graph;)V"⟩ : MethodName) cX5_apply 4 (none) ∈ am_T := xps_T ⟨xtb3 (List.mem_of_getElem? (i := 142) rfl), rfl⟩
theorem xmc132 : Cond.code (⟨"GraphHouse$Ledger", "applyArc", "(LGraphHouse$Graph;II)V"⟩ : MethodName) cX5_applyArc 4 (none) ∈ am_T := xps_T ⟨xtb3 (List.mem_of_getElem? (i := 146) rfl), rfl⟩
theorem xmc133 : Cond.code (⟨"GraphHouse$Ledger", "applyValue", "(LGraphHouse$Graph;III)V"⟩ : MethodName) cX5_applyValue 5 (none) ∈ am_T := xps_T ⟨xtb3 (List.mem_of_getElem? (i := 154) rfl), rfl⟩
theorem xmc134 : Cond.code (⟨"GraphHouse$Ledger", "replay", "(LGraphHouse$Graph;I)V"⟩ : MethodName) cX5_replay 4 (none) ∈ am_T := xps_T ⟨xtb5 (List.mem_of_getElem? (i := 93) rfl), rfl⟩
theorem xmc135 : Cond.code (⟨"GraphHouse$Ledger", "carryOut", "(LGraphHouse$Script;)I"⟩ : MethodName) cX5_carryOut 3 (some .int) ∈ am_T := xps_T ⟨xtb2 (List.mem_of_getElem? (i := 182) rfl), rfl⟩
theorem xmc136 : Cond.code (⟨"GraphHouse$Ledger", "readCommand", "(LGraphHouse$Script;)Z"⟩ : MethodName) cX5_readCommand 7 (some .boolean) ∈ am_T := xps_T ⟨xtb3 (List.mem_of_getElem? (i := 59) rfl), rfl⟩
theorem xmc137 : Cond.code (⟨"GraphHouse$Ledger", "shapeOf", "(I)Ljava/lang/String;"⟩ : MethodName) cX5_shapeOf 1 (some (.object "java/lang/String")) ∈ am_T := xps_T ⟨xtb3 (List.mem_of_getElem? (i := 62) rfl), rfl⟩
theorem xmc138 : Cond.code (⟨"GraphHouse$Ledger", "doCommand", "(I)Z"⟩ : MethodName) cX5_doCommand 2 (some .boolean) ∈ am_T := xps_T ⟨xtb3 (List.mem_of_getElem? (i := 108) rfl), rfl⟩
theorem xmc139 : Cond.code (⟨"GraphHouse$Parts", "<init>", "()V"⟩ : MethodName) cX6_init 1 (none) ∈ am_T := xps_T ⟨xtb1 (List.mem_of_getElem? (i := 80) rfl), rfl⟩
theorem xmc140 : Cond.code (⟨"GraphHouse$Parts", "strongPart", "(LGraphHouse$Graph;I)I"⟩ : MethodName) cX6_strongPart 3 (some .int) ∈ am_T := xps_T ⟨xtb6 (List.mem_of_getElem? (i := 49) rfl), rfl⟩
theorem xmc141 : Cond.code (⟨"GraphHouse$Parts", "weakPart", "(LGraphHouse$Graph;I)I"⟩ : MethodName) cX6_weakPart 3 (some .int) ∈ am_T := xps_T ⟨xtb6 (List.mem_of_getElem? (i := 56) rfl), rfl⟩
theorem xmc142 : Cond.code (⟨"GraphHouse$Parts", "isBridge", "(LGraphHouse$Graph;I)Z"⟩ : MethodName) cX6_isBridge 6 (some .boolean) ∈ am_T := xps_T ⟨xtb6 (List.mem_of_getElem? (i := 67) rfl), rfl⟩
theorem xmc143 : Cond.code (⟨"GraphHouse$Parts", "isCut", "(LGraphHouse$Graph;I)Z"⟩ : MethodName) cX6_isCut 5 (some .boolean) ∈ am_T := xps_T ⟨xtb6 (List.mem_of_getElem? (i := 79) rfl), rfl⟩
theorem xmc144 : Cond.code (⟨"GraphHouse$Parts", "ordered", "(LGraphHouse$Graph;I)I"⟩ : MethodName) cX6_ordered 3 (some .int) ∈ am_T := xps_T ⟨xtb6 (List.mem_of_getElem? (i := 90) rfl), rfl⟩
theorem xmc145 : Cond.code (⟨"GraphHouse$Parts", "makeOrder", "(LGraphHouse$Graph;)V"⟩ : MethodName) cX6_makeOrder 5 (none) ∈ am_T := xps_T ⟨xtb6 (List.mem_of_getElem? (i := 94) rfl), rfl⟩
theorem xmc146 : Cond.code (⟨"GraphHouse$Parts", "firstFree", "(LGraphHouse$Graph;I)I"⟩ : MethodName) cX6_firstFree 3 (some .int) ∈ am_T := xps_T ⟨xtb6 (List.mem_of_getElem? (i := 98) rfl), rfl⟩
theorem xmc147 : Cond.code (⟨"GraphHouse$Parts", "coreOf", "(LGraphHouse$Graph;I)I"⟩ : MethodName) cX6_coreOf 3 (some .int) ∈ am_T := xps_T ⟨xtb6 (List.mem_of_getElem? (i := 109) rfl), rfl⟩
theorem xmc148 : Cond.code (⟨"GraphHouse$Parts", "peel", "(LGraphHouse$Graph;)V"⟩ : MethodName) cX6_peel 6 (none) ∈ am_T := xps_T ⟨xtb6 (List.mem_of_getElem? (i := 113) rfl), rfl⟩
theorem xmc149 : Cond.code (⟨"GraphHouse$Parts", "loosest", "(I)I"⟩ : MethodName) cX6_loosest 4 (some .int) ∈ am_T := xps_T ⟨xtb6 (List.mem_of_getElem? (i := 118) rfl), rfl⟩
theorem xmc150 : Cond.code (⟨"GraphHouse$Parts", "loosen", "(LGraphHouse$Graph;I)V"⟩ : MethodName) cX6_loosen 4 (none) ∈ am_T := xps_T ⟨xtb6 (List.mem_of_getElem? (i := 123) rfl), rfl⟩
theorem xmc151 : Cond.code (⟨"GraphHouse$Parts", "triangles", "(LGraphHouse$Graph;)J"⟩ : MethodName) cX6_triangles 6 (some .long) ∈ am_T := xps_T ⟨xtb7 (List.mem_of_getElem? (i := 177) rfl), rfl⟩
theorem xmc152 : Cond.code (⟨"GraphHouse$Parts", "squares", "(LGraphHouse$Graph;)J"⟩ : MethodName) cX6_squares 7 (some .long) ∈ am_T := xps_T ⟨xtb7 (List.mem_of_getElem? (i := 183) rfl), rfl⟩
theorem xmc153 : Cond.code (⟨"GraphHouse$Question", "<init>", "()V"⟩ : MethodName) cX7_init 1 (none) ∈ am_T := xps_T ⟨xtb2 (List.mem_of_getElem? (i := 49) rfl), rfl⟩
theorem xmc154 : Cond.code (⟨"GraphHouse$Question", "adopt", "(LGraphHouse$Script;)Z"⟩ : MethodName) cX7_adopt 2 (some .boolean) ∈ am_T := xps_T ⟨xtb4 (List.mem_of_getElem? (i := 95) rfl), rfl⟩
theorem xmc155 : Cond.code (⟨"GraphHouse$Question", "isGood", "(LGraphHouse$Script;)Z"⟩ : MethodName) cX7_isGood 6 (some .boolean) ∈ am_T := xps_T ⟨xtb4 (List.mem_of_getElem? (i := 100) rfl), rfl⟩
theorem xmc156 : Cond.code (⟨"GraphHouse$Question", "judge", "(IZI)I"⟩ : MethodName) cX7_judge 3 (some .int) ∈ am_T := xps_T ⟨xtb4 (List.mem_of_getElem? (i := 103) rfl), rfl⟩
theorem xmc157 : Cond.code (⟨"GraphHouse$Question", "isAtom", "(I)Z"⟩ : MethodName) cX7_isAtom 1 (some .boolean) ∈ am_T := xps_T ⟨xtb4 (List.mem_of_getElem? (i := 106) rfl), rfl⟩
theorem xmc158 : Cond.code (⟨"GraphHouse$Question", "build", "(LGraphHouse$Script;)V"⟩ : MethodName) cX7_build 6 (none) ∈ am_T := xps_T ⟨xtb4 (List.mem_of_getElem? (i := 110) rfl), rfl⟩
theorem xmc159 : Cond.code (⟨"GraphHouse$Question", "closeBars", "(JJ)V"⟩ : MethodName) cX7_closeBars 7 (none) ∈ am_T := xps_T ⟨xtb4 (List.mem_of_getElem? (i := 115) rfl), rfl⟩
theorem xmc160 : Cond.code (⟨"GraphHouse$Question", "layPlace", "(CII)V"⟩ : MethodName) cX7_layPlace 7 (none) ∈ am_T := xps_T ⟨xtb4 (List.mem_of_getElem? (i := 128) rfl), rfl⟩
theorem xmc161 : Cond.code (⟨"GraphHouse$Question", "layRepeat", "(CII)V"⟩ : MethodName) cX7_layRepeat 4 (none) ∈ am_T := xps_T ⟨xtb4 (List.mem_of_getElem? (i := 132) rfl), rfl⟩
theorem xmc162 : Cond.code (⟨"GraphHouse$Question", "close", "(I)V"⟩ : MethodName) cX7_close 8 (none) ∈ am_T := xps_T ⟨xtb4 (List.mem_of_getElem? (i := 136) rfl), rfl⟩
theorem xmc163 : Cond.code (⟨"GraphHouse$Question", "leastFit", "(LGraphHouse$Graph;II)I"⟩ : MethodName) cX7_leastFit 5 (some .int) ∈ am_T := xps_T ⟨xtb7 (List.mem_of_getElem? (i := 195) rfl), rfl⟩
theorem xmc164 : Cond.code (⟨"GraphHouse$Question", "step", "(LGraphHouse$Graph;)Z"⟩ : MethodName) cX7_step 9 (some .boolean) ∈ am_T := xps_T ⟨xtb7 (List.mem_of_getElem? (i := 200) rfl), rfl⟩
theorem xmc165 : Cond.code (⟨"GraphHouse$Question", "behind", "(J)J"⟩ : MethodName) cX7_behind 7 (some .long) ∈ am_T := xps_T ⟨xtb7 (List.mem_of_getElem? (i := 204) rfl), rfl⟩
theorem xmc166 : Cond.code (⟨"GraphHouse$Script", "<init>", "()V"⟩ : MethodName) cX8_init 1 (none) ∈ am_T := xps_T ⟨xtb0 (List.mem_of_getElem? (i := 220) rfl), rfl⟩
theorem xmc167 : Cond.code (⟨"GraphHouse$Script", "begin", "()V"⟩ : MethodName) cX8_begin 1 (none) ∈ am_T := xps_T ⟨xtb2 (List.mem_of_getElem? (i := 193) rfl), rfl⟩
theorem xmc168 : Cond.code (⟨"GraphHouse$Script", "accuse", "(II)Z"⟩ : MethodName) cX8_accuse 3 (some .boolean) ∈ am_T := xps_T ⟨xtb3 (List.mem_of_getElem? (i := 79) rfl), rfl⟩
theorem xmc169 : Cond.code (⟨"GraphHouse$Script", "refuse", "(II)Z"⟩ : MethodName) cX8_refuse 3 (some .boolean) ∈ am_T := xps_T ⟨xtb3 (List.mem_of_getElem? (i := 75) rfl), rfl⟩
theorem xmc170 : Cond.code (⟨"GraphHouse$Script", "isAt", "(I)Z"⟩ : MethodName) cX8_isAt 2 (some .boolean) ∈ am_T := xps_T ⟨xtb3 (List.mem_of_getElem? (i := 104) rfl), rfl⟩
theorem xmc171 : Cond.code (⟨"GraphHouse$Script", "next", "(IZ)V"⟩ : MethodName) cX8_next 5 (none) ∈ am_T := xps_T ⟨xtb2 (List.mem_of_getElem? (i := 197) rfl), rfl⟩
theorem xmc172 : Cond.code (⟨"GraphHouse$Script", "isDigit", "(I)Z"⟩ : MethodName) cX8_isDigit 2 (some .boolean) ∈ am_T := xps_T ⟨xtb2 (List.mem_of_getElem? (i := 201) rfl), rfl⟩
theorem xmc173 : Cond.code (⟨"GraphHouse$Script", "readNumber", "(ZI)V"⟩ : MethodName) cX8_readNumber 5 (none) ∈ am_T := xps_T ⟨xtb2 (List.mem_of_getElem? (i := 205) rfl), rfl⟩
theorem xmc174 : Cond.code (⟨"GraphHouse$Script", "isSign", "(CZ)Z"⟩ : MethodName) cX8_isSign 2 (some .boolean) ∈ am_T := xps_T ⟨xtb2 (List.mem_of_getElem? (i := 208) rfl), rfl⟩
theorem xmc175 : Cond.code (⟨"GraphHouse$Script", "write", "(LGraphHouse$Graph;)I"⟩ : MethodName) cX8_write 3 (some .int) ∈ am_T := xps_T ⟨xtb3 (List.mem_of_getElem? (i := 207) rfl), rfl⟩
theorem xmc176 : Cond.code (⟨"GraphHouse$Script", "endCommand", "(I)V"⟩ : MethodName) cX8_endCommand 2 (none) ∈ am_T := xps_T ⟨xtb3 (List.mem_of_getElem? (i := 215) rfl), rfl⟩
theorem xmc177 : Cond.code (⟨"GraphHouse$Script", "put", "(C)V"⟩ : MethodName) cX8_put 2 (none) ∈ am_T := xps_T ⟨xtb3 (List.mem_of_getElem? (i := 211) rfl), rfl⟩
theorem xmc178 : Cond.code (⟨"GraphHouse$Script", "putNumber", "(I)V"⟩ : MethodName) cX8_putNumber 5 (none) ∈ am_T := xps_T ⟨xtb3 (List.mem_of_getElem? (i := 219) rfl), rfl⟩
theorem xmc179 : Cond.code (⟨"GraphHouse$Trees", "<init>", "()V"⟩ : MethodName) cX9_init 1 (none) ∈ am_T := xps_T ⟨xtb1 (List.mem_of_getElem? (i := 206) rfl), rfl⟩
theorem xmc180 : Cond.code (⟨"GraphHouse$Trees", "leastRooted", "(LGraphHouse$Graph;I)J"⟩ : MethodName) cX9_leastRooted 10 (some .long) ∈ am_T := xps_T ⟨xtb7 (List.mem_of_getElem? (i := 77) rfl), rfl⟩
theorem xmc181 : Cond.code (⟨"GraphHouse$Trees", "copyArcs", "(LGraphHouse$Graph;)V"⟩ : MethodName) cX9_copyArcs 3 (none) ∈ am_T := xps_T ⟨xtb7 (List.mem_of_getElem? (i := 81) rfl), rfl⟩
theorem xmc182 : Cond.code (⟨"GraphHouse$Trees", "takeCheapest", "(II)Z"⟩ : MethodName) cX9_takeCheapest 4 (some .boolean) ∈ am_T := xps_T ⟨xtb7 (List.mem_of_getElem? (i := 85) rfl), rfl⟩
theorem xmc183 : Cond.code (⟨"GraphHouse$Trees", "nameRings", "(II)I"⟩ : MethodName) cX9_nameRings 7 (some .int) ∈ am_T := xps_T ⟨xtb7 (List.mem_of_getElem? (i := 91) rfl), rfl⟩
theorem xmc184 : Cond.code (⟨"GraphHouse$Trees", "nameOthers", "(II)I"⟩ : MethodName) cX9_nameOthers 5 (some .int) ∈ am_T := xps_T ⟨xtb7 (List.mem_of_getElem? (i := 96) rfl), rfl⟩
theorem xmc185 : Cond.code (⟨"GraphHouse$Trees", "shrinkRings", "()V"⟩ : MethodName) cX9_shrinkRings 4 (none) ∈ am_T := xps_T ⟨xtb7 (List.mem_of_getElem? (i := 100) rfl), rfl⟩
theorem xmc186 : Cond.code (⟨"GraphHouse$Trees", "isSpanning", "(LGraphHouse$Graph;I)Z"⟩ : MethodName) cX9_isSpanning 4 (some .boolean) ∈ am_T := xps_T ⟨xtb7 (List.mem_of_getElem? (i := 111) rfl), rfl⟩
theorem xmc187 : Cond.code (⟨"GraphHouse$Trees", "isBefore", "(LGraphHouse$Graph;II)Z"⟩ : MethodName) cX9_isBefore 3 (some .boolean) ∈ am_T := xps_T ⟨xtb7 (List.mem_of_getElem? (i := 114) rfl), rfl⟩
theorem xmc188 : Cond.code (⟨"GraphHouse$Trees", "countSpanning", "(LGraphHouse$Graph;)I"⟩ : MethodName) cX9_countSpanning 2 (some .int) ∈ am_T := xps_T ⟨xtb3 (List.mem_of_getElem? (i := 230) rfl), rfl⟩
theorem xmc189 : Cond.code (⟨"GraphHouse$Trees", "countTrees", "(LGraphHouse$Graph;)I"⟩ : MethodName) cX9_countTrees 6 (some .int) ∈ am_T := xps_T ⟨xtb3 (List.mem_of_getElem? (i := 234) rfl), rfl⟩
theorem xmc190 : Cond.code (⟨"GraphHouse$Trees", "pivot", "(II)J"⟩ : MethodName) cX9_pivot 12 (some .long) ∈ am_T := xps_T ⟨xtb4 (List.mem_of_getElem? (i := 9) rfl), rfl⟩
theorem xmc191 : Cond.code (⟨"GraphHouse$Trees", "swapRows", "(II)V"⟩ : MethodName) cX9_swapRows 6 (none) ∈ am_T := xps_T ⟨xtb4 (List.mem_of_getElem? (i := 13) rfl), rfl⟩
theorem xmc192 : Cond.code (⟨"GraphHouse$Trees", "power", "(JJ)J"⟩ : MethodName) cX9_power 10 (some .long) ∈ am_T := xps_T ⟨xtb4 (List.mem_of_getElem? (i := 17) rfl), rfl⟩
theorem xmc193 : Cond.code (⟨"GraphHouse$Ways", "<init>", "()V"⟩ : MethodName) cX10_init 1 (none) ∈ am_T := xps_T ⟨xtb1 (List.mem_of_getElem? (i := 33) rfl), rfl⟩
theorem xmc194 : Cond.code (⟨"GraphHouse$Ways", "leastWeight", "(LGraphHouse$Graph;II)J"⟩ : MethodName) cX10_leastWeight 4 (some .long) ∈ am_T := xps_T ⟨xtb5 (List.mem_of_getElem? (i := 168) rfl), rfl⟩
theorem xmc195 : Cond.code (⟨"GraphHouse$Ways", "leastArc", "(LGraphHouse$Graph;III)I"⟩ : MethodName) cX10_leastArc 8 (some .int) ∈ am_T := xps_T ⟨xtb5 (List.mem_of_getElem? (i := 204) rfl), rfl⟩
theorem xmc196 : Cond.code (⟨"GraphHouse$Ways", "stepFrom", "(LGraphHouse$Graph;I)I"⟩ : MethodName) cX10_stepFrom 5 (some .int) ∈ am_T := xps_T ⟨xtb5 (List.mem_of_getElem? (i := 209) rfl), rfl⟩
theorem xmc197 : Cond.code (⟨"GraphHouse$Ways", "costOf", "(LGraphHouse$Graph;I)J"⟩ : MethodName) cX10_costOf 2 (some .long) ∈ am_T := xps_T ⟨xtb5 (List.mem_of_getElem? (i := 183) rfl), rfl⟩
theorem xmc198 : Cond.code (⟨"GraphHouse$Ways", "measure", "(LGraphHouse$Graph;I)V"⟩ : MethodName) cX10_measure 5 (none) ∈ am_T := xps_T ⟨xtb5 (List.mem_of_getElem? (i := 172) rfl), rfl⟩
theorem xmc199 : Cond.code (⟨"GraphHouse$Ways", "relax", "(LGraphHouse$Graph;I)I"⟩ : MethodName) cX10_relax 9 (some .int) ∈ am_T := xps_T ⟨xtb5 (List.mem_of_getElem? (i := 179) rfl), rfl⟩
theorem xmc200 : Cond.code (⟨"GraphHouse$Ways", "widest", "(LGraphHouse$Graph;II)I"⟩ : MethodName) cX10_widest 9 (some .int) ∈ am_T := xps_T ⟨xtb5 (List.mem_of_getElem? (i := 220) rfl), rfl⟩
theorem xmc201 : Cond.code (⟨"GraphHouse$Ways", "widestOf", "(I)I"⟩ : MethodName) cX10_widestOf 4 (some .int) ∈ am_T := xps_T ⟨xtb5 (List.mem_of_getElem? (i := 230) rfl), rfl⟩
theorem xmc202 : Cond.code (⟨"GraphHouse$Ways", "fewestArcs", "(LGraphHouse$Graph;II)I"⟩ : MethodName) cX10_fewestArcs 4 (some .int) ∈ am_T := xps_T ⟨xtb7 (List.mem_of_getElem? (i := 146) rfl), rfl⟩
theorem xmc203 : Cond.code (⟨"GraphHouse$Ways", "countBy", "(LGraphHouse$Graph;III)I"⟩ : MethodName) cX10_countBy 9 (some .int) ∈ am_T := xps_T ⟨xtb7 (List.mem_of_getElem? (i := 155) rfl), rfl⟩
theorem xmc204 : Cond.code (⟨"GraphHouse$Ways", "spread", "(LGraphHouse$Graph;I)V"⟩ : MethodName) cX10_spread 8 (none) ∈ am_T := xps_T ⟨xtb7 (List.mem_of_getElem? (i := 150) rfl), rfl⟩
theorem xmc205 : Cond.code (⟨"GraphHouse$Ways", "countShort", "(LGraphHouse$Graph;II)I"⟩ : MethodName) cX10_countShort 4 (some .int) ∈ am_T := xps_T ⟨xtb6 (List.mem_of_getElem? (i := 8) rfl), rfl⟩
theorem xmc206 : Cond.code (⟨"GraphHouse$Ways", "arcOfShort", "(LGraphHouse$Graph;IIII)I"⟩ : MethodName) cX10_arcOfShort 8 (some .int) ∈ am_T := xps_T ⟨xtb6 (List.mem_of_getElem? (i := 36) rfl), rfl⟩
theorem xmc207 : Cond.code (⟨"GraphHouse$Ways", "collect", "(LGraphHouse$Graph;II)V"⟩ : MethodName) cX10_collect 4 (none) ∈ am_T := xps_T ⟨xtb6 (List.mem_of_getElem? (i := 12) rfl), rfl⟩
theorem xmc208 : Cond.code (⟨"GraphHouse$Ways", "gather", "(LGraphHouse$Graph;IIIJ)V"⟩ : MethodName) cX10_gather 12 (none) ∈ am_T := xps_T ⟨xtb6 (List.mem_of_getElem? (i := 16) rfl), rfl⟩
theorem xmc209 : Cond.code (⟨"GraphHouse$Ways", "leads", "(LGraphHouse$Graph;III)Z"⟩ : MethodName) cX10_leads 8 (some .boolean) ∈ am_T := xps_T ⟨xtb6 (List.mem_of_getElem? (i := 21) rfl), rfl⟩
theorem xmc210 : Cond.code (⟨"GraphHouse$Ways", "sortKeys", "()V"⟩ : MethodName) cX10_sortKeys 6 (none) ∈ am_T := xps_T ⟨xtb6 (List.mem_of_getElem? (i := 25) rfl), rfl⟩
theorem xmc211 : Cond.code (⟨"GraphHouse", "<init>", "()V"⟩ : MethodName) cX11_init 1 (none) ∈ am_T := xps_T ⟨xtb0 (List.mem_of_getElem? (i := 33) rfl), rfl⟩
theorem xmc212 : Cond.code (⟨"GraphHouse", "node", "(I)I"⟩ : MethodName) cX11_node 2 (some .int) ∈ am_T := xps_T ⟨xtb4 (List.mem_of_getElem? (i := 189) rfl), rfl⟩
theorem xmc213 : Cond.code (⟨"GraphHouse", "arc", "(IIIII)I"⟩ : MethodName) cX11_arc 6 (some .int) ∈ am_T := xps_T ⟨xtb5 (List.mem_of_getElem? (i := 42) rfl), rfl⟩
theorem xmc214 : Cond.code (⟨"GraphHouse", "take", "(I)I"⟩ : MethodName) cX11_take 2 (some .int) ∈ am_T := xps_T ⟨xtb5 (List.mem_of_getElem? (i := 51) rfl), rfl⟩
theorem xmc215 : Cond.code (⟨"GraphHouse", "set", "(III)I"⟩ : MethodName) cX11_set 5 (some .int) ∈ am_T := xps_T ⟨xtb5 (List.mem_of_getElem? (i := 60) rfl), rfl⟩
theorem xmc216 : Cond.code (⟨"GraphHouse", "label", "(II)I"⟩ : MethodName) cX11_label 4 (some .int) ∈ am_T := xps_T ⟨xtb5 (List.mem_of_getElem? (i := 77) rfl), rfl⟩
theorem xmc217 : Cond.code (⟨"GraphHouse", "view", "(I)I"⟩ : MethodName) cX11_view 2 (some .int) ∈ am_T := xps_T ⟨xtb5 (List.mem_of_getElem? (i := 89) rfl), rfl⟩
theorem xmc218 : Cond.code (⟨"GraphHouse", "version", "()I"⟩ : MethodName) cX11_version 1 (some .int) ∈ am_T := xps_T ⟨xtb2 (List.mem_of_getElem? (i := 170) rfl), rfl⟩
theorem xmc219 : Cond.code (⟨"GraphHouse", "size", "(I)I"⟩ : MethodName) cX11_size 3 (some .int) ∈ am_T := xps_T ⟨xtb5 (List.mem_of_getElem? (i := 104) rfl), rfl⟩
theorem xmc220 : Cond.code (⟨"GraphHouse", "told", "(II)J"⟩ : MethodName) cX11_told 4 (some .long) ∈ am_T := xps_T ⟨xtb5 (List.mem_of_getElem? (i := 112) rfl), rfl⟩
theorem xmc221 : Cond.code (⟨"GraphHouse", "labelOf", "(I)I"⟩ : MethodName) cX11_labelOf 3 (some .int) ∈ am_T := xps_T ⟨xtb5 (List.mem_of_getElem? (i := 120) rfl), rfl⟩
theorem xmc222 : Cond.code (⟨"GraphHouse", "arcAt", "(III)I"⟩ : MethodName) cX11_arcAt 5 (some .int) ∈ am_T := xps_T ⟨xtb5 (List.mem_of_getElem? (i := 127) rfl), rfl⟩
theorem xmc223 : Cond.code (⟨"GraphHouse", "type", "(I)I"⟩ : MethodName) cX11_type 2 (some .int) ∈ am_T := xps_T ⟨xtb5 (List.mem_of_getElem? (i := 143) rfl), rfl⟩
theorem xmc224 : Cond.code (⟨"GraphHouse", "wipe", "()I"⟩ : MethodName) cX11_wipe 2 (some .int) ∈ am_T := xps_T ⟨xtb2 (List.mem_of_getElem? (i := 174) rfl), rfl⟩
theorem xmc225 : Cond.code (⟨"GraphHouse", "load", "()I"⟩ : MethodName) cX11_load 1 (some .int) ∈ am_T := xps_T ⟨xtb2 (List.mem_of_getElem? (i := 178) rfl), rfl⟩
theorem xmc226 : Cond.code (⟨"GraphHouse", "fault", "(I)I"⟩ : MethodName) cX11_fault 2 (some .int) ∈ am_T := xps_T ⟨xtb5 (List.mem_of_getElem? (i := 150) rfl), rfl⟩
theorem xmc227 : Cond.code (⟨"GraphHouse", "print", "()I"⟩ : MethodName) cX11_print 1 (some .int) ∈ am_T := xps_T ⟨xtb3 (List.mem_of_getElem? (i := 199) rfl), rfl⟩
theorem xmc228 : Cond.code (⟨"GraphHouse", "printed", "(I)I"⟩ : MethodName) cX11_printed 2 (some .int) ∈ am_T := xps_T ⟨xtb5 (List.mem_of_getElem? (i := 157) rfl), rfl⟩
theorem xmc229 : Cond.code (⟨"GraphHouse", "distance", "(II)J"⟩ : MethodName) cX11_distance 4 (some .long) ∈ am_T := xps_T ⟨xtb5 (List.mem_of_getElem? (i := 164) rfl), rfl⟩
theorem xmc230 : Cond.code (⟨"GraphHouse", "way", "(III)I"⟩ : MethodName) cX11_way 5 (some .int) ∈ am_T := xps_T ⟨xtb5 (List.mem_of_getElem? (i := 200) rfl), rfl⟩
theorem xmc231 : Cond.code (⟨"GraphHouse", "width", "(II)I"⟩ : MethodName) cX11_width 4 (some .int) ∈ am_T := xps_T ⟨xtb5 (List.mem_of_getElem? (i := 216) rfl), rfl⟩
theorem xmc232 : Cond.code (⟨"GraphHouse", "shorts", "(II)I"⟩ : MethodName) cX11_shorts 4 (some .int) ∈ am_T := xps_T ⟨xtb5 (List.mem_of_getElem? (i := 239) rfl), rfl⟩
theorem xmc233 : Cond.code (⟨"GraphHouse", "shortArc", "(IIII)I"⟩ : MethodName) cX11_shortArc 6 (some .int) ∈ am_T := xps_T ⟨xtb6 (List.mem_of_getElem? (i := 32) rfl), rfl⟩
theorem xmc234 : Cond.code (⟨"GraphHouse", "part", "(II)I"⟩ : MethodName) cX11_part 4 (some .int) ∈ am_T := xps_T ⟨xtb6 (List.mem_of_getElem? (i := 45) rfl), rfl⟩
theorem xmc235 : Cond.code (⟨"GraphHouse", "bridge", "(I)Z"⟩ : MethodName) cX11_bridge 3 (some .boolean) ∈ am_T := xps_T ⟨xtb6 (List.mem_of_getElem? (i := 63) rfl), rfl⟩
theorem xmc236 : Cond.code (⟨"GraphHouse", "cut", "(I)Z"⟩ : MethodName) cX11_cut 3 (some .boolean) ∈ am_T := xps_T ⟨xtb6 (List.mem_of_getElem? (i := 75) rfl), rfl⟩
theorem xmc237 : Cond.code (⟨"GraphHouse", "order", "(I)I"⟩ : MethodName) cX11_order 2 (some .int) ∈ am_T := xps_T ⟨xtb6 (List.mem_of_getElem? (i := 86) rfl), rfl⟩
theorem xmc238 : Cond.code (⟨"GraphHouse", "core", "(I)I"⟩ : MethodName) cX11_core 3 (some .int) ∈ am_T := xps_T ⟨xtb6 (List.mem_of_getElem? (i := 105) rfl), rfl⟩
theorem xmc239 : Cond.code (⟨"GraphHouse", "clique", "(I)I"⟩ : MethodName) cX11_clique 4 (some .int) ∈ am_T := xps_T ⟨xtb6 (List.mem_of_getElem? (i := 130) rfl), rfl⟩
theorem xmc240 : Cond.code (⟨"GraphHouse", "colour", "(I)I"⟩ : MethodName) cX11_colour 3 (some .int) ∈ am_T := xps_T ⟨xtb6 (List.mem_of_getElem? (i := 149) rfl), rfl⟩
theorem xmc241 : Cond.code (⟨"GraphHouse", "flow", "(II)J"⟩ : MethodName) cX11_flow 4 (some .long) ∈ am_T := xps_T ⟨xtb6 (List.mem_of_getElem? (i := 209) rfl), rfl⟩
theorem xmc242 : Cond.code (⟨"GraphHouse", "side", "(III)Z"⟩ : MethodName) cX11_side 5 (some .boolean) ∈ am_T := xps_T ⟨xtb6 (List.mem_of_getElem? (i := 238) rfl), rfl⟩
theorem xmc243 : Cond.code (⟨"GraphHouse", "cost", "(III)J"⟩ : MethodName) cX11_cost 5 (some .long) ∈ am_T := xps_T ⟨xtb7 (List.mem_of_getElem? (i := 5) rfl), rfl⟩
theorem xmc244 : Cond.code (⟨"GraphHouse", "pairing", "(I)J"⟩ : MethodName) cX11_pairing 2 (some .long) ∈ am_T := xps_T ⟨xtb7 (List.mem_of_getElem? (i := 59) rfl), rfl⟩
theorem xmc245 : Cond.code (⟨"GraphHouse", "tree", "(I)J"⟩ : MethodName) cX11_tree 3 (some .long) ∈ am_T := xps_T ⟨xtb7 (List.mem_of_getElem? (i := 73) rfl), rfl⟩
theorem xmc246 : Cond.code (⟨"GraphHouse", "span", "(I)Z"⟩ : MethodName) cX11_span 3 (some .boolean) ∈ am_T := xps_T ⟨xtb7 (List.mem_of_getElem? (i := 107) rfl), rfl⟩
theorem xmc247 : Cond.code (⟨"GraphHouse", "trees", "()I"⟩ : MethodName) cX11_trees 1 (some .int) ∈ am_T := xps_T ⟨xtb3 (List.mem_of_getElem? (i := 226) rfl), rfl⟩
theorem xmc248 : Cond.code (⟨"GraphHouse", "rank", "(II)J"⟩ : MethodName) cX11_rank 4 (some .long) ∈ am_T := xps_T ⟨xtb7 (List.mem_of_getElem? (i := 122) rfl), rfl⟩
theorem xmc249 : Cond.code (⟨"GraphHouse", "shortest", "(IIII)I"⟩ : MethodName) cX11_shortest 6 (some .int) ∈ am_T := xps_T ⟨xtb7 (List.mem_of_getElem? (i := 142) rfl), rfl⟩
theorem xmc250 : Cond.code (⟨"GraphHouse", "group", "(I)I"⟩ : MethodName) cX11_group 3 (some .int) ∈ am_T := xps_T ⟨xtb7 (List.mem_of_getElem? (i := 162) rfl), rfl⟩
theorem xmc251 : Cond.code (⟨"GraphHouse", "gain", "()J"⟩ : MethodName) cX11_gain 1 (some .long) ∈ am_T := xps_T ⟨xtb4 (List.mem_of_getElem? (i := 21) rfl), rfl⟩
theorem xmc252 : Cond.code (⟨"GraphHouse", "figures", "(I)J"⟩ : MethodName) cX11_figures 2 (some .long) ∈ am_T := xps_T ⟨xtb7 (List.mem_of_getElem? (i := 173) rfl), rfl⟩
theorem xmc253 : Cond.code (⟨"GraphHouse", "pattern", "()I"⟩ : MethodName) cX11_pattern 1 (some .int) ∈ am_T := xps_T ⟨xtb4 (List.mem_of_getElem? (i := 91) rfl), rfl⟩
theorem xmc254 : Cond.code (⟨"GraphHouse", "fits", "(II)I"⟩ : MethodName) cX11_fits 4 (some .int) ∈ am_T := xps_T ⟨xtb7 (List.mem_of_getElem? (i := 191) rfl), rfl⟩
theorem xmc255 : Cond.code (⟨"GraphHouse", "program", "()I"⟩ : MethodName) cX11_program 1 (some .int) ∈ am_T := xps_T ⟨xtb4 (List.mem_of_getElem? (i := 140) rfl), rfl⟩
theorem xmc256 : Cond.code (⟨"GraphHouse", "run", "(IIIJ)I"⟩ : MethodName) cX11_run 8 (some .int) ∈ am_T := xps_T ⟨xtb7 (List.mem_of_getElem? (i := 213) rfl), rfl⟩
theorem xmc257 : Cond.code (⟨"GraphHouse", "state", "(I)J"⟩ : MethodName) cX11_state 2 (some .long) ∈ am_T := xps_T ⟨xtb8 (List.mem_of_getElem? (i := 40) rfl), rfl⟩
theorem xmc258 : Cond.code (⟨"GraphHouse", "letters", "(I)I"⟩ : MethodName) cX11_letters 2 (some .int) ∈ am_T := xps_T ⟨xtb8 (List.mem_of_getElem? (i := 47) rfl), rfl⟩
theorem xmc259 : Cond.code (⟨"GraphHouse", "graph", "()LGraphHouse$Graph;"⟩ : MethodName) cX11_graph 1 (some (.object "GraphHouse$Graph")) ∈ am_T := xps_T ⟨xtb3 (List.mem_of_getElem? (i := 203) rfl), rfl⟩
theorem xmc260 : Cond.code (⟨"GraphHouse", "isLetter", "(I)Z"⟩ : MethodName) cX11_isLetter 1 (some .boolean) ∈ am_T := xps_T ⟨xtb3 (List.mem_of_getElem? (i := 173) rfl), rfl⟩
theorem xmc261 : Cond.code (⟨"GraphHouse", "isWeight", "(I)Z"⟩ : MethodName) cX11_isWeight 1 (some .boolean) ∈ am_T := xps_T ⟨xtb3 (List.mem_of_getElem? (i := 165) rfl), rfl⟩
theorem xmc262 : Cond.code (⟨"GraphHouse", "isRoom", "(I)Z"⟩ : MethodName) cX11_isRoom 1 (some .boolean) ∈ am_T := xps_T ⟨xtb3 (List.mem_of_getElem? (i := 170) rfl), rfl⟩
theorem xmc263 : Cond.code (⟨"GraphHouse", "isGoodValue", "(II)Z"⟩ : MethodName) cX11_isGoodValue 2 (some .boolean) ∈ am_T := xps_T ⟨xtb5 (List.mem_of_getElem? (i := 63) rfl), rfl⟩
theorem xmc264 : Cond.code (⟨"GraphHouse", "lowest", "(I)I"⟩ : MethodName) cX11_lowest 1 (some .int) ∈ am_T := xps_T ⟨xtb4 (List.mem_of_getElem? (i := 67) rfl), rfl⟩
theorem xmc265 : Cond.code (⟨"GraphHouse", "lowestOfLong", "(J)I"⟩ : MethodName) cX11_lowestOfLong 2 (some .int) ∈ am_T := xps_T ⟨xtb4 (List.mem_of_getElem? (i := 118) rfl), rfl⟩
theorem xmc266 : Cond.code (⟨"GraphHouse", "flood", "([III)I"⟩ : MethodName) cX11_flood 7 (some .int) ∈ am_T := xps_T ⟨xtb5 (List.mem_of_getElem? (i := 187) rfl), rfl⟩
theorem xmc267 : Cond.code (⟨"GraphHouseModel", "<init>", "()V"⟩ : MethodName) cX12_init 1 (none) ∈ am_T := xps_T ⟨xtb8 (List.mem_of_getElem? (i := 52) rfl), rfl⟩
theorem xmc268 : Cond.code (⟨"GraphHouseModel", "thrown", "()I"⟩ : MethodName) cX12_thrown 1 (some .int) ∈ am_T := xps_T ⟨xtb9 (List.mem_of_getElem? (i := 189) rfl), rfl⟩
theorem xmc269 : Cond.code (⟨"GraphHouseModel", "in", "(JJJ)Z"⟩ : MethodName) cX12_in 6 (some .boolean) ∈ am_T := xps_T ⟨xtb9 (List.mem_of_getElem? (i := 197) rfl), rfl⟩
theorem xmc270 : Cond.code (⟨"GraphHouseModel", "fails", "(ZZ)Z"⟩ : MethodName) cX12_fails 3 (some .boolean) ∈ am_T := xps_T ⟨xtb9 (List.mem_of_getElem? (i := 201) rfl), rfl⟩
theorem xmc271 : Cond.code (⟨"GraphHouseModel", "wrongArgument", "(Z)Z"⟩ : MethodName) cX12_wrongArgument 2 (some .boolean) ∈ am_T := xps_T ⟨xtb10 (List.mem_of_getElem? (i := 15) rfl), rfl⟩
theorem xmc272 : Cond.code (⟨"GraphHouseModel", "isNode", "(I)Z"⟩ : MethodName) cX12_isNode 2 (some .boolean) ∈ am_T := xps_T ⟨xtb10 (List.mem_of_getElem? (i := 43) rfl), rfl⟩
theorem xmc273 : Cond.code (⟨"GraphHouseModel", "isArc", "(I)Z"⟩ : MethodName) cX12_isArc 2 (some .boolean) ∈ am_T := xps_T ⟨xtb10 (List.mem_of_getElem? (i := 198) rfl), rfl⟩
theorem xmc274 : Cond.code (⟨"GraphHouseModel", "make", "(IIIIIII)V"⟩ : MethodName) cX12_make 8 (none) ∈ am_T := xps_T ⟨xtb9 (List.mem_of_getElem? (i := 205) rfl), rfl⟩
theorem xmc275 : Cond.code (⟨"GraphHouseModel", "apply", "(II)V"⟩ : MethodName) cX12_apply 4 (none) ∈ am_T := xps_T ⟨xtb9 (List.mem_of_getElem? (i := 209) rfl), rfl⟩
theorem xmc276 : Cond.code (⟨"GraphHouseModel", "look", "()V"⟩ : MethodName) cX12_look 1 (none) ∈ am_T := xps_T ⟨xtb9 (List.mem_of_getElem? (i := 213) rfl), rfl⟩
theorem xmc277 : Cond.code (⟨"GraphHouseModel", "isNewNode", "(I)Z"⟩ : MethodName) cX12_isNewNode 2 (some .boolean) ∈ am_T := xps_T ⟨xtb9 (List.mem_of_getElem? (i := 221) rfl), rfl⟩
theorem xmc278 : Cond.code (⟨"GraphHouseModel", "isNewArc", "(I)Z"⟩ : MethodName) cX12_isNewArc 2 (some .boolean) ∈ am_T := xps_T ⟨xtb9 (List.mem_of_getElem? (i := 238) rfl), rfl⟩
theorem xmc279 : Cond.code (⟨"GraphHouseModel", "isWeight", "(I)Z"⟩ : MethodName) cX12_isWeight 1 (some .boolean) ∈ am_T := xps_T ⟨xtb9 (List.mem_of_getElem? (i := 224) rfl), rfl⟩
theorem xmc280 : Cond.code (⟨"GraphHouseModel", "freePlace", "(I)I"⟩ : MethodName) cX12_freePlace 3 (some .int) ∈ am_T := xps_T ⟨xtb9 (List.mem_of_getElem? (i := 230) rfl), rfl⟩
theorem xmc281 : Cond.code (⟨"GraphHouseModel", "node", "(I)I"⟩ : MethodName) cX12_node 2 (some .int) ∈ am_T := xps_T ⟨xtb9 (List.mem_of_getElem? (i := 193) rfl), rfl⟩
theorem xmc282 : Cond.code (⟨"GraphHouseModel", "arc", "(IIIII)I"⟩ : MethodName) cX12_arc 7 (some .int) ∈ am_T := xps_T ⟨xtb9 (List.mem_of_getElem? (i := 217) rfl), rfl⟩
theorem xmc283 : Cond.code (⟨"GraphHouseModel", "take", "(I)I"⟩ : MethodName) cX12_take 2 (some .int) ∈ am_T := xps_T ⟨xtb9 (List.mem_of_getElem? (i := 234) rfl), rfl⟩
theorem xmc284 : Cond.code (⟨"GraphHouseModel", "set", "(III)I"⟩ : MethodName) cX12_set 6 (some .int) ∈ am_T := xps_T ⟨xtb10 (List.mem_of_getElem? (i := 2) rfl), rfl⟩
theorem xmc285 : Cond.code (⟨"GraphHouseModel", "label", "(II)I"⟩ : MethodName) cX12_label 4 (some .int) ∈ am_T := xps_T ⟨xtb10 (List.mem_of_getElem? (i := 6) rfl), rfl⟩
theorem xmc286 : Cond.code (⟨"GraphHouseModel", "view", "(I)I"⟩ : MethodName) cX12_view 3 (some .int) ∈ am_T := xps_T ⟨xtb10 (List.mem_of_getElem? (i := 10) rfl), rfl⟩
theorem xmc287 : Cond.code (⟨"GraphHouseModel", "version", "()I"⟩ : MethodName) cX12_version 1 (some .int) ∈ am_T := xps_T ⟨xtb10 (List.mem_of_getElem? (i := 19) rfl), rfl⟩
theorem xmc288 : Cond.code (⟨"GraphHouseModel", "isJoint", "(I)Z"⟩ : MethodName) cX12_isJoint 2 (some .boolean) ∈ am_T := xps_T ⟨xtb10 (List.mem_of_getElem? (i := 28) rfl), rfl⟩
theorem xmc289 : Cond.code (⟨"GraphHouseModel", "size", "(I)I"⟩ : MethodName) cX12_size 6 (some .int) ∈ am_T := xps_T ⟨xtb10 (List.mem_of_getElem? (i := 23) rfl), rfl⟩
theorem xmc290 : Cond.code (⟨"GraphHouseModel", "told", "(II)J"⟩ : MethodName) cX12_told 4 (some .long) ∈ am_T := xps_T ⟨xtb10 (List.mem_of_getElem? (i := 32) rfl), rfl⟩
theorem xmc291 : Cond.code (⟨"GraphHouseModel", "labelOf", "(I)I"⟩ : MethodName) cX12_labelOf 2 (some .int) ∈ am_T := xps_T ⟨xtb10 (List.mem_of_getElem? (i := 39) rfl), rfl⟩
theorem xmc292 : Cond.code (⟨"GraphHouseModel", "arcAt", "(III)I"⟩ : MethodName) cX12_arcAt 6 (some .int) ∈ am_T := xps_T ⟨xtb10 (List.mem_of_getElem? (i := 47) rfl), rfl⟩
theorem xmc293 : Cond.code (⟨"GraphHouseModel", "type", "(I)I"⟩ : MethodName) cX12_type 2 (some .int) ∈ am_T := xps_T ⟨xtb10 (List.mem_of_getElem? (i := 51) rfl), rfl⟩
theorem xmc294 : Cond.code (⟨"GraphHouseModel", "wipe", "()I"⟩ : MethodName) cX12_wipe 2 (some .int) ∈ am_T := xps_T ⟨xtb10 (List.mem_of_getElem? (i := 57) rfl), rfl⟩
theorem xmc295 : Cond.code (⟨"GraphHouseModel", "fault", "(I)I"⟩ : MethodName) cX12_fault 2 (some .int) ∈ am_T := xps_T ⟨xtb10 (List.mem_of_getElem? (i := 61) rfl), rfl⟩
theorem xmc296 : Cond.code (⟨"GraphHouseModel", "isLetter", "(I)Z"⟩ : MethodName) cX12_isLetter 1 (some .boolean) ∈ am_T := xps_T ⟨xtb10 (List.mem_of_getElem? (i := 89) rfl), rfl⟩
theorem xmc297 : Cond.code (⟨"GraphHouseModel", "isDigit", "(I)Z"⟩ : MethodName) cX12_isDigit 1 (some .boolean) ∈ am_T := xps_T ⟨xtb10 (List.mem_of_getElem? (i := 76) rfl), rfl⟩
theorem xmc298 : Cond.code (⟨"GraphHouseModel", "blame", "(II)V"⟩ : MethodName) cX12_blame 3 (none) ∈ am_T := xps_T ⟨xtb10 (List.mem_of_getElem? (i := 86) rfl), rfl⟩
theorem xmc299 : Cond.code (⟨"GraphHouseModel", "nextToken", "()V"⟩ : MethodName) cX12_nextToken 3 (none) ∈ am_T := xps_T ⟨xtb10 (List.mem_of_getElem? (i := 73) rfl), rfl⟩
theorem xmc300 : Cond.code (⟨"GraphHouseModel", "readNumber", "(I)V"⟩ : MethodName) cX12_readNumber 3 (none) ∈ am_T := xps_T ⟨xtb10 (List.mem_of_getElem? (i := 80) rfl), rfl⟩
theorem xmc301 : Cond.code (⟨"GraphHouseModel", "shape", "(II)I"⟩ : MethodName) cX12_shape 3 (some .int) ∈ am_T := xps_T ⟨xtb10 (List.mem_of_getElem? (i := 97) rfl), rfl⟩
theorem xmc302 : Cond.code (⟨"GraphHouseModel", "load", "()I"⟩ : MethodName) cX12_load 3 (some .int) ∈ am_T := xps_T ⟨xtb10 (List.mem_of_getElem? (i := 65) rfl), rfl⟩
theorem xmc303 : Cond.code (⟨"GraphHouseModel", "copyGraph", "()V"⟩ : MethodName) cX12_copyGraph 2 (none) ∈ am_T := xps_T ⟨xtb10 (List.mem_of_getElem? (i := 69) rfl), rfl⟩
theorem xmc304 : Cond.code (⟨"GraphHouseModel", "command", "()V"⟩ : MethodName) cX12_command 6 (none) ∈ am_T := xps_T ⟨xtb10 (List.mem_of_getElem? (i := 93) rfl), rfl⟩
theorem xmc305 : Cond.code (⟨"GraphHouseModel", "isDone", "(II)Z"⟩ : MethodName) cX12_isDone 8 (some .boolean) ∈ am_T := xps_T ⟨xtb10 (List.mem_of_getElem? (i := 101) rfl), rfl⟩
theorem xmc306 : Cond.code (⟨"GraphHouseModel", "put", "(I)V"⟩ : MethodName) cX12_put 2 (none) ∈ am_T := xps_T ⟨xtb10 (List.mem_of_getElem? (i := 109) rfl), rfl⟩
theorem xmc307 : Cond.code (⟨"GraphHouseModel", "putNumber", "(I)V"⟩ : MethodName) cX12_putNumber 4 (none) ∈ am_T := xps_T ⟨xtb10 (List.mem_of_getElem? (i := 113) rfl), rfl⟩
theorem xmc308 : Cond.code (⟨"GraphHouseModel", "print", "()I"⟩ : MethodName) cX12_print 2 (some .int) ∈ am_T := xps_T ⟨xtb10 (List.mem_of_getElem? (i := 105) rfl), rfl⟩
theorem xmc309 : Cond.code (⟨"GraphHouseModel", "printed", "(I)I"⟩ : MethodName) cX12_printed 2 (some .int) ∈ am_T := xps_T ⟨xtb10 (List.mem_of_getElem? (i := 117) rfl), rfl⟩
theorem xmc310 : Cond.code (⟨"GraphHouseModel", "close", "(ZII)V"⟩ : MethodName) cX12_close 7 (none) ∈ am_T := xps_T ⟨xtb10 (List.mem_of_getElem? (i := 129) rfl), rfl⟩
theorem xmc311 : Cond.code (⟨"GraphHouseModel", "has", "(II)Z"⟩ : MethodName) cX12_has 2 (some .boolean) ∈ am_T := xps_T ⟨xtb10 (List.mem_of_getElem? (i := 132) rfl), rfl⟩
theorem xmc312 : Cond.code (⟨"GraphHouseModel", "toGoal", "(II)Z"⟩ : MethodName) cX12_toGoal 9 (some .boolean) ∈ am_T := xps_T ⟨xtb10 (List.mem_of_getElem? (i := 136) rfl), rfl⟩
theorem xmc313 : Cond.code (⟨"GraphHouseModel", "fewest", "(II)V"⟩ : MethodName) cX12_fewest 6 (none) ∈ am_T := xps_T ⟨xtb10 (List.mem_of_getElem? (i := 140) rfl), rfl⟩
theorem xmc314 : Cond.code (⟨"GraphHouseModel", "between", "(II)I"⟩ : MethodName) cX12_between 5 (some .int) ∈ am_T := xps_T ⟨xtb10 (List.mem_of_getElem? (i := 125) rfl), rfl⟩
theorem xmc315 : Cond.code (⟨"GraphHouseModel", "distance", "(II)J"⟩ : MethodName) cX12_distance 4 (some .long) ∈ am_T := xps_T ⟨xtb10 (List.mem_of_getElem? (i := 121) rfl), rfl⟩
theorem xmc316 : Cond.code (⟨"GraphHouseModel", "way", "(III)I"⟩ : MethodName) cX12_way 11 (some .int) ∈ am_T := xps_T ⟨xtb10 (List.mem_of_getElem? (i := 145) rfl), rfl⟩
theorem xmc317 : Cond.code (⟨"GraphHouseModel", "width", "(II)I"⟩ : MethodName) cX12_width 6 (some .int) ∈ am_T := xps_T ⟨xtb10 (List.mem_of_getElem? (i := 149) rfl), rfl⟩
theorem xmc318 : Cond.code (⟨"GraphHouseModel", "addShort", "(IIIII)V"⟩ : MethodName) cX12_addShort 10 (none) ∈ am_T := xps_T ⟨xtb10 (List.mem_of_getElem? (i := 166) rfl), rfl⟩
theorem xmc319 : Cond.code (⟨"GraphHouseModel", "goesOn", "(III)Z"⟩ : MethodName) cX12_goesOn 4 (some .boolean) ∈ am_T := xps_T ⟨xtb10 (List.mem_of_getElem? (i := 162) rfl), rfl⟩
theorem xmc320 : Cond.code (⟨"GraphHouseModel", "findShorts", "(II)V"⟩ : MethodName) cX12_findShorts 5 (none) ∈ am_T := xps_T ⟨xtb10 (List.mem_of_getElem? (i := 158) rfl), rfl⟩
theorem xmc321 : Cond.code (⟨"GraphHouseModel", "second", "(IIII)V"⟩ : MethodName) cX12_second 7 (none) ∈ am_T := xps_T ⟨xtb10 (List.mem_of_getElem? (i := 170) rfl), rfl⟩
theorem xmc322 : Cond.code (⟨"GraphHouseModel", "third", "(IIIII)V"⟩ : MethodName) cX12_third 9 (none) ∈ am_T := xps_T ⟨xtb10 (List.mem_of_getElem? (i := 174) rfl), rfl⟩
theorem xmc323 : Cond.code (⟨"GraphHouseModel", "isBefore", "(II)Z"⟩ : MethodName) cX12_isBefore 4 (some .boolean) ∈ am_T := xps_T ⟨xtb10 (List.mem_of_getElem? (i := 186) rfl), rfl⟩
theorem xmc324 : Cond.code (⟨"GraphHouseModel", "sortShorts", "()V"⟩ : MethodName) cX12_sortShorts 9 (none) ∈ am_T := xps_T ⟨xtb10 (List.mem_of_getElem? (i := 182) rfl), rfl⟩
theorem xmc325 : Cond.code (⟨"GraphHouseModel", "shorts", "(II)I"⟩ : MethodName) cX12_shorts 3 (some .int) ∈ am_T := xps_T ⟨xtb10 (List.mem_of_getElem? (i := 154) rfl), rfl⟩
theorem xmc326 : Cond.code (⟨"GraphHouseModel", "shortArc", "(IIII)I"⟩ : MethodName) cX12_shortArc 6 (some .int) ∈ am_T := xps_T ⟨xtb10 (List.mem_of_getElem? (i := 178) rfl), rfl⟩
theorem xmc327 : Cond.code (⟨"GraphHouseModel", "least", "(I)I"⟩ : MethodName) cX12_least 2 (some .int) ∈ am_T := xps_T ⟨xtb10 (List.mem_of_getElem? (i := 205) rfl), rfl⟩
theorem xmc328 : Cond.code (⟨"GraphHouseModel", "part", "(II)I"⟩ : MethodName) cX12_part 4 (some .int) ∈ am_T := xps_T ⟨xtb10 (List.mem_of_getElem? (i := 190) rfl), rfl⟩
theorem xmc329 : Cond.code (⟨"GraphHouseModel", "weakParts", "(II)I"⟩ : MethodName) cX12_weakParts 5 (some .int) ∈ am_T := xps_T ⟨xtb10 (List.mem_of_getElem? (i := 202) rfl), rfl⟩
theorem xmc330 : Cond.code (⟨"GraphHouseModel", "bridge", "(I)Z"⟩ : MethodName) cX12_bridge 2 (some .boolean) ∈ am_T := xps_T ⟨xtb10 (List.mem_of_getElem? (i := 194) rfl), rfl⟩
theorem xmc331 : Cond.code (⟨"GraphHouseModel", "cut", "(I)Z"⟩ : MethodName) cX12_cut 2 (some .boolean) ∈ am_T := xps_T ⟨xtb10 (List.mem_of_getElem? (i := 209) rfl), rfl⟩
theorem xmc332 : Cond.code (⟨"GraphHouseModel", "order", "(I)I"⟩ : MethodName) cX12_order 9 (some .int) ∈ am_T := xps_T ⟨xtb10 (List.mem_of_getElem? (i := 213) rfl), rfl⟩
theorem xmc333 : Cond.code (⟨"GraphHouseModel", "jointsWith", "(II)I"⟩ : MethodName) cX12_jointsWith 7 (some .int) ∈ am_T := xps_T ⟨xtb10 (List.mem_of_getElem? (i := 221) rfl), rfl⟩
theorem xmc334 : Cond.code (⟨"GraphHouseModel", "core", "(I)I"⟩ : MethodName) cX12_core 7 (some .int) ∈ am_T := xps_T ⟨xtb10 (List.mem_of_getElem? (i := 217) rfl), rfl⟩
theorem xmc335 : Cond.code (⟨"GraphHouseModel", "findBeside", "()V"⟩ : MethodName) cX12_findBeside 2 (none) ∈ am_T := xps_T ⟨xtb10 (List.mem_of_getElem? (i := 233) rfl), rfl⟩
theorem xmc336 : Cond.code (⟨"GraphHouseModel", "count", "(I)I"⟩ : MethodName) cX12_count 3 (some .int) ∈ am_T := xps_T ⟨xtb10 (List.mem_of_getElem? (i := 236) rfl), rfl⟩
theorem xmc337 : Cond.code (⟨"GraphHouseModel", "findClique", "()I"⟩ : MethodName) cX12_findClique 5 (some .int) ∈ am_T := xps_T ⟨xtb10 (List.mem_of_getElem? (i := 229) rfl), rfl⟩
theorem xmc338 : Cond.code (⟨"GraphHouseModel", "clique", "(I)I"⟩ : MethodName) cX12_clique 5 (some .int) ∈ am_T := xps_T ⟨xtb10 (List.mem_of_getElem? (i := 225) rfl), rfl⟩
theorem xmc339 : Cond.code (⟨"GraphHouseModel", "barsOf", "(I)I"⟩ : MethodName) cX12_barsOf 4 (some .int) ∈ am_T := xps_T ⟨xtb11 (List.mem_of_getElem? (i := 12) rfl), rfl⟩
theorem xmc340 : Cond.code (⟨"GraphHouseModel", "tightest", "(I)I"⟩ : MethodName) cX12_tightest 8 (some .int) ∈ am_T := xps_T ⟨xtb11 (List.mem_of_getElem? (i := 24) rfl), rfl⟩
theorem xmc341 : Cond.code (⟨"GraphHouseModel", "tough", "(I)I"⟩ : MethodName) cX12_tough 5 (some .int) ∈ am_T := xps_T ⟨xtb11 (List.mem_of_getElem? (i := 8) rfl), rfl⟩
theorem xmc342 : Cond.code (⟨"GraphHouseModel", "hanging", "(II)I"⟩ : MethodName) cX12_hanging 6 (some .int) ∈ am_T := xps_T ⟨xtb11 (List.mem_of_getElem? (i := 16) rfl), rfl⟩
theorem xmc343 : Cond.code (⟨"GraphHouseModel", "isColourable", "(I)Z"⟩ : MethodName) cX12_isColourable 6 (some .boolean) ∈ am_T := xps_T ⟨xtb11 (List.mem_of_getElem? (i := 4) rfl), rfl⟩
theorem xmc344 : Cond.code (⟨"GraphHouseModel", "begin", "(IIII)V"⟩ : MethodName) cX12_begin 8 (none) ∈ am_T := xps_T ⟨xtb11 (List.mem_of_getElem? (i := 28) rfl), rfl⟩
theorem xmc345 : Cond.code (⟨"GraphHouseModel", "isPartColourable", "(II)Z"⟩ : MethodName) cX12_isPartColourable 7 (some .boolean) ∈ am_T := xps_T ⟨xtb11 (List.mem_of_getElem? (i := 20) rfl), rfl⟩
theorem xmc346 : Cond.code (⟨"GraphHouseModel", "capped", "(II)I"⟩ : MethodName) cX12_capped 3 (some .int) ∈ am_T := xps_T ⟨xtb11 (List.mem_of_getElem? (i := 31) rfl), rfl⟩
theorem xmc347 : Cond.code (⟨"GraphHouseModel", "colour", "(I)I"⟩ : MethodName) cX12_colour 7 (some .int) ∈ am_T := xps_T ⟨xtb11 (List.mem_of_getElem? (i := 0) rfl), rfl⟩
theorem xmc348 : Cond.code (⟨"GraphHouseModel", "search", "(I)V"⟩ : MethodName) cX12_search 7 (none) ∈ am_T := xps_T ⟨xtb11 (List.mem_of_getElem? (i := 47) rfl), rfl⟩
theorem xmc349 : Cond.code (⟨"GraphHouseModel", "before", "(I)I"⟩ : MethodName) cX12_before 3 (some .int) ∈ am_T := xps_T ⟨xtb11 (List.mem_of_getElem? (i := 56) rfl), rfl⟩
theorem xmc350 : Cond.code (⟨"GraphHouseModel", "roomOn", "(I)J"⟩ : MethodName) cX12_roomOn 3 (some .long) ∈ am_T := xps_T ⟨xtb11 (List.mem_of_getElem? (i := 52) rfl), rfl⟩
theorem xmc351 : Cond.code (⟨"GraphHouseModel", "push", "(IJ)V"⟩ : MethodName) cX12_push 5 (none) ∈ am_T := xps_T ⟨xtb11 (List.mem_of_getElem? (i := 60) rfl), rfl⟩
theorem xmc352 : Cond.code (⟨"GraphHouseModel", "most", "(II)J"⟩ : MethodName) cX12_most 9 (some .long) ∈ am_T := xps_T ⟨xtb11 (List.mem_of_getElem? (i := 43) rfl), rfl⟩
theorem xmc353 : Cond.code (⟨"GraphHouseModel", "twoNodes", "(II)Z"⟩ : MethodName) cX12_twoNodes 3 (some .boolean) ∈ am_T := xps_T ⟨xtb11 (List.mem_of_getElem? (i := 39) rfl), rfl⟩
theorem xmc354 : Cond.code (⟨"GraphHouseModel", "flow", "(II)J"⟩ : MethodName) cX12_flow 3 (some .long) ∈ am_T := xps_T ⟨xtb11 (List.mem_of_getElem? (i := 35) rfl), rfl⟩
theorem xmc355 : Cond.code (⟨"GraphHouseModel", "side", "(III)Z"⟩ : MethodName) cX12_side 6 (some .boolean) ∈ am_T := xps_T ⟨xtb11 (List.mem_of_getElem? (i := 64) rfl), rfl⟩
theorem xmc356 : Cond.code (⟨"GraphHouseModel", "cheapest", "(I)V"⟩ : MethodName) cX12_cheapest 5 (none) ∈ am_T := xps_T ⟨xtb11 (List.mem_of_getElem? (i := 77) rfl), rfl⟩
theorem xmc357 : Cond.code (⟨"GraphHouseModel", "cost", "(III)J"⟩ : MethodName) cX12_cost 8 (some .long) ∈ am_T := xps_T ⟨xtb11 (List.mem_of_getElem? (i := 68) rfl), rfl⟩
theorem xmc358 : Cond.code (⟨"GraphHouseModel", "sends", "(I)Z"⟩ : MethodName) cX12_sends 7 (some .boolean) ∈ am_T := xps_T ⟨xtb11 (List.mem_of_getElem? (i := 73) rfl), rfl⟩
theorem xmc359 : Cond.code (⟨"GraphHouseModel", "isFirstSort", "(I)Z"⟩ : MethodName) cX12_isFirstSort 2 (some .boolean) ∈ am_T := xps_T ⟨xtb11 (List.mem_of_getElem? (i := 89) rfl), rfl⟩
theorem xmc360 : Cond.code (⟨"GraphHouseModel", "pairUp", "()V"⟩ : MethodName) cX12_pairUp 5 (none) ∈ am_T := xps_T ⟨xtb11 (List.mem_of_getElem? (i := 85) rfl), rfl⟩
theorem xmc361 : Cond.code (⟨"GraphHouseModel", "cheapestPair", "()I"⟩ : MethodName) cX12_cheapestPair 5 (some .int) ∈ am_T := xps_T ⟨xtb11 (List.mem_of_getElem? (i := 93) rfl), rfl⟩
theorem xmc362 : Cond.code (⟨"GraphHouseModel", "pairing", "(I)J"⟩ : MethodName) cX12_pairing 7 (some .long) ∈ am_T := xps_T ⟨xtb11 (List.mem_of_getElem? (i := 81) rfl), rfl⟩
theorem xmc363 : Cond.code (⟨"GraphHouseModel", "tree", "(I)J"⟩ : MethodName) cX12_tree 10 (some .long) ∈ am_T := xps_T ⟨xtb11 (List.mem_of_getElem? (i := 97) rfl), rfl⟩
theorem xmc364 : Cond.code (⟨"GraphHouseModel", "rings", "(II)I"⟩ : MethodName) cX12_rings 7 (some .int) ∈ am_T := xps_T ⟨xtb11 (List.mem_of_getElem? (i := 101) rfl), rfl⟩
theorem xmc365 : Cond.code (⟨"GraphHouseModel", "span", "(I)Z"⟩ : MethodName) cX12_span 9 (some .boolean) ∈ am_T := xps_T ⟨xtb11 (List.mem_of_getElem? (i := 105) rfl), rfl⟩
theorem xmc366 : Cond.code (⟨"GraphHouseModel", "orderOf", "(II)J"⟩ : MethodName) cX12_orderOf 3 (some .long) ∈ am_T := xps_T ⟨xtb11 (List.mem_of_getElem? (i := 109) rfl), rfl⟩
theorem xmc367 : Cond.code (⟨"GraphHouseModel", "power", "(JJ)J"⟩ : MethodName) cX12_power 10 (some .long) ∈ am_T := xps_T ⟨xtb11 (List.mem_of_getElem? (i := 120) rfl), rfl⟩
theorem xmc368 : Cond.code (⟨"GraphHouseModel", "trees", "()I"⟩ : MethodName) cX12_trees 11 (some .int) ∈ am_T := xps_T ⟨xtb11 (List.mem_of_getElem? (i := 114) rfl), rfl⟩
theorem xmc369 : Cond.code (⟨"GraphHouseModel", "rank", "(II)J"⟩ : MethodName) cX12_rank 9 (some .long) ∈ am_T := xps_T ⟨xtb11 (List.mem_of_getElem? (i := 125) rfl), rfl⟩
theorem xmc370 : Cond.code (⟨"GraphHouseModel", "hop", "(IZ[I[J)V"⟩ : MethodName) cX12_hop 9 (none) ∈ am_T := xps_T ⟨xtb11 (List.mem_of_getElem? (i := 137) rfl), rfl⟩
theorem xmc371 : Cond.code (⟨"GraphHouseModel", "shortest", "(IIII)I"⟩ : MethodName) cX12_shortest 6 (some .int) ∈ am_T := xps_T ⟨xtb11 (List.mem_of_getElem? (i := 133) rfl), rfl⟩
theorem xmc372 : Cond.code (⟨"GraphHouseModel", "gainOf", "(II)J"⟩ : MethodName) cX12_gainOf 3 (some .long) ∈ am_T := xps_T ⟨xtb11 (List.mem_of_getElem? (i := 157) rfl), rfl⟩
theorem xmc373 : Cond.code (⟨"GraphHouseModel", "gainIn", "(II)J"⟩ : MethodName) cX12_gainIn 6 (some .long) ∈ am_T := xps_T ⟨xtb11 (List.mem_of_getElem? (i := 153) rfl), rfl⟩
theorem xmc374 : Cond.code (⟨"GraphHouseModel", "findGroups", "()V"⟩ : MethodName) cX12_findGroups 5 (none) ∈ am_T := xps_T ⟨xtb11 (List.mem_of_getElem? (i := 145) rfl), rfl⟩
theorem xmc375 : Cond.code (⟨"GraphHouseModel", "leastOf", "(II)I"⟩ : MethodName) cX12_leastOf 5 (some .int) ∈ am_T := xps_T ⟨xtb11 (List.mem_of_getElem? (i := 161) rfl), rfl⟩
theorem xmc376 : Cond.code (⟨"GraphHouseModel", "bestGroup", "(I)I"⟩ : MethodName) cX12_bestGroup 11 (some .int) ∈ am_T := xps_T ⟨xtb11 (List.mem_of_getElem? (i := 149) rfl), rfl⟩
theorem xmc377 : Cond.code (⟨"GraphHouseModel", "freeGroup", "()I"⟩ : MethodName) cX12_freeGroup 2 (some .int) ∈ am_T := xps_T ⟨xtb11 (List.mem_of_getElem? (i := 165) rfl), rfl⟩
theorem xmc378 : Cond.code (⟨"GraphHouseModel", "group", "(I)I"⟩ : MethodName) cX12_group 2 (some .int) ∈ am_T := xps_T ⟨xtb11 (List.mem_of_getElem? (i := 141) rfl), rfl⟩
theorem xmc379 : Cond.code (⟨"GraphHouseModel", "gain", "()J"⟩ : MethodName) cX12_gain 4 (some .long) ∈ am_T := xps_T ⟨xtb11 (List.mem_of_getElem? (i := 169) rfl), rfl⟩
theorem xmc380 : Cond.code (⟨"GraphHouseModel", "figures", "(I)J"⟩ : MethodName) cX12_figures 8 (some .long) ∈ am_T := xps_T ⟨xtb11 (List.mem_of_getElem? (i := 173) rfl), rfl⟩
theorem xmc381 : Cond.code (⟨"GraphHouseModel", "beginAlternative", "()V"⟩ : MethodName) cX12_beginAlternative 1 (none) ∈ am_T := xps_T ⟨xtb11 (List.mem_of_getElem? (i := 181) rfl), rfl⟩
theorem xmc382 : Cond.code (⟨"GraphHouseModel", "beginSequence", "()V"⟩ : MethodName) cX12_beginSequence 1 (none) ∈ am_T := xps_T ⟨xtb11 (List.mem_of_getElem? (i := 185) rfl), rfl⟩
theorem xmc383 : Cond.code (⟨"GraphHouseModel", "follow", "(JJ)V"⟩ : MethodName) cX12_follow 6 (none) ∈ am_T := xps_T ⟨xtb11 (List.mem_of_getElem? (i := 193) rfl), rfl⟩
theorem xmc384 : Cond.code (⟨"GraphHouseModel", "flush", "()V"⟩ : MethodName) cX12_flush 1 (none) ∈ am_T := xps_T ⟨xtb11 (List.mem_of_getElem? (i := 189) rfl), rfl⟩
theorem xmc385 : Cond.code (⟨"GraphHouseModel", "endSequence", "()V"⟩ : MethodName) cX12_endSequence 1 (none) ∈ am_T := xps_T ⟨xtb11 (List.mem_of_getElem? (i := 205) rfl), rfl⟩
theorem xmc386 : Cond.code (⟨"GraphHouseModel", "pattern", "()I"⟩ : MethodName) cX12_pattern 4 (some .int) ∈ am_T := xps_T ⟨xtb11 (List.mem_of_getElem? (i := 177) rfl), rfl⟩
theorem xmc387 : Cond.code (⟨"GraphHouseModel", "setAtom", "(ZJJ)V"⟩ : MethodName) cX12_setAtom 6 (none) ∈ am_T := xps_T ⟨xtb11 (List.mem_of_getElem? (i := 197) rfl), rfl⟩
theorem xmc388 : Cond.code (⟨"GraphHouseModel", "sign", "(II)V"⟩ : MethodName) cX12_sign 8 (none) ∈ am_T := xps_T ⟨xtb11 (List.mem_of_getElem? (i := 201) rfl), rfl⟩
theorem xmc389 : Cond.code (⟨"GraphHouseModel", "fits", "(II)I"⟩ : MethodName) cX12_fits 12 (some .int) ∈ am_T := xps_T ⟨xtb11 (List.mem_of_getElem? (i := 209) rfl), rfl⟩
theorem xmc390 : Cond.code (⟨"GraphHouseModel", "goOn", "(IJII)I"⟩ : MethodName) cX12_goOn 10 (some .int) ∈ am_T := xps_T ⟨xtb11 (List.mem_of_getElem? (i := 213) rfl), rfl⟩
theorem xmc391 : Cond.code (⟨"GraphHouseModel", "program0", "()V"⟩ : MethodName) cX12_program0 1 (none) ∈ am_T := xps_T ⟨xtb8 (List.mem_of_getElem? (i := 57) rfl), rfl⟩
theorem xmc392 : Cond.code (⟨"GraphHouseModel", "nextOfProgram", "()V"⟩ : MethodName) cX12_nextOfProgram 3 (none) ∈ am_T := xps_T ⟨xtb11 (List.mem_of_getElem? (i := 225) rfl), rfl⟩
theorem xmc393 : Cond.code (⟨"GraphHouseModel", "add", "(II)V"⟩ : MethodName) cX12_add 3 (none) ∈ am_T := xps_T ⟨xtb11 (List.mem_of_getElem? (i := 233) rfl), rfl⟩
theorem xmc394 : Cond.code (⟨"GraphHouseModel", "nameOf", "(I)I"⟩ : MethodName) cX12_nameOf 1 (some .int) ∈ am_T := xps_T ⟨xtb12 (List.mem_of_getElem? (i := 8) rfl), rfl⟩
theorem xmc395 : Cond.code (⟨"GraphHouseModel", "top", "()I"⟩ : MethodName) cX12_top 1 (some .int) ∈ am_T := xps_T ⟨xtb12 (List.mem_of_getElem? (i := 1) rfl), rfl⟩
theorem xmc396 : Cond.code (⟨"GraphHouseModel", "hold", "(I)V"⟩ : MethodName) cX12_hold 2 (none) ∈ am_T := xps_T ⟨xtb12 (List.mem_of_getElem? (i := 12) rfl), rfl⟩
theorem xmc397 : Cond.code (⟨"GraphHouseModel", "drop", "()V"⟩ : MethodName) cX12_drop 1 (none) ∈ am_T := xps_T ⟨xtb12 (List.mem_of_getElem? (i := 5) rfl), rfl⟩
theorem xmc398 : Cond.code (⟨"GraphHouseModel", "strength", "(I)I"⟩ : MethodName) cX12_strength 1 (some .int) ∈ am_T := xps_T ⟨xtb12 (List.mem_of_getElem? (i := 23) rfl), rfl⟩
theorem xmc399 : Cond.code (⟨"GraphHouseModel", "settle", "(I)V"⟩ : MethodName) cX12_settle 2 (none) ∈ am_T := xps_T ⟨xtb12 (List.mem_of_getElem? (i := 20) rfl), rfl⟩
theorem xmc400 : Cond.code (⟨"GraphHouseModel", "turn", "()V"⟩ : MethodName) cX12_turn 1 (none) ∈ am_T := xps_T ⟨xtb11 (List.mem_of_getElem? (i := 237) rfl), rfl⟩
theorem xmc401 : Cond.code (⟨"GraphHouseModel", "factor", "()Z"⟩ : MethodName) cX12_factor 2 (some .boolean) ∈ am_T := xps_T ⟨xtb11 (List.mem_of_getElem? (i := 229) rfl), rfl⟩
theorem xmc402 : Cond.code (⟨"GraphHouseModel", "behindFactor", "(Z)I"⟩ : MethodName) cX12_behindFactor 3 (some .int) ∈ am_T := xps_T ⟨xtb12 (List.mem_of_getElem? (i := 16) rfl), rfl⟩
theorem xmc403 : Cond.code (⟨"GraphHouseModel", "expression", "(Z)V"⟩ : MethodName) cX12_expression 5 (none) ∈ am_T := xps_T ⟨xtb11 (List.mem_of_getElem? (i := 221) rfl), rfl⟩
theorem xmc404 : Cond.code (⟨"GraphHouseModel", "program", "()I"⟩ : MethodName) cX12_program 2 (some .int) ∈ am_T := xps_T ⟨xtb11 (List.mem_of_getElem? (i := 217) rfl), rfl⟩
theorem xmc405 : Cond.code (⟨"GraphHouseModel", "fit", "(J)J"⟩ : MethodName) cX12_fit 2 (some .long) ∈ am_T := xps_T ⟨xtb12 (List.mem_of_getElem? (i := 37) rfl), rfl⟩
theorem xmc406 : Cond.code (⟨"GraphHouseModel", "product", "(JJ)J"⟩ : MethodName) cX12_product 10 (some .long) ∈ am_T := xps_T ⟨xtb12 (List.mem_of_getElem? (i := 44) rfl), rfl⟩
theorem xmc407 : Cond.code (⟨"GraphHouseModel", "nameAll", "(II)V"⟩ : MethodName) cX12_nameAll 8 (none) ∈ am_T := xps_T ⟨xtb12 (List.mem_of_getElem? (i := 33) rfl), rfl⟩
theorem xmc408 : Cond.code (⟨"GraphHouseModel", "workOut", "(I)J"⟩ : MethodName) cX12_workOut 9 (some .long) ∈ am_T := xps_T ⟨xtb12 (List.mem_of_getElem? (i := 41) rfl), rfl⟩
theorem xmc409 : Cond.code (⟨"GraphHouseModel", "run", "(IIIJ)I"⟩ : MethodName) cX12_run 9 (some .int) ∈ am_T := xps_T ⟨xtb12 (List.mem_of_getElem? (i := 27) rfl), rfl⟩
theorem xmc410 : Cond.code (⟨"GraphHouseModel", "goesTo", "(III)Z"⟩ : MethodName) cX12_goesTo 6 (some .boolean) ∈ am_T := xps_T ⟨xtb12 (List.mem_of_getElem? (i := 52) rfl), rfl⟩
theorem xmc411 : Cond.code (⟨"GraphHouseModel", "send", "(IIJ)V"⟩ : MethodName) cX12_send 10 (none) ∈ am_T := xps_T ⟨xtb12 (List.mem_of_getElem? (i := 48) rfl), rfl⟩
theorem xmc412 : Cond.code (⟨"GraphHouseModel", "state", "(I)J"⟩ : MethodName) cX12_state 2 (some .long) ∈ am_T := xps_T ⟨xtb12 (List.mem_of_getElem? (i := 59) rfl), rfl⟩
theorem xmc413 : Cond.code (⟨"GraphHouseModel", "letters", "(I)I"⟩ : MethodName) cX12_letters 2 (some .int) ∈ am_T := xps_T ⟨xtb12 (List.mem_of_getElem? (i := 63) rfl), rfl⟩
theorem xmc414 : Cond.code (⟨"java/lang/Integer", "bitCount", "(I)I"⟩ : MethodName) cJ6_bitCount_0f7a4 1 (some .int) ∈ am_T := xps_T ⟨xtb4 (List.mem_of_getElem? (i := 70) rfl), rfl⟩
theorem xmc415 : Cond.code (⟨"java/lang/Long", "bitCount", "(J)I"⟩ : MethodName) cJ13_bitCount_95d88 2 (some .int) ∈ am_T := xps_T ⟨xtb4 (List.mem_of_getElem? (i := 121) rfl), rfl⟩
theorem xmc416 : Cond.code (⟨"java/util/Arrays", "fill", "([JJ)V"⟩ : MethodName) cJ7_fill_d0a16 5 (none) ∈ am_T := xps_T ⟨xtb3 (List.mem_of_getElem? (i := 237) rfl), rfl⟩
theorem xmc417 : Cond.code (⟨"java/util/Arrays", "fill", "([II)V"⟩ : MethodName) cJ7_fill_53178 4 (none) ∈ am_T := xps_T ⟨xtb0 (List.mem_of_getElem? (i := 51) rfl), rfl⟩
theorem xmc418 : Cond.code (⟨"java/lang/Math", "floorDiv", "(JJ)J"⟩ : MethodName) cJ9_floorDiv_f86c9 6 (some .long) ∈ am_T := xps_T ⟨xtb5 (List.mem_of_getElem? (i := 193) rfl), rfl⟩
theorem xmc419 : Cond.code (⟨"java/lang/Math", "floorMod", "(JJ)J"⟩ : MethodName) cJ9_floorMod_f86c9 6 (some .long) ∈ am_T := xps_T ⟨xtb4 (List.mem_of_getElem? (i := 5) rfl), rfl⟩
theorem xmc420 : Cond.code (⟨"java/lang/Math", "abs", "(I)I"⟩ : MethodName) cJ9_abs_0f7a4 1 (some .int) ∈ am_T := xps_T ⟨xtb3 (List.mem_of_getElem? (i := 222) rfl), rfl⟩
theorem xmc421 : Cond.code (⟨"java/lang/Math", "abs", "(J)J"⟩ : MethodName) cJ9_abs_067f4 2 (some .long) ∈ am_T := xps_T ⟨xtb8 (List.mem_of_getElem? (i := 13) rfl), rfl⟩
theorem xmc422 : Cond.code (⟨"java/lang/Math", "max", "(II)I"⟩ : MethodName) cJ9_max_7cf53 2 (some .int) ∈ am_T := xps_T ⟨xtb3 (List.mem_of_getElem? (i := 0) rfl), rfl⟩
theorem xmc423 : Cond.code (⟨"java/lang/Math", "max", "(JJ)J"⟩ : MethodName) cJ9_max_f86c9 4 (some .long) ∈ am_T := xps_T ⟨xtb7 (List.mem_of_getElem? (i := 238) rfl), rfl⟩
theorem xmc424 : Cond.code (⟨"java/lang/Math", "min", "(II)I"⟩ : MethodName) cJ9_min_7cf53 2 (some .int) ∈ am_T := xps_T ⟨xtb3 (List.mem_of_getElem? (i := 3) rfl), rfl⟩
theorem xmc425 : Cond.code (⟨"java/lang/Math", "min", "(JJ)J"⟩ : MethodName) cJ9_min_f86c9 4 (some .long) ∈ am_T := xps_T ⟨xtb7 (List.mem_of_getElem? (i := 235) rfl), rfl⟩
theorem xmc426 : Cond.code (⟨"java/util/Arrays", "copyOf", "([II)[I"⟩ : MethodName) cJ7_copyOf_59c91 3 (some (.array .int)) ∈ am_T := xps_T ⟨xtb3 (List.mem_of_getElem? (i := 129) rfl), rfl⟩
theorem xmc427 : Cond.code (⟨"java/lang/String", "length", "()I"⟩ : MethodName) cJ0_length_8abf5 1 (some .int) ∈ am_T := xps_T ⟨xtb2 (List.mem_of_getElem? (i := 227) rfl), rfl⟩
theorem xmc428 : Cond.code (⟨"java/lang/String", "isEmpty", "()Z"⟩ : MethodName) cJ0_isEmpty_aae02 1 (some .boolean) ∈ am_T := xps_T ⟨xtb3 (List.mem_of_getElem? (i := 71) rfl), rfl⟩
theorem xmc429 : Cond.code (⟨"java/lang/String", "charAt", "(I)C"⟩ : MethodName) cJ0_charAt_5068e 2 (some .char) ∈ am_T := xps_T ⟨xtb3 (List.mem_of_getElem? (i := 84) rfl), rfl⟩
theorem xmc430 : Cond.code (⟨"java/lang/String", "indexOf", "(I)I"⟩ : MethodName) cJ0_indexOf_0f7a4 2 (some .int) ∈ am_T := xps_T ⟨xtb2 (List.mem_of_getElem? (i := 213) rfl), rfl⟩
theorem xmc431 : Cond.code (⟨"java/lang/String", "indexOf", "(II)I"⟩ : MethodName) cJ0_indexOf_7cf53 3 (some .int) ∈ am_T := xps_T ⟨xtb2 (List.mem_of_getElem? (i := 217) rfl), rfl⟩
theorem xmc432 : Cond.code (⟨"java/lang/String", "coder", "()B"⟩ : MethodName) cJ0_coder_7d493 1 (some .byte) ∈ am_T := xps_T ⟨xtb2 (List.mem_of_getElem? (i := 231) rfl), rfl⟩
theorem xmc433 : Cond.code (⟨"java/lang/String", "isLatin1", "()Z"⟩ : MethodName) cJ0_isLatin1_aae02 1 (some .boolean) ∈ am_T := xps_T ⟨xtb2 (List.mem_of_getElem? (i := 221) rfl), rfl⟩
theorem xmc434 : Cond.code (⟨"java/lang/String", "checkIndex", "(II)V"⟩ : MethodName) cJ0_checkIndex_df160 2 (none) ∈ am_T := xps_T ⟨xtb3 (List.mem_of_getElem? (i := 90) rfl), rfl⟩
theorem xmc435 : Cond.code (⟨"java/lang/StringLatin1", "charAt", "([BI)C"⟩ : MethodName) cJ1_charAt_3b067 2 (some .char) ∈ am_T := xps_T ⟨xtb3 (List.mem_of_getElem? (i := 87) rfl), rfl⟩
theorem xmc436 : Cond.code (⟨"java/lang/StringLatin1", "canEncode", "(I)Z"⟩ : MethodName) cJ1_canEncode_9a6ad 1 (some .boolean) ∈ am_T := xps_T ⟨xtb2 (List.mem_of_getElem? (i := 237) rfl), rfl⟩
theorem xmc437 : Cond.code (⟨"java/lang/StringLatin1", "indexOf", "([BIII)I"⟩ : MethodName) cJ1_indexOf_4cfef 4 (some .int) ∈ am_T := xps_T ⟨xtb2 (List.mem_of_getElem? (i := 234) rfl), rfl⟩
theorem xmc438 : Cond.code (⟨"java/lang/StringLatin1", "indexOfChar", "([BIII)I"⟩ : MethodName) cJ1_indexOfChar_4cfef 6 (some .int) ∈ am_T := xps_T ⟨xtb3 (List.mem_of_getElem? (i := 6) rfl), rfl⟩
theorem xmc439 : Cond.code (⟨"jdk/internal/util/Preconditions", "checkIndex", "(IILjava/util/function/BiFunction;)I"⟩ : MethodName) cJ3_checkIndex_8e157 3 (some .int) ∈ am_T := xps_T ⟨xtb3 (List.mem_of_getElem? (i := 93) rfl), rfl⟩
