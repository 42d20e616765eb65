def tb : List Cond := lw_tbl.filter goodWord
theorem tb_of {w : Cond} (h : w ∈ lw_tbl) (g : goodWord w = true) : w ∈ tb := List.mem_filter.mpr ⟨h, g⟩
theorem tb_t (i : Nat) {w : Cond} (h : tables_1[i]? = some w) (g : goodWord w = true) : w ∈ tb := tb_of (List.mem_append_right _ (List.mem_of_getElem? h)) g
theorem tb_p (i : Nat) {w : Cond} (h : (k2_sels lw_privs)[i]? = some w) (g : goodWord w = true) : w ∈ tb := tb_of (List.mem_append_left _ (List.mem_of_getElem? h)) g
theorem tb_good (c1 : Cond) {c2 : Cond} (h : c2 ∈ tb) : GoodIn (c1 :: tb) (c2 :: tb) := by
  have g : ∀ w ∈ tb, w ∈ c1 :: tb ∧ ((w.onTables && w.keeps) = true ∨ ∃ ty, w = .arrayClass ty) := fun w hw => ⟨List.mem_cons_of_mem _ hw, good_of_word (List.mem_filter.mp hw).2⟩
  intro w hw
  rcases List.mem_cons.mp hw with e | hw
  · rw [e]; exact g _ h
  · exact g _ hw
theorem tb_one (c1 : Cond) {w : Cond} (h : w ∈ tb) : w ∈ c1 :: tb ∧ ((w.onTables && w.keeps) = true ∨ ∃ ty, w = .arrayClass ty) := ⟨List.mem_cons_of_mem _ h, good_of_word (List.mem_filter.mp h).2⟩
theorem tb_wsV (c1 : Cond) {c2 : Cond} {own C : String} {idx : Nat} {y : MethodName} (h1 : Cond.methodLink own idx y ∈ tb) (h2 : Cond.instanceMethod y ∈ tb) (h3 : Cond.selects C y y ∈ tb) (h4 : Cond.initialized C ∈ tb) (h5 : c2 ∈ tb) : GoodIn (c1 :: tb) (wsV own idx C y (c2 :: tb)) := by
  intro w hw
  rcases List.mem_append.mp hw with hw | hw
  · simp only [List.mem_cons, List.not_mem_nil, or_false] at hw
    rcases hw with e | e | e | e <;> rw [e]
    · exact tb_one c1 h1
    · exact tb_one c1 h2
    · exact tb_one c1 h3
    · exact tb_one c1 h4
  · exact tb_good c1 h5 w hw
theorem tb_wsX (c1 : Cond) {c2 : Cond} {own : String} {idx : Nat} {y : MethodName} (h1 : Cond.methodLink own idx y ∈ tb) (h2 : Cond.static y ∈ tb) (h4 : Cond.initialized y.cls ∈ tb) (h5 : c2 ∈ tb) : GoodIn (c1 :: tb) (va_wsS own idx y (c2 :: tb)) := by
  intro w hw
  rcases List.mem_append.mp hw with hw | hw
  · simp only [List.mem_cons, List.not_mem_nil, or_false] at hw
    rcases hw with e | e | e <;> rw [e]
    · exact tb_one c1 h1
    · exact tb_one c1 h2
    · exact tb_one c1 h4
  · exact tb_good c1 h5 w hw
theorem mS_X3_add : Cond.selects RX3 yX3_add yX3_add ∈ tb := tb_p 0 (by decide +kernel) rfl
theorem mS_X0_cellOf : Cond.selects RX0 yX0_cellOf yX0_cellOf ∈ tb := tb_p 1 (by decide +kernel) rfl
theorem mS_X4_endCursor : Cond.selects RX4 yX4_endCursor yX4_endCursor ∈ tb := tb_p 2 (by decide +kernel) rfl
theorem mS_X4_touchWay : Cond.selects RX4 yX4_touchWay yX4_touchWay ∈ tb := tb_p 3 (by decide +kernel) rfl
theorem mS_X1_vacateFrame : Cond.selects RX1 yX1_vacateFrame yX1_vacateFrame ∈ tb := tb_p 4 (by decide +kernel) rfl
theorem mS_X1_givesWay : Cond.selects RX1 yX1_givesWay yX1_givesWay ∈ tb := tb_p 5 (by decide +kernel) rfl
theorem mS_X1_clear : Cond.selects RX1 yX1_clear yX1_clear ∈ tb := tb_p 6 (by decide +kernel) rfl
theorem mS_X4_mendUpwards : Cond.selects RX4 yX4_mendUpwards yX4_mendUpwards ∈ tb := tb_p 7 (by decide +kernel) rfl
theorem mS_X4_mend : Cond.selects RX4 yX4_mend yX4_mend ∈ tb := tb_p 8 (by decide +kernel) rfl
theorem mS_X4_giveFromLeft : Cond.selects RX4 yX4_giveFromLeft yX4_giveFromLeft ∈ tb := tb_p 9 (by decide +kernel) rfl
theorem mS_X4_soilThree : Cond.selects RX4 yX4_soilThree yX4_soilThree ∈ tb := tb_p 10 (by decide +kernel) rfl
theorem mS_X4_giveFromRight : Cond.selects RX4 yX4_giveFromRight yX4_giveFromRight ∈ tb := tb_p 11 (by decide +kernel) rfl
theorem mS_X4_join : Cond.selects RX4 yX4_join yX4_join ∈ tb := tb_p 12 (by decide +kernel) rfl
theorem mS_X4_releasePage : Cond.selects RX4 yX4_releasePage yX4_releasePage ∈ tb := tb_p 13 (by decide +kernel) rfl
theorem mS_X4_lowerRoot : Cond.selects RX4 yX4_lowerRoot yX4_lowerRoot ∈ tb := tb_p 14 (by decide +kernel) rfl
theorem mS_X4_moveCursor : Cond.selects RX4 yX4_moveCursor yX4_moveCursor ∈ tb := tb_p 15 (by decide +kernel) rfl
theorem mS_X2_meet : Cond.selects RX2 yX2_meet yX2_meet ∈ tb := tb_p 16 (by decide +kernel) rfl
theorem mS_X2_meetChildren : Cond.selects RX2 yX2_meetChildren yX2_meetChildren ∈ tb := tb_p 17 (by decide +kernel) rfl
theorem mS_X2_isAstray : Cond.selects RX2 yX2_isAstray yX2_isAstray ∈ tb := tb_p 18 (by decide +kernel) rfl
theorem mS_X2_leafDueAfter : Cond.selects RX2 yX2_leafDueAfter yX2_leafDueAfter ∈ tb := tb_p 19 (by decide +kernel) rfl
theorem mS_X2_countIsRight : Cond.selects RX2 yX2_countIsRight yX2_countIsRight ∈ tb := tb_p 20 (by decide +kernel) rfl
theorem mS_X2_childrenArePages : Cond.selects RX2 yX2_childrenArePages yX2_childrenArePages ∈ tb := tb_p 21 (by decide +kernel) rfl
theorem mS_X2_keysAreInPlace : Cond.selects RX2 yX2_keysAreInPlace yX2_keysAreInPlace ∈ tb := tb_p 22 (by decide +kernel) rfl
theorem mS_X4_newPagesForEntry : Cond.selects RX4 yX4_newPagesForEntry yX4_newPagesForEntry ∈ tb := tb_p 23 (by decide +kernel) rfl
theorem mS_X4_splitUpwards : Cond.selects RX4 yX4_splitUpwards yX4_splitUpwards ∈ tb := tb_p 25 (by decide +kernel) rfl
theorem mS_X4_split : Cond.selects RX4 yX4_split yX4_split ∈ tb := tb_p 26 (by decide +kernel) rfl
theorem mS_X4_takePage : Cond.selects RX4 yX4_takePage yX4_takePage ∈ tb := tb_p 27 (by decide +kernel) rfl
theorem mS_X4_raiseRoot : Cond.selects RX4 yX4_raiseRoot yX4_raiseRoot ∈ tb := tb_p 28 (by decide +kernel) rfl
theorem mS_X5_find : Cond.selects RX5 yX5_find yX5_find ∈ tb := tb_p 29 (by decide +kernel) rfl
theorem mS_X5_placeOf : Cond.selects RX5 yX5_placeOf yX5_placeOf ∈ tb := tb_p 30 (by decide +kernel) rfl
theorem mS_X5_isAt : Cond.selects RX5 yX5_isAt yX5_isAt ∈ tb := tb_p 31 (by decide +kernel) rfl
theorem mS_X5_pagesInUse : Cond.selects RX5 yX5_pagesInUse yX5_pagesInUse ∈ tb := tb_p 32 (by decide +kernel) rfl
theorem mS_X5_wanted : Cond.selects RX5 yX5_wanted yX5_wanted ∈ tb := tb_p 33 (by decide +kernel) rfl
theorem mS_X5_touchWay : Cond.selects RX5 yX5_touchWay yX5_touchWay ∈ tb := tb_p 34 (by decide +kernel) rfl
theorem mS_X5_touch : Cond.selects RX5 yX5_touch yX5_touch ∈ tb := tb_p 35 (by decide +kernel) rfl
theorem mS_X5_frameOf : Cond.selects RX5 yX5_frameOf yX5_frameOf ∈ tb := tb_p 36 (by decide +kernel) rfl
theorem mS_X5_freeFrame : Cond.selects RX5 yX5_freeFrame yX5_freeFrame ∈ tb := tb_p 37 (by decide +kernel) rfl
theorem mS_X5_goOn : Cond.selects RX5 yX5_goOn yX5_goOn ∈ tb := tb_p 38 (by decide +kernel) rfl
theorem mS_X5_change : Cond.selects RX5 yX5_change yX5_change ∈ tb := tb_p 39 (by decide +kernel) rfl
theorem mS_X5_insert : Cond.selects RX5 yX5_insert yX5_insert ∈ tb := tb_p 40 (by decide +kernel) rfl
theorem mS_X5_split : Cond.selects RX5 yX5_split yX5_split ∈ tb := tb_p 41 (by decide +kernel) rfl
theorem mS_X5_leastFree : Cond.selects RX5 yX5_leastFree yX5_leastFree ∈ tb := tb_p 42 (by decide +kernel) rfl
theorem mS_X5_unpin : Cond.selects RX5 yX5_unpin yX5_unpin ∈ tb := tb_p 43 (by decide +kernel) rfl
theorem mS_X5_removeAt : Cond.selects RX5 yX5_removeAt yX5_removeAt ∈ tb := tb_p 44 (by decide +kernel) rfl
theorem mS_X5_mend : Cond.selects RX5 yX5_mend yX5_mend ∈ tb := tb_p 45 (by decide +kernel) rfl
theorem mS_X5_give : Cond.selects RX5 yX5_give yX5_give ∈ tb := tb_p 46 (by decide +kernel) rfl
theorem mS_X5_join : Cond.selects RX5 yX5_join yX5_join ∈ tb := tb_p 47 (by decide +kernel) rfl
theorem mS_X5_release : Cond.selects RX5 yX5_release yX5_release ∈ tb := tb_p 48 (by decide +kernel) rfl
theorem mS_X5_arrive : Cond.selects RX5 yX5_arrive yX5_arrive ∈ tb := tb_p 49 (by decide +kernel) rfl
theorem mS_X5_levels : Cond.selects RX5 yX5_levels yX5_levels ∈ tb := tb_p 50 (by decide +kernel) rfl
theorem mN_L : Cond.initialized RL ∈ tb := tb_t 0 (by decide +kernel) rfl
theorem mN_X4 : Cond.initialized RX4 ∈ tb := tb_t 1 (by decide +kernel) rfl
theorem mN_X0 : Cond.initialized RX0 ∈ tb := tb_t 2 (by decide +kernel) rfl
theorem mN_J7 : Cond.initialized RJ7 ∈ tb := tb_t 3 (by decide +kernel) rfl
theorem mN_X1 : Cond.initialized RX1 ∈ tb := tb_t 4 (by decide +kernel) rfl
theorem mN_X3 : Cond.initialized RX3 ∈ tb := tb_t 5 (by decide +kernel) rfl
theorem mN_X2 : Cond.initialized RX2 ∈ tb := tb_t 6 (by decide +kernel) rfl
theorem mN_X5 : Cond.initialized RX5 ∈ tb := tb_t 7 (by decide +kernel) rfl
theorem mN_J9 : Cond.initialized RJ9 ∈ tb := tb_t 12 (by decide +kernel) rfl
theorem mC_L_8 : Cond.classLink RL 8 RX4 ∈ tb := tb_t 17 (by decide +kernel) rfl
theorem mA_X4 : Cond.instantiable RX4 10 ∈ tb := tb_t 18 (by decide +kernel) rfl
theorem mM_L_50 : Cond.methodLink RL 50 yX4_init ∈ tb := tb_t 19 (by decide +kernel) rfl
theorem mI_X4_init : Cond.instanceMethod yX4_init ∈ tb := tb_t 20 (by decide +kernel) rfl
abbrev kX4_init : Cond := Cond.code yX4_init cX4_init 1 none
set_option maxRecDepth 100000 in
theorem mK_X4_init : kX4_init ∈ tb := tb_t 21 rfl rfl
theorem mC_X4_9 : Cond.classLink RX4 9 RX0 ∈ tb := tb_t 25 (by decide +kernel) rfl
theorem mA_X0 : Cond.instantiable RX0 5 ∈ tb := tb_t 26 (by decide +kernel) rfl
theorem mM_X4_11 : Cond.methodLink RX4 11 yX0_init ∈ tb := tb_t 27 (by decide +kernel) rfl
theorem mI_X0_init : Cond.instanceMethod yX0_init ∈ tb := tb_t 28 (by decide +kernel) rfl
abbrev kX0_init : Cond := Cond.code yX0_init cX0_init 1 none
set_option maxRecDepth 100000 in
theorem mK_X0_init : kX0_init ∈ tb := tb_t 29 rfl rfl
theorem mM_X0_27 : Cond.methodLink RX0 27 yJ7_fill_53178 ∈ tb := tb_t 31 (by decide +kernel) rfl
theorem mT_J7_fill_53178 : Cond.static yJ7_fill_53178 ∈ tb := tb_t 32 (by decide +kernel) rfl
abbrev kJ7_fill_53178 : Cond := Cond.code yJ7_fill_53178 cJ7_fill_53178 4 none
set_option maxRecDepth 100000 in
theorem mK_J7_fill_53178 : kJ7_fill_53178 ∈ tb := tb_t 33 rfl rfl
theorem mF_X0_9 : Cond.fieldLink RX0 9 "PagedTree$Disk" "kinds" "[I" ∈ tb := tb_t 34 (by decide +kernel) rfl
theorem mF_X0_15 : Cond.fieldLink RX0 15 "PagedTree$Disk" "counts" "[I" ∈ tb := tb_t 35 (by decide +kernel) rfl
theorem mF_X0_18 : Cond.fieldLink RX0 18 "PagedTree$Disk" "leavesAfter" "[I" ∈ tb := tb_t 36 (by decide +kernel) rfl
theorem mF_X0_21 : Cond.fieldLink RX0 21 "PagedTree$Disk" "keys" "[I" ∈ tb := tb_t 37 (by decide +kernel) rfl
theorem mF_X0_24 : Cond.fieldLink RX0 24 "PagedTree$Disk" "seconds" "[I" ∈ tb := tb_t 38 (by decide +kernel) rfl
theorem mY_int : Cond.arrayClass .int ∈ tb := tb_t 50 (by decide +kernel) rfl
theorem mC_X4_16 : Cond.classLink RX4 16 RX1 ∈ tb := tb_t 51 (by decide +kernel) rfl
theorem mA_X1 : Cond.instantiable RX1 8 ∈ tb := tb_t 52 (by decide +kernel) rfl
theorem mM_X4_18 : Cond.methodLink RX4 18 yX1_init ∈ tb := tb_t 53 (by decide +kernel) rfl
theorem mI_X1_init : Cond.instanceMethod yX1_init ∈ tb := tb_t 54 (by decide +kernel) rfl
abbrev kX1_init : Cond := Cond.code yX1_init cX1_init 1 none
set_option maxRecDepth 100000 in
theorem mK_X1_init : kX1_init ∈ tb := tb_t 55 rfl rfl
theorem mM_X1_25 : Cond.methodLink RX1 25 yJ7_fill_53178 ∈ tb := tb_t 57 (by decide +kernel) rfl
theorem mF_X1_9 : Cond.fieldLink RX1 9 "PagedTree$Frames" "held" "[I" ∈ tb := tb_t 58 (by decide +kernel) rfl
theorem mF_X1_15 : Cond.fieldLink RX1 15 "PagedTree$Frames" "used" "[Z" ∈ tb := tb_t 59 (by decide +kernel) rfl
theorem mF_X1_19 : Cond.fieldLink RX1 19 "PagedTree$Frames" "dirty" "[Z" ∈ tb := tb_t 60 (by decide +kernel) rfl
theorem mF_X1_22 : Cond.fieldLink RX1 22 "PagedTree$Frames" "pinned" "[Z" ∈ tb := tb_t 61 (by decide +kernel) rfl
theorem mF_X1_45 : Cond.fieldLink RX1 45 "PagedTree$Frames" "hand" "I" ∈ tb := tb_t 62 (by decide +kernel) rfl
theorem mF_X1_35 : Cond.fieldLink RX1 35 "PagedTree$Frames" "hits" "I" ∈ tb := tb_t 63 (by decide +kernel) rfl
theorem mF_X1_39 : Cond.fieldLink RX1 39 "PagedTree$Frames" "pagesRead" "I" ∈ tb := tb_t 64 (by decide +kernel) rfl
theorem mF_X1_42 : Cond.fieldLink RX1 42 "PagedTree$Frames" "pagesWritten" "I" ∈ tb := tb_t 65 (by decide +kernel) rfl
theorem mY_boolean : Cond.arrayClass .boolean ∈ tb := tb_t 83 (by decide +kernel) rfl
theorem mC_X4_23 : Cond.classLink RX4 23 RX3 ∈ tb := tb_t 84 (by decide +kernel) rfl
theorem mA_X3 : Cond.instantiable RX3 3 ∈ tb := tb_t 85 (by decide +kernel) rfl
theorem mM_X4_25 : Cond.methodLink RX4 25 yX3_init ∈ tb := tb_t 86 (by decide +kernel) rfl
theorem mI_X3_init : Cond.instanceMethod yX3_init ∈ tb := tb_t 87 (by decide +kernel) rfl
abbrev kX3_init : Cond := Cond.code yX3_init cX3_init 1 none
set_option maxRecDepth 100000 in
theorem mK_X3_init : kX3_init ∈ tb := tb_t 88 rfl rfl
theorem mF_X3_9 : Cond.fieldLink RX3 9 "PagedTree$Way" "pages" "[I" ∈ tb := tb_t 90 (by decide +kernel) rfl
theorem mF_X3_15 : Cond.fieldLink RX3 15 "PagedTree$Way" "slots" "[I" ∈ tb := tb_t 91 (by decide +kernel) rfl
theorem mF_X3_18 : Cond.fieldLink RX3 18 "PagedTree$Way" "length" "I" ∈ tb := tb_t 92 (by decide +kernel) rfl
theorem mC_X4_30 : Cond.classLink RX4 30 RX2 ∈ tb := tb_t 100 (by decide +kernel) rfl
theorem mA_X2 : Cond.instantiable RX2 6 ∈ tb := tb_t 101 (by decide +kernel) rfl
theorem mM_X4_32 : Cond.methodLink RX4 32 yX2_init ∈ tb := tb_t 102 (by decide +kernel) rfl
theorem mI_X2_init : Cond.instanceMethod yX2_init ∈ tb := tb_t 103 (by decide +kernel) rfl
abbrev kX2_init : Cond := Cond.code yX2_init cX2_init 1 none
set_option maxRecDepth 100000 in
theorem mK_X2_init : kX2_init ∈ tb := tb_t 104 rfl rfl
theorem mF_X2_9 : Cond.fieldLink RX2 9 "PagedTree$Survey" "queue" "[I" ∈ tb := tb_t 106 (by decide +kernel) rfl
theorem mF_X2_34 : Cond.fieldLink RX2 34 "PagedTree$Survey" "queued" "I" ∈ tb := tb_t 107 (by decide +kernel) rfl
theorem mF_X2_15 : Cond.fieldLink RX2 15 "PagedTree$Survey" "met" "[I" ∈ tb := tb_t 108 (by decide +kernel) rfl
theorem mF_X2_18 : Cond.fieldLink RX2 18 "PagedTree$Survey" "levels" "[I" ∈ tb := tb_t 109 (by decide +kernel) rfl
theorem mF_X2_21 : Cond.fieldLink RX2 21 "PagedTree$Survey" "lows" "[J" ∈ tb := tb_t 110 (by decide +kernel) rfl
theorem mF_X2_25 : Cond.fieldLink RX2 25 "PagedTree$Survey" "highs" "[J" ∈ tb := tb_t 111 (by decide +kernel) rfl
theorem mY_long : Cond.arrayClass .long ∈ tb := tb_t 125 (by decide +kernel) rfl
theorem mM_X4_47 : Cond.methodLink RX4 47 yX0_allot ∈ tb := tb_t 126 (by decide +kernel) rfl
theorem mI_X0_allot : Cond.instanceMethod yX0_allot ∈ tb := tb_t 127 (by decide +kernel) rfl
theorem mS_X0_allot : Cond.selects RX0 yX0_allot yX0_allot ∈ tb := tb_t 128 (by decide +kernel) rfl
abbrev kX0_allot : Cond := Cond.code yX0_allot cX0_allot 3 none
set_option maxRecDepth 100000 in
theorem mK_X0_allot : kX0_allot ∈ tb := tb_t 129 rfl rfl
theorem mM_X0_33 : Cond.methodLink RX0 33 yX0_isPage ∈ tb := tb_t 130 (by decide +kernel) rfl
theorem mI_X0_isPage : Cond.instanceMethod yX0_isPage ∈ tb := tb_t 131 (by decide +kernel) rfl
theorem mS_X0_isPage : Cond.selects RX0 yX0_isPage yX0_isPage ∈ tb := tb_t 132 (by decide +kernel) rfl
abbrev kX0_isPage : Cond := Cond.code yX0_isPage cX0_isPage 2 (some .boolean)
set_option maxRecDepth 100000 in
theorem mK_X0_isPage : kX0_isPage ∈ tb := tb_t 133 rfl rfl
theorem mF_X4_12 : Cond.fieldLink RX4 12 "PagedTree" "disk" "LPagedTree$Disk;" ∈ tb := tb_t 134 (by decide +kernel) rfl
theorem mF_X4_19 : Cond.fieldLink RX4 19 "PagedTree" "frames" "LPagedTree$Frames;" ∈ tb := tb_t 135 (by decide +kernel) rfl
theorem mF_X4_26 : Cond.fieldLink RX4 26 "PagedTree" "way" "LPagedTree$Way;" ∈ tb := tb_t 136 (by decide +kernel) rfl
theorem mF_X4_33 : Cond.fieldLink RX4 33 "PagedTree" "survey" "LPagedTree$Survey;" ∈ tb := tb_t 137 (by decide +kernel) rfl
theorem mF_X4_37 : Cond.fieldLink RX4 37 "PagedTree" "root" "I" ∈ tb := tb_t 138 (by decide +kernel) rfl
theorem mF_X4_41 : Cond.fieldLink RX4 41 "PagedTree" "keyCount" "I" ∈ tb := tb_t 139 (by decide +kernel) rfl
theorem mF_X4_44 : Cond.fieldLink RX4 44 "PagedTree" "cursorLeaf" "I" ∈ tb := tb_t 140 (by decide +kernel) rfl
theorem mF_X4_127 : Cond.fieldLink RX4 127 "PagedTree" "cursorPlace" "I" ∈ tb := tb_t 141 (by decide +kernel) rfl
theorem mF_X4_133 : Cond.fieldLink RX4 133 "PagedTree" "cursorKey" "I" ∈ tb := tb_t 142 (by decide +kernel) rfl
theorem mF_X4_130 : Cond.fieldLink RX4 130 "PagedTree" "cursorValue" "I" ∈ tb := tb_t 143 (by decide +kernel) rfl
theorem mM_L_67 : Cond.methodLink RL 67 yX4_remove ∈ tb := tb_t 165 (by decide +kernel) rfl
theorem mI_X4_remove : Cond.instanceMethod yX4_remove ∈ tb := tb_t 166 (by decide +kernel) rfl
theorem mS_X4_remove : Cond.selects RX4 yX4_remove yX4_remove ∈ tb := tb_t 167 (by decide +kernel) rfl
abbrev kX4_remove : Cond := Cond.code yX4_remove cX4_remove 5 (some .boolean)
set_option maxRecDepth 100000 in
theorem mK_X4_remove : kX4_remove ∈ tb := tb_t 168 rfl rfl
theorem mM_X4_51 : Cond.methodLink RX4 51 yX3_lead ∈ tb := tb_t 169 (by decide +kernel) rfl
theorem mI_X3_lead : Cond.instanceMethod yX3_lead ∈ tb := tb_t 170 (by decide +kernel) rfl
theorem mS_X3_lead : Cond.selects RX3 yX3_lead yX3_lead ∈ tb := tb_t 171 (by decide +kernel) rfl
abbrev kX3_lead : Cond := Cond.code yX3_lead cX3_lead 6 none
set_option maxRecDepth 100000 in
theorem mK_X3_lead : kX3_lead ∈ tb := tb_t 172 rfl rfl
theorem mM_X3_22 : Cond.methodLink RX3 22 yX3_add ∈ tb := tb_t 173 (by decide +kernel) rfl
theorem mI_X3_add : Cond.instanceMethod yX3_add ∈ tb := tb_t 175 (by decide +kernel) rfl
abbrev kX3_add : Cond := Cond.code yX3_add cX3_add 3 none
set_option maxRecDepth 100000 in
theorem mK_X3_add : kX3_add ∈ tb := tb_t 176 rfl rfl
theorem mM_X3_26 : Cond.methodLink RX3 26 yX3_leaf ∈ tb := tb_t 177 (by decide +kernel) rfl
theorem mI_X3_leaf : Cond.instanceMethod yX3_leaf ∈ tb := tb_t 178 (by decide +kernel) rfl
theorem mS_X3_leaf : Cond.selects RX3 yX3_leaf yX3_leaf ∈ tb := tb_t 179 (by decide +kernel) rfl
abbrev kX3_leaf : Cond := Cond.code yX3_leaf cX3_leaf 1 (some .int)
set_option maxRecDepth 100000 in
theorem mK_X3_leaf : kX3_leaf ∈ tb := tb_t 180 rfl rfl
theorem mM_X3_43 : Cond.methodLink RX3 43 yX3_pageAt ∈ tb := tb_t 181 (by decide +kernel) rfl
theorem mI_X3_pageAt : Cond.instanceMethod yX3_pageAt ∈ tb := tb_t 182 (by decide +kernel) rfl
theorem mS_X3_pageAt : Cond.selects RX3 yX3_pageAt yX3_pageAt ∈ tb := tb_t 183 (by decide +kernel) rfl
abbrev kX3_pageAt : Cond := Cond.code yX3_pageAt cX3_pageAt 2 (some .int)
set_option maxRecDepth 100000 in
theorem mK_X3_pageAt : kX3_pageAt ∈ tb := tb_t 184 rfl rfl
theorem mM_X3_30 : Cond.methodLink RX3 30 yX0_kindOf ∈ tb := tb_t 185 (by decide +kernel) rfl
theorem mI_X0_kindOf : Cond.instanceMethod yX0_kindOf ∈ tb := tb_t 186 (by decide +kernel) rfl
theorem mS_X0_kindOf : Cond.selects RX0 yX0_kindOf yX0_kindOf ∈ tb := tb_t 187 (by decide +kernel) rfl
abbrev kX0_kindOf : Cond := Cond.code yX0_kindOf cX0_kindOf 2 (some .int)
set_option maxRecDepth 100000 in
theorem mK_X0_kindOf : kX0_kindOf ∈ tb := tb_t 188 rfl rfl
theorem mM_X3_36 : Cond.methodLink RX3 36 yX0_childPlaceFor ∈ tb := tb_t 189 (by decide +kernel) rfl
theorem mI_X0_childPlaceFor : Cond.instanceMethod yX0_childPlaceFor ∈ tb := tb_t 190 (by decide +kernel) rfl
theorem mS_X0_childPlaceFor : Cond.selects RX0 yX0_childPlaceFor yX0_childPlaceFor ∈ tb := tb_t 191 (by decide +kernel) rfl
abbrev kX0_childPlaceFor : Cond := Cond.code yX0_childPlaceFor cX0_childPlaceFor 4 (some .int)
set_option maxRecDepth 100000 in
theorem mK_X0_childPlaceFor : kX0_childPlaceFor ∈ tb := tb_t 192 rfl rfl
theorem mM_X0_41 : Cond.methodLink RX0 41 yX0_countOf ∈ tb := tb_t 193 (by decide +kernel) rfl
theorem mI_X0_countOf : Cond.instanceMethod yX0_countOf ∈ tb := tb_t 194 (by decide +kernel) rfl
theorem mS_X0_countOf : Cond.selects RX0 yX0_countOf yX0_countOf ∈ tb := tb_t 195 (by decide +kernel) rfl
abbrev kX0_countOf : Cond := Cond.code yX0_countOf cX0_countOf 2 (some .int)
set_option maxRecDepth 100000 in
theorem mK_X0_countOf : kX0_countOf ∈ tb := tb_t 196 rfl rfl
theorem mM_X0_45 : Cond.methodLink RX0 45 yX0_keyAt ∈ tb := tb_t 197 (by decide +kernel) rfl
theorem mI_X0_keyAt : Cond.instanceMethod yX0_keyAt ∈ tb := tb_t 198 (by decide +kernel) rfl
theorem mS_X0_keyAt : Cond.selects RX0 yX0_keyAt yX0_keyAt ∈ tb := tb_t 199 (by decide +kernel) rfl
abbrev kX0_keyAt : Cond := Cond.code yX0_keyAt cX0_keyAt 4 (some .int)
set_option maxRecDepth 100000 in
theorem mK_X0_keyAt : kX0_keyAt ∈ tb := tb_t 200 rfl rfl
theorem mM_X0_37 : Cond.methodLink RX0 37 yX0_cellOf ∈ tb := tb_t 201 (by decide +kernel) rfl
theorem mI_X0_cellOf : Cond.instanceMethod yX0_cellOf ∈ tb := tb_t 203 (by decide +kernel) rfl
abbrev kX0_cellOf : Cond := Cond.code yX0_cellOf cX0_cellOf 4 (some .int)
set_option maxRecDepth 100000 in
theorem mK_X0_cellOf : kX0_cellOf ∈ tb := tb_t 204 rfl rfl
theorem mM_X3_40 : Cond.methodLink RX3 40 yX0_secondAt ∈ tb := tb_t 205 (by decide +kernel) rfl
theorem mI_X0_secondAt : Cond.instanceMethod yX0_secondAt ∈ tb := tb_t 206 (by decide +kernel) rfl
theorem mS_X0_secondAt : Cond.selects RX0 yX0_secondAt yX0_secondAt ∈ tb := tb_t 207 (by decide +kernel) rfl
abbrev kX0_secondAt : Cond := Cond.code yX0_secondAt cX0_secondAt 4 (some .int)
set_option maxRecDepth 100000 in
theorem mK_X0_secondAt : kX0_secondAt ∈ tb := tb_t 208 rfl rfl
theorem mM_X4_55 : Cond.methodLink RX4 55 yX3_leaf ∈ tb := tb_t 209 (by decide +kernel) rfl
theorem mM_X4_59 : Cond.methodLink RX4 59 yX0_placeOf ∈ tb := tb_t 210 (by decide +kernel) rfl
theorem mI_X0_placeOf : Cond.instanceMethod yX0_placeOf ∈ tb := tb_t 211 (by decide +kernel) rfl
theorem mS_X0_placeOf : Cond.selects RX0 yX0_placeOf yX0_placeOf ∈ tb := tb_t 212 (by decide +kernel) rfl
abbrev kX0_placeOf : Cond := Cond.code yX0_placeOf cX0_placeOf 5 (some .int)
set_option maxRecDepth 100000 in
theorem mK_X0_placeOf : kX0_placeOf ∈ tb := tb_t 213 rfl rfl
theorem mM_X4_63 : Cond.methodLink RX4 63 yX0_hasKey ∈ tb := tb_t 214 (by decide +kernel) rfl
theorem mI_X0_hasKey : Cond.instanceMethod yX0_hasKey ∈ tb := tb_t 215 (by decide +kernel) rfl
theorem mS_X0_hasKey : Cond.selects RX0 yX0_hasKey yX0_hasKey ∈ tb := tb_t 216 (by decide +kernel) rfl
abbrev kX0_hasKey : Cond := Cond.code yX0_hasKey cX0_hasKey 4 (some .boolean)
set_option maxRecDepth 100000 in
theorem mK_X0_hasKey : kX0_hasKey ∈ tb := tb_t 217 rfl rfl
theorem mM_X4_80 : Cond.methodLink RX4 80 yX4_endCursor ∈ tb := tb_t 218 (by decide +kernel) rfl
theorem mI_X4_endCursor : Cond.instanceMethod yX4_endCursor ∈ tb := tb_t 220 (by decide +kernel) rfl
abbrev kX4_endCursor : Cond := Cond.code yX4_endCursor cX4_endCursor 1 none
set_option maxRecDepth 100000 in
theorem mK_X4_endCursor : kX4_endCursor ∈ tb := tb_t 221 rfl rfl
theorem mM_X4_83 : Cond.methodLink RX4 83 yX4_touchWay ∈ tb := tb_t 222 (by decide +kernel) rfl
theorem mI_X4_touchWay : Cond.instanceMethod yX4_touchWay ∈ tb := tb_t 224 (by decide +kernel) rfl
abbrev kX4_touchWay : Cond := Cond.code yX4_touchWay cX4_touchWay 2 none
set_option maxRecDepth 100000 in
theorem mK_X4_touchWay : kX4_touchWay ∈ tb := tb_t 225 rfl rfl
theorem mM_X4_214 : Cond.methodLink RX4 214 yX3_length ∈ tb := tb_t 226 (by decide +kernel) rfl
theorem mI_X3_length : Cond.instanceMethod yX3_length ∈ tb := tb_t 227 (by decide +kernel) rfl
theorem mS_X3_length : Cond.selects RX3 yX3_length yX3_length ∈ tb := tb_t 228 (by decide +kernel) rfl
abbrev kX3_length : Cond := Cond.code yX3_length cX3_length 1 (some .int)
set_option maxRecDepth 100000 in
theorem mK_X3_length : kX3_length ∈ tb := tb_t 229 rfl rfl
theorem mM_X4_217 : Cond.methodLink RX4 217 yX3_pageAt ∈ tb := tb_t 230 (by decide +kernel) rfl
theorem mM_X4_123 : Cond.methodLink RX4 123 yX1_touch ∈ tb := tb_t 231 (by decide +kernel) rfl
theorem mI_X1_touch : Cond.instanceMethod yX1_touch ∈ tb := tb_t 232 (by decide +kernel) rfl
theorem mS_X1_touch : Cond.selects RX1 yX1_touch yX1_touch ∈ tb := tb_t 233 (by decide +kernel) rfl
abbrev kX1_touch : Cond := Cond.code yX1_touch cX1_touch 4 none
set_option maxRecDepth 100000 in
theorem mK_X1_touch : kX1_touch ∈ tb := tb_t 234 rfl rfl
theorem mM_X1_48 : Cond.methodLink RX1 48 yX1_frameOf ∈ tb := tb_t 235 (by decide +kernel) rfl
theorem mI_X1_frameOf : Cond.instanceMethod yX1_frameOf ∈ tb := tb_t 236 (by decide +kernel) rfl
theorem mS_X1_frameOf : Cond.selects RX1 yX1_frameOf yX1_frameOf ∈ tb := tb_t 237 (by decide +kernel) rfl
abbrev kX1_frameOf : Cond := Cond.code yX1_frameOf cX1_frameOf 3 (some .int)
set_option maxRecDepth 100000 in
theorem mK_X1_frameOf : kX1_frameOf ∈ tb := tb_t 238 rfl rfl
theorem mM_X1_52 : Cond.methodLink RX1 52 yX1_vacateFrame ∈ tb := tb_t 239 (by decide +kernel) rfl
theorem mI_X1_vacateFrame : Cond.instanceMethod yX1_vacateFrame ∈ tb := tb_t 241 (by decide +kernel) rfl
abbrev kX1_vacateFrame : Cond := Cond.code yX1_vacateFrame cX1_vacateFrame 4 (some .int)
set_option maxRecDepth 100000 in
theorem mK_X1_vacateFrame : kX1_vacateFrame ∈ tb := tb_t 242 rfl rfl
theorem mM_X1_56 : Cond.methodLink RX1 56 yJ9_floorMod_7cf53 ∈ tb := tb_t 243 (by decide +kernel) rfl
theorem mT_J9_floorMod_7cf53 : Cond.static yJ9_floorMod_7cf53 ∈ tb := tb_t 244 (by decide +kernel) rfl
abbrev kJ9_floorMod_7cf53 : Cond := Cond.code yJ9_floorMod_7cf53 cJ9_floorMod_7cf53 3 (some .int)
set_option maxRecDepth 100000 in
theorem mK_J9_floorMod_7cf53 : kJ9_floorMod_7cf53 ∈ tb := tb_t 245 rfl rfl
theorem mM_X1_62 : Cond.methodLink RX1 62 yX1_givesWay ∈ tb := tb_t 246 (by decide +kernel) rfl
theorem mI_X1_givesWay : Cond.instanceMethod yX1_givesWay ∈ tb := tb_t 248 (by decide +kernel) rfl
abbrev kX1_givesWay : Cond := Cond.code yX1_givesWay cX1_givesWay 2 (some .boolean)
set_option maxRecDepth 100000 in
theorem mK_X1_givesWay : kX1_givesWay ∈ tb := tb_t 249 rfl rfl
theorem mM_X1_65 : Cond.methodLink RX1 65 yX1_clear ∈ tb := tb_t 250 (by decide +kernel) rfl
theorem mI_X1_clear : Cond.instanceMethod yX1_clear ∈ tb := tb_t 252 (by decide +kernel) rfl
abbrev kX1_clear : Cond := Cond.code yX1_clear cX1_clear 2 none
set_option maxRecDepth 100000 in
theorem mK_X1_clear : kX1_clear ∈ tb := tb_t 253 rfl rfl
theorem mM_X1_31 : Cond.methodLink RX1 31 yX1_isFrame ∈ tb := tb_t 254 (by decide +kernel) rfl
theorem mI_X1_isFrame : Cond.instanceMethod yX1_isFrame ∈ tb := tb_t 255 (by decide +kernel) rfl
theorem mS_X1_isFrame : Cond.selects RX1 yX1_isFrame yX1_isFrame ∈ tb := tb_t 256 (by decide +kernel) rfl
abbrev kX1_isFrame : Cond := Cond.code yX1_isFrame cX1_isFrame 2 (some .boolean)
set_option maxRecDepth 100000 in
theorem mK_X1_isFrame : kX1_isFrame ∈ tb := tb_t 257 rfl rfl
theorem mM_X4_111 : Cond.methodLink RX4 111 yX0_delete ∈ tb := tb_t 258 (by decide +kernel) rfl
theorem mI_X0_delete : Cond.instanceMethod yX0_delete ∈ tb := tb_t 259 (by decide +kernel) rfl
theorem mS_X0_delete : Cond.selects RX0 yX0_delete yX0_delete ∈ tb := tb_t 260 (by decide +kernel) rfl
abbrev kX0_delete : Cond := Cond.code yX0_delete cX0_delete 5 none
set_option maxRecDepth 100000 in
theorem mK_X0_delete : kX0_delete ∈ tb := tb_t 261 rfl rfl
theorem mM_X0_48 : Cond.methodLink RX0 48 yX0_secondAt ∈ tb := tb_t 262 (by decide +kernel) rfl
theorem mM_X0_51 : Cond.methodLink RX0 51 yX0_setItem ∈ tb := tb_t 263 (by decide +kernel) rfl
theorem mI_X0_setItem : Cond.instanceMethod yX0_setItem ∈ tb := tb_t 264 (by decide +kernel) rfl
theorem mS_X0_setItem : Cond.selects RX0 yX0_setItem yX0_setItem ∈ tb := tb_t 265 (by decide +kernel) rfl
abbrev kX0_setItem : Cond := Cond.code yX0_setItem cX0_setItem 6 none
set_option maxRecDepth 100000 in
theorem mK_X0_setItem : kX0_setItem ∈ tb := tb_t 266 rfl rfl
theorem mM_X4_86 : Cond.methodLink RX4 86 yX1_soil ∈ tb := tb_t 267 (by decide +kernel) rfl
theorem mI_X1_soil : Cond.instanceMethod yX1_soil ∈ tb := tb_t 268 (by decide +kernel) rfl
theorem mS_X1_soil : Cond.selects RX1 yX1_soil yX1_soil ∈ tb := tb_t 269 (by decide +kernel) rfl
abbrev kX1_soil : Cond := Cond.code yX1_soil cX1_soil 3 none
set_option maxRecDepth 100000 in
theorem mK_X1_soil : kX1_soil ∈ tb := tb_t 270 rfl rfl
theorem mM_X4_114 : Cond.methodLink RX4 114 yX4_mendUpwards ∈ tb := tb_t 271 (by decide +kernel) rfl
theorem mI_X4_mendUpwards : Cond.instanceMethod yX4_mendUpwards ∈ tb := tb_t 273 (by decide +kernel) rfl
abbrev kX4_mendUpwards : Cond := Cond.code yX4_mendUpwards cX4_mendUpwards 2 none
set_option maxRecDepth 100000 in
theorem mK_X4_mendUpwards : kX4_mendUpwards ∈ tb := tb_t 274 rfl rfl
theorem mM_X4_163 : Cond.methodLink RX4 163 yX0_countOf ∈ tb := tb_t 275 (by decide +kernel) rfl
theorem mM_X4_248 : Cond.methodLink RX4 248 yX4_mend ∈ tb := tb_t 276 (by decide +kernel) rfl
theorem mI_X4_mend : Cond.instanceMethod yX4_mend ∈ tb := tb_t 278 (by decide +kernel) rfl
abbrev kX4_mend : Cond := Cond.code yX4_mend cX4_mend 7 none
set_option maxRecDepth 100000 in
theorem mK_X4_mend : kX4_mend ∈ tb := tb_t 279 rfl rfl
theorem mM_X4_239 : Cond.methodLink RX4 239 yX3_slotAt ∈ tb := tb_t 280 (by decide +kernel) rfl
theorem mI_X3_slotAt : Cond.instanceMethod yX3_slotAt ∈ tb := tb_t 281 (by decide +kernel) rfl
theorem mS_X3_slotAt : Cond.selects RX3 yX3_slotAt yX3_slotAt ∈ tb := tb_t 282 (by decide +kernel) rfl
abbrev kX3_slotAt : Cond := Cond.code yX3_slotAt cX3_slotAt 2 (some .int)
set_option maxRecDepth 100000 in
theorem mK_X3_slotAt : kX3_slotAt ∈ tb := tb_t 283 rfl rfl
theorem mM_X4_108 : Cond.methodLink RX4 108 yX0_secondAt ∈ tb := tb_t 284 (by decide +kernel) rfl
theorem mM_X4_257 : Cond.methodLink RX4 257 yX4_giveFromLeft ∈ tb := tb_t 285 (by decide +kernel) rfl
theorem mI_X4_giveFromLeft : Cond.instanceMethod yX4_giveFromLeft ∈ tb := tb_t 287 (by decide +kernel) rfl
abbrev kX4_giveFromLeft : Cond := Cond.code yX4_giveFromLeft cX4_giveFromLeft 8 none
set_option maxRecDepth 100000 in
theorem mK_X4_giveFromLeft : kX4_giveFromLeft ∈ tb := tb_t 288 rfl rfl
theorem mM_X4_176 : Cond.methodLink RX4 176 yX0_keyAt ∈ tb := tb_t 289 (by decide +kernel) rfl
theorem mM_X4_159 : Cond.methodLink RX4 159 yX0_kindOf ∈ tb := tb_t 290 (by decide +kernel) rfl
theorem mM_X4_94 : Cond.methodLink RX4 94 yX0_insert ∈ tb := tb_t 291 (by decide +kernel) rfl
theorem mI_X0_insert : Cond.instanceMethod yX0_insert ∈ tb := tb_t 292 (by decide +kernel) rfl
theorem mS_X0_insert : Cond.selects RX0 yX0_insert yX0_insert ∈ tb := tb_t 293 (by decide +kernel) rfl
abbrev kX0_insert : Cond := Cond.code yX0_insert cX0_insert 7 none
set_option maxRecDepth 100000 in
theorem mK_X0_insert : kX0_insert ∈ tb := tb_t 294 rfl rfl
theorem mM_X4_233 : Cond.methodLink RX4 233 yX0_setKey ∈ tb := tb_t 295 (by decide +kernel) rfl
theorem mI_X0_setKey : Cond.instanceMethod yX0_setKey ∈ tb := tb_t 296 (by decide +kernel) rfl
theorem mS_X0_setKey : Cond.selects RX0 yX0_setKey yX0_setKey ∈ tb := tb_t 297 (by decide +kernel) rfl
abbrev kX0_setKey : Cond := Cond.code yX0_setKey cX0_setKey 5 none
set_option maxRecDepth 100000 in
theorem mK_X0_setKey : kX0_setKey ∈ tb := tb_t 298 rfl rfl
theorem mM_X4_242 : Cond.methodLink RX4 242 yX4_soilThree ∈ tb := tb_t 299 (by decide +kernel) rfl
theorem mI_X4_soilThree : Cond.instanceMethod yX4_soilThree ∈ tb := tb_t 301 (by decide +kernel) rfl
abbrev kX4_soilThree : Cond := Cond.code yX4_soilThree cX4_soilThree 4 none
set_option maxRecDepth 100000 in
theorem mK_X4_soilThree : kX4_soilThree ∈ tb := tb_t 302 rfl rfl
theorem mM_X4_260 : Cond.methodLink RX4 260 yX4_giveFromRight ∈ tb := tb_t 303 (by decide +kernel) rfl
theorem mI_X4_giveFromRight : Cond.instanceMethod yX4_giveFromRight ∈ tb := tb_t 305 (by decide +kernel) rfl
abbrev kX4_giveFromRight : Cond := Cond.code yX4_giveFromRight cX4_giveFromRight 8 none
set_option maxRecDepth 100000 in
theorem mK_X4_giveFromRight : kX4_giveFromRight ∈ tb := tb_t 306 rfl rfl
theorem mM_X4_263 : Cond.methodLink RX4 263 yX4_join ∈ tb := tb_t 307 (by decide +kernel) rfl
theorem mI_X4_join : Cond.instanceMethod yX4_join ∈ tb := tb_t 309 (by decide +kernel) rfl
abbrev kX4_join : Cond := Cond.code yX4_join cX4_join 5 none
set_option maxRecDepth 100000 in
theorem mK_X4_join : kX4_join ∈ tb := tb_t 310 rfl rfl
theorem mM_X4_166 : Cond.methodLink RX4 166 yX0_leafAfter ∈ tb := tb_t 311 (by decide +kernel) rfl
theorem mI_X0_leafAfter : Cond.instanceMethod yX0_leafAfter ∈ tb := tb_t 312 (by decide +kernel) rfl
theorem mS_X0_leafAfter : Cond.selects RX0 yX0_leafAfter yX0_leafAfter ∈ tb := tb_t 313 (by decide +kernel) rfl
abbrev kX0_leafAfter : Cond := Cond.code yX0_leafAfter cX0_leafAfter 2 (some .int)
set_option maxRecDepth 100000 in
theorem mK_X0_leafAfter : kX0_leafAfter ∈ tb := tb_t 314 rfl rfl
theorem mM_X4_230 : Cond.methodLink RX4 230 yX0_setLeafAfter ∈ tb := tb_t 315 (by decide +kernel) rfl
theorem mI_X0_setLeafAfter : Cond.instanceMethod yX0_setLeafAfter ∈ tb := tb_t 316 (by decide +kernel) rfl
theorem mS_X0_setLeafAfter : Cond.selects RX0 yX0_setLeafAfter yX0_setLeafAfter ∈ tb := tb_t 317 (by decide +kernel) rfl
abbrev kX0_setLeafAfter : Cond := Cond.code yX0_setLeafAfter cX0_setLeafAfter 3 none
set_option maxRecDepth 100000 in
theorem mK_X0_setLeafAfter : kX0_setLeafAfter ∈ tb := tb_t 318 rfl rfl
theorem mM_X4_226 : Cond.methodLink RX4 226 yX0_moveItems ∈ tb := tb_t 319 (by decide +kernel) rfl
theorem mI_X0_moveItems : Cond.instanceMethod yX0_moveItems ∈ tb := tb_t 320 (by decide +kernel) rfl
theorem mS_X0_moveItems : Cond.selects RX0 yX0_moveItems yX0_moveItems ∈ tb := tb_t 321 (by decide +kernel) rfl
abbrev kX0_moveItems : Cond := Cond.code yX0_moveItems cX0_moveItems 7 none
set_option maxRecDepth 100000 in
theorem mK_X0_moveItems : kX0_moveItems ∈ tb := tb_t 322 rfl rfl
theorem mM_X4_254 : Cond.methodLink RX4 254 yX4_releasePage ∈ tb := tb_t 323 (by decide +kernel) rfl
theorem mI_X4_releasePage : Cond.instanceMethod yX4_releasePage ∈ tb := tb_t 325 (by decide +kernel) rfl
abbrev kX4_releasePage : Cond := Cond.code yX4_releasePage cX4_releasePage 2 none
set_option maxRecDepth 100000 in
theorem mK_X4_releasePage : kX4_releasePage ∈ tb := tb_t 326 rfl rfl
theorem mM_X4_266 : Cond.methodLink RX4 266 yX1_clearPage ∈ tb := tb_t 327 (by decide +kernel) rfl
theorem mI_X1_clearPage : Cond.instanceMethod yX1_clearPage ∈ tb := tb_t 328 (by decide +kernel) rfl
theorem mS_X1_clearPage : Cond.selects RX1 yX1_clearPage yX1_clearPage ∈ tb := tb_t 329 (by decide +kernel) rfl
abbrev kX1_clearPage : Cond := Cond.code yX1_clearPage cX1_clearPage 2 none
set_option maxRecDepth 100000 in
theorem mK_X1_clearPage : kX1_clearPage ∈ tb := tb_t 330 rfl rfl
theorem mM_X4_251 : Cond.methodLink RX4 251 yX4_lowerRoot ∈ tb := tb_t 331 (by decide +kernel) rfl
theorem mI_X4_lowerRoot : Cond.instanceMethod yX4_lowerRoot ∈ tb := tb_t 333 (by decide +kernel) rfl
abbrev kX4_lowerRoot : Cond := Cond.code yX4_lowerRoot cX4_lowerRoot 2 none
set_option maxRecDepth 100000 in
theorem mK_X4_lowerRoot : kX4_lowerRoot ∈ tb := tb_t 334 rfl rfl
theorem mM_X4_100 : Cond.methodLink RX4 100 yX1_unpinAll ∈ tb := tb_t 335 (by decide +kernel) rfl
theorem mI_X1_unpinAll : Cond.instanceMethod yX1_unpinAll ∈ tb := tb_t 336 (by decide +kernel) rfl
theorem mS_X1_unpinAll : Cond.selects RX1 yX1_unpinAll yX1_unpinAll ∈ tb := tb_t 337 (by decide +kernel) rfl
abbrev kX1_unpinAll : Cond := Cond.code yX1_unpinAll cX1_unpinAll 2 none
set_option maxRecDepth 100000 in
theorem mK_X1_unpinAll : kX1_unpinAll ∈ tb := tb_t 338 rfl rfl
theorem mM_L_72 : Cond.methodLink RL 72 yX4_seek ∈ tb := tb_t 339 (by decide +kernel) rfl
theorem mI_X4_seek : Cond.instanceMethod yX4_seek ∈ tb := tb_t 340 (by decide +kernel) rfl
theorem mS_X4_seek : Cond.selects RX4 yX4_seek yX4_seek ∈ tb := tb_t 341 (by decide +kernel) rfl
abbrev kX4_seek : Cond := Cond.code yX4_seek cX4_seek 3 (some .boolean)
set_option maxRecDepth 100000 in
theorem mK_X4_seek : kX4_seek ∈ tb := tb_t 342 rfl rfl
theorem mM_X4_117 : Cond.methodLink RX4 117 yX4_moveCursor ∈ tb := tb_t 343 (by decide +kernel) rfl
theorem mI_X4_moveCursor : Cond.instanceMethod yX4_moveCursor ∈ tb := tb_t 345 (by decide +kernel) rfl
abbrev kX4_moveCursor : Cond := Cond.code yX4_moveCursor cX4_moveCursor 5 (some .boolean)
set_option maxRecDepth 100000 in
theorem mK_X4_moveCursor : kX4_moveCursor ∈ tb := tb_t 346 rfl rfl
theorem mM_L_84 : Cond.methodLink RL 84 yX4_flush ∈ tb := tb_t 347 (by decide +kernel) rfl
theorem mI_X4_flush : Cond.instanceMethod yX4_flush ∈ tb := tb_t 348 (by decide +kernel) rfl
theorem mS_X4_flush : Cond.selects RX4 yX4_flush yX4_flush ∈ tb := tb_t 349 (by decide +kernel) rfl
abbrev kX4_flush : Cond := Cond.code yX4_flush cX4_flush 1 (some .int)
set_option maxRecDepth 100000 in
theorem mK_X4_flush : kX4_flush ∈ tb := tb_t 350 rfl rfl
theorem mM_X4_136 : Cond.methodLink RX4 136 yX1_writeDirty ∈ tb := tb_t 351 (by decide +kernel) rfl
theorem mI_X1_writeDirty : Cond.instanceMethod yX1_writeDirty ∈ tb := tb_t 352 (by decide +kernel) rfl
theorem mS_X1_writeDirty : Cond.selects RX1 yX1_writeDirty yX1_writeDirty ∈ tb := tb_t 353 (by decide +kernel) rfl
abbrev kX1_writeDirty : Cond := Cond.code yX1_writeDirty cX1_writeDirty 3 (some .int)
set_option maxRecDepth 100000 in
theorem mK_X1_writeDirty : kX1_writeDirty ∈ tb := tb_t 354 rfl rfl
theorem mM_X1_69 : Cond.methodLink RX1 69 yX1_countDirty ∈ tb := tb_t 355 (by decide +kernel) rfl
theorem mI_X1_countDirty : Cond.instanceMethod yX1_countDirty ∈ tb := tb_t 356 (by decide +kernel) rfl
theorem mS_X1_countDirty : Cond.selects RX1 yX1_countDirty yX1_countDirty ∈ tb := tb_t 357 (by decide +kernel) rfl
abbrev kX1_countDirty : Cond := Cond.code yX1_countDirty cX1_countDirty 3 (some .int)
set_option maxRecDepth 100000 in
theorem mK_X1_countDirty : kX1_countDirty ∈ tb := tb_t 358 rfl rfl
theorem mM_L_101 : Cond.methodLink RL 101 yX4_told ∈ tb := tb_t 359 (by decide +kernel) rfl
theorem mI_X4_told : Cond.instanceMethod yX4_told ∈ tb := tb_t 360 (by decide +kernel) rfl
theorem mS_X4_told : Cond.selects RX4 yX4_told yX4_told ∈ tb := tb_t 361 (by decide +kernel) rfl
abbrev kX4_told : Cond := Cond.code yX4_told cX4_told 2 (some .int)
set_option maxRecDepth 100000 in
theorem mK_X4_told : kX4_told ∈ tb := tb_t 362 rfl rfl
theorem mM_X4_195 : Cond.methodLink RX4 195 yX0_countLevels ∈ tb := tb_t 363 (by decide +kernel) rfl
theorem mI_X0_countLevels : Cond.instanceMethod yX0_countLevels ∈ tb := tb_t 364 (by decide +kernel) rfl
theorem mS_X0_countLevels : Cond.selects RX0 yX0_countLevels yX0_countLevels ∈ tb := tb_t 365 (by decide +kernel) rfl
abbrev kX0_countLevels : Cond := Cond.code yX0_countLevels cX0_countLevels 4 (some .int)
set_option maxRecDepth 100000 in
theorem mK_X0_countLevels : kX0_countLevels ∈ tb := tb_t 366 rfl rfl
theorem mM_X0_55 : Cond.methodLink RX0 55 yX0_kindOf ∈ tb := tb_t 367 (by decide +kernel) rfl
theorem mM_X4_70 : Cond.methodLink RX4 70 yX0_countFree ∈ tb := tb_t 368 (by decide +kernel) rfl
theorem mI_X0_countFree : Cond.instanceMethod yX0_countFree ∈ tb := tb_t 369 (by decide +kernel) rfl
theorem mS_X0_countFree : Cond.selects RX0 yX0_countFree yX0_countFree ∈ tb := tb_t 370 (by decide +kernel) rfl
abbrev kX0_countFree : Cond := Cond.code yX0_countFree cX0_countFree 3 (some .int)
set_option maxRecDepth 100000 in
theorem mK_X0_countFree : kX0_countFree ∈ tb := tb_t 371 rfl rfl
theorem mM_X4_198 : Cond.methodLink RX4 198 yX1_hits ∈ tb := tb_t 372 (by decide +kernel) rfl
theorem mI_X1_hits : Cond.instanceMethod yX1_hits ∈ tb := tb_t 373 (by decide +kernel) rfl
theorem mS_X1_hits : Cond.selects RX1 yX1_hits yX1_hits ∈ tb := tb_t 374 (by decide +kernel) rfl
abbrev kX1_hits : Cond := Cond.code yX1_hits cX1_hits 1 (some .int)
set_option maxRecDepth 100000 in
theorem mK_X1_hits : kX1_hits ∈ tb := tb_t 375 rfl rfl
theorem mM_X4_201 : Cond.methodLink RX4 201 yX1_pagesRead ∈ tb := tb_t 376 (by decide +kernel) rfl
theorem mI_X1_pagesRead : Cond.instanceMethod yX1_pagesRead ∈ tb := tb_t 377 (by decide +kernel) rfl
theorem mS_X1_pagesRead : Cond.selects RX1 yX1_pagesRead yX1_pagesRead ∈ tb := tb_t 378 (by decide +kernel) rfl
abbrev kX1_pagesRead : Cond := Cond.code yX1_pagesRead cX1_pagesRead 1 (some .int)
set_option maxRecDepth 100000 in
theorem mK_X1_pagesRead : kX1_pagesRead ∈ tb := tb_t 379 rfl rfl
theorem mM_X4_204 : Cond.methodLink RX4 204 yX1_pagesWritten ∈ tb := tb_t 380 (by decide +kernel) rfl
theorem mI_X1_pagesWritten : Cond.instanceMethod yX1_pagesWritten ∈ tb := tb_t 381 (by decide +kernel) rfl
theorem mS_X1_pagesWritten : Cond.selects RX1 yX1_pagesWritten yX1_pagesWritten ∈ tb := tb_t 382 (by decide +kernel) rfl
abbrev kX1_pagesWritten : Cond := Cond.code yX1_pagesWritten cX1_pagesWritten 1 (some .int)
set_option maxRecDepth 100000 in
theorem mK_X1_pagesWritten : kX1_pagesWritten ∈ tb := tb_t 383 rfl rfl
theorem mM_X4_207 : Cond.methodLink RX4 207 yX1_handPlace ∈ tb := tb_t 384 (by decide +kernel) rfl
theorem mI_X1_handPlace : Cond.instanceMethod yX1_handPlace ∈ tb := tb_t 385 (by decide +kernel) rfl
theorem mS_X1_handPlace : Cond.selects RX1 yX1_handPlace yX1_handPlace ∈ tb := tb_t 386 (by decide +kernel) rfl
abbrev kX1_handPlace : Cond := Cond.code yX1_handPlace cX1_handPlace 1 (some .int)
set_option maxRecDepth 100000 in
theorem mK_X1_handPlace : kX1_handPlace ∈ tb := tb_t 387 rfl rfl
theorem mM_L_105 : Cond.methodLink RL 105 yX4_astray ∈ tb := tb_t 388 (by decide +kernel) rfl
theorem mI_X4_astray : Cond.instanceMethod yX4_astray ∈ tb := tb_t 389 (by decide +kernel) rfl
theorem mS_X4_astray : Cond.selects RX4 yX4_astray yX4_astray ∈ tb := tb_t 390 (by decide +kernel) rfl
abbrev kX4_astray : Cond := Cond.code yX4_astray cX4_astray 1 (some .int)
set_option maxRecDepth 100000 in
theorem mK_X4_astray : kX4_astray ∈ tb := tb_t 391 rfl rfl
theorem mM_X4_210 : Cond.methodLink RX4 210 yX2_countAstray ∈ tb := tb_t 392 (by decide +kernel) rfl
theorem mI_X2_countAstray : Cond.instanceMethod yX2_countAstray ∈ tb := tb_t 393 (by decide +kernel) rfl
theorem mS_X2_countAstray : Cond.selects RX2 yX2_countAstray yX2_countAstray ∈ tb := tb_t 394 (by decide +kernel) rfl
abbrev kX2_countAstray : Cond := Cond.code yX2_countAstray cX2_countAstray 6 (some .int)
set_option maxRecDepth 100000 in
theorem mK_X2_countAstray : kX2_countAstray ∈ tb := tb_t 395 rfl rfl
theorem mM_X2_28 : Cond.methodLink RX2 28 yJ7_fill_53178 ∈ tb := tb_t 396 (by decide +kernel) rfl
theorem mL_X2_38 : Cond.constantLong RX2 38 (-2147483648) ∈ tb := tb_t 397 (by decide +kernel) rfl
theorem mL_X2_40 : Cond.constantLong RX2 40 (2147483648) ∈ tb := tb_t 398 (by decide +kernel) rfl
theorem mM_X2_42 : Cond.methodLink RX2 42 yX2_meet ∈ tb := tb_t 399 (by decide +kernel) rfl
theorem mI_X2_meet : Cond.instanceMethod yX2_meet ∈ tb := tb_t 401 (by decide +kernel) rfl
abbrev kX2_meet : Cond := Cond.code yX2_meet cX2_meet 7 none
set_option maxRecDepth 100000 in
theorem mK_X2_meet : kX2_meet ∈ tb := tb_t 402 rfl rfl
theorem mM_X2_46 : Cond.methodLink RX2 46 yX2_meetChildren ∈ tb := tb_t 403 (by decide +kernel) rfl
theorem mI_X2_meetChildren : Cond.instanceMethod yX2_meetChildren ∈ tb := tb_t 405 (by decide +kernel) rfl
abbrev kX2_meetChildren : Cond := Cond.code yX2_meetChildren cX2_meetChildren 9 none
set_option maxRecDepth 100000 in
theorem mK_X2_meetChildren : kX2_meetChildren ∈ tb := tb_t 406 rfl rfl
theorem mM_X2_54 : Cond.methodLink RX2 54 yX0_kindOf ∈ tb := tb_t 407 (by decide +kernel) rfl
theorem mM_X2_60 : Cond.methodLink RX2 60 yX0_countOf ∈ tb := tb_t 408 (by decide +kernel) rfl
theorem mM_X2_63 : Cond.methodLink RX2 63 yX0_keyAt ∈ tb := tb_t 409 (by decide +kernel) rfl
theorem mM_X2_67 : Cond.methodLink RX2 67 yX0_secondAt ∈ tb := tb_t 410 (by decide +kernel) rfl
theorem mM_X2_50 : Cond.methodLink RX2 50 yX2_isAstray ∈ tb := tb_t 411 (by decide +kernel) rfl
theorem mI_X2_isAstray : Cond.instanceMethod yX2_isAstray ∈ tb := tb_t 413 (by decide +kernel) rfl
abbrev kX2_isAstray : Cond := Cond.code yX2_isAstray cX2_isAstray 6 (some .boolean)
set_option maxRecDepth 100000 in
theorem mK_X2_isAstray : kX2_isAstray ∈ tb := tb_t 414 rfl rfl
theorem mM_X2_70 : Cond.methodLink RX2 70 yX1_countHolding ∈ tb := tb_t 415 (by decide +kernel) rfl
theorem mI_X1_countHolding : Cond.instanceMethod yX1_countHolding ∈ tb := tb_t 416 (by decide +kernel) rfl
theorem mS_X1_countHolding : Cond.selects RX1 yX1_countHolding yX1_countHolding ∈ tb := tb_t 417 (by decide +kernel) rfl
abbrev kX1_countHolding : Cond := Cond.code yX1_countHolding cX1_countHolding 4 (some .int)
set_option maxRecDepth 100000 in
theorem mK_X1_countHolding : kX1_countHolding ∈ tb := tb_t 418 rfl rfl
theorem mM_X2_75 : Cond.methodLink RX2 75 yX0_countLevels ∈ tb := tb_t 419 (by decide +kernel) rfl
theorem mM_X2_78 : Cond.methodLink RX2 78 yX0_leafAfter ∈ tb := tb_t 420 (by decide +kernel) rfl
theorem mM_X2_81 : Cond.methodLink RX2 81 yX2_leafDueAfter ∈ tb := tb_t 421 (by decide +kernel) rfl
theorem mI_X2_leafDueAfter : Cond.instanceMethod yX2_leafDueAfter ∈ tb := tb_t 423 (by decide +kernel) rfl
abbrev kX2_leafDueAfter : Cond := Cond.code yX2_leafDueAfter cX2_leafDueAfter 4 (some .int)
set_option maxRecDepth 100000 in
theorem mK_X2_leafDueAfter : kX2_leafDueAfter ∈ tb := tb_t 424 rfl rfl
theorem mM_X2_85 : Cond.methodLink RX2 85 yX2_countIsRight ∈ tb := tb_t 425 (by decide +kernel) rfl
theorem mI_X2_countIsRight : Cond.instanceMethod yX2_countIsRight ∈ tb := tb_t 427 (by decide +kernel) rfl
abbrev kX2_countIsRight : Cond := Cond.code yX2_countIsRight cX2_countIsRight 6 (some .boolean)
set_option maxRecDepth 100000 in
theorem mK_X2_countIsRight : kX2_countIsRight ∈ tb := tb_t 428 rfl rfl
theorem mM_X2_89 : Cond.methodLink RX2 89 yX2_childrenArePages ∈ tb := tb_t 429 (by decide +kernel) rfl
theorem mI_X2_childrenArePages : Cond.instanceMethod yX2_childrenArePages ∈ tb := tb_t 431 (by decide +kernel) rfl
abbrev kX2_childrenArePages : Cond := Cond.code yX2_childrenArePages cX2_childrenArePages 4 (some .boolean)
set_option maxRecDepth 100000 in
theorem mK_X2_childrenArePages : kX2_childrenArePages ∈ tb := tb_t 432 rfl rfl
theorem mM_X2_93 : Cond.methodLink RX2 93 yX2_keysAreInPlace ∈ tb := tb_t 433 (by decide +kernel) rfl
theorem mI_X2_keysAreInPlace : Cond.instanceMethod yX2_keysAreInPlace ∈ tb := tb_t 435 (by decide +kernel) rfl
abbrev kX2_keysAreInPlace : Cond := Cond.code yX2_keysAreInPlace cX2_keysAreInPlace 9 (some .boolean)
set_option maxRecDepth 100000 in
theorem mK_X2_keysAreInPlace : kX2_keysAreInPlace ∈ tb := tb_t 436 rfl rfl
theorem mM_L_54 : Cond.methodLink RL 54 yL_put ∈ tb := tb_t 437 (by decide +kernel) rfl
theorem mT_L_put : Cond.static yL_put ∈ tb := tb_t 438 (by decide +kernel) rfl
theorem mC_L_13 : Cond.classLink RL 13 "java/lang/UnsupportedOperationException" ∈ tb := tb_t 440 (by decide +kernel) rfl
theorem mM_L_7 : Cond.methodLink RL 7 yX4_put ∈ tb := tb_t 441 (by decide +kernel) rfl
theorem mI_X4_put : Cond.instanceMethod yX4_put ∈ tb := tb_t 442 (by decide +kernel) rfl
theorem mS_X4_put : Cond.selects RX4 yX4_put yX4_put ∈ tb := tb_t 443 (by decide +kernel) rfl
abbrev kX4_put : Cond := Cond.code yX4_put cX4_put 6 (some .boolean)
set_option maxRecDepth 100000 in
theorem mK_X4_put : kX4_put ∈ tb := tb_t 444 rfl rfl
theorem mM_X4_67 : Cond.methodLink RX4 67 yX4_newPagesForEntry ∈ tb := tb_t 445 (by decide +kernel) rfl
theorem mI_X4_newPagesForEntry : Cond.instanceMethod yX4_newPagesForEntry ∈ tb := tb_t 447 (by decide +kernel) rfl
abbrev kX4_newPagesForEntry : Cond := Cond.code yX4_newPagesForEntry cX4_newPagesForEntry 3 (some .int)
set_option maxRecDepth 100000 in
theorem mK_X4_newPagesForEntry : kX4_newPagesForEntry ∈ tb := tb_t 448 rfl rfl
theorem mC_X4_73 : Cond.classLink RX4 73 "java/lang/UnsupportedOperationException" ∈ tb := tb_t 449 (by decide +kernel) rfl
theorem mM_X4_90 : Cond.methodLink RX4 90 yX0_setItem ∈ tb := tb_t 519 (by decide +kernel) rfl
theorem mM_X4_97 : Cond.methodLink RX4 97 yX4_splitUpwards ∈ tb := tb_t 520 (by decide +kernel) rfl
theorem mI_X4_splitUpwards : Cond.instanceMethod yX4_splitUpwards ∈ tb := tb_t 522 (by decide +kernel) rfl
abbrev kX4_splitUpwards : Cond := Cond.code yX4_splitUpwards cX4_splitUpwards 2 none
set_option maxRecDepth 100000 in
theorem mK_X4_splitUpwards : kX4_splitUpwards ∈ tb := tb_t 523 rfl rfl
theorem mM_X4_220 : Cond.methodLink RX4 220 yX4_split ∈ tb := tb_t 524 (by decide +kernel) rfl
theorem mI_X4_split : Cond.instanceMethod yX4_split ∈ tb := tb_t 526 (by decide +kernel) rfl
abbrev kX4_split : Cond := Cond.code yX4_split cX4_split 6 none
set_option maxRecDepth 100000 in
theorem mK_X4_split : kX4_split ∈ tb := tb_t 527 rfl rfl
theorem mM_X4_223 : Cond.methodLink RX4 223 yX4_takePage ∈ tb := tb_t 528 (by decide +kernel) rfl
theorem mI_X4_takePage : Cond.instanceMethod yX4_takePage ∈ tb := tb_t 530 (by decide +kernel) rfl
abbrev kX4_takePage : Cond := Cond.code yX4_takePage cX4_takePage 3 (some .int)
set_option maxRecDepth 100000 in
theorem mK_X4_takePage : kX4_takePage ∈ tb := tb_t 531 rfl rfl
theorem mM_X4_245 : Cond.methodLink RX4 245 yX0_leastFree ∈ tb := tb_t 532 (by decide +kernel) rfl
theorem mI_X0_leastFree : Cond.instanceMethod yX0_leastFree ∈ tb := tb_t 533 (by decide +kernel) rfl
theorem mS_X0_leastFree : Cond.selects RX0 yX0_leastFree yX0_leastFree ∈ tb := tb_t 534 (by decide +kernel) rfl
abbrev kX0_leastFree : Cond := Cond.code yX0_leastFree cX0_leastFree 2 (some .int)
set_option maxRecDepth 100000 in
theorem mK_X0_leastFree : kX0_leastFree ∈ tb := tb_t 535 rfl rfl
theorem mM_X4_236 : Cond.methodLink RX4 236 yX4_raiseRoot ∈ tb := tb_t 536 (by decide +kernel) rfl
theorem mI_X4_raiseRoot : Cond.instanceMethod yX4_raiseRoot ∈ tb := tb_t 538 (by decide +kernel) rfl
abbrev kX4_raiseRoot : Cond := Cond.code yX4_raiseRoot cX4_raiseRoot 2 none
set_option maxRecDepth 100000 in
theorem mK_X4_raiseRoot : kX4_raiseRoot ∈ tb := tb_t 539 rfl rfl
theorem mM_L_63 : Cond.methodLink RL 63 yL_get ∈ tb := tb_t 540 (by decide +kernel) rfl
theorem mT_L_get : Cond.static yL_get ∈ tb := tb_t 541 (by decide +kernel) rfl
theorem mC_L_19 : Cond.classLink RL 19 "java/util/NoSuchElementException" ∈ tb := tb_t 543 (by decide +kernel) rfl
theorem mM_L_15 : Cond.methodLink RL 15 yX4_get ∈ tb := tb_t 544 (by decide +kernel) rfl
theorem mI_X4_get : Cond.instanceMethod yX4_get ∈ tb := tb_t 545 (by decide +kernel) rfl
theorem mS_X4_get : Cond.selects RX4 yX4_get yX4_get ∈ tb := tb_t 546 (by decide +kernel) rfl
abbrev kX4_get : Cond := Cond.code yX4_get cX4_get 4 (some .int)
set_option maxRecDepth 100000 in
theorem mK_X4_get : kX4_get ∈ tb := tb_t 547 rfl rfl
theorem mC_X4_103 : Cond.classLink RX4 103 "java/util/NoSuchElementException" ∈ tb := tb_t 548 (by decide +kernel) rfl
theorem mM_L_76 : Cond.methodLink RL 76 yL_next ∈ tb := tb_t 564 (by decide +kernel) rfl
theorem mT_L_next : Cond.static yL_next ∈ tb := tb_t 565 (by decide +kernel) rfl
theorem mM_L_21 : Cond.methodLink RL 21 yX4_next ∈ tb := tb_t 567 (by decide +kernel) rfl
theorem mI_X4_next : Cond.instanceMethod yX4_next ∈ tb := tb_t 568 (by decide +kernel) rfl
theorem mS_X4_next : Cond.selects RX4 yX4_next yX4_next ∈ tb := tb_t 569 (by decide +kernel) rfl
abbrev kX4_next : Cond := Cond.code yX4_next cX4_next 2 (some .boolean)
set_option maxRecDepth 100000 in
theorem mK_X4_next : kX4_next ∈ tb := tb_t 570 rfl rfl
theorem mM_L_80 : Cond.methodLink RL 80 yL_cursor ∈ tb := tb_t 572 (by decide +kernel) rfl
theorem mT_L_cursor : Cond.static yL_cursor ∈ tb := tb_t 573 (by decide +kernel) rfl
theorem mM_L_25 : Cond.methodLink RL 25 yX4_cursor ∈ tb := tb_t 575 (by decide +kernel) rfl
theorem mI_X4_cursor : Cond.instanceMethod yX4_cursor ∈ tb := tb_t 576 (by decide +kernel) rfl
theorem mS_X4_cursor : Cond.selects RX4 yX4_cursor yX4_cursor ∈ tb := tb_t 577 (by decide +kernel) rfl
abbrev kX4_cursor : Cond := Cond.code yX4_cursor cX4_cursor 2 (some .int)
set_option maxRecDepth 100000 in
theorem mK_X4_cursor : kX4_cursor ∈ tb := tb_t 578 rfl rfl
theorem mM_L_88 : Cond.methodLink RL 88 yL_drop ∈ tb := tb_t 579 (by decide +kernel) rfl
theorem mT_L_drop : Cond.static yL_drop ∈ tb := tb_t 580 (by decide +kernel) rfl
theorem mC_L_33 : Cond.classLink RL 33 "java/lang/IllegalStateException" ∈ tb := tb_t 582 (by decide +kernel) rfl
theorem mM_L_29 : Cond.methodLink RL 29 yX4_drop ∈ tb := tb_t 583 (by decide +kernel) rfl
theorem mI_X4_drop : Cond.instanceMethod yX4_drop ∈ tb := tb_t 584 (by decide +kernel) rfl
theorem mS_X4_drop : Cond.selects RX4 yX4_drop yX4_drop ∈ tb := tb_t 585 (by decide +kernel) rfl
abbrev kX4_drop : Cond := Cond.code yX4_drop cX4_drop 1 (some .int)
set_option maxRecDepth 100000 in
theorem mK_X4_drop : kX4_drop ∈ tb := tb_t 586 rfl rfl
theorem mM_X4_139 : Cond.methodLink RX4 139 yX1_countDirty ∈ tb := tb_t 587 (by decide +kernel) rfl
theorem mC_X4_142 : Cond.classLink RX4 142 "java/lang/IllegalStateException" ∈ tb := tb_t 588 (by decide +kernel) rfl
theorem mM_X4_147 : Cond.methodLink RX4 147 yX1_emptyAll ∈ tb := tb_t 604 (by decide +kernel) rfl
theorem mI_X1_emptyAll : Cond.instanceMethod yX1_emptyAll ∈ tb := tb_t 605 (by decide +kernel) rfl
theorem mS_X1_emptyAll : Cond.selects RX1 yX1_emptyAll yX1_emptyAll ∈ tb := tb_t 606 (by decide +kernel) rfl
abbrev kX1_emptyAll : Cond := Cond.code yX1_emptyAll cX1_emptyAll 3 (some .int)
set_option maxRecDepth 100000 in
theorem mK_X1_emptyAll : kX1_emptyAll ∈ tb := tb_t 607 rfl rfl
theorem mM_L_91 : Cond.methodLink RL 91 yL_page ∈ tb := tb_t 608 (by decide +kernel) rfl
theorem mT_L_page : Cond.static yL_page ∈ tb := tb_t 609 (by decide +kernel) rfl
theorem mC_L_39 : Cond.classLink RL 39 "java/lang/IndexOutOfBoundsException" ∈ tb := tb_t 611 (by decide +kernel) rfl
theorem mC_L_41 : Cond.classLink RL 41 "java/lang/IllegalArgumentException" ∈ tb := tb_t 612 (by decide +kernel) rfl
theorem mM_L_35 : Cond.methodLink RL 35 yX4_page ∈ tb := tb_t 613 (by decide +kernel) rfl
theorem mI_X4_page : Cond.instanceMethod yX4_page ∈ tb := tb_t 614 (by decide +kernel) rfl
theorem mS_X4_page : Cond.selects RX4 yX4_page yX4_page ∈ tb := tb_t 615 (by decide +kernel) rfl
abbrev kX4_page : Cond := Cond.code yX4_page cX4_page 3 (some .int)
set_option maxRecDepth 100000 in
theorem mK_X4_page : kX4_page ∈ tb := tb_t 616 rfl rfl
theorem mM_X4_150 : Cond.methodLink RX4 150 yX0_isPage ∈ tb := tb_t 617 (by decide +kernel) rfl
theorem mC_X4_154 : Cond.classLink RX4 154 "java/lang/IndexOutOfBoundsException" ∈ tb := tb_t 618 (by decide +kernel) rfl
theorem mC_X4_169 : Cond.classLink RX4 169 "java/lang/IllegalArgumentException" ∈ tb := tb_t 634 (by decide +kernel) rfl
theorem mM_L_94 : Cond.methodLink RL 94 yL_item ∈ tb := tb_t 650 (by decide +kernel) rfl
theorem mT_L_item : Cond.static yL_item ∈ tb := tb_t 651 (by decide +kernel) rfl
theorem mM_L_43 : Cond.methodLink RL 43 yX4_item ∈ tb := tb_t 653 (by decide +kernel) rfl
theorem mI_X4_item : Cond.instanceMethod yX4_item ∈ tb := tb_t 654 (by decide +kernel) rfl
theorem mS_X4_item : Cond.selects RX4 yX4_item yX4_item ∈ tb := tb_t 655 (by decide +kernel) rfl
abbrev kX4_item : Cond := Cond.code yX4_item cX4_item 4 (some .int)
set_option maxRecDepth 100000 in
theorem mK_X4_item : kX4_item ∈ tb := tb_t 656 rfl rfl
theorem mM_L_98 : Cond.methodLink RL 98 yL_frame ∈ tb := tb_t 658 (by decide +kernel) rfl
theorem mT_L_frame : Cond.static yL_frame ∈ tb := tb_t 659 (by decide +kernel) rfl
theorem mM_L_47 : Cond.methodLink RL 47 yX4_frame ∈ tb := tb_t 661 (by decide +kernel) rfl
theorem mI_X4_frame : Cond.instanceMethod yX4_frame ∈ tb := tb_t 662 (by decide +kernel) rfl
theorem mS_X4_frame : Cond.selects RX4 yX4_frame yX4_frame ∈ tb := tb_t 663 (by decide +kernel) rfl
abbrev kX4_frame : Cond := Cond.code yX4_frame cX4_frame 3 (some .int)
set_option maxRecDepth 100000 in
theorem mK_X4_frame : kX4_frame ∈ tb := tb_t 664 rfl rfl
theorem mM_X4_179 : Cond.methodLink RX4 179 yX1_isFrame ∈ tb := tb_t 665 (by decide +kernel) rfl
theorem mM_X4_184 : Cond.methodLink RX4 184 yX1_pageIn ∈ tb := tb_t 667 (by decide +kernel) rfl
theorem mI_X1_pageIn : Cond.instanceMethod yX1_pageIn ∈ tb := tb_t 668 (by decide +kernel) rfl
theorem mS_X1_pageIn : Cond.selects RX1 yX1_pageIn yX1_pageIn ∈ tb := tb_t 669 (by decide +kernel) rfl
abbrev kX1_pageIn : Cond := Cond.code yX1_pageIn cX1_pageIn 2 (some .int)
set_option maxRecDepth 100000 in
theorem mK_X1_pageIn : kX1_pageIn ∈ tb := tb_t 670 rfl rfl
theorem mM_X4_187 : Cond.methodLink RX4 187 yX1_isUsed ∈ tb := tb_t 671 (by decide +kernel) rfl
theorem mI_X1_isUsed : Cond.instanceMethod yX1_isUsed ∈ tb := tb_t 672 (by decide +kernel) rfl
theorem mS_X1_isUsed : Cond.selects RX1 yX1_isUsed yX1_isUsed ∈ tb := tb_t 673 (by decide +kernel) rfl
abbrev kX1_isUsed : Cond := Cond.code yX1_isUsed cX1_isUsed 2 (some .boolean)
set_option maxRecDepth 100000 in
theorem mK_X1_isUsed : kX1_isUsed ∈ tb := tb_t 674 rfl rfl
theorem mM_X4_190 : Cond.methodLink RX4 190 yX1_isDirty ∈ tb := tb_t 675 (by decide +kernel) rfl
theorem mI_X1_isDirty : Cond.instanceMethod yX1_isDirty ∈ tb := tb_t 676 (by decide +kernel) rfl
theorem mS_X1_isDirty : Cond.selects RX1 yX1_isDirty yX1_isDirty ∈ tb := tb_t 677 (by decide +kernel) rfl
abbrev kX1_isDirty : Cond := Cond.code yX1_isDirty cX1_isDirty 2 (some .boolean)
set_option maxRecDepth 100000 in
theorem mK_X1_isDirty : kX1_isDirty ∈ tb := tb_t 678 rfl rfl
theorem mC_L_51 : Cond.classLink RL 51 RX5 ∈ tb := tb_t 680 (by decide +kernel) rfl
theorem mA_X5 : Cond.instantiable RX5 24 ∈ tb := tb_t 681 (by decide +kernel) rfl
theorem mM_L_53 : Cond.methodLink RL 53 yX5_init ∈ tb := tb_t 682 (by decide +kernel) rfl
theorem mI_X5_init : Cond.instanceMethod yX5_init ∈ tb := tb_t 683 (by decide +kernel) rfl
abbrev kX5_init : Cond := Cond.code yX5_init cX5_init 2 none
set_option maxRecDepth 100000 in
theorem mK_X5_init : kX5_init ∈ tb := tb_t 684 rfl rfl
theorem mF_X5_44 : Cond.fieldLink RX5 44 "PagedTreeModel" "refusal" "I" ∈ tb := tb_t 686 (by decide +kernel) rfl
theorem mF_X5_7 : Cond.fieldLink RX5 7 "PagedTreeModel" "kinds" "[I" ∈ tb := tb_t 687 (by decide +kernel) rfl
theorem mF_X5_13 : Cond.fieldLink RX5 13 "PagedTreeModel" "sizes" "[I" ∈ tb := tb_t 688 (by decide +kernel) rfl
theorem mF_X5_16 : Cond.fieldLink RX5 16 "PagedTreeModel" "keys" "[I" ∈ tb := tb_t 689 (by decide +kernel) rfl
theorem mF_X5_19 : Cond.fieldLink RX5 19 "PagedTreeModel" "others" "[I" ∈ tb := tb_t 690 (by decide +kernel) rfl
theorem mF_X5_22 : Cond.fieldLink RX5 22 "PagedTreeModel" "nexts" "[I" ∈ tb := tb_t 691 (by decide +kernel) rfl
theorem mF_X5_71 : Cond.fieldLink RX5 71 "PagedTreeModel" "root" "I" ∈ tb := tb_t 692 (by decide +kernel) rfl
theorem mF_X5_115 : Cond.fieldLink RX5 115 "PagedTreeModel" "entries" "I" ∈ tb := tb_t 693 (by decide +kernel) rfl
theorem mF_X5_74 : Cond.fieldLink RX5 74 "PagedTreeModel" "deep" "I" ∈ tb := tb_t 694 (by decide +kernel) rfl
theorem mF_X5_25 : Cond.fieldLink RX5 25 "PagedTreeModel" "way" "[I" ∈ tb := tb_t 695 (by decide +kernel) rfl
theorem mF_X5_28 : Cond.fieldLink RX5 28 "PagedTreeModel" "child" "[I" ∈ tb := tb_t 696 (by decide +kernel) rfl
theorem mF_X5_31 : Cond.fieldLink RX5 31 "PagedTreeModel" "held" "[I" ∈ tb := tb_t 697 (by decide +kernel) rfl
theorem mF_X5_34 : Cond.fieldLink RX5 34 "PagedTreeModel" "isUsed" "[Z" ∈ tb := tb_t 698 (by decide +kernel) rfl
theorem mF_X5_38 : Cond.fieldLink RX5 38 "PagedTreeModel" "isDirty" "[Z" ∈ tb := tb_t 699 (by decide +kernel) rfl
theorem mF_X5_41 : Cond.fieldLink RX5 41 "PagedTreeModel" "isPinned" "[Z" ∈ tb := tb_t 700 (by decide +kernel) rfl
theorem mF_X5_48 : Cond.fieldLink RX5 48 "PagedTreeModel" "hand" "I" ∈ tb := tb_t 701 (by decide +kernel) rfl
theorem mF_X5_61 : Cond.fieldLink RX5 61 "PagedTreeModel" "hits" "I" ∈ tb := tb_t 702 (by decide +kernel) rfl
theorem mF_X5_68 : Cond.fieldLink RX5 68 "PagedTreeModel" "reads" "I" ∈ tb := tb_t 703 (by decide +kernel) rfl
theorem mF_X5_54 : Cond.fieldLink RX5 54 "PagedTreeModel" "writes" "I" ∈ tb := tb_t 704 (by decide +kernel) rfl
theorem mF_X5_108 : Cond.fieldLink RX5 108 "PagedTreeModel" "isOn" "Z" ∈ tb := tb_t 705 (by decide +kernel) rfl
theorem mF_X5_141 : Cond.fieldLink RX5 141 "PagedTreeModel" "leaf" "I" ∈ tb := tb_t 706 (by decide +kernel) rfl
theorem mF_X5_144 : Cond.fieldLink RX5 144 "PagedTreeModel" "place" "I" ∈ tb := tb_t 707 (by decide +kernel) rfl
theorem mF_X5_147 : Cond.fieldLink RX5 147 "PagedTreeModel" "cursorKey" "I" ∈ tb := tb_t 708 (by decide +kernel) rfl
theorem mF_X5_150 : Cond.fieldLink RX5 150 "PagedTreeModel" "cursorValue" "I" ∈ tb := tb_t 709 (by decide +kernel) rfl
theorem mM_L_60 : Cond.methodLink RL 60 yX5_thrown ∈ tb := tb_t 759 (by decide +kernel) rfl
theorem mI_X5_thrown : Cond.instanceMethod yX5_thrown ∈ tb := tb_t 760 (by decide +kernel) rfl
theorem mS_X5_thrown : Cond.selects RX5 yX5_thrown yX5_thrown ∈ tb := tb_t 761 (by decide +kernel) rfl
abbrev kX5_thrown : Cond := Cond.code yX5_thrown cX5_thrown 1 (some .int)
set_option maxRecDepth 100000 in
theorem mK_X5_thrown : kX5_thrown ∈ tb := tb_t 762 rfl rfl
theorem mM_L_59 : Cond.methodLink RL 59 yX5_put ∈ tb := tb_t 763 (by decide +kernel) rfl
theorem mI_X5_put : Cond.instanceMethod yX5_put ∈ tb := tb_t 764 (by decide +kernel) rfl
theorem mS_X5_put : Cond.selects RX5 yX5_put yX5_put ∈ tb := tb_t 765 (by decide +kernel) rfl
abbrev kX5_put : Cond := Cond.code yX5_put cX5_put 7 (some .boolean)
set_option maxRecDepth 100000 in
theorem mK_X5_put : kX5_put ∈ tb := tb_t 766 rfl rfl
theorem mM_X5_92 : Cond.methodLink RX5 92 yX5_find ∈ tb := tb_t 767 (by decide +kernel) rfl
theorem mI_X5_find : Cond.instanceMethod yX5_find ∈ tb := tb_t 769 (by decide +kernel) rfl
abbrev kX5_find : Cond := Cond.code yX5_find cX5_find 5 none
set_option maxRecDepth 100000 in
theorem mK_X5_find : kX5_find ∈ tb := tb_t 770 rfl rfl
theorem mM_X5_95 : Cond.methodLink RX5 95 yX5_placeOf ∈ tb := tb_t 771 (by decide +kernel) rfl
theorem mI_X5_placeOf : Cond.instanceMethod yX5_placeOf ∈ tb := tb_t 773 (by decide +kernel) rfl
abbrev kX5_placeOf : Cond := Cond.code yX5_placeOf cX5_placeOf 4 (some .int)
set_option maxRecDepth 100000 in
theorem mK_X5_placeOf : kX5_placeOf ∈ tb := tb_t 774 rfl rfl
theorem mM_X5_98 : Cond.methodLink RX5 98 yX5_isAt ∈ tb := tb_t 775 (by decide +kernel) rfl
theorem mI_X5_isAt : Cond.instanceMethod yX5_isAt ∈ tb := tb_t 777 (by decide +kernel) rfl
abbrev kX5_isAt : Cond := Cond.code yX5_isAt cX5_isAt 4 (some .boolean)
set_option maxRecDepth 100000 in
theorem mK_X5_isAt : kX5_isAt ∈ tb := tb_t 778 rfl rfl
theorem mM_X5_102 : Cond.methodLink RX5 102 yX5_pagesInUse ∈ tb := tb_t 779 (by decide +kernel) rfl
theorem mI_X5_pagesInUse : Cond.instanceMethod yX5_pagesInUse ∈ tb := tb_t 781 (by decide +kernel) rfl
abbrev kX5_pagesInUse : Cond := Cond.code yX5_pagesInUse cX5_pagesInUse 3 (some .int)
set_option maxRecDepth 100000 in
theorem mK_X5_pagesInUse : kX5_pagesInUse ∈ tb := tb_t 782 rfl rfl
theorem mM_X5_105 : Cond.methodLink RX5 105 yX5_wanted ∈ tb := tb_t 783 (by decide +kernel) rfl
theorem mI_X5_wanted : Cond.instanceMethod yX5_wanted ∈ tb := tb_t 785 (by decide +kernel) rfl
abbrev kX5_wanted : Cond := Cond.code yX5_wanted cX5_wanted 3 (some .int)
set_option maxRecDepth 100000 in
theorem mK_X5_wanted : kX5_wanted ∈ tb := tb_t 786 rfl rfl
theorem mM_X5_112 : Cond.methodLink RX5 112 yX5_touchWay ∈ tb := tb_t 787 (by decide +kernel) rfl
theorem mI_X5_touchWay : Cond.instanceMethod yX5_touchWay ∈ tb := tb_t 789 (by decide +kernel) rfl
abbrev kX5_touchWay : Cond := Cond.code yX5_touchWay cX5_touchWay 2 none
set_option maxRecDepth 100000 in
theorem mK_X5_touchWay : kX5_touchWay ∈ tb := tb_t 790 rfl rfl
theorem mM_X5_77 : Cond.methodLink RX5 77 yX5_touch ∈ tb := tb_t 791 (by decide +kernel) rfl
theorem mI_X5_touch : Cond.instanceMethod yX5_touch ∈ tb := tb_t 793 (by decide +kernel) rfl
abbrev kX5_touch : Cond := Cond.code yX5_touch cX5_touch 4 none
set_option maxRecDepth 100000 in
theorem mK_X5_touch : kX5_touch ∈ tb := tb_t 794 rfl rfl
theorem mM_X5_57 : Cond.methodLink RX5 57 yX5_frameOf ∈ tb := tb_t 795 (by decide +kernel) rfl
theorem mI_X5_frameOf : Cond.instanceMethod yX5_frameOf ∈ tb := tb_t 797 (by decide +kernel) rfl
abbrev kX5_frameOf : Cond := Cond.code yX5_frameOf cX5_frameOf 4 (some .int)
set_option maxRecDepth 100000 in
theorem mK_X5_frameOf : kX5_frameOf ∈ tb := tb_t 798 rfl rfl
theorem mM_X5_64 : Cond.methodLink RX5 64 yX5_freeFrame ∈ tb := tb_t 799 (by decide +kernel) rfl
theorem mI_X5_freeFrame : Cond.instanceMethod yX5_freeFrame ∈ tb := tb_t 801 (by decide +kernel) rfl
abbrev kX5_freeFrame : Cond := Cond.code yX5_freeFrame cX5_freeFrame 2 (some .int)
set_option maxRecDepth 100000 in
theorem mK_X5_freeFrame : kX5_freeFrame ∈ tb := tb_t 802 rfl rfl
theorem mM_X5_51 : Cond.methodLink RX5 51 yX5_goOn ∈ tb := tb_t 803 (by decide +kernel) rfl
theorem mI_X5_goOn : Cond.instanceMethod yX5_goOn ∈ tb := tb_t 805 (by decide +kernel) rfl
abbrev kX5_goOn : Cond := Cond.code yX5_goOn cX5_goOn 1 none
set_option maxRecDepth 100000 in
theorem mK_X5_goOn : kX5_goOn ∈ tb := tb_t 806 rfl rfl
theorem mM_X5_88 : Cond.methodLink RX5 88 yX5_change ∈ tb := tb_t 807 (by decide +kernel) rfl
theorem mI_X5_change : Cond.instanceMethod yX5_change ∈ tb := tb_t 809 (by decide +kernel) rfl
abbrev kX5_change : Cond := Cond.code yX5_change cX5_change 2 none
set_option maxRecDepth 100000 in
theorem mK_X5_change : kX5_change ∈ tb := tb_t 810 rfl rfl
theorem mM_X5_84 : Cond.methodLink RX5 84 yX5_insert ∈ tb := tb_t 811 (by decide +kernel) rfl
theorem mI_X5_insert : Cond.instanceMethod yX5_insert ∈ tb := tb_t 813 (by decide +kernel) rfl
abbrev kX5_insert : Cond := Cond.code yX5_insert cX5_insert 6 none
set_option maxRecDepth 100000 in
theorem mK_X5_insert : kX5_insert ∈ tb := tb_t 814 rfl rfl
theorem mM_X5_118 : Cond.methodLink RX5 118 yX5_split ∈ tb := tb_t 815 (by decide +kernel) rfl
theorem mI_X5_split : Cond.instanceMethod yX5_split ∈ tb := tb_t 817 (by decide +kernel) rfl
abbrev kX5_split : Cond := Cond.code yX5_split cX5_split 6 none
set_option maxRecDepth 100000 in
theorem mK_X5_split : kX5_split ∈ tb := tb_t 818 rfl rfl
theorem mM_X5_81 : Cond.methodLink RX5 81 yX5_leastFree ∈ tb := tb_t 819 (by decide +kernel) rfl
theorem mI_X5_leastFree : Cond.instanceMethod yX5_leastFree ∈ tb := tb_t 821 (by decide +kernel) rfl
abbrev kX5_leastFree : Cond := Cond.code yX5_leastFree cX5_leastFree 2 (some .int)
set_option maxRecDepth 100000 in
theorem mK_X5_leastFree : kX5_leastFree ∈ tb := tb_t 822 rfl rfl
theorem mM_X5_121 : Cond.methodLink RX5 121 yX5_unpin ∈ tb := tb_t 823 (by decide +kernel) rfl
theorem mI_X5_unpin : Cond.instanceMethod yX5_unpin ∈ tb := tb_t 825 (by decide +kernel) rfl
abbrev kX5_unpin : Cond := Cond.code yX5_unpin cX5_unpin 2 none
set_option maxRecDepth 100000 in
theorem mK_X5_unpin : kX5_unpin ∈ tb := tb_t 826 rfl rfl
theorem mM_L_66 : Cond.methodLink RL 66 yX5_get ∈ tb := tb_t 827 (by decide +kernel) rfl
theorem mI_X5_get : Cond.instanceMethod yX5_get ∈ tb := tb_t 828 (by decide +kernel) rfl
theorem mS_X5_get : Cond.selects RX5 yX5_get yX5_get ∈ tb := tb_t 829 (by decide +kernel) rfl
abbrev kX5_get : Cond := Cond.code yX5_get cX5_get 3 (some .int)
set_option maxRecDepth 100000 in
theorem mK_X5_get : kX5_get ∈ tb := tb_t 830 rfl rfl
theorem mM_L_71 : Cond.methodLink RL 71 yX5_remove ∈ tb := tb_t 831 (by decide +kernel) rfl
theorem mI_X5_remove : Cond.instanceMethod yX5_remove ∈ tb := tb_t 832 (by decide +kernel) rfl
theorem mS_X5_remove : Cond.selects RX5 yX5_remove yX5_remove ∈ tb := tb_t 833 (by decide +kernel) rfl
abbrev kX5_remove : Cond := Cond.code yX5_remove cX5_remove 5 (some .boolean)
set_option maxRecDepth 100000 in
theorem mK_X5_remove : kX5_remove ∈ tb := tb_t 834 rfl rfl
theorem mM_X5_124 : Cond.methodLink RX5 124 yX5_removeAt ∈ tb := tb_t 835 (by decide +kernel) rfl
theorem mI_X5_removeAt : Cond.instanceMethod yX5_removeAt ∈ tb := tb_t 837 (by decide +kernel) rfl
abbrev kX5_removeAt : Cond := Cond.code yX5_removeAt cX5_removeAt 4 none
set_option maxRecDepth 100000 in
theorem mK_X5_removeAt : kX5_removeAt ∈ tb := tb_t 838 rfl rfl
theorem mM_X5_138 : Cond.methodLink RX5 138 yX5_mend ∈ tb := tb_t 839 (by decide +kernel) rfl
theorem mI_X5_mend : Cond.instanceMethod yX5_mend ∈ tb := tb_t 841 (by decide +kernel) rfl
abbrev kX5_mend : Cond := Cond.code yX5_mend cX5_mend 7 none
set_option maxRecDepth 100000 in
theorem mK_X5_mend : kX5_mend ∈ tb := tb_t 842 rfl rfl
theorem mM_X5_131 : Cond.methodLink RX5 131 yX5_give ∈ tb := tb_t 843 (by decide +kernel) rfl
theorem mI_X5_give : Cond.instanceMethod yX5_give ∈ tb := tb_t 845 (by decide +kernel) rfl
abbrev kX5_give : Cond := Cond.code yX5_give cX5_give 10 none
set_option maxRecDepth 100000 in
theorem mK_X5_give : kX5_give ∈ tb := tb_t 846 rfl rfl
theorem mM_X5_135 : Cond.methodLink RX5 135 yX5_join ∈ tb := tb_t 847 (by decide +kernel) rfl
theorem mI_X5_join : Cond.instanceMethod yX5_join ∈ tb := tb_t 849 (by decide +kernel) rfl
abbrev kX5_join : Cond := Cond.code yX5_join cX5_join 6 none
set_option maxRecDepth 100000 in
theorem mK_X5_join : kX5_join ∈ tb := tb_t 850 rfl rfl
theorem mM_X5_128 : Cond.methodLink RX5 128 yX5_release ∈ tb := tb_t 851 (by decide +kernel) rfl
theorem mI_X5_release : Cond.instanceMethod yX5_release ∈ tb := tb_t 853 (by decide +kernel) rfl
abbrev kX5_release : Cond := Cond.code yX5_release cX5_release 3 none
set_option maxRecDepth 100000 in
theorem mK_X5_release : kX5_release ∈ tb := tb_t 854 rfl rfl
theorem mM_L_75 : Cond.methodLink RL 75 yX5_seek ∈ tb := tb_t 855 (by decide +kernel) rfl
theorem mI_X5_seek : Cond.instanceMethod yX5_seek ∈ tb := tb_t 856 (by decide +kernel) rfl
theorem mS_X5_seek : Cond.selects RX5 yX5_seek yX5_seek ∈ tb := tb_t 857 (by decide +kernel) rfl
abbrev kX5_seek : Cond := Cond.code yX5_seek cX5_seek 2 (some .boolean)
set_option maxRecDepth 100000 in
theorem mK_X5_seek : kX5_seek ∈ tb := tb_t 858 rfl rfl
theorem mM_X5_153 : Cond.methodLink RX5 153 yX5_arrive ∈ tb := tb_t 859 (by decide +kernel) rfl
theorem mI_X5_arrive : Cond.instanceMethod yX5_arrive ∈ tb := tb_t 861 (by decide +kernel) rfl
abbrev kX5_arrive : Cond := Cond.code yX5_arrive cX5_arrive 5 (some .boolean)
set_option maxRecDepth 100000 in
theorem mK_X5_arrive : kX5_arrive ∈ tb := tb_t 862 rfl rfl
theorem mM_L_79 : Cond.methodLink RL 79 yX5_next ∈ tb := tb_t 863 (by decide +kernel) rfl
theorem mI_X5_next : Cond.instanceMethod yX5_next ∈ tb := tb_t 864 (by decide +kernel) rfl
theorem mS_X5_next : Cond.selects RX5 yX5_next yX5_next ∈ tb := tb_t 865 (by decide +kernel) rfl
abbrev kX5_next : Cond := Cond.code yX5_next cX5_next 1 (some .boolean)
set_option maxRecDepth 100000 in
theorem mK_X5_next : kX5_next ∈ tb := tb_t 866 rfl rfl
theorem mM_L_83 : Cond.methodLink RL 83 yX5_cursor ∈ tb := tb_t 867 (by decide +kernel) rfl
theorem mI_X5_cursor : Cond.instanceMethod yX5_cursor ∈ tb := tb_t 868 (by decide +kernel) rfl
theorem mS_X5_cursor : Cond.selects RX5 yX5_cursor yX5_cursor ∈ tb := tb_t 869 (by decide +kernel) rfl
abbrev kX5_cursor : Cond := Cond.code yX5_cursor cX5_cursor 2 (some .int)
set_option maxRecDepth 100000 in
theorem mK_X5_cursor : kX5_cursor ∈ tb := tb_t 870 rfl rfl
theorem mM_L_87 : Cond.methodLink RL 87 yX5_flush ∈ tb := tb_t 871 (by decide +kernel) rfl
theorem mI_X5_flush : Cond.instanceMethod yX5_flush ∈ tb := tb_t 872 (by decide +kernel) rfl
theorem mS_X5_flush : Cond.selects RX5 yX5_flush yX5_flush ∈ tb := tb_t 873 (by decide +kernel) rfl
abbrev kX5_flush : Cond := Cond.code yX5_flush cX5_flush 3 (some .int)
set_option maxRecDepth 100000 in
theorem mK_X5_flush : kX5_flush ∈ tb := tb_t 874 rfl rfl
theorem mM_L_90 : Cond.methodLink RL 90 yX5_drop ∈ tb := tb_t 875 (by decide +kernel) rfl
theorem mI_X5_drop : Cond.instanceMethod yX5_drop ∈ tb := tb_t 876 (by decide +kernel) rfl
theorem mS_X5_drop : Cond.selects RX5 yX5_drop yX5_drop ∈ tb := tb_t 877 (by decide +kernel) rfl
abbrev kX5_drop : Cond := Cond.code yX5_drop cX5_drop 3 (some .int)
set_option maxRecDepth 100000 in
theorem mK_X5_drop : kX5_drop ∈ tb := tb_t 878 rfl rfl
theorem mM_L_93 : Cond.methodLink RL 93 yX5_page ∈ tb := tb_t 879 (by decide +kernel) rfl
theorem mI_X5_page : Cond.instanceMethod yX5_page ∈ tb := tb_t 880 (by decide +kernel) rfl
theorem mS_X5_page : Cond.selects RX5 yX5_page yX5_page ∈ tb := tb_t 881 (by decide +kernel) rfl
abbrev kX5_page : Cond := Cond.code yX5_page cX5_page 3 (some .int)
set_option maxRecDepth 100000 in
theorem mK_X5_page : kX5_page ∈ tb := tb_t 882 rfl rfl
theorem mM_L_97 : Cond.methodLink RL 97 yX5_item ∈ tb := tb_t 883 (by decide +kernel) rfl
theorem mI_X5_item : Cond.instanceMethod yX5_item ∈ tb := tb_t 884 (by decide +kernel) rfl
theorem mS_X5_item : Cond.selects RX5 yX5_item yX5_item ∈ tb := tb_t 885 (by decide +kernel) rfl
abbrev kX5_item : Cond := Cond.code yX5_item cX5_item 4 (some .int)
set_option maxRecDepth 100000 in
theorem mK_X5_item : kX5_item ∈ tb := tb_t 886 rfl rfl
theorem mM_L_100 : Cond.methodLink RL 100 yX5_frame ∈ tb := tb_t 887 (by decide +kernel) rfl
theorem mI_X5_frame : Cond.instanceMethod yX5_frame ∈ tb := tb_t 888 (by decide +kernel) rfl
theorem mS_X5_frame : Cond.selects RX5 yX5_frame yX5_frame ∈ tb := tb_t 889 (by decide +kernel) rfl
abbrev kX5_frame : Cond := Cond.code yX5_frame cX5_frame 3 (some .int)
set_option maxRecDepth 100000 in
theorem mK_X5_frame : kX5_frame ∈ tb := tb_t 890 rfl rfl
theorem mM_L_104 : Cond.methodLink RL 104 yX5_told ∈ tb := tb_t 891 (by decide +kernel) rfl
theorem mI_X5_told : Cond.instanceMethod yX5_told ∈ tb := tb_t 892 (by decide +kernel) rfl
theorem mS_X5_told : Cond.selects RX5 yX5_told yX5_told ∈ tb := tb_t 893 (by decide +kernel) rfl
abbrev kX5_told : Cond := Cond.code yX5_told cX5_told 2 (some .int)
set_option maxRecDepth 100000 in
theorem mK_X5_told : kX5_told ∈ tb := tb_t 894 rfl rfl
theorem mM_X5_156 : Cond.methodLink RX5 156 yX5_levels ∈ tb := tb_t 895 (by decide +kernel) rfl
theorem mI_X5_levels : Cond.instanceMethod yX5_levels ∈ tb := tb_t 897 (by decide +kernel) rfl
abbrev kX5_levels : Cond := Cond.code yX5_levels cX5_levels 3 (some .int)
set_option maxRecDepth 100000 in
theorem mK_X5_levels : kX5_levels ∈ tb := tb_t 898 rfl rfl
theorem mM_L_108 : Cond.methodLink RL 108 yX5_astray ∈ tb := tb_t 899 (by decide +kernel) rfl
theorem mI_X5_astray : Cond.instanceMethod yX5_astray ∈ tb := tb_t 900 (by decide +kernel) rfl
theorem mS_X5_astray : Cond.selects RX5 yX5_astray yX5_astray ∈ tb := tb_t 901 (by decide +kernel) rfl
abbrev kX5_astray : Cond := Cond.code yX5_astray cX5_astray 6 (some .int)
set_option maxRecDepth 100000 in
theorem mK_X5_astray : kX5_astray ∈ tb := tb_t 902 rfl rfl
theorem mU_X0 : ∀ w ∈ wsX00, w ∈ tb := by decide +kernel
theorem mU_X1 : ∀ w ∈ wsX10, w ∈ tb := by decide +kernel
theorem mU_X2 : ∀ w ∈ wsX20, w ∈ tb := by decide +kernel
theorem mU_X3 : ∀ w ∈ wsX30, w ∈ tb := by decide +kernel
theorem mU_X4 : ∀ w ∈ wsX40, w ∈ tb := by decide +kernel
theorem mU_X5 : ∀ w ∈ wsX50, w ∈ tb := by decide +kernel
