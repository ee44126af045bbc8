/-! the methods of the tables: printed by wip/whole/gen_methods.py -/
theorem zi_code {y : MethodName} {b : ByteArray} {n : Nat} {r : Option FieldType} (i : Nat) (h : tables_1[i]? = some (Cond.code y b n r)) : Cond.code y b n r ∈ zTbl := zTbl_of (List.mem_append_right _ (List.mem_of_getElem? h)) rfl
theorem zi_init {c : String} (i : Nat) (h : tables_1[i]? = some (Cond.initialized c)) : Cond.initialized c ∈ zTbl := zTbl_of (List.mem_append_right _ (List.mem_of_getElem? h)) rfl
theorem zi_ml {o : String} {x : Nat} {y : MethodName} (i : Nat) (h : tables_1[i]? = some (Cond.methodLink o x y)) : Cond.methodLink o x y ∈ zTbl := zTbl_of (List.mem_append_right _ (List.mem_of_getElem? h)) rfl
theorem zi_im {y : MethodName} (i : Nat) (h : tables_1[i]? = some (Cond.instanceMethod y)) : Cond.instanceMethod y ∈ zTbl := zTbl_of (List.mem_append_right _ (List.mem_of_getElem? h)) rfl
theorem zi_st {y : MethodName} (i : Nat) (h : tables_1[i]? = some (Cond.static y)) : Cond.static y ∈ zTbl := zTbl_of (List.mem_append_right _ (List.mem_of_getElem? h)) rfl
theorem zi_na {y : MethodName} (i : Nat) (h : tables_1[i]? = some (Cond.native y)) : Cond.native y ∈ zTbl := zTbl_of (List.mem_append_right _ (List.mem_of_getElem? h)) rfl
theorem zi_se {c : String} {x y : MethodName} (i : Nat) (h : tables_1[i]? = some (Cond.selects c x y)) : Cond.selects c x y ∈ zTbl := zTbl_of (List.mem_append_right _ (List.mem_of_getElem? h)) rfl
theorem zi_sp {c : String} {x y : MethodName} (i : Nat) (h : lw_tbl[i]? = some (Cond.selects c x y)) : Cond.selects c x y ∈ zTbl := zTbl_of (List.mem_of_getElem? h) rfl
def mAct_init : zMT := (0, ⟨"StyledRuns$Act", "<init>", "()V"⟩, prog_2_method_1_code, 1, none, 1, 20)
set_option maxRecDepth 100000 in
theorem okAct_init : zOk mAct_init 0 := ⟨plainFor_of_name (by decide +kernel), rfl, zi_code 179 rfl, zi_init 7 (by decide +kernel), by decide +kernel⟩
def mAct_become : zMT := (0, ⟨"StyledRuns$Act", "become", "(IIII)V"⟩, prog_2_method_2_code, 5, none, 0, 0)
set_option maxRecDepth 100000 in
theorem okAct_become : zOk mAct_become 4 := ⟨plainFor_of_name (by decide +kernel), rfl, zi_code 388 rfl, zi_init 7 (by decide +kernel), by decide +kernel⟩
def mAct_follows : zMT := (0, ⟨"StyledRuns$Act", "follows", "(II)I"⟩, prog_2_method_3_code, 3, (some .int), 4, 91)
set_option maxRecDepth 100000 in
theorem okAct_follows : zOk mAct_follows 2 := ⟨plainFor_of_name (by decide +kernel), rfl, zi_code 774 rfl, zi_init 7 (by decide +kernel), by decide +kernel⟩
def mAnc_init : zMT := (1, ⟨"StyledRuns$Anchor", "<init>", "()V"⟩, prog_3_method_1_code, 1, none, 1, 20)
set_option maxRecDepth 100000 in
theorem okAnc_init : zOk mAnc_init 0 := ⟨plainFor_of_name (by decide +kernel), rfl, zi_code 89 rfl, zi_init 4 (by decide +kernel), by decide +kernel⟩
def mAnc_become : zMT := (1, ⟨"StyledRuns$Anchor", "become", "(LStyledRuns$Anchor;)V"⟩, prog_3_method_2_code, 2, none, 0, 0)
set_option maxRecDepth 100000 in
theorem okAnc_become : zOk mAnc_become 1 := ⟨plainFor_of_name (by decide +kernel), rfl, zi_code 384 rfl, zi_init 4 (by decide +kernel), by decide +kernel⟩
def mAnc_lettersGo : zMT := (1, ⟨"StyledRuns$Anchor", "lettersGo", "(II)V"⟩, prog_3_method_3_code, 3, none, 2, 43)
set_option maxRecDepth 100000 in
theorem okAnc_lettersGo : zOk mAnc_lettersGo 2 := ⟨plainFor_of_name (by decide +kernel), rfl, zi_code 433 rfl, zi_init 4 (by decide +kernel), by decide +kernel⟩
def mHis_init : zMT := (2, ⟨"StyledRuns$History", "<init>", "()V"⟩, prog_4_method_1_code, 2, none, 3, 61)
set_option maxRecDepth 100000 in
theorem okHis_init : zOk mHis_init 0 := ⟨plainFor_of_name (by decide +kernel), rfl, zi_code 169 rfl, zi_init 6 (by decide +kernel), by decide +kernel⟩
def mHis_keep : zMT := (2, ⟨"StyledRuns$History", "keep", "(LStyledRuns$Sheet;IIII)V"⟩, prog_4_method_2_code, 6, none, 2, 48)
set_option maxRecDepth 100000 in
theorem okHis_keep : zOk mHis_keep 5 := ⟨plainFor_of_name (by decide +kernel), rfl, zi_code 369 rfl, zi_init 6 (by decide +kernel), by decide +kernel⟩
def mHis_latest : zMT := (2, ⟨"StyledRuns$History", "latest", "(I)I"⟩, prog_4_method_4_code, 2, (some .int), 1, 22)
set_option maxRecDepth 100000 in
theorem okHis_latest : zOk mHis_latest 1 := ⟨plainFor_of_name (by decide +kernel), rfl, zi_code 652 rfl, zi_init 6 (by decide +kernel), by decide +kernel⟩
def mHis_placeThrough : zMT := (2, ⟨"StyledRuns$History", "placeThrough", "(III)I"⟩, prog_4_method_5_code, 7, (some .int), 5, 113)
set_option maxRecDepth 100000 in
theorem okHis_placeThrough : zOk mHis_placeThrough 3 := ⟨plainFor_of_name (by decide +kernel), rfl, zi_code 769 rfl, zi_init 6 (by decide +kernel), by decide +kernel⟩
def mHis_takeBack : zMT := (2, ⟨"StyledRuns$History", "takeBack", "(LStyledRuns$Sheet;)I"⟩, prog_4_method_3_code, 2, (some .int), 2, 48)
set_option maxRecDepth 100000 in
theorem okHis_takeBack : zOk mHis_takeBack 1 := ⟨plainFor_of_name (by decide +kernel), rfl, zi_code 648 rfl, zi_init 6 (by decide +kernel), by decide +kernel⟩
def mLoo_init : zMT := (3, ⟨"StyledRuns$Looks", "<init>", "()V"⟩, prog_5_method_1_code, 1, none, 1, 20)
set_option maxRecDepth 100000 in
theorem okLoo_init : zOk mLoo_init 0 := ⟨plainFor_of_name (by decide +kernel), rfl, zi_code 213 rfl, zi_init 8 (by decide +kernel), by decide +kernel⟩
def mLoo_beginsRun : zMT := (3, ⟨"StyledRuns$Looks", "beginsRun", "(I)Z"⟩, prog_5_method_5_code, 2, (some .boolean), 0, 0)
set_option maxRecDepth 100000 in
theorem okLoo_beginsRun : zOk mLoo_beginsRun 1 := ⟨plainFor_of_name (by decide +kernel), rfl, zi_code 611 rfl, zi_init 8 (by decide +kernel), by decide +kernel⟩
def mLoo_brush : zMT := (3, ⟨"StyledRuns$Looks", "brush", "(LStyledRuns$Span;)V"⟩, prog_5_method_3_code, 4, none, 2, 49)
set_option maxRecDepth 100000 in
theorem okLoo_brush : zOk mLoo_brush 1 := ⟨plainFor_of_name (by decide +kernel), rfl, zi_code 542 rfl, zi_init 8 (by decide +kernel), by decide +kernel⟩
def mLoo_endOfRun : zMT := (3, ⟨"StyledRuns$Looks", "endOfRun", "(I)I"⟩, prog_5_method_8_code, 3, (some .int), 1, 21)
set_option maxRecDepth 100000 in
theorem okLoo_endOfRun : zOk mLoo_endOfRun 1 := ⟨plainFor_of_name (by decide +kernel), rfl, zi_code 692 rfl, zi_init 8 (by decide +kernel), by decide +kernel⟩
def mLoo_firstOfRun : zMT := (3, ⟨"StyledRuns$Looks", "firstOfRun", "(I)I"⟩, prog_5_method_7_code, 4, (some .int), 1, 21)
set_option maxRecDepth 100000 in
theorem okLoo_firstOfRun : zOk mLoo_firstOfRun 1 := ⟨plainFor_of_name (by decide +kernel), rfl, zi_code 687 rfl, zi_init 8 (by decide +kernel), by decide +kernel⟩
def mLoo_howManyRuns : zMT := (3, ⟨"StyledRuns$Looks", "howManyRuns", "()I"⟩, prog_5_method_6_code, 3, (some .int), 1, 21)
set_option maxRecDepth 100000 in
theorem okLoo_howManyRuns : zOk mLoo_howManyRuns 0 := ⟨plainFor_of_name (by decide +kernel), rfl, zi_code 729 rfl, zi_init 8 (by decide +kernel), by decide +kernel⟩
def mLoo_isLike : zMT := (3, ⟨"StyledRuns$Looks", "isLike", "(LStyledRuns$Looks;)Z"⟩, prog_5_method_4_code, 3, (some .boolean), 0, 0)
set_option maxRecDepth 100000 in
theorem okLoo_isLike : zOk mLoo_isLike 1 := ⟨plainFor_of_name (by decide +kernel), rfl, zi_code 721 rfl, zi_init 8 (by decide +kernel), by decide +kernel⟩
def mLoo_longestLength : zMT := (3, ⟨"StyledRuns$Looks", "longestLength", "()I"⟩, prog_5_method_9_code, 4, (some .int), 1, 21)
set_option maxRecDepth 100000 in
theorem okLoo_longestLength : zOk mLoo_longestLength 0 := ⟨plainFor_of_name (by decide +kernel), rfl, zi_code 820 rfl, zi_init 8 (by decide +kernel), by decide +kernel⟩
def mLoo_longestRun : zMT := (3, ⟨"StyledRuns$Looks", "longestRun", "()I"⟩, prog_5_method_10_code, 6, (some .int), 2, 44)
set_option maxRecDepth 100000 in
theorem okLoo_longestRun : zOk mLoo_longestRun 0 := ⟨plainFor_of_name (by decide +kernel), rfl, zi_code 824 rfl, zi_init 8 (by decide +kernel), by decide +kernel⟩
def mLoo_see : zMT := (3, ⟨"StyledRuns$Looks", "see", "(LStyledRuns$Sheet;III)V"⟩, prog_5_method_2_code, 9, none, 3, 72)
set_option maxRecDepth 100000 in
theorem okLoo_see : zOk mLoo_see 4 := ⟨plainFor_of_name (by decide +kernel), rfl, zi_code 537 rfl, zi_init 8 (by decide +kernel), by decide +kernel⟩
def mLoo_standsAhead : zMT := (3, ⟨"StyledRuns$Looks", "standsAhead", "(II)Z"⟩, prog_5_method_12_code, 4, (some .boolean), 0, 0)
set_option maxRecDepth 100000 in
theorem okLoo_standsAhead : zOk mLoo_standsAhead 2 := ⟨plainFor_of_name (by decide +kernel), rfl, zi_code 833 rfl, zi_init 8 (by decide +kernel), by decide +kernel⟩
def mLoo_unlikeStyles : zMT := (3, ⟨"StyledRuns$Looks", "unlikeStyles", "()I"⟩, prog_5_method_11_code, 3, (some .int), 1, 23)
set_option maxRecDepth 100000 in
theorem okLoo_unlikeStyles : zOk mLoo_unlikeStyles 0 := ⟨plainFor_of_name (by decide +kernel), rfl, zi_code 829 rfl, zi_init 8 (by decide +kernel), by decide +kernel⟩
def mRea_init : zMT := (4, ⟨"StyledRuns$Reader", "<init>", "()V"⟩, prog_7_method_1_code, 1, none, 1, 20)
set_option maxRecDepth 100000 in
theorem okRea_init : zOk mRea_init 0 := ⟨plainFor_of_name (by decide +kernel), rfl, zi_code 229 rfl, zi_init 9 (by decide +kernel), by decide +kernel⟩
def mRea_afterLetter : zMT := (4, ⟨"StyledRuns$Reader", "afterLetter", "(LStyledRuns$Tape;I)I"⟩, prog_7_method_3_code, 3, (some .int), 1, 21)
set_option maxRecDepth 100000 in
theorem okRea_afterLetter : zOk mRea_afterLetter 2 := ⟨plainFor_of_name (by decide +kernel), rfl, zi_code 590 rfl, zi_init 9 (by decide +kernel), by decide +kernel⟩
def mRea_afterMark : zMT := (4, ⟨"StyledRuns$Reader", "afterMark", "(LStyledRuns$Tape;I)I"⟩, prog_7_method_4_code, 7, (some .int), 3, 66)
set_option maxRecDepth 100000 in
theorem okRea_afterMark : zOk mRea_afterMark 2 := ⟨plainFor_of_name (by decide +kernel), rfl, zi_code 570 rfl, zi_init 9 (by decide +kernel), by decide +kernel⟩
def mRea_closeLatest : zMT := (4, ⟨"StyledRuns$Reader", "closeLatest", "(I)Z"⟩, prog_7_method_6_code, 2, (some .boolean), 0, 0)
set_option maxRecDepth 100000 in
theorem okRea_closeLatest : zOk mRea_closeLatest 1 := ⟨plainFor_of_name (by decide +kernel), rfl, zi_code 579 rfl, zi_init 9 (by decide +kernel), by decide +kernel⟩
def mRea_kindOf : zMT := (4, ⟨"StyledRuns$Reader", "kindOf", "(I)I"⟩, prog_7_method_7_code, 2, (some .int), 0, 0)
set_option maxRecDepth 100000 in
theorem okRea_kindOf : zOk mRea_kindOf 1 := ⟨plainFor_of_name (by decide +kernel), rfl, zi_code 573 rfl, zi_init 9 (by decide +kernel), by decide +kernel⟩
def mRea_openMark : zMT := (4, ⟨"StyledRuns$Reader", "openMark", "(II)Z"⟩, prog_7_method_5_code, 3, (some .boolean), 2, 44)
set_option maxRecDepth 100000 in
theorem okRea_openMark : zOk mRea_openMark 2 := ⟨plainFor_of_name (by decide +kernel), rfl, zi_code 583 rfl, zi_init 9 (by decide +kernel), by decide +kernel⟩
def mRea_parse : zMT := (4, ⟨"StyledRuns$Reader", "parse", "(LStyledRuns$Tape;)V"⟩, prog_7_method_2_code, 4, none, 4, 92)
set_option maxRecDepth 100000 in
theorem okRea_parse : zOk mRea_parse 1 := ⟨plainFor_of_name (by decide +kernel), rfl, zi_code 565 rfl, zi_init 9 (by decide +kernel), by decide +kernel⟩
def mShe_init : zMT := (5, ⟨"StyledRuns$Sheet", "<init>", "()V"⟩, prog_8_method_1_code, 2, none, 2, 40)
set_option maxRecDepth 100000 in
theorem okShe_init : zOk mShe_init 0 := ⟨plainFor_of_name (by decide +kernel), rfl, zi_code 28 rfl, zi_init 2 (by decide +kernel), by decide +kernel⟩
def mShe_become : zMT := (5, ⟨"StyledRuns$Sheet", "become", "(LStyledRuns$Sheet;)V"⟩, prog_8_method_2_code, 3, none, 1, 26)
set_option maxRecDepth 100000 in
theorem okShe_become : zOk mShe_become 1 := ⟨plainFor_of_name (by decide +kernel), rfl, zi_code 373 rfl, zi_init 2 (by decide +kernel), by decide +kernel⟩
def mShe_changeSides : zMT := (5, ⟨"StyledRuns$Sheet", "changeSides", "([IIII)V"⟩, prog_8_method_16_code, 4, none, 1, 25)
set_option maxRecDepth 100000 in
theorem okShe_changeSides : zOk mShe_changeSides 4 := ⟨plainFor_of_name (by decide +kernel), rfl, zi_code 449 rfl, zi_init 2 (by decide +kernel), by decide +kernel⟩
def mShe_hasAnchor : zMT := (5, ⟨"StyledRuns$Sheet", "hasAnchor", "(I)Z"⟩, prog_8_method_8_code, 2, (some .boolean), 0, 0)
set_option maxRecDepth 100000 in
theorem okShe_hasAnchor : zOk mShe_hasAnchor 1 := ⟨plainFor_of_name (by decide +kernel), rfl, zi_code 557 rfl, zi_init 2 (by decide +kernel), by decide +kernel⟩
def mShe_hasLetter : zMT := (5, ⟨"StyledRuns$Sheet", "hasLetter", "(I)Z"⟩, prog_8_method_4_code, 2, (some .boolean), 0, 0)
set_option maxRecDepth 100000 in
theorem okShe_hasLetter : zOk mShe_hasLetter 1 := ⟨plainFor_of_name (by decide +kernel), rfl, zi_code 672 rfl, zi_init 2 (by decide +kernel), by decide +kernel⟩
def mShe_hasPlace : zMT := (5, ⟨"StyledRuns$Sheet", "hasPlace", "(I)Z"⟩, prog_8_method_5_code, 2, (some .boolean), 0, 0)
set_option maxRecDepth 100000 in
theorem okShe_hasPlace : zOk mShe_hasPlace 1 := ⟨plainFor_of_name (by decide +kernel), rfl, zi_code 346 rfl, zi_init 2 (by decide +kernel), by decide +kernel⟩
def mShe_hasSpan : zMT := (5, ⟨"StyledRuns$Sheet", "hasSpan", "(I)Z"⟩, prog_8_method_7_code, 2, (some .boolean), 0, 0)
set_option maxRecDepth 100000 in
theorem okShe_hasSpan : zOk mShe_hasSpan 1 := ⟨plainFor_of_name (by decide +kernel), rfl, zi_code 490 rfl, zi_init 2 (by decide +kernel), by decide +kernel⟩
def mShe_isRange : zMT := (5, ⟨"StyledRuns$Sheet", "isRange", "(II)Z"⟩, prog_8_method_6_code, 3, (some .boolean), 0, 0)
set_option maxRecDepth 100000 in
theorem okShe_isRange : zOk mShe_isRange 2 := ⟨plainFor_of_name (by decide +kernel), rfl, zi_code 416 rfl, zi_init 2 (by decide +kernel), by decide +kernel⟩
def mShe_lettersGo : zMT := (5, ⟨"StyledRuns$Sheet", "lettersGo", "(II)V"⟩, prog_8_method_14_code, 4, none, 3, 65)
set_option maxRecDepth 100000 in
theorem okShe_lettersGo : zOk mShe_lettersGo 2 := ⟨plainFor_of_name (by decide +kernel), rfl, zi_code 420 rfl, zi_init 2 (by decide +kernel), by decide +kernel⟩
def mShe_lettersMove : zMT := (5, ⟨"StyledRuns$Sheet", "lettersMove", "(III)I"⟩, prog_8_method_15_code, 6, (some .int), 4, 91)
set_option maxRecDepth 100000 in
theorem okShe_lettersMove : zOk mShe_lettersMove 3 := ⟨plainFor_of_name (by decide +kernel), rfl, zi_code 446 rfl, zi_init 2 (by decide +kernel), by decide +kernel⟩
def mShe_lostOfAll : zMT := (5, ⟨"StyledRuns$Sheet", "lostOfAll", "()I"⟩, prog_8_method_11_code, 3, (some .int), 0, 0)
set_option maxRecDepth 100000 in
theorem okShe_lostOfAll : zOk mShe_lostOfAll 0 := ⟨plainFor_of_name (by decide +kernel), rfl, zi_code 843 rfl, zi_init 2 (by decide +kernel), by decide +kernel⟩
def mShe_mostSpansOverLetter : zMT := (5, ⟨"StyledRuns$Sheet", "mostSpansOverLetter", "()I"⟩, prog_8_method_12_code, 5, (some .int), 1, 21)
set_option maxRecDepth 100000 in
theorem okShe_mostSpansOverLetter : zOk mShe_mostSpansOverLetter 0 := ⟨plainFor_of_name (by decide +kernel), rfl, zi_code 837 rfl, zi_init 2 (by decide +kernel), by decide +kernel⟩
def mShe_put : zMT := (5, ⟨"StyledRuns$Sheet", "put", "(ILStyledRuns$Tape;)V"⟩, prog_8_method_13_code, 6, none, 2, 45)
set_option maxRecDepth 100000 in
theorem okShe_put : zOk mShe_put 2 := ⟨plainFor_of_name (by decide +kernel), rfl, zi_code 395 rfl, zi_init 2 (by decide +kernel), by decide +kernel⟩
def mShe_standingAnchors : zMT := (5, ⟨"StyledRuns$Sheet", "standingAnchors", "()I"⟩, prog_8_method_10_code, 3, (some .int), 0, 0)
set_option maxRecDepth 100000 in
theorem okShe_standingAnchors : zOk mShe_standingAnchors 0 := ⟨plainFor_of_name (by decide +kernel), rfl, zi_code 816 rfl, zi_init 2 (by decide +kernel), by decide +kernel⟩
def mShe_standingSpans : zMT := (5, ⟨"StyledRuns$Sheet", "standingSpans", "()I"⟩, prog_8_method_9_code, 3, (some .int), 0, 0)
set_option maxRecDepth 100000 in
theorem okShe_standingSpans : zOk mShe_standingSpans 0 := ⟨plainFor_of_name (by decide +kernel), rfl, zi_code 494 rfl, zi_init 2 (by decide +kernel), by decide +kernel⟩
def mShe_startAnew : zMT := (5, ⟨"StyledRuns$Sheet", "startAnew", "(LStyledRuns$Reader;)V"⟩, prog_8_method_3_code, 2, none, 1, 26)
set_option maxRecDepth 100000 in
theorem okShe_startAnew : zOk mShe_startAnew 1 := ⟨plainFor_of_name (by decide +kernel), rfl, zi_code 595 rfl, zi_init 2 (by decide +kernel), by decide +kernel⟩
def mShe_turn : zMT := (5, ⟨"StyledRuns$Sheet", "turn", "([III)V"⟩, prog_8_method_17_code, 6, none, 0, 0)
set_option maxRecDepth 100000 in
theorem okShe_turn : zOk mShe_turn 3 := ⟨plainFor_of_name (by decide +kernel), rfl, zi_code 452 rfl, zi_init 2 (by decide +kernel), by decide +kernel⟩
def mSpa_init : zMT := (6, ⟨"StyledRuns$Span", "<init>", "()V"⟩, prog_9_method_1_code, 1, none, 1, 20)
set_option maxRecDepth 100000 in
theorem okSpa_init : zOk mSpa_init 0 := ⟨plainFor_of_name (by decide +kernel), rfl, zi_code 37 rfl, zi_init 3 (by decide +kernel), by decide +kernel⟩
def mSpa_become : zMT := (6, ⟨"StyledRuns$Span", "become", "(LStyledRuns$Span;)V"⟩, prog_9_method_2_code, 2, none, 0, 0)
set_option maxRecDepth 100000 in
theorem okSpa_become : zOk mSpa_become 1 := ⟨plainFor_of_name (by decide +kernel), rfl, zi_code 380 rfl, zi_init 3 (by decide +kernel), by decide +kernel⟩
def mSpa_covers : zMT := (6, ⟨"StyledRuns$Span", "covers", "(LStyledRuns$Span;)Z"⟩, prog_9_method_5_code, 2, (some .boolean), 0, 0)
set_option maxRecDepth 100000 in
theorem okSpa_covers : zOk mSpa_covers 1 := ⟨plainFor_of_name (by decide +kernel), rfl, zi_code 808 rfl, zi_init 3 (by decide +kernel), by decide +kernel⟩
def mSpa_crosses : zMT := (6, ⟨"StyledRuns$Span", "crosses", "(LStyledRuns$Span;)Z"⟩, prog_9_method_6_code, 3, (some .boolean), 1, 21)
set_option maxRecDepth 100000 in
theorem okSpa_crosses : zOk mSpa_crosses 1 := ⟨plainFor_of_name (by decide +kernel), rfl, zi_code 804 rfl, zi_init 3 (by decide +kernel), by decide +kernel⟩
def mSpa_lettersCome : zMT := (6, ⟨"StyledRuns$Span", "lettersCome", "(II)V"⟩, prog_9_method_7_code, 3, none, 1, 23)
set_option maxRecDepth 100000 in
theorem okSpa_lettersCome : zOk mSpa_lettersCome 2 := ⟨plainFor_of_name (by decide +kernel), rfl, zi_code 400 rfl, zi_init 3 (by decide +kernel), by decide +kernel⟩
def mSpa_lettersGo : zMT := (6, ⟨"StyledRuns$Span", "lettersGo", "(II)V"⟩, prog_9_method_8_code, 3, none, 2, 43)
set_option maxRecDepth 100000 in
theorem okSpa_lettersGo : zOk mSpa_lettersGo 2 := ⟨plainFor_of_name (by decide +kernel), rfl, zi_code 425 rfl, zi_init 3 (by decide +kernel), by decide +kernel⟩
def mSpa_lettersMove : zMT := (6, ⟨"StyledRuns$Span", "lettersMove", "(III)Z"⟩, prog_9_method_9_code, 5, (some .boolean), 3, 67)
set_option maxRecDepth 100000 in
theorem okSpa_lettersMove : zOk mSpa_lettersMove 3 := ⟨plainFor_of_name (by decide +kernel), rfl, zi_code 456 rfl, zi_init 3 (by decide +kernel), by decide +kernel⟩
def mSpa_liesOver : zMT := (6, ⟨"StyledRuns$Span", "liesOver", "(I)Z"⟩, prog_9_method_3_code, 2, (some .boolean), 0, 0)
set_option maxRecDepth 100000 in
theorem okSpa_liesOver : zOk mSpa_liesOver 1 := ⟨plainFor_of_name (by decide +kernel), rfl, zi_code 700 rfl, zi_init 3 (by decide +kernel), by decide +kernel⟩
def mSpa_speaksOf : zMT := (6, ⟨"StyledRuns$Span", "speaksOf", "(I)Z"⟩, prog_9_method_4_code, 2, (some .boolean), 0, 0)
set_option maxRecDepth 100000 in
theorem okSpa_speaksOf : zOk mSpa_speaksOf 1 := ⟨plainFor_of_name (by decide +kernel), rfl, zi_code 708 rfl, zi_init 3 (by decide +kernel), by decide +kernel⟩
def mTap_init : zMT := (7, ⟨"StyledRuns$Tape", "<init>", "()V"⟩, prog_11_method_1_code, 1, none, 1, 20)
set_option maxRecDepth 100000 in
theorem okTap_init : zOk mTap_init 0 := ⟨plainFor_of_name (by decide +kernel), rfl, zi_code 151 rfl, zi_init 5 (by decide +kernel), by decide +kernel⟩
def mTap_addFour : zMT := (7, ⟨"StyledRuns$Tape", "addFour", "(I)V"⟩, prog_11_method_3_code, 2, none, 0, 0)
set_option maxRecDepth 100000 in
theorem okTap_addFour : zOk mTap_addFour 1 := ⟨plainFor_of_name (by decide +kernel), rfl, zi_code 326 rfl, zi_init 5 (by decide +kernel), by decide +kernel⟩
def mTap_areLetters : zMT := (7, ⟨"StyledRuns$Tape", "areLetters", "()Z"⟩, prog_11_method_5_code, 2, (some .boolean), 1, 20)
set_option maxRecDepth 100000 in
theorem okTap_areLetters : zOk mTap_areLetters 0 := ⟨plainFor_of_name (by decide +kernel), rfl, zi_code 350 rfl, zi_init 5 (by decide +kernel), by decide +kernel⟩
def mTap_at : zMT := (7, ⟨"StyledRuns$Tape", "at", "(I)I"⟩, prog_11_method_2_code, 2, (some .int), 0, 0)
set_option maxRecDepth 100000 in
theorem okTap_at : zOk mTap_at 1 := ⟨plainFor_of_name (by decide +kernel), rfl, zi_code 338 rfl, zi_init 5 (by decide +kernel), by decide +kernel⟩
def mTap_become : zMT := (7, ⟨"StyledRuns$Tape", "become", "([II)V"⟩, prog_11_method_4_code, 3, none, 1, 26)
set_option maxRecDepth 100000 in
theorem okTap_become : zOk mTap_become 2 := ⟨plainFor_of_name (by decide +kernel), rfl, zi_code 638 rfl, zi_init 5 (by decide +kernel), by decide +kernel⟩
def mTap_isLetter : zMT := (7, ⟨"StyledRuns$Tape", "isLetter", "(I)Z"⟩, prog_11_method_6_code, 1, (some .boolean), 0, 0)
set_option maxRecDepth 100000 in
theorem okTap_isLetter : zOk mTap_isLetter 1 := ⟨plainFor_of_name (by decide +kernel), rfl, zi_code 353 rfl, zi_init 5 (by decide +kernel), by decide +kernel⟩
def mWri_init : zMT := (8, ⟨"StyledRuns$Writer", "<init>", "()V"⟩, prog_12_method_1_code, 1, none, 1, 20)
set_option maxRecDepth 100000 in
theorem okWri_init : zOk mWri_init 0 := ⟨plainFor_of_name (by decide +kernel), rfl, zi_code 261 rfl, zi_init 10 (by decide +kernel), by decide +kernel⟩
def mWri_add : zMT := (8, ⟨"StyledRuns$Writer", "add", "(I)V"⟩, prog_12_method_3_code, 2, none, 0, 0)
set_option maxRecDepth 100000 in
theorem okWri_add : zOk mWri_add 1 := ⟨plainFor_of_name (by decide +kernel), rfl, zi_code 626 rfl, zi_init 10 (by decide +kernel), by decide +kernel⟩
def mWri_closeDownTo : zMT := (8, ⟨"StyledRuns$Writer", "closeDownTo", "(I)V"⟩, prog_12_method_5_code, 2, none, 1, 21)
set_option maxRecDepth 100000 in
theorem okWri_closeDownTo : zOk mWri_closeDownTo 1 := ⟨plainFor_of_name (by decide +kernel), rfl, zi_code 622 rfl, zi_init 10 (by decide +kernel), by decide +kernel⟩
def mWri_compose : zMT := (8, ⟨"StyledRuns$Writer", "compose", "(LStyledRuns$Sheet;LStyledRuns$Looks;)I"⟩, prog_12_method_2_code, 4, (some .int), 3, 64)
set_option maxRecDepth 100000 in
theorem okWri_compose : zOk mWri_compose 2 := ⟨plainFor_of_name (by decide +kernel), rfl, zi_code 607 rfl, zi_init 10 (by decide +kernel), by decide +kernel⟩
def mWri_firstUnfit : zMT := (8, ⟨"StyledRuns$Writer", "firstUnfit", "(I)I"⟩, prog_12_method_4_code, 3, (some .int), 2, 41)
set_option maxRecDepth 100000 in
theorem okWri_firstUnfit : zOk mWri_firstUnfit 1 := ⟨plainFor_of_name (by decide +kernel), rfl, zi_code 615 rfl, zi_init 10 (by decide +kernel), by decide +kernel⟩
def mWri_isOpen : zMT := (8, ⟨"StyledRuns$Writer", "isOpen", "(I)Z"⟩, prog_12_method_7_code, 3, (some .boolean), 0, 0)
set_option maxRecDepth 100000 in
theorem okWri_isOpen : zOk mWri_isOpen 1 := ⟨plainFor_of_name (by decide +kernel), rfl, zi_code 634 rfl, zi_init 10 (by decide +kernel), by decide +kernel⟩
def mWri_openLacking : zMT := (8, ⟨"StyledRuns$Writer", "openLacking", "(I)V"⟩, prog_12_method_6_code, 4, none, 2, 41)
set_option maxRecDepth 100000 in
theorem okWri_openLacking : zOk mWri_openLacking 1 := ⟨plainFor_of_name (by decide +kernel), rfl, zi_code 630 rfl, zi_init 10 (by decide +kernel), by decide +kernel⟩
def mSR_init : zMT := (9, ⟨"StyledRuns", "<init>", "()V"⟩, prog_1_method_1_code, 2, none, 4, 82)
set_option maxRecDepth 100000 in
theorem okSR_init : zOk mSR_init 0 := ⟨plainFor_of_name (by decide +kernel), rfl, zi_code 20 rfl, zi_init 1 (by decide +kernel), by decide +kernel⟩
def mSR_anchor : zMT := (9, ⟨"StyledRuns", "anchor", "(II)I"⟩, prog_1_method_29_code, 3, (some .int), 1, 21)
set_option maxRecDepth 100000 in
theorem okSR_anchor : zOk mSR_anchor 2 := ⟨plainFor_of_name (by decide +kernel), rfl, zi_code 733 rfl, zi_init 1 (by decide +kernel), by decide +kernel⟩
def mSR_back : zMT := (9, ⟨"StyledRuns", "back", "(I)I"⟩, prog_1_method_22_code, 2, (some .int), 2, 48)
set_option maxRecDepth 100000 in
theorem okSR_back : zOk mSR_back 1 := ⟨plainFor_of_name (by decide +kernel), rfl, zi_code 664 rfl, zi_init 1 (by decide +kernel), by decide +kernel⟩
def mSR_begin : zMT := (9, ⟨"StyledRuns", "begin", "(IIII)V"⟩, prog_1_method_43_code, 5, none, 3, 73)
set_option maxRecDepth 100000 in
theorem okSR_begin : zOk mSR_begin 4 := ⟨plainFor_of_name (by decide +kernel), rfl, zi_code 365 rfl, zi_init 1 (by decide +kernel), by decide +kernel⟩
def mSR_best : zMT := (9, ⟨"StyledRuns", "best", "(II)I"⟩, prog_1_method_37_code, 7, (some .int), 5, 122)
set_option maxRecDepth 100000 in
theorem okSR_best : zOk mSR_best 2 := ⟨plainFor_of_name (by decide +kernel), rfl, zi_code 796 rfl, zi_init 1 (by decide +kernel), by decide +kernel⟩
def mSR_count : zMT := (9, ⟨"StyledRuns", "count", "(I)I"⟩, prog_1_method_39_code, 2, (some .int), 5, 120)
set_option maxRecDepth 100000 in
theorem okSR_count : zOk mSR_count 1 := ⟨plainFor_of_name (by decide +kernel), rfl, zi_code 812 rfl, zi_init 1 (by decide +kernel), by decide +kernel⟩
def mSR_crossed : zMT := (9, ⟨"StyledRuns", "crossed", "()I"⟩, prog_1_method_38_code, 4, (some .int), 2, 43)
set_option maxRecDepth 100000 in
theorem okSR_crossed : zOk mSR_crossed 0 := ⟨plainFor_of_name (by decide +kernel), rfl, zi_code 800 rfl, zi_init 1 (by decide +kernel), by decide +kernel⟩
def mSR_cut : zMT := (9, ⟨"StyledRuns", "cut", "(II)I"⟩, prog_1_method_6_code, 3, (some .int), 4, 97)
set_option maxRecDepth 100000 in
theorem okSR_cut : zOk mSR_cut 2 := ⟨plainFor_of_name (by decide +kernel), rfl, zi_code 412 rfl, zi_init 1 (by decide +kernel), by decide +kernel⟩
def mSR_end : zMT := (9, ⟨"StyledRuns", "end", "(I)I"⟩, prog_1_method_3_code, 2, (some .int), 0, 0)
set_option maxRecDepth 100000 in
theorem okSR_end : zOk mSR_end 1 := ⟨plainFor_of_name (by decide +kernel), rfl, zi_code 330 rfl, zi_init 1 (by decide +kernel), by decide +kernel⟩
def mSR_fast : zMT := (9, ⟨"StyledRuns", "fast", "()I"⟩, prog_1_method_14_code, 4, (some .int), 5, 120)
set_option maxRecDepth 100000 in
theorem okSR_fast : zOk mSR_fast 0 := ⟨plainFor_of_name (by decide +kernel), rfl, zi_code 529 rfl, zi_init 1 (by decide +kernel), by decide +kernel⟩
def mSR_fault : zMT := (9, ⟨"StyledRuns", "fault", "()I"⟩, prog_1_method_18_code, 1, (some .int), 0, 0)
set_option maxRecDepth 100000 in
theorem okSR_fault : zOk mSR_fault 0 := ⟨plainFor_of_name (by decide +kernel), rfl, zi_code 599 rfl, zi_init 1 (by decide +kernel), by decide +kernel⟩
def mSR_feed : zMT := (9, ⟨"StyledRuns", "feed", "(IIIII)I"⟩, prog_1_method_2_code, 6, (some .int), 1, 21)
set_option maxRecDepth 100000 in
theorem okSR_feed : zOk mSR_feed 5 := ⟨plainFor_of_name (by decide +kernel), rfl, zi_code 322 rfl, zi_init 1 (by decide +kernel), by decide +kernel⟩
def mSR_find : zMT := (9, ⟨"StyledRuns", "find", "(I)I"⟩, prog_1_method_30_code, 2, (some .int), 6, 152)
set_option maxRecDepth 100000 in
theorem okSR_find : zOk mSR_find 1 := ⟨plainFor_of_name (by decide +kernel), rfl, zi_code 737 rfl, zi_init 1 (by decide +kernel), by decide +kernel⟩
def mSR_findBy : zMT := (9, ⟨"StyledRuns", "findBy", "(IIIIII)I"⟩, prog_1_method_31_code, 8, (some .int), 6, 152)
set_option maxRecDepth 100000 in
theorem okSR_findBy : zOk mSR_findBy 6 := ⟨plainFor_of_name (by decide +kernel), rfl, zi_code 748 rfl, zi_init 1 (by decide +kernel), by decide +kernel⟩
def mSR_firstStand : zMT := (9, ⟨"StyledRuns", "firstStand", "(IIIIII)I"⟩, prog_1_method_53_code, 13, (some .int), 5, 120)
set_option maxRecDepth 100000 in
theorem okSR_firstStand : zOk mSR_firstStand 6 := ⟨plainFor_of_name (by decide +kernel), rfl, zi_code 741 rfl, zi_init 1 (by decide +kernel), by decide +kernel⟩
def mSR_follow : zMT := (9, ⟨"StyledRuns", "follow", "(IIIIZ)I"⟩, prog_1_method_33_code, 7, (some .int), 2, 43)
set_option maxRecDepth 100000 in
theorem okSR_follow : zOk mSR_follow 5 := ⟨plainFor_of_name (by decide +kernel), rfl, zi_code 759 rfl, zi_init 1 (by decide +kernel), by decide +kernel⟩
def mSR_granted : zMT := (9, ⟨"StyledRuns", "granted", "(I)I"⟩, prog_1_method_42_code, 2, (some .int), 0, 0)
set_option maxRecDepth 100000 in
theorem okSR_granted : zOk mSR_granted 1 := ⟨plainFor_of_name (by decide +kernel), rfl, zi_code 408 rfl, zi_init 1 (by decide +kernel), by decide +kernel⟩
def mSR_idle : zMT := (9, ⟨"StyledRuns", "idle", "()I"⟩, prog_1_method_35_code, 3, (some .int), 6, 141)
set_option maxRecDepth 100000 in
theorem okSR_idle : zOk mSR_idle 0 := ⟨plainFor_of_name (by decide +kernel), rfl, zi_code 784 rfl, zi_init 1 (by decide +kernel), by decide +kernel⟩
def mSR_image : zMT := (9, ⟨"StyledRuns", "image", "(I)I"⟩, prog_1_method_21_code, 2, (some .int), 2, 48)
set_option maxRecDepth 100000 in
theorem okSR_image : zOk mSR_image 1 := ⟨plainFor_of_name (by decide +kernel), rfl, zi_code 659 rfl, zi_init 1 (by decide +kernel), by decide +kernel⟩
def mSR_isBrush : zMT := (9, ⟨"StyledRuns", "isBrush", "(IIII)Z"⟩, prog_1_method_48_code, 5, (some .boolean), 2, 41)
set_option maxRecDepth 100000 in
theorem okSR_isBrush : zOk mSR_isBrush 4 := ⟨plainFor_of_name (by decide +kernel), rfl, zi_code 479 rfl, zi_init 1 (by decide +kernel), by decide +kernel⟩
def mSR_isColorOrNone : zMT := (9, ⟨"StyledRuns", "isColorOrNone", "(I)Z"⟩, prog_1_method_49_code, 1, (some .boolean), 1, 21)
set_option maxRecDepth 100000 in
theorem okSR_isColorOrNone : zOk mSR_isColorOrNone 1 := ⟨plainFor_of_name (by decide +kernel), rfl, zi_code 482 rfl, zi_init 1 (by decide +kernel), by decide +kernel⟩
def mSR_isFilter : zMT := (9, ⟨"StyledRuns", "isFilter", "(III)Z"⟩, prog_1_method_47_code, 3, (some .boolean), 2, 41)
set_option maxRecDepth 100000 in
theorem okSR_isFilter : zOk mSR_isFilter 3 := ⟨plainFor_of_name (by decide +kernel), rfl, zi_code 751 rfl, zi_init 1 (by decide +kernel), by decide +kernel⟩
def mSR_isIdle : zMT := (9, ⟨"StyledRuns", "isIdle", "(I)Z"⟩, prog_1_method_50_code, 2, (some .boolean), 5, 120)
set_option maxRecDepth 100000 in
theorem okSR_isIdle : zOk mSR_isIdle 1 := ⟨plainFor_of_name (by decide +kernel), rfl, zi_code 717 rfl, zi_init 1 (by decide +kernel), by decide +kernel⟩
def mSR_isWithin : zMT := (9, ⟨"StyledRuns", "isWithin", "(II)Z"⟩, prog_1_method_46_code, 2, (some .boolean), 0, 0)
set_option maxRecDepth 100000 in
theorem okSR_isWithin : zOk mSR_isWithin 2 := ⟨plainFor_of_name (by decide +kernel), rfl, zi_code 476 rfl, zi_init 1 (by decide +kernel), by decide +kernel⟩
def mSR_lay : zMT := (9, ⟨"StyledRuns", "lay", "(IIIIIIII)I"⟩, prog_1_method_9_code, 12, (some .int), 4, 97)
set_option maxRecDepth 100000 in
theorem okSR_lay : zOk mSR_lay 8 := ⟨plainFor_of_name (by decide +kernel), rfl, zi_code 473 rfl, zi_init 1 (by decide +kernel), by decide +kernel⟩
def mSR_letter : zMT := (9, ⟨"StyledRuns", "letter", "(I)I"⟩, prog_1_method_23_code, 2, (some .int), 1, 21)
set_option maxRecDepth 100000 in
theorem okSR_letter : zOk mSR_letter 1 := ⟨plainFor_of_name (by decide +kernel), rfl, zi_code 668 rfl, zi_init 1 (by decide +kernel), by decide +kernel⟩
def mSR_lift : zMT := (9, ⟨"StyledRuns", "lift", "(I)I"⟩, prog_1_method_10_code, 2, (some .int), 4, 97)
set_option maxRecDepth 100000 in
theorem okSR_lift : zOk mSR_lift 1 := ⟨plainFor_of_name (by decide +kernel), rfl, zi_code 486 rfl, zi_init 1 (by decide +kernel), by decide +kernel⟩
def mSR_looksNow : zMT := (9, ⟨"StyledRuns", "looksNow", "()LStyledRuns$Looks;"⟩, prog_1_method_44_code, 1, (some (.object "StyledRuns$Looks")), 4, 100)
set_option maxRecDepth 100000 in
theorem okSR_looksNow : zOk mSR_looksNow 0 := ⟨plainFor_of_name (by decide +kernel), rfl, zi_code 533 rfl, zi_init 1 (by decide +kernel), by decide +kernel⟩
def mSR_move : zMT := (9, ⟨"StyledRuns", "move", "(III)I"⟩, prog_1_method_8_code, 4, (some .int), 5, 116)
set_option maxRecDepth 100000 in
theorem okSR_move : zOk mSR_move 3 := ⟨plainFor_of_name (by decide +kernel), rfl, zi_code 442 rfl, zi_init 1 (by decide +kernel), by decide +kernel⟩
def mSR_paint : zMT := (9, ⟨"StyledRuns", "paint", "(IIIIII)I"⟩, prog_1_method_13_code, 10, (some .int), 4, 97)
set_option maxRecDepth 100000 in
theorem okSR_paint : zOk mSR_paint 6 := ⟨plainFor_of_name (by decide +kernel), rfl, zi_code 506 rfl, zi_init 1 (by decide +kernel), by decide +kernel⟩
def mSR_pin : zMT := (9, ⟨"StyledRuns", "pin", "(II)I"⟩, prog_1_method_15_code, 5, (some .int), 4, 97)
set_option maxRecDepth 100000 in
theorem okSR_pin : zOk mSR_pin 2 := ⟨plainFor_of_name (by decide +kernel), rfl, zi_code 549 rfl, zi_init 1 (by decide +kernel), by decide +kernel⟩
def mSR_raised : zMT := (9, ⟨"StyledRuns", "raised", "(II)I"⟩, prog_1_method_36_code, 4, (some .int), 5, 122)
set_option maxRecDepth 100000 in
theorem okSR_raised : zOk mSR_raised 2 := ⟨plainFor_of_name (by decide +kernel), rfl, zi_code 788 rfl, zi_init 1 (by decide +kernel), by decide +kernel⟩
def mSR_read : zMT := (9, ⟨"StyledRuns", "read", "()I"⟩, prog_1_method_17_code, 1, (some .int), 5, 115)
set_option maxRecDepth 100000 in
theorem okSR_read : zOk mSR_read 0 := ⟨plainFor_of_name (by decide +kernel), rfl, zi_code 561 rfl, zi_init 1 (by decide +kernel), by decide +kernel⟩
def mSR_refused : zMT := (9, ⟨"StyledRuns", "refused", "(I)I"⟩, prog_1_method_41_code, 2, (some .int), 0, 0)
set_option maxRecDepth 100000 in
theorem okSR_refused : zOk mSR_refused 1 := ⟨plainFor_of_name (by decide +kernel), rfl, zi_code 357 rfl, zi_init 1 (by decide +kernel), by decide +kernel⟩
def mSR_run : zMT := (9, ⟨"StyledRuns", "run", "(II)I"⟩, prog_1_method_25_code, 5, (some .int), 5, 120)
set_option maxRecDepth 100000 in
theorem okSR_run : zOk mSR_run 2 := ⟨plainFor_of_name (by decide +kernel), rfl, zi_code 683 rfl, zi_init 1 (by decide +kernel), by decide +kernel⟩
def mSR_runsIfRaised : zMT := (9, ⟨"StyledRuns", "runsIfRaised", "(II)I"⟩, prog_1_method_52_code, 3, (some .int), 4, 100)
set_option maxRecDepth 100000 in
theorem okSR_runsIfRaised : zOk mSR_runsIfRaised 2 := ⟨plainFor_of_name (by decide +kernel), rfl, zi_code 792 rfl, zi_init 1 (by decide +kernel), by decide +kernel⟩
def mSR_runsWithout : zMT := (9, ⟨"StyledRuns", "runsWithout", "(I)I"⟩, prog_1_method_51_code, 2, (some .int), 4, 100)
set_option maxRecDepth 100000 in
theorem okSR_runsWithout : zOk mSR_runsWithout 1 := ⟨plainFor_of_name (by decide +kernel), rfl, zi_code 725 rfl, zi_init 1 (by decide +kernel), by decide +kernel⟩
def mSR_set : zMT := (9, ⟨"StyledRuns", "set", "(III)I"⟩, prog_1_method_11_code, 8, (some .int), 4, 97)
set_option maxRecDepth 100000 in
theorem okSR_set : zOk mSR_set 3 := ⟨plainFor_of_name (by decide +kernel), rfl, zi_code 498 rfl, zi_init 1 (by decide +kernel), by decide +kernel⟩
def mSR_span : zMT := (9, ⟨"StyledRuns", "span", "(II)I"⟩, prog_1_method_28_code, 4, (some .int), 6, 141)
set_option maxRecDepth 100000 in
theorem okSR_span : zOk mSR_span 2 := ⟨plainFor_of_name (by decide +kernel), rfl, zi_code 712 rfl, zi_init 1 (by decide +kernel), by decide +kernel⟩
def mSR_stack : zMT := (9, ⟨"StyledRuns", "stack", "(II)I"⟩, prog_1_method_26_code, 7, (some .int), 1, 21)
set_option maxRecDepth 100000 in
theorem okSR_stack : zOk mSR_stack 2 := ⟨plainFor_of_name (by decide +kernel), rfl, zi_code 696 rfl, zi_init 1 (by decide +kernel), by decide +kernel⟩
def mSR_status : zMT := (9, ⟨"StyledRuns", "status", "()I"⟩, prog_1_method_40_code, 1, (some .int), 0, 0)
set_option maxRecDepth 100000 in
theorem okSR_status : zOk mSR_status 0 := ⟨plainFor_of_name (by decide +kernel), rfl, zi_code 847 rfl, zi_init 1 (by decide +kernel), by decide +kernel⟩
def mSR_stretch : zMT := (9, ⟨"StyledRuns", "stretch", "(III)I"⟩, prog_1_method_12_code, 4, (some .int), 4, 97)
set_option maxRecDepth 100000 in
theorem okSR_stretch : zOk mSR_stretch 3 := ⟨plainFor_of_name (by decide +kernel), rfl, zi_code 502 rfl, zi_init 1 (by decide +kernel), by decide +kernel⟩
def mSR_style : zMT := (9, ⟨"StyledRuns", "style", "(II)I"⟩, prog_1_method_24_code, 3, (some .int), 5, 120)
set_option maxRecDepth 100000 in
theorem okSR_style : zOk mSR_style 2 := ⟨plainFor_of_name (by decide +kernel), rfl, zi_code 676 rfl, zi_init 1 (by decide +kernel), by decide +kernel⟩
def mSR_styled : zMT := (9, ⟨"StyledRuns", "styled", "(IIIII)I"⟩, prog_1_method_32_code, 11, (some .int), 5, 120)
set_option maxRecDepth 100000 in
theorem okSR_styled : zOk mSR_styled 5 := ⟨plainFor_of_name (by decide +kernel), rfl, zi_code 755 rfl, zi_init 1 (by decide +kernel), by decide +kernel⟩
def mSR_swap : zMT := (9, ⟨"StyledRuns", "swap", "(II)I"⟩, prog_1_method_7_code, 5, (some .int), 4, 97)
set_option maxRecDepth 100000 in
theorem okSR_swap : zOk mSR_swap 2 := ⟨plainFor_of_name (by decide +kernel), rfl, zi_code 438 rfl, zi_init 1 (by decide +kernel), by decide +kernel⟩
def mSR_tape : zMT := (9, ⟨"StyledRuns", "tape", "(I)I"⟩, prog_1_method_4_code, 2, (some .int), 1, 21)
set_option maxRecDepth 100000 in
theorem okSR_tape : zOk mSR_tape 1 := ⟨plainFor_of_name (by decide +kernel), rfl, zi_code 334 rfl, zi_init 1 (by decide +kernel), by decide +kernel⟩
def mSR_tells : zMT := (9, ⟨"StyledRuns", "tells", "(II)I"⟩, prog_1_method_27_code, 7, (some .int), 1, 21)
set_option maxRecDepth 100000 in
theorem okSR_tells : zOk mSR_tells 2 := ⟨plainFor_of_name (by decide +kernel), rfl, zi_code 704 rfl, zi_init 1 (by decide +kernel), by decide +kernel⟩
def mSR_through : zMT := (9, ⟨"StyledRuns", "through", "(III)I"⟩, prog_1_method_34_code, 5, (some .int), 6, 139)
set_option maxRecDepth 100000 in
theorem okSR_through : zOk mSR_through 3 := ⟨plainFor_of_name (by decide +kernel), rfl, zi_code 765 rfl, zi_init 1 (by decide +kernel), by decide +kernel⟩
def mSR_type : zMT := (9, ⟨"StyledRuns", "type", "(I)I"⟩, prog_1_method_5_code, 3, (some .int), 4, 97)
set_option maxRecDepth 100000 in
theorem okSR_type : zOk mSR_type 1 := ⟨plainFor_of_name (by decide +kernel), rfl, zi_code 342 rfl, zi_init 1 (by decide +kernel), by decide +kernel⟩
def mSR_undo : zMT := (9, ⟨"StyledRuns", "undo", "()I"⟩, prog_1_method_20_code, 1, (some .int), 3, 69)
set_option maxRecDepth 100000 in
theorem okSR_undo : zOk mSR_undo 0 := ⟨plainFor_of_name (by decide +kernel), rfl, zi_code 644 rfl, zi_init 1 (by decide +kernel), by decide +kernel⟩
def mSR_unpin : zMT := (9, ⟨"StyledRuns", "unpin", "(I)I"⟩, prog_1_method_16_code, 2, (some .int), 4, 97)
set_option maxRecDepth 100000 in
theorem okSR_unpin : zOk mSR_unpin 1 := ⟨plainFor_of_name (by decide +kernel), rfl, zi_code 553 rfl, zi_init 1 (by decide +kernel), by decide +kernel⟩
def mSR_whyNoRoomForTape : zMT := (9, ⟨"StyledRuns", "whyNoRoomForTape", "()I"⟩, prog_1_method_45_code, 1, (some .int), 0, 0)
set_option maxRecDepth 100000 in
theorem okSR_whyNoRoomForTape : zOk mSR_whyNoRoomForTape 0 := ⟨plainFor_of_name (by decide +kernel), rfl, zi_code 361 rfl, zi_init 1 (by decide +kernel), by decide +kernel⟩
def mSR_write : zMT := (9, ⟨"StyledRuns", "write", "()I"⟩, prog_1_method_19_code, 2, (some .int), 5, 120)
set_option maxRecDepth 100000 in
theorem okSR_write : zOk mSR_write 0 := ⟨plainFor_of_name (by decide +kernel), rfl, zi_code 603 rfl, zi_init 1 (by decide +kernel), by decide +kernel⟩
def mMo_init : zMT := (10, ⟨"StyledRunsModel", "<init>", "()V"⟩, prog_14_method_1_code, 1, none, 1, 20)
set_option maxRecDepth 100000 in
theorem okMo_init : zOk mMo_init 0 := ⟨plainFor_of_name (by decide +kernel), rfl, zi_code 852 rfl, zi_init 11 (by decide +kernel), by decide +kernel⟩
def mMo_anchor : zMT := (10, ⟨"StyledRunsModel", "anchor", "(II)I"⟩, prog_14_method_76_code, 3, (some .int), 2, 46)
set_option maxRecDepth 100000 in
theorem okMo_anchor : zOk mMo_anchor 2 := ⟨plainFor_of_name (by decide +kernel), rfl, zi_code 1246 rfl, zi_init 11 (by decide +kernel), by decide +kernel⟩
def mMo_anchorAt : zMT := (10, ⟨"StyledRunsModel", "anchorAt", "(I)I"⟩, prog_14_method_14_code, 1, (some .int), 0, 0)
set_option maxRecDepth 100000 in
theorem okMo_anchorAt : zOk mMo_anchorAt 1 := ⟨plainFor_of_name (by decide +kernel), rfl, zi_code 1028 rfl, zi_init 11 (by decide +kernel), by decide +kernel⟩
def mMo_areLetters : zMT := (10, ⟨"StyledRunsModel", "areLetters", "()Z"⟩, prog_14_method_29_code, 3, (some .boolean), 2, 45)
set_option maxRecDepth 100000 in
theorem okMo_areLetters : zOk mMo_areLetters 0 := ⟨plainFor_of_name (by decide +kernel), rfl, zi_code 1002 rfl, zi_init 11 (by decide +kernel), by decide +kernel⟩
def mMo_back : zMT := (10, ⟨"StyledRunsModel", "back", "(I)I"⟩, prog_14_method_11_code, 2, (some .int), 1, 25)
set_option maxRecDepth 100000 in
theorem okMo_back : zOk mMo_back 1 := ⟨plainFor_of_name (by decide +kernel), rfl, zi_code 974 rfl, zi_init 11 (by decide +kernel), by decide +kernel⟩
def mMo_backward : zMT := (10, ⟨"StyledRunsModel", "backward", "(III)I"⟩, prog_14_method_22_code, 3, (some .int), 0, 0)
set_option maxRecDepth 100000 in
theorem okMo_backward : zOk mMo_backward 3 := ⟨plainFor_of_name (by decide +kernel), rfl, zi_code 1050 rfl, zi_init 11 (by decide +kernel), by decide +kernel⟩
def mMo_behind : zMT := (10, ⟨"StyledRunsModel", "behind", "(III)I"⟩, prog_14_method_83_code, 8, (some .int), 1, 23)
set_option maxRecDepth 100000 in
theorem okMo_behind : zOk mMo_behind 3 := ⟨plainFor_of_name (by decide +kernel), rfl, zi_code 1280 rfl, zi_init 11 (by decide +kernel), by decide +kernel⟩
def mMo_best : zMT := (10, ⟨"StyledRunsModel", "best", "(II)I"⟩, prog_14_method_88_code, 7, (some .int), 6, 138)
set_option maxRecDepth 100000 in
theorem okMo_best : zOk mMo_best 2 := ⟨plainFor_of_name (by decide +kernel), rfl, zi_code 1296 rfl, zi_init 11 (by decide +kernel), by decide +kernel⟩
def mMo_byteAt : zMT := (10, ⟨"StyledRunsModel", "byteAt", "(I)I"⟩, prog_14_method_51_code, 2, (some .int), 0, 0)
set_option maxRecDepth 100000 in
theorem okMo_byteAt : zOk mMo_byteAt 1 := ⟨plainFor_of_name (by decide +kernel), rfl, zi_code 1139 rfl, zi_init 11 (by decide +kernel), by decide +kernel⟩
def mMo_closes : zMT := (10, ⟨"StyledRunsModel", "closes", "()V"⟩, prog_14_method_62_code, 1, none, 1, 21)
set_option maxRecDepth 100000 in
theorem okMo_closes : zOk mMo_closes 0 := ⟨plainFor_of_name (by decide +kernel), rfl, zi_code 1182 rfl, zi_init 11 (by decide +kernel), by decide +kernel⟩
def mMo_comeFrom : zMT := (10, ⟨"StyledRunsModel", "comeFrom", "(I)V"⟩, prog_14_method_31_code, 5, none, 1, 20)
set_option maxRecDepth 100000 in
theorem okMo_comeFrom : zOk mMo_comeFrom 1 := ⟨plainFor_of_name (by decide +kernel), rfl, zi_code 1032 rfl, zi_init 11 (by decide +kernel), by decide +kernel⟩
def mMo_comes : zMT := (10, ⟨"StyledRunsModel", "comes", "(I)V"⟩, prog_14_method_25_code, 3, none, 0, 0)
set_option maxRecDepth 100000 in
theorem okMo_comes : zOk mMo_comes 1 := ⟨plainFor_of_name (by decide +kernel), rfl, zi_code 982 rfl, zi_init 11 (by decide +kernel), by decide +kernel⟩
def mMo_copy : zMT := (10, ⟨"StyledRunsModel", "copy", "([II[II)V"⟩, prog_14_method_6_code, 5, none, 0, 0)
set_option maxRecDepth 100000 in
theorem okMo_copy : zOk mMo_copy 4 := ⟨plainFor_of_name (by decide +kernel), rfl, zi_code 959 rfl, zi_init 11 (by decide +kernel), by decide +kernel⟩
def mMo_count : zMT := (10, ⟨"StyledRunsModel", "count", "(I)I"⟩, prog_14_method_95_code, 2, (some .int), 6, 139)
set_option maxRecDepth 100000 in
theorem okMo_count : zOk mMo_count 1 := ⟨plainFor_of_name (by decide +kernel), rfl, zi_code 1308 rfl, zi_init 11 (by decide +kernel), by decide +kernel⟩
def mMo_crossed : zMT := (10, ⟨"StyledRunsModel", "crossed", "()I"⟩, prog_14_method_90_code, 6, (some .int), 1, 22)
set_option maxRecDepth 100000 in
theorem okMo_crossed : zOk mMo_crossed 0 := ⟨plainFor_of_name (by decide +kernel), rfl, zi_code 1300 rfl, zi_init 11 (by decide +kernel), by decide +kernel⟩
def mMo_cut : zMT := (10, ⟨"StyledRunsModel", "cut", "(II)I"⟩, prog_14_method_33_code, 3, (some .int), 3, 68)
set_option maxRecDepth 100000 in
theorem okMo_cut : zOk mMo_cut 2 := ⟨plainFor_of_name (by decide +kernel), rfl, zi_code 1054 rfl, zi_init 11 (by decide +kernel), by decide +kernel⟩
def mMo_end : zMT := (10, ⟨"StyledRunsModel", "end", "(I)I"⟩, prog_14_method_27_code, 2, (some .int), 1, 25)
set_option maxRecDepth 100000 in
theorem okMo_end : zOk mMo_end 1 := ⟨plainFor_of_name (by decide +kernel), rfl, zi_code 986 rfl, zi_init 11 (by decide +kernel), by decide +kernel⟩
def mMo_fast : zMT := (10, ⟨"StyledRunsModel", "fast", "()I"⟩, prog_14_method_48_code, 3, (some .int), 3, 68)
set_option maxRecDepth 100000 in
theorem okMo_fast : zOk mMo_fast 0 := ⟨plainFor_of_name (by decide +kernel), rfl, zi_code 1115 rfl, zi_init 11 (by decide +kernel), by decide +kernel⟩
def mMo_fault : zMT := (10, ⟨"StyledRunsModel", "fault", "()I"⟩, prog_14_method_57_code, 1, (some .int), 0, 0)
set_option maxRecDepth 100000 in
theorem okMo_fault : zOk mMo_fault 0 := ⟨plainFor_of_name (by decide +kernel), rfl, zi_code 1158 rfl, zi_init 11 (by decide +kernel), by decide +kernel⟩
def mMo_feed : zMT := (10, ⟨"StyledRunsModel", "feed", "(IIIII)I"⟩, prog_14_method_26_code, 6, (some .int), 1, 22)
set_option maxRecDepth 100000 in
theorem okMo_feed : zOk mMo_feed 5 := ⟨plainFor_of_name (by decide +kernel), rfl, zi_code 978 rfl, zi_init 11 (by decide +kernel), by decide +kernel⟩
def mMo_find : zMT := (10, ⟨"StyledRunsModel", "find", "(I)I"⟩, prog_14_method_78_code, 3, (some .int), 2, 46)
set_option maxRecDepth 100000 in
theorem okMo_find : zOk mMo_find 1 := ⟨plainFor_of_name (by decide +kernel), rfl, zi_code 1251 rfl, zi_init 11 (by decide +kernel), by decide +kernel⟩
def mMo_findBy : zMT := (10, ⟨"StyledRunsModel", "findBy", "(IIIIII)I"⟩, prog_14_method_80_code, 10, (some .int), 4, 92)
set_option maxRecDepth 100000 in
theorem okMo_findBy : zOk mMo_findBy 6 := ⟨plainFor_of_name (by decide +kernel), rfl, zi_code 1259 rfl, zi_init 11 (by decide +kernel), by decide +kernel⟩
def mMo_flagOf : zMT := (10, ⟨"StyledRunsModel", "flagOf", "(I)I"⟩, prog_14_method_53_code, 1, (some .int), 0, 0)
set_option maxRecDepth 100000 in
theorem okMo_flagOf : zOk mMo_flagOf 1 := ⟨plainFor_of_name (by decide +kernel), rfl, zi_code 1146 rfl, zi_init 11 (by decide +kernel), by decide +kernel⟩
def mMo_follow : zMT := (10, ⟨"StyledRunsModel", "follow", "(IIIIZ)I"⟩, prog_14_method_82_code, 6, (some .int), 3, 68)
set_option maxRecDepth 100000 in
theorem okMo_follow : zOk mMo_follow 5 := ⟨plainFor_of_name (by decide +kernel), rfl, zi_code 1271 rfl, zi_init 11 (by decide +kernel), by decide +kernel⟩
def mMo_has : zMT := (10, ⟨"StyledRunsModel", "has", "(I)Z"⟩, prog_14_method_59_code, 2, (some .boolean), 1, 20)
set_option maxRecDepth 100000 in
theorem okMo_has : zOk mMo_has 1 := ⟨plainFor_of_name (by decide +kernel), rfl, zi_code 1178 rfl, zi_init 11 (by decide +kernel), by decide +kernel⟩
def mMo_hasAll : zMT := (10, ⟨"StyledRunsModel", "hasAll", "()Z"⟩, prog_14_method_60_code, 3, (some .boolean), 2, 41)
set_option maxRecDepth 100000 in
theorem okMo_hasAll : zOk mMo_hasAll 0 := ⟨plainFor_of_name (by decide +kernel), rfl, zi_code 1174 rfl, zi_init 11 (by decide +kernel), by decide +kernel⟩
def mMo_highest : zMT := (10, ⟨"StyledRunsModel", "highest", "()I"⟩, prog_14_method_93_code, 5, (some .int), 2, 43)
set_option maxRecDepth 100000 in
theorem okMo_highest : zOk mMo_highest 0 := ⟨plainFor_of_name (by decide +kernel), rfl, zi_code 1324 rfl, zi_init 11 (by decide +kernel), by decide +kernel⟩
def mMo_idle : zMT := (10, ⟨"StyledRunsModel", "idle", "()I"⟩, prog_14_method_85_code, 3, (some .int), 5, 113)
set_option maxRecDepth 100000 in
theorem okMo_idle : zOk mMo_idle 0 := ⟨plainFor_of_name (by decide +kernel), rfl, zi_code 1284 rfl, zi_init 11 (by decide +kernel), by decide +kernel⟩
def mMo_image : zMT := (10, ⟨"StyledRunsModel", "image", "(I)I"⟩, prog_14_method_10_code, 2, (some .int), 1, 25)
set_option maxRecDepth 100000 in
theorem okMo_image : zOk mMo_image 1 := ⟨plainFor_of_name (by decide +kernel), rfl, zi_code 967 rfl, zi_init 11 (by decide +kernel), by decide +kernel⟩
def mMo_in : zMT := (10, ⟨"StyledRunsModel", "in", "(JJJ)Z"⟩, prog_14_method_3_code, 6, (some .boolean), 0, 0)
set_option maxRecDepth 100000 in
theorem okMo_in : zOk mMo_in 3 := ⟨plainFor_of_name (by decide +kernel), rfl, zi_code 970 rfl, zi_init 11 (by decide +kernel), by decide +kernel⟩
def mMo_isAnchor : zMT := (10, ⟨"StyledRunsModel", "isAnchor", "(I)Z"⟩, prog_14_method_18_code, 2, (some .boolean), 1, 25)
set_option maxRecDepth 100000 in
theorem okMo_isAnchor : zOk mMo_isAnchor 1 := ⟨plainFor_of_name (by decide +kernel), rfl, zi_code 1066 rfl, zi_init 11 (by decide +kernel), by decide +kernel⟩
def mMo_isByte : zMT := (10, ⟨"StyledRunsModel", "isByte", "(I)Z"⟩, prog_14_method_20_code, 1, (some .boolean), 1, 25)
set_option maxRecDepth 100000 in
theorem okMo_isByte : zOk mMo_isByte 1 := ⟨plainFor_of_name (by decide +kernel), rfl, zi_code 1005 rfl, zi_init 11 (by decide +kernel), by decide +kernel⟩
def mMo_isIdle : zMT := (10, ⟨"StyledRunsModel", "isIdle", "(I)Z"⟩, prog_14_method_74_code, 4, (some .boolean), 4, 90)
set_option maxRecDepth 100000 in
theorem okMo_isIdle : zOk mMo_isIdle 1 := ⟨plainFor_of_name (by decide +kernel), rfl, zi_code 1242 rfl, zi_init 11 (by decide +kernel), by decide +kernel⟩
def mMo_isLetter : zMT := (10, ⟨"StyledRunsModel", "isLetter", "(I)Z"⟩, prog_14_method_15_code, 2, (some .boolean), 1, 25)
set_option maxRecDepth 100000 in
theorem okMo_isLetter : zOk mMo_isLetter 1 := ⟨plainFor_of_name (by decide +kernel), rfl, zi_code 1202 rfl, zi_init 11 (by decide +kernel), by decide +kernel⟩
def mMo_isLook : zMT := (10, ⟨"StyledRunsModel", "isLook", "(IIII)Z"⟩, prog_14_method_35_code, 4, (some .boolean), 1, 25)
set_option maxRecDepth 100000 in
theorem okMo_isLook : zOk mMo_isLook 4 := ⟨plainFor_of_name (by decide +kernel), rfl, zi_code 1074 rfl, zi_init 11 (by decide +kernel), by decide +kernel⟩
def mMo_isOpen : zMT := (10, ⟨"StyledRunsModel", "isOpen", "(I)Z"⟩, prog_14_method_61_code, 4, (some .boolean), 0, 0)
set_option maxRecDepth 100000 in
theorem okMo_isOpen : zOk mMo_isOpen 1 := ⟨plainFor_of_name (by decide +kernel), rfl, zi_code 1194 rfl, zi_init 11 (by decide +kernel), by decide +kernel⟩
def mMo_isOver : zMT := (10, ⟨"StyledRunsModel", "isOver", "(II)Z"⟩, prog_14_method_43_code, 4, (some .boolean), 1, 20)
set_option maxRecDepth 100000 in
theorem okMo_isOver : zOk mMo_isOver 2 := ⟨plainFor_of_name (by decide +kernel), rfl, zi_code 1123 rfl, zi_init 11 (by decide +kernel), by decide +kernel⟩
def mMo_isPlace : zMT := (10, ⟨"StyledRunsModel", "isPlace", "(I)Z"⟩, prog_14_method_16_code, 2, (some .boolean), 1, 25)
set_option maxRecDepth 100000 in
theorem okMo_isPlace : zOk mMo_isPlace 1 := ⟨plainFor_of_name (by decide +kernel), rfl, zi_code 998 rfl, zi_init 11 (by decide +kernel), by decide +kernel⟩
def mMo_isRange : zMT := (10, ⟨"StyledRunsModel", "isRange", "(II)Z"⟩, prog_14_method_19_code, 3, (some .boolean), 2, 46)
set_option maxRecDepth 100000 in
theorem okMo_isRange : zOk mMo_isRange 2 := ⟨plainFor_of_name (by decide +kernel), rfl, zi_code 1043 rfl, zi_init 11 (by decide +kernel), by decide +kernel⟩
def mMo_isSo : zMT := (10, ⟨"StyledRunsModel", "isSo", "(IIII)Z"⟩, prog_14_method_79_code, 5, (some .boolean), 3, 68)
set_option maxRecDepth 100000 in
theorem okMo_isSo : zOk mMo_isSo 4 := ⟨plainFor_of_name (by decide +kernel), rfl, zi_code 1263 rfl, zi_init 11 (by decide +kernel), by decide +kernel⟩
def mMo_isSpan : zMT := (10, ⟨"StyledRunsModel", "isSpan", "(I)Z"⟩, prog_14_method_17_code, 2, (some .boolean), 1, 25)
set_option maxRecDepth 100000 in
theorem okMo_isSpan : zOk mMo_isSpan 1 := ⟨plainFor_of_name (by decide +kernel), rfl, zi_code 1062 rfl, zi_init 11 (by decide +kernel), by decide +kernel⟩
def mMo_isWithin : zMT := (10, ⟨"StyledRunsModel", "isWithin", "(II)Z"⟩, prog_14_method_89_code, 3, (some .boolean), 0, 0)
set_option maxRecDepth 100000 in
theorem okMo_isWithin : zOk mMo_isWithin 2 := ⟨plainFor_of_name (by decide +kernel), rfl, zi_code 1304 rfl, zi_init 11 (by decide +kernel), by decide +kernel⟩
def mMo_lay : zMT := (10, ⟨"StyledRunsModel", "lay", "(IIIIIIII)I"⟩, prog_14_method_36_code, 11, (some .int), 3, 68)
set_option maxRecDepth 100000 in
theorem okMo_lay : zOk mMo_lay 8 := ⟨plainFor_of_name (by decide +kernel), rfl, zi_code 1070 rfl, zi_init 11 (by decide +kernel), by decide +kernel⟩
def mMo_layPaint : zMT := (10, ⟨"StyledRunsModel", "layPaint", "(I)I"⟩, prog_14_method_46_code, 4, (some .int), 1, 20)
set_option maxRecDepth 100000 in
theorem okMo_layPaint : zOk mMo_layPaint 1 := ⟨plainFor_of_name (by decide +kernel), rfl, zi_code 1111 rfl, zi_init 11 (by decide +kernel), by decide +kernel⟩
def mMo_layRuns : zMT := (10, ⟨"StyledRunsModel", "layRuns", "(I)V"⟩, prog_14_method_69_code, 5, none, 4, 90)
set_option maxRecDepth 100000 in
theorem okMo_layRuns : zOk mMo_layRuns 1 := ⟨plainFor_of_name (by decide +kernel), rfl, zi_code 1220 rfl, zi_init 11 (by decide +kernel), by decide +kernel⟩
def mMo_letter : zMT := (10, ⟨"StyledRunsModel", "letter", "(I)I"⟩, prog_14_method_67_code, 2, (some .int), 2, 46)
set_option maxRecDepth 100000 in
theorem okMo_letter : zOk mMo_letter 1 := ⟨plainFor_of_name (by decide +kernel), rfl, zi_code 1198 rfl, zi_init 11 (by decide +kernel), by decide +kernel⟩
def mMo_letterAt : zMT := (10, ⟨"StyledRunsModel", "letterAt", "(I)I"⟩, prog_14_method_12_code, 1, (some .int), 0, 0)
set_option maxRecDepth 100000 in
theorem okMo_letterAt : zOk mMo_letterAt 1 := ⟨plainFor_of_name (by decide +kernel), rfl, zi_code 1035 rfl, zi_init 11 (by decide +kernel), by decide +kernel⟩
def mMo_lift : zMT := (10, ⟨"StyledRunsModel", "lift", "(I)I"⟩, prog_14_method_38_code, 2, (some .int), 2, 46)
set_option maxRecDepth 100000 in
theorem okMo_lift : zOk mMo_lift 1 := ⟨plainFor_of_name (by decide +kernel), rfl, zi_code 1083 rfl, zi_init 11 (by decide +kernel), by decide +kernel⟩
def mMo_longest : zMT := (10, ⟨"StyledRunsModel", "longest", "(Z)I"⟩, prog_14_method_91_code, 6, (some .int), 5, 114)
set_option maxRecDepth 100000 in
theorem okMo_longest : zOk mMo_longest 1 := ⟨plainFor_of_name (by decide +kernel), rfl, zi_code 1316 rfl, zi_init 11 (by decide +kernel), by decide +kernel⟩
def mMo_look : zMT := (10, ⟨"StyledRunsModel", "look", "(IIII)V"⟩, prog_14_method_42_code, 5, none, 0, 0)
set_option maxRecDepth 100000 in
theorem okMo_look : zOk mMo_look 4 := ⟨plainFor_of_name (by decide +kernel), rfl, zi_code 1107 rfl, zi_init 11 (by decide +kernel), by decide +kernel⟩
def mMo_makeRoom : zMT := (10, ⟨"StyledRunsModel", "makeRoom", "(IIZ)V"⟩, prog_14_method_23_code, 6, none, 1, 23)
set_option maxRecDepth 100000 in
theorem okMo_makeRoom : zOk mMo_makeRoom 3 := ⟨plainFor_of_name (by decide +kernel), rfl, zi_code 1019 rfl, zi_init 11 (by decide +kernel), by decide +kernel⟩
def mMo_marks : zMT := (10, ⟨"StyledRunsModel", "marks", "()V"⟩, prog_14_method_64_code, 2, none, 3, 63)
set_option maxRecDepth 100000 in
theorem okMo_marks : zOk mMo_marks 0 := ⟨plainFor_of_name (by decide +kernel), rfl, zi_code 1170 rfl, zi_init 11 (by decide +kernel), by decide +kernel⟩
def mMo_move : zMT := (10, ⟨"StyledRunsModel", "move", "(III)I"⟩, prog_14_method_34_code, 9, (some .int), 3, 68)
set_option maxRecDepth 100000 in
theorem okMo_move : zOk mMo_move 3 := ⟨plainFor_of_name (by decide +kernel), rfl, zi_code 1058 rfl, zi_init 11 (by decide +kernel), by decide +kernel⟩
def mMo_noteAct : zMT := (10, ⟨"StyledRunsModel", "noteAct", "(III)V"⟩, prog_14_method_8_code, 5, none, 0, 0)
set_option maxRecDepth 100000 in
theorem okMo_noteAct : zOk mMo_noteAct 3 := ⟨plainFor_of_name (by decide +kernel), rfl, zi_code 1015 rfl, zi_init 11 (by decide +kernel), by decide +kernel⟩
def mMo_ofAnchors : zMT := (10, ⟨"StyledRunsModel", "ofAnchors", "(I)I"⟩, prog_14_method_94_code, 4, (some .int), 1, 20)
set_option maxRecDepth 100000 in
theorem okMo_ofAnchors : zOk mMo_ofAnchors 1 := ⟨plainFor_of_name (by decide +kernel), rfl, zi_code 1312 rfl, zi_init 11 (by decide +kernel), by decide +kernel⟩
def mMo_onward : zMT := (10, ⟨"StyledRunsModel", "onward", "(IIII)I"⟩, prog_14_method_21_code, 4, (some .int), 0, 0)
set_option maxRecDepth 100000 in
theorem okMo_onward : zOk mMo_onward 4 := ⟨plainFor_of_name (by decide +kernel), rfl, zi_code 1025 rfl, zi_init 11 (by decide +kernel), by decide +kernel⟩
def mMo_opens : zMT := (10, ⟨"StyledRunsModel", "opens", "(II)V"⟩, prog_14_method_63_code, 3, none, 1, 23)
set_option maxRecDepth 100000 in
theorem okMo_opens : zOk mMo_opens 2 := ⟨plainFor_of_name (by decide +kernel), rfl, zi_code 1190 rfl, zi_init 11 (by decide +kernel), by decide +kernel⟩
def mMo_paint : zMT := (10, ⟨"StyledRunsModel", "paint", "(IIIIII)I"⟩, prog_14_method_47_code, 9, (some .int), 3, 68)
set_option maxRecDepth 100000 in
theorem okMo_paint : zOk mMo_paint 6 := ⟨plainFor_of_name (by decide +kernel), rfl, zi_code 1099 rfl, zi_init 11 (by decide +kernel), by decide +kernel⟩
def mMo_pin : zMT := (10, ⟨"StyledRunsModel", "pin", "(II)I"⟩, prog_14_method_49_code, 5, (some .int), 2, 46)
set_option maxRecDepth 100000 in
theorem okMo_pin : zOk mMo_pin 2 := ⟨plainFor_of_name (by decide +kernel), rfl, zi_code 1127 rfl, zi_init 11 (by decide +kernel), by decide +kernel⟩
def mMo_put : zMT := (10, ⟨"StyledRunsModel", "put", "(I)V"⟩, prog_14_method_58_code, 2, none, 0, 0)
set_option maxRecDepth 100000 in
theorem okMo_put : zOk mMo_put 1 := ⟨plainFor_of_name (by decide +kernel), rfl, zi_code 1186 rfl, zi_init 11 (by decide +kernel), by decide +kernel⟩
def mMo_raised : zMT := (10, ⟨"StyledRunsModel", "raised", "(II)I"⟩, prog_14_method_87_code, 3, (some .int), 6, 138)
set_option maxRecDepth 100000 in
theorem okMo_raised : zOk mMo_raised 2 := ⟨plainFor_of_name (by decide +kernel), rfl, zi_code 1288 rfl, zi_init 11 (by decide +kernel), by decide +kernel⟩
def mMo_read : zMT := (10, ⟨"StyledRunsModel", "read", "()I"⟩, prog_14_method_56_code, 2, (some .int), 3, 67)
set_option maxRecDepth 100000 in
theorem okMo_read : zOk mMo_read 0 := ⟨plainFor_of_name (by decide +kernel), rfl, zi_code 1135 rfl, zi_init 11 (by decide +kernel), by decide +kernel⟩
def mMo_readLetter : zMT := (10, ⟨"StyledRunsModel", "readLetter", "(I)V"⟩, prog_14_method_55_code, 3, none, 2, 45)
set_option maxRecDepth 100000 in
theorem okMo_readLetter : zOk mMo_readLetter 1 := ⟨plainFor_of_name (by decide +kernel), rfl, zi_code 1154 rfl, zi_init 11 (by decide +kernel), by decide +kernel⟩
def mMo_readMark : zMT := (10, ⟨"StyledRunsModel", "readMark", "()V"⟩, prog_14_method_54_code, 5, none, 1, 25)
set_option maxRecDepth 100000 in
theorem okMo_readMark : zOk mMo_readMark 0 := ⟨plainFor_of_name (by decide +kernel), rfl, zi_code 1143 rfl, zi_init 11 (by decide +kernel), by decide +kernel⟩
def mMo_refuse : zMT := (10, ⟨"StyledRunsModel", "refuse", "(I)I"⟩, prog_14_method_5_code, 2, (some .int), 0, 0)
set_option maxRecDepth 100000 in
theorem okMo_refuse : zOk mMo_refuse 1 := ⟨plainFor_of_name (by decide +kernel), rfl, zi_code 956 rfl, zi_init 11 (by decide +kernel), by decide +kernel⟩
def mMo_remember : zMT := (10, ⟨"StyledRunsModel", "remember", "(I)V"⟩, prog_14_method_7_code, 3, none, 1, 24)
set_option maxRecDepth 100000 in
theorem okMo_remember : zOk mMo_remember 1 := ⟨plainFor_of_name (by decide +kernel), rfl, zi_code 1011 rfl, zi_init 11 (by decide +kernel), by decide +kernel⟩
def mMo_run : zMT := (10, ⟨"StyledRunsModel", "run", "(II)I"⟩, prog_14_method_70_code, 3, (some .int), 5, 114)
set_option maxRecDepth 100000 in
theorem okMo_run : zOk mMo_run 2 := ⟨plainFor_of_name (by decide +kernel), rfl, zi_code 1216 rfl, zi_init 11 (by decide +kernel), by decide +kernel⟩
def mMo_runsBy : zMT := (10, ⟨"StyledRunsModel", "runsBy", "(II)I"⟩, prog_14_method_86_code, 5, (some .int), 5, 114)
set_option maxRecDepth 100000 in
theorem okMo_runsBy : zOk mMo_runsBy 2 := ⟨plainFor_of_name (by decide +kernel), rfl, zi_code 1292 rfl, zi_init 11 (by decide +kernel), by decide +kernel⟩
def mMo_set : zMT := (10, ⟨"StyledRunsModel", "set", "(III)I"⟩, prog_14_method_39_code, 6, (some .int), 2, 46)
set_option maxRecDepth 100000 in
theorem okMo_set : zOk mMo_set 3 := ⟨plainFor_of_name (by decide +kernel), rfl, zi_code 1091 rfl, zi_init 11 (by decide +kernel), by decide +kernel⟩
def mMo_span : zMT := (10, ⟨"StyledRunsModel", "span", "(II)I"⟩, prog_14_method_75_code, 4, (some .int), 5, 114)
set_option maxRecDepth 100000 in
theorem okMo_span : zOk mMo_span 2 := ⟨plainFor_of_name (by decide +kernel), rfl, zi_code 1237 rfl, zi_init 11 (by decide +kernel), by decide +kernel⟩
def mMo_spanAt : zMT := (10, ⟨"StyledRunsModel", "spanAt", "(I)I"⟩, prog_14_method_13_code, 1, (some .int), 0, 0)
set_option maxRecDepth 100000 in
theorem okMo_spanAt : zOk mMo_spanAt 1 := ⟨plainFor_of_name (by decide +kernel), rfl, zi_code 1022 rfl, zi_init 11 (by decide +kernel), by decide +kernel⟩
def mMo_spans : zMT := (10, ⟨"StyledRunsModel", "spans", "()I"⟩, prog_14_method_37_code, 3, (some .int), 1, 20)
set_option maxRecDepth 100000 in
theorem okMo_spans : zOk mMo_spans 0 := ⟨plainFor_of_name (by decide +kernel), rfl, zi_code 1087 rfl, zi_init 11 (by decide +kernel), by decide +kernel⟩
def mMo_stack : zMT := (10, ⟨"StyledRunsModel", "stack", "(II)I"⟩, prog_14_method_71_code, 6, (some .int), 2, 46)
set_option maxRecDepth 100000 in
theorem okMo_stack : zOk mMo_stack 2 := ⟨plainFor_of_name (by decide +kernel), rfl, zi_code 1225 rfl, zi_init 11 (by decide +kernel), by decide +kernel⟩
def mMo_stands : zMT := (10, ⟨"StyledRunsModel", "stands", "(I)Z"⟩, prog_14_method_77_code, 4, (some .boolean), 1, 20)
set_option maxRecDepth 100000 in
theorem okMo_stands : zOk mMo_stands 1 := ⟨plainFor_of_name (by decide +kernel), rfl, zi_code 1255 rfl, zi_init 11 (by decide +kernel), by decide +kernel⟩
def mMo_status : zMT := (10, ⟨"StyledRunsModel", "status", "()I"⟩, prog_14_method_96_code, 1, (some .int), 0, 0)
set_option maxRecDepth 100000 in
theorem okMo_status : zOk mMo_status 0 := ⟨plainFor_of_name (by decide +kernel), rfl, zi_code 1328 rfl, zi_init 11 (by decide +kernel), by decide +kernel⟩
def mMo_stretch : zMT := (10, ⟨"StyledRunsModel", "stretch", "(III)I"⟩, prog_14_method_40_code, 4, (some .int), 3, 68)
set_option maxRecDepth 100000 in
theorem okMo_stretch : zOk mMo_stretch 3 := ⟨plainFor_of_name (by decide +kernel), rfl, zi_code 1095 rfl, zi_init 11 (by decide +kernel), by decide +kernel⟩
def mMo_style : zMT := (10, ⟨"StyledRunsModel", "style", "(II)I"⟩, prog_14_method_68_code, 4, (some .int), 4, 90)
set_option maxRecDepth 100000 in
theorem okMo_style : zOk mMo_style 2 := ⟨plainFor_of_name (by decide +kernel), rfl, zi_code 1206 rfl, zi_init 11 (by decide +kernel), by decide +kernel⟩
def mMo_styleOf : zMT := (10, ⟨"StyledRunsModel", "styleOf", "(II)I"⟩, prog_14_method_45_code, 3, (some .int), 3, 68)
set_option maxRecDepth 100000 in
theorem okMo_styleOf : zOk mMo_styleOf 2 := ⟨plainFor_of_name (by decide +kernel), rfl, zi_code 1212 rfl, zi_init 11 (by decide +kernel), by decide +kernel⟩
def mMo_styled : zMT := (10, ⟨"StyledRunsModel", "styled", "(IIIII)I"⟩, prog_14_method_81_code, 11, (some .int), 4, 92)
set_option maxRecDepth 100000 in
theorem okMo_styled : zOk mMo_styled 5 := ⟨plainFor_of_name (by decide +kernel), rfl, zi_code 1267 rfl, zi_init 11 (by decide +kernel), by decide +kernel⟩
def mMo_swap : zMT := (10, ⟨"StyledRunsModel", "swap", "(II)I"⟩, prog_14_method_32_code, 3, (some .int), 3, 68)
set_option maxRecDepth 100000 in
theorem okMo_swap : zOk mMo_swap 2 := ⟨plainFor_of_name (by decide +kernel), rfl, zi_code 1039 rfl, zi_init 11 (by decide +kernel), by decide +kernel⟩
def mMo_takeOut : zMT := (10, ⟨"StyledRunsModel", "takeOut", "(IIZ)V"⟩, prog_14_method_24_code, 6, none, 1, 22)
set_option maxRecDepth 100000 in
theorem okMo_takeOut : zOk mMo_takeOut 3 := ⟨plainFor_of_name (by decide +kernel), rfl, zi_code 1047 rfl, zi_init 11 (by decide +kernel), by decide +kernel⟩
def mMo_takePaint : zMT := (10, ⟨"StyledRunsModel", "takePaint", "(I)V"⟩, prog_14_method_41_code, 3, none, 1, 20)
set_option maxRecDepth 100000 in
theorem okMo_takePaint : zOk mMo_takePaint 1 := ⟨plainFor_of_name (by decide +kernel), rfl, zi_code 1103 rfl, zi_init 11 (by decide +kernel), by decide +kernel⟩
def mMo_takeStyle : zMT := (10, ⟨"StyledRunsModel", "takeStyle", "(II)V"⟩, prog_14_method_44_code, 6, none, 2, 43)
set_option maxRecDepth 100000 in
theorem okMo_takeStyle : zOk mMo_takeStyle 2 := ⟨plainFor_of_name (by decide +kernel), rfl, zi_code 1119 rfl, zi_init 11 (by decide +kernel), by decide +kernel⟩
def mMo_tape : zMT := (10, ⟨"StyledRunsModel", "tape", "(I)I"⟩, prog_14_method_28_code, 2, (some .int), 1, 25)
set_option maxRecDepth 100000 in
theorem okMo_tape : zOk mMo_tape 1 := ⟨plainFor_of_name (by decide +kernel), rfl, zi_code 990 rfl, zi_init 11 (by decide +kernel), by decide +kernel⟩
def mMo_tell : zMT := (10, ⟨"StyledRunsModel", "tell", "(I)I"⟩, prog_14_method_4_code, 2, (some .int), 0, 0)
set_option maxRecDepth 100000 in
theorem okMo_tell : zOk mMo_tell 1 := ⟨plainFor_of_name (by decide +kernel), rfl, zi_code 963 rfl, zi_init 11 (by decide +kernel), by decide +kernel⟩
def mMo_tells : zMT := (10, ⟨"StyledRunsModel", "tells", "(II)I"⟩, prog_14_method_73_code, 6, (some .int), 2, 46)
set_option maxRecDepth 100000 in
theorem okMo_tells : zOk mMo_tells 2 := ⟨plainFor_of_name (by decide +kernel), rfl, zi_code 1229 rfl, zi_init 11 (by decide +kernel), by decide +kernel⟩
def mMo_tellsOf : zMT := (10, ⟨"StyledRunsModel", "tellsOf", "(II)Z"⟩, prog_14_method_72_code, 4, (some .boolean), 1, 20)
set_option maxRecDepth 100000 in
theorem okMo_tellsOf : zOk mMo_tellsOf 2 := ⟨plainFor_of_name (by decide +kernel), rfl, zi_code 1233 rfl, zi_init 11 (by decide +kernel), by decide +kernel⟩
def mMo_through : zMT := (10, ⟨"StyledRunsModel", "through", "(III)I"⟩, prog_14_method_84_code, 6, (some .int), 2, 50)
set_option maxRecDepth 100000 in
theorem okMo_through : zOk mMo_through 3 := ⟨plainFor_of_name (by decide +kernel), rfl, zi_code 1276 rfl, zi_init 11 (by decide +kernel), by decide +kernel⟩
def mMo_type : zMT := (10, ⟨"StyledRunsModel", "type", "(I)I"⟩, prog_14_method_30_code, 2, (some .int), 3, 67)
set_option maxRecDepth 100000 in
theorem okMo_type : zOk mMo_type 1 := ⟨plainFor_of_name (by decide +kernel), rfl, zi_code 994 rfl, zi_init 11 (by decide +kernel), by decide +kernel⟩
def mMo_undo : zMT := (10, ⟨"StyledRunsModel", "undo", "()I"⟩, prog_14_method_9_code, 1, (some .int), 1, 24)
set_option maxRecDepth 100000 in
theorem okMo_undo : zOk mMo_undo 0 := ⟨plainFor_of_name (by decide +kernel), rfl, zi_code 952 rfl, zi_init 11 (by decide +kernel), by decide +kernel⟩
def mMo_unlike : zMT := (10, ⟨"StyledRunsModel", "unlike", "()I"⟩, prog_14_method_92_code, 5, (some .int), 4, 90)
set_option maxRecDepth 100000 in
theorem okMo_unlike : zOk mMo_unlike 0 := ⟨plainFor_of_name (by decide +kernel), rfl, zi_code 1320 rfl, zi_init 11 (by decide +kernel), by decide +kernel⟩
def mMo_unpin : zMT := (10, ⟨"StyledRunsModel", "unpin", "(I)I"⟩, prog_14_method_50_code, 2, (some .int), 2, 46)
set_option maxRecDepth 100000 in
theorem okMo_unpin : zOk mMo_unpin 1 := ⟨plainFor_of_name (by decide +kernel), rfl, zi_code 1131 rfl, zi_init 11 (by decide +kernel), by decide +kernel⟩
def mMo_write : zMT := (10, ⟨"StyledRunsModel", "write", "()I"⟩, prog_14_method_66_code, 2, (some .int), 5, 105)
set_option maxRecDepth 100000 in
theorem okMo_write : zOk mMo_write 0 := ⟨plainFor_of_name (by decide +kernel), rfl, zi_code 1162 rfl, zi_init 11 (by decide +kernel), by decide +kernel⟩
def mMo_writes : zMT := (10, ⟨"StyledRunsModel", "writes", "()V"⟩, prog_14_method_65_code, 2, none, 4, 84)
set_option maxRecDepth 100000 in
theorem okMo_writes : zOk mMo_writes 0 := ⟨plainFor_of_name (by decide +kernel), rfl, zi_code 1166 rfl, zi_init 11 (by decide +kernel), by decide +kernel⟩
def mMo_wrong : zMT := (10, ⟨"StyledRunsModel", "wrong", "(I)V"⟩, prog_14_method_52_code, 2, none, 0, 0)
set_option maxRecDepth 100000 in
theorem okMo_wrong : zOk mMo_wrong 1 := ⟨plainFor_of_name (by decide +kernel), rfl, zi_code 1150 rfl, zi_init 11 (by decide +kernel), by decide +kernel⟩
def mPla_afterComing : zMT := (11, ⟨"StyledRuns$Place", "afterComing", "(IIII)I"⟩, prog_6_method_2_code, 4, (some .int), 0, 0)
set_option maxRecDepth 100000 in
theorem okPla_afterComing : zOk mPla_afterComing 4 := ⟨plainFor_of_name (by decide +kernel), rfl, zi_code 403 rfl, zi_init 14 (by decide +kernel), by decide +kernel⟩
def mPla_afterGoing : zMT := (11, ⟨"StyledRuns$Place", "afterGoing", "(III)I"⟩, prog_6_method_3_code, 3, (some .int), 1, 21)
set_option maxRecDepth 100000 in
theorem okPla_afterGoing : zOk mPla_afterGoing 3 := ⟨plainFor_of_name (by decide +kernel), rfl, zi_code 428 rfl, zi_init 14 (by decide +kernel), by decide +kernel⟩
def mPla_afterMove : zMT := (11, ⟨"StyledRuns$Place", "afterMove", "(IIIII)I"⟩, prog_6_method_6_code, 5, (some .int), 3, 67)
set_option maxRecDepth 100000 in
theorem okPla_afterMove : zOk mPla_afterMove 5 := ⟨plainFor_of_name (by decide +kernel), rfl, zi_code 468 rfl, zi_init 14 (by decide +kernel), by decide +kernel⟩
def mPla_afterSwap : zMT := (11, ⟨"StyledRuns$Place", "afterSwap", "(IIIII)I"⟩, prog_6_method_7_code, 7, (some .int), 2, 43)
set_option maxRecDepth 100000 in
theorem okPla_afterSwap : zOk mPla_afterSwap 5 := ⟨plainFor_of_name (by decide +kernel), rfl, zi_code 780 rfl, zi_init 14 (by decide +kernel), by decide +kernel⟩
def mPla_landing : zMT := (11, ⟨"StyledRuns$Place", "landing", "(III)I"⟩, prog_6_method_4_code, 3, (some .int), 0, 0)
set_option maxRecDepth 100000 in
theorem okPla_landing : zOk mPla_landing 3 := ⟨plainFor_of_name (by decide +kernel), rfl, zi_code 459 rfl, zi_init 14 (by decide +kernel), by decide +kernel⟩
def mPla_leftByMove : zMT := (11, ⟨"StyledRuns$Place", "leftByMove", "(IIIII)I"⟩, prog_6_method_5_code, 5, (some .int), 2, 43)
set_option maxRecDepth 100000 in
theorem okPla_leftByMove : zOk mPla_leftByMove 5 := ⟨plainFor_of_name (by decide +kernel), rfl, zi_code 462 rfl, zi_init 14 (by decide +kernel), by decide +kernel⟩
def mSty_brushed : zMT := (12, ⟨"StyledRuns$Style", "brushed", "(IIIII)I"⟩, prog_10_method_6_code, 8, (some .int), 1, 22)
set_option maxRecDepth 100000 in
theorem okSty_brushed : zOk mSty_brushed 5 := ⟨plainFor_of_name (by decide +kernel), rfl, zi_code 509 rfl, zi_init 15 (by decide +kernel), by decide +kernel⟩
def mSty_colorOf : zMT := (12, ⟨"StyledRuns$Style", "colorOf", "(I)I"⟩, prog_10_method_4_code, 1, (some .int), 0, 0)
set_option maxRecDepth 100000 in
theorem okSty_colorOf : zOk mSty_colorOf 1 := ⟨plainFor_of_name (by decide +kernel), rfl, zi_code 515 rfl, zi_init 15 (by decide +kernel), by decide +kernel⟩
def mSty_flagsOf : zMT := (12, ⟨"StyledRuns$Style", "flagsOf", "(I)I"⟩, prog_10_method_3_code, 1, (some .int), 0, 0)
set_option maxRecDepth 100000 in
theorem okSty_flagsOf : zOk mSty_flagsOf 1 := ⟨plainFor_of_name (by decide +kernel), rfl, zi_code 512 rfl, zi_init 15 (by decide +kernel), by decide +kernel⟩
def mSty_markValue : zMT := (12, ⟨"StyledRuns$Style", "markValue", "(II)I"⟩, prog_10_method_8_code, 2, (some .int), 1, 20)
set_option maxRecDepth 100000 in
theorem okSty_markValue : zOk mSty_markValue 2 := ⟨plainFor_of_name (by decide +kernel), rfl, zi_code 618 rfl, zi_init 15 (by decide +kernel), by decide +kernel⟩
def mSty_marked : zMT := (12, ⟨"StyledRuns$Style", "marked", "(III)I"⟩, prog_10_method_7_code, 3, (some .int), 1, 22)
set_option maxRecDepth 100000 in
theorem okSty_marked : zOk mSty_marked 3 := ⟨plainFor_of_name (by decide +kernel), rfl, zi_code 586 rfl, zi_init 15 (by decide +kernel), by decide +kernel⟩
def mSty_of : zMT := (12, ⟨"StyledRuns$Style", "of", "(III)I"⟩, prog_10_method_2_code, 3, (some .int), 0, 0)
set_option maxRecDepth 100000 in
theorem okSty_of : zOk mSty_of 3 := ⟨plainFor_of_name (by decide +kernel), rfl, zi_code 525 rfl, zi_init 15 (by decide +kernel), by decide +kernel⟩
def mSty_sizeOf : zMT := (12, ⟨"StyledRuns$Style", "sizeOf", "(I)I"⟩, prog_10_method_5_code, 1, (some .int), 0, 0)
set_option maxRecDepth 100000 in
theorem okSty_sizeOf : zOk mSty_sizeOf 1 := ⟨plainFor_of_name (by decide +kernel), rfl, zi_code 518 rfl, zi_init 15 (by decide +kernel), by decide +kernel⟩
def mSty_suits : zMT := (12, ⟨"StyledRuns$Style", "suits", "(IIII)Z"⟩, prog_10_method_9_code, 5, (some .boolean), 1, 20)
set_option maxRecDepth 100000 in
theorem okSty_suits : zOk mSty_suits 4 := ⟨plainFor_of_name (by decide +kernel), rfl, zi_code 744 rfl, zi_init 15 (by decide +kernel), by decide +kernel⟩
def mLaw_law : zMT := (13, ⟨"StyledRunsLaw", "law", "([I)Z"⟩, code, 4, (some .boolean), 7, 179)
def mMa_floorMod : zMT := (14, ⟨"java/lang/Math", "floorMod", "(II)I"⟩, prog_15_method_50_code, 3, (some .int), 0, 0)
set_option maxRecDepth 100000 in
theorem okMa_floorMod : zOk mMa_floorMod 2 := ⟨by decide +kernel, rfl, zi_code 655 rfl, zi_init 13 (by decide +kernel), by decide +kernel⟩
def mMa_max : zMT := (14, ⟨"java/lang/Math", "max", "(II)I"⟩, prog_15_method_65_code, 2, (some .int), 0, 0)
set_option maxRecDepth 100000 in
theorem okMa_max : zOk mMa_max 2 := ⟨by decide +kernel, rfl, zi_code 522 rfl, zi_init 13 (by decide +kernel), by decide +kernel⟩
def mMa_min : zMT := (14, ⟨"java/lang/Math", "min", "(II)I"⟩, prog_15_method_69_code, 2, (some .int), 0, 0)
set_option maxRecDepth 100000 in
theorem okMa_min : zOk mMa_min 2 := ⟨by decide +kernel, rfl, zi_code 391 rfl, zi_init 13 (by decide +kernel), by decide +kernel⟩
theorem lk9_9 : Cond.methodLink (zON 9) 9 mShe_init.2.1 ∈ zTbl ∧ Cond.instanceMethod mShe_init.2.1 ∈ zTbl := ⟨zi_ml 26 (by decide +kernel), zi_im 27 (by decide +kernel)⟩
theorem lk9_18 : Cond.methodLinkNest (zON 9) 18 mTap_init.2.1 "StyledRuns" ∈ zNs ∧ Cond.instanceMethod mTap_init.2.1 ∈ zTbl := ⟨by decide +kernel, zi_im 150 (by decide +kernel)⟩
theorem lk9_25 : Cond.methodLink (zON 9) 25 mHis_init.2.1 ∈ zTbl ∧ Cond.instanceMethod mHis_init.2.1 ∈ zTbl := ⟨zi_ml 167 (by decide +kernel), zi_im 168 (by decide +kernel)⟩
theorem lk9_40 : Cond.methodLinkNest (zON 9) 40 mLoo_init.2.1 "StyledRuns" ∈ zNs ∧ Cond.instanceMethod mLoo_init.2.1 ∈ zTbl := ⟨by decide +kernel, zi_im 212 (by decide +kernel)⟩
theorem lk9_50 : Cond.methodLinkNest (zON 9) 50 mRea_init.2.1 "StyledRuns" ∈ zNs ∧ Cond.instanceMethod mRea_init.2.1 ∈ zTbl := ⟨by decide +kernel, zi_im 228 (by decide +kernel)⟩
theorem lk9_57 : Cond.methodLinkNest (zON 9) 57 mWri_init.2.1 "StyledRuns" ∈ zNs ∧ Cond.instanceMethod mWri_init.2.1 ∈ zTbl := ⟨by decide +kernel, zi_im 260 (by decide +kernel)⟩
theorem lk9_77 : Cond.methodLink (zON 9) 77 mTap_addFour.2.1 ∈ zTbl ∧ Cond.instanceMethod mTap_addFour.2.1 ∈ zTbl ∧ Cond.selects mTap_addFour.2.1.cls mTap_addFour.2.1 mTap_addFour.2.1 ∈ zTbl := ⟨zi_ml 323 (by decide +kernel), zi_im 324 (by decide +kernel), zi_se 325 (by decide +kernel)⟩
theorem lk9_81 : Cond.methodLink (zON 9) 81 mTap_at.2.1 ∈ zTbl ∧ Cond.instanceMethod mTap_at.2.1 ∈ zTbl ∧ Cond.selects mTap_at.2.1.cls mTap_at.2.1 mTap_at.2.1 ∈ zTbl := ⟨zi_ml 335 (by decide +kernel), zi_im 336 (by decide +kernel), zi_se 337 (by decide +kernel)⟩
theorem lk9_85 : Cond.methodLink (zON 9) 85 mShe_hasPlace.2.1 ∈ zTbl ∧ Cond.instanceMethod mShe_hasPlace.2.1 ∈ zTbl ∧ Cond.selects mShe_hasPlace.2.1.cls mShe_hasPlace.2.1 mShe_hasPlace.2.1 ∈ zTbl := ⟨zi_ml 343 (by decide +kernel), zi_im 344 (by decide +kernel), zi_se 345 (by decide +kernel)⟩
theorem lk9_89 : Cond.methodLink (zON 9) 89 mTap_areLetters.2.1 ∈ zTbl ∧ Cond.instanceMethod mTap_areLetters.2.1 ∈ zTbl ∧ Cond.selects mTap_areLetters.2.1.cls mTap_areLetters.2.1 mTap_areLetters.2.1 ∈ zTbl := ⟨zi_ml 347 (by decide +kernel), zi_im 348 (by decide +kernel), zi_se 349 (by decide +kernel)⟩
theorem lk9_93 : Cond.methodLink (zON 9) 93 mSR_refused.2.1 ∈ zTbl ∧ Cond.instanceMethod mSR_refused.2.1 ∈ zTbl ∧ Cond.selects mSR_refused.2.1.cls mSR_refused.2.1 mSR_refused.2.1 ∈ zTbl := ⟨zi_ml 354 (by decide +kernel), zi_im 356 (by decide +kernel), zi_sp 0 (by decide +kernel)⟩
theorem lk9_96 : Cond.methodLink (zON 9) 96 mSR_whyNoRoomForTape.2.1 ∈ zTbl ∧ Cond.instanceMethod mSR_whyNoRoomForTape.2.1 ∈ zTbl ∧ Cond.selects mSR_whyNoRoomForTape.2.1.cls mSR_whyNoRoomForTape.2.1 mSR_whyNoRoomForTape.2.1 ∈ zTbl := ⟨zi_ml 358 (by decide +kernel), zi_im 360 (by decide +kernel), zi_sp 1 (by decide +kernel)⟩
theorem lk9_100 : Cond.methodLink (zON 9) 100 mSR_begin.2.1 ∈ zTbl ∧ Cond.instanceMethod mSR_begin.2.1 ∈ zTbl ∧ Cond.selects mSR_begin.2.1.cls mSR_begin.2.1 mSR_begin.2.1 ∈ zTbl := ⟨zi_ml 362 (by decide +kernel), zi_im 364 (by decide +kernel), zi_sp 2 (by decide +kernel)⟩
theorem lk9_104 : Cond.methodLink (zON 9) 104 mShe_put.2.1 ∈ zTbl ∧ Cond.instanceMethod mShe_put.2.1 ∈ zTbl ∧ Cond.selects mShe_put.2.1.cls mShe_put.2.1 mShe_put.2.1 ∈ zTbl := ⟨zi_ml 392 (by decide +kernel), zi_im 393 (by decide +kernel), zi_se 394 (by decide +kernel)⟩
theorem lk9_111 : Cond.methodLink (zON 9) 111 mSR_granted.2.1 ∈ zTbl ∧ Cond.instanceMethod mSR_granted.2.1 ∈ zTbl ∧ Cond.selects mSR_granted.2.1.cls mSR_granted.2.1 mSR_granted.2.1 ∈ zTbl := ⟨zi_ml 405 (by decide +kernel), zi_im 407 (by decide +kernel), zi_sp 3 (by decide +kernel)⟩
theorem lk9_114 : Cond.methodLink (zON 9) 114 mShe_isRange.2.1 ∈ zTbl ∧ Cond.instanceMethod mShe_isRange.2.1 ∈ zTbl ∧ Cond.selects mShe_isRange.2.1.cls mShe_isRange.2.1 mShe_isRange.2.1 ∈ zTbl := ⟨zi_ml 413 (by decide +kernel), zi_im 414 (by decide +kernel), zi_se 415 (by decide +kernel)⟩
theorem lk9_118 : Cond.methodLink (zON 9) 118 mShe_lettersGo.2.1 ∈ zTbl ∧ Cond.instanceMethod mShe_lettersGo.2.1 ∈ zTbl ∧ Cond.selects mShe_lettersGo.2.1.cls mShe_lettersGo.2.1 mShe_lettersGo.2.1 ∈ zTbl := ⟨zi_ml 417 (by decide +kernel), zi_im 418 (by decide +kernel), zi_se 419 (by decide +kernel)⟩
theorem lk9_122 : Cond.methodLink (zON 9) 122 mShe_lettersMove.2.1 ∈ zTbl ∧ Cond.instanceMethod mShe_lettersMove.2.1 ∈ zTbl ∧ Cond.selects mShe_lettersMove.2.1.cls mShe_lettersMove.2.1 mShe_lettersMove.2.1 ∈ zTbl := ⟨zi_ml 443 (by decide +kernel), zi_im 444 (by decide +kernel), zi_se 445 (by decide +kernel)⟩
theorem lk9_126 : Cond.methodLink (zON 9) 126 mSR_isWithin.2.1 ∈ zTbl ∧ Cond.static mSR_isWithin.2.1 ∈ zTbl := ⟨zi_ml 474 (by decide +kernel), zi_st 475 (by decide +kernel)⟩
theorem lk9_129 : Cond.methodLink (zON 9) 129 mSR_isBrush.2.1 ∈ zTbl ∧ Cond.static mSR_isBrush.2.1 ∈ zTbl := ⟨zi_ml 477 (by decide +kernel), zi_st 478 (by decide +kernel)⟩
theorem lk9_169 : Cond.methodLink (zON 9) 169 mShe_hasSpan.2.1 ∈ zTbl ∧ Cond.instanceMethod mShe_hasSpan.2.1 ∈ zTbl ∧ Cond.selects mShe_hasSpan.2.1.cls mShe_hasSpan.2.1 mShe_hasSpan.2.1 ∈ zTbl := ⟨zi_ml 487 (by decide +kernel), zi_im 488 (by decide +kernel), zi_se 489 (by decide +kernel)⟩
theorem lk9_172 : Cond.methodLink (zON 9) 172 mShe_standingSpans.2.1 ∈ zTbl ∧ Cond.instanceMethod mShe_standingSpans.2.1 ∈ zTbl ∧ Cond.selects mShe_standingSpans.2.1.cls mShe_standingSpans.2.1 mShe_standingSpans.2.1 ∈ zTbl := ⟨zi_ml 491 (by decide +kernel), zi_im 492 (by decide +kernel), zi_se 493 (by decide +kernel)⟩
theorem lk9_178 : Cond.methodLink (zON 9) 178 mSty_brushed.2.1 ∈ zTbl ∧ Cond.static mSty_brushed.2.1 ∈ zTbl := ⟨zi_ml 507 (by decide +kernel), zi_st 508 (by decide +kernel)⟩
theorem lk9_184 : Cond.methodLink (zON 9) 184 mSR_looksNow.2.1 ∈ zTbl ∧ Cond.instanceMethod mSR_looksNow.2.1 ∈ zTbl ∧ Cond.selects mSR_looksNow.2.1.cls mSR_looksNow.2.1 mSR_looksNow.2.1 ∈ zTbl := ⟨zi_ml 530 (by decide +kernel), zi_im 532 (by decide +kernel), zi_sp 4 (by decide +kernel)⟩
theorem lk9_210 : Cond.methodLink (zON 9) 210 mShe_hasAnchor.2.1 ∈ zTbl ∧ Cond.instanceMethod mShe_hasAnchor.2.1 ∈ zTbl ∧ Cond.selects mShe_hasAnchor.2.1.cls mShe_hasAnchor.2.1 mShe_hasAnchor.2.1 ∈ zTbl := ⟨zi_ml 554 (by decide +kernel), zi_im 555 (by decide +kernel), zi_se 556 (by decide +kernel)⟩
theorem lk9_213 : Cond.methodLink (zON 9) 213 mRea_parse.2.1 ∈ zTbl ∧ Cond.instanceMethod mRea_parse.2.1 ∈ zTbl ∧ Cond.selects mRea_parse.2.1.cls mRea_parse.2.1 mRea_parse.2.1 ∈ zTbl := ⟨zi_ml 562 (by decide +kernel), zi_im 563 (by decide +kernel), zi_se 564 (by decide +kernel)⟩
theorem lk9_220 : Cond.methodLink (zON 9) 220 mShe_startAnew.2.1 ∈ zTbl ∧ Cond.instanceMethod mShe_startAnew.2.1 ∈ zTbl ∧ Cond.selects mShe_startAnew.2.1.cls mShe_startAnew.2.1 mShe_startAnew.2.1 ∈ zTbl := ⟨zi_ml 592 (by decide +kernel), zi_im 593 (by decide +kernel), zi_se 594 (by decide +kernel)⟩
theorem lk9_224 : Cond.methodLink (zON 9) 224 mWri_compose.2.1 ∈ zTbl ∧ Cond.instanceMethod mWri_compose.2.1 ∈ zTbl ∧ Cond.selects mWri_compose.2.1.cls mWri_compose.2.1 mWri_compose.2.1 ∈ zTbl := ⟨zi_ml 604 (by decide +kernel), zi_im 605 (by decide +kernel), zi_se 606 (by decide +kernel)⟩
theorem lk9_231 : Cond.methodLink (zON 9) 231 mTap_become.2.1 ∈ zTbl ∧ Cond.instanceMethod mTap_become.2.1 ∈ zTbl ∧ Cond.selects mTap_become.2.1.cls mTap_become.2.1 mTap_become.2.1 ∈ zTbl := ⟨zi_ml 635 (by decide +kernel), zi_im 636 (by decide +kernel), zi_se 637 (by decide +kernel)⟩
theorem lk9_238 : Cond.methodLink (zON 9) 238 mHis_takeBack.2.1 ∈ zTbl ∧ Cond.instanceMethod mHis_takeBack.2.1 ∈ zTbl ∧ Cond.selects mHis_takeBack.2.1.cls mHis_takeBack.2.1 mHis_takeBack.2.1 ∈ zTbl := ⟨zi_ml 645 (by decide +kernel), zi_im 646 (by decide +kernel), zi_se 647 (by decide +kernel)⟩
theorem lk9_242 : Cond.methodLink (zON 9) 242 mShe_become.2.1 ∈ zTbl ∧ Cond.instanceMethod mShe_become.2.1 ∈ zTbl ∧ Cond.selects mShe_become.2.1.cls mShe_become.2.1 mShe_become.2.1 ∈ zTbl := ⟨zi_ml 660 (by decide +kernel), zi_im 371 (by decide +kernel), zi_se 372 (by decide +kernel)⟩
theorem lk9_245 : Cond.methodLink (zON 9) 245 mShe_hasLetter.2.1 ∈ zTbl ∧ Cond.instanceMethod mShe_hasLetter.2.1 ∈ zTbl ∧ Cond.selects mShe_hasLetter.2.1.cls mShe_hasLetter.2.1 mShe_hasLetter.2.1 ∈ zTbl := ⟨zi_ml 669 (by decide +kernel), zi_im 670 (by decide +kernel), zi_se 671 (by decide +kernel)⟩
theorem lk9_251 : Cond.methodLink (zON 9) 251 mSty_flagsOf.2.1 ∈ zTbl ∧ Cond.static mSty_flagsOf.2.1 ∈ zTbl := ⟨zi_ml 677 (by decide +kernel), zi_st 511 (by decide +kernel)⟩
theorem lk9_254 : Cond.methodLink (zON 9) 254 mSty_colorOf.2.1 ∈ zTbl ∧ Cond.static mSty_colorOf.2.1 ∈ zTbl := ⟨zi_ml 678 (by decide +kernel), zi_st 514 (by decide +kernel)⟩
theorem lk9_257 : Cond.methodLink (zON 9) 257 mSty_sizeOf.2.1 ∈ zTbl ∧ Cond.static mSty_sizeOf.2.1 ∈ zTbl := ⟨zi_ml 679 (by decide +kernel), zi_st 517 (by decide +kernel)⟩
theorem lk9_260 : Cond.methodLink (zON 9) 260 mLoo_firstOfRun.2.1 ∈ zTbl ∧ Cond.instanceMethod mLoo_firstOfRun.2.1 ∈ zTbl ∧ Cond.selects mLoo_firstOfRun.2.1.cls mLoo_firstOfRun.2.1 mLoo_firstOfRun.2.1 ∈ zTbl := ⟨zi_ml 684 (by decide +kernel), zi_im 685 (by decide +kernel), zi_se 686 (by decide +kernel)⟩
theorem lk9_263 : Cond.methodLink (zON 9) 263 mLoo_endOfRun.2.1 ∈ zTbl ∧ Cond.instanceMethod mLoo_endOfRun.2.1 ∈ zTbl ∧ Cond.selects mLoo_endOfRun.2.1.cls mLoo_endOfRun.2.1 mLoo_endOfRun.2.1 ∈ zTbl := ⟨zi_ml 689 (by decide +kernel), zi_im 690 (by decide +kernel), zi_se 691 (by decide +kernel)⟩
theorem lk9_266 : Cond.methodLink (zON 9) 266 mSpa_liesOver.2.1 ∈ zTbl ∧ Cond.instanceMethod mSpa_liesOver.2.1 ∈ zTbl ∧ Cond.selects mSpa_liesOver.2.1.cls mSpa_liesOver.2.1 mSpa_liesOver.2.1 ∈ zTbl := ⟨zi_ml 697 (by decide +kernel), zi_im 698 (by decide +kernel), zi_se 699 (by decide +kernel)⟩
theorem lk9_269 : Cond.methodLink (zON 9) 269 mSpa_speaksOf.2.1 ∈ zTbl ∧ Cond.instanceMethod mSpa_speaksOf.2.1 ∈ zTbl ∧ Cond.selects mSpa_speaksOf.2.1.cls mSpa_speaksOf.2.1 mSpa_speaksOf.2.1 ∈ zTbl := ⟨zi_ml 705 (by decide +kernel), zi_im 706 (by decide +kernel), zi_se 707 (by decide +kernel)⟩
theorem lk9_275 : Cond.methodLink (zON 9) 275 mSR_isIdle.2.1 ∈ zTbl ∧ Cond.instanceMethod mSR_isIdle.2.1 ∈ zTbl ∧ Cond.selects mSR_isIdle.2.1.cls mSR_isIdle.2.1 mSR_isIdle.2.1 ∈ zTbl := ⟨zi_ml 714 (by decide +kernel), zi_im 716 (by decide +kernel), zi_sp 16 (by decide +kernel)⟩
theorem lk9_278 : Cond.methodLink (zON 9) 278 mSR_runsWithout.2.1 ∈ zTbl ∧ Cond.instanceMethod mSR_runsWithout.2.1 ∈ zTbl ∧ Cond.selects mSR_runsWithout.2.1.cls mSR_runsWithout.2.1 mSR_runsWithout.2.1 ∈ zTbl := ⟨zi_ml 722 (by decide +kernel), zi_im 724 (by decide +kernel), zi_sp 17 (by decide +kernel)⟩
theorem lk9_281 : Cond.methodLink (zON 9) 281 mSR_firstStand.2.1 ∈ zTbl ∧ Cond.instanceMethod mSR_firstStand.2.1 ∈ zTbl ∧ Cond.selects mSR_firstStand.2.1.cls mSR_firstStand.2.1 mSR_firstStand.2.1 ∈ zTbl := ⟨zi_ml 738 (by decide +kernel), zi_im 740 (by decide +kernel), zi_sp 18 (by decide +kernel)⟩
theorem lk9_285 : Cond.methodLink (zON 9) 285 mSR_isFilter.2.1 ∈ zTbl ∧ Cond.static mSR_isFilter.2.1 ∈ zTbl := ⟨zi_ml 749 (by decide +kernel), zi_st 750 (by decide +kernel)⟩
theorem lk9_289 : Cond.methodLink (zON 9) 289 mSty_suits.2.1 ∈ zTbl ∧ Cond.static mSty_suits.2.1 ∈ zTbl := ⟨zi_ml 742 (by decide +kernel), zi_st 743 (by decide +kernel)⟩
theorem lk9_292 : Cond.methodLink (zON 9) 292 mPla_afterComing.2.1 ∈ zTbl ∧ Cond.static mPla_afterComing.2.1 ∈ zTbl := ⟨zi_ml 760 (by decide +kernel), zi_st 402 (by decide +kernel)⟩
theorem lk9_298 : Cond.methodLink (zON 9) 298 mPla_afterGoing.2.1 ∈ zTbl ∧ Cond.static mPla_afterGoing.2.1 ∈ zTbl := ⟨zi_ml 761 (by decide +kernel), zi_st 427 (by decide +kernel)⟩
theorem lk9_301 : Cond.methodLink (zON 9) 301 mHis_placeThrough.2.1 ∈ zTbl ∧ Cond.instanceMethod mHis_placeThrough.2.1 ∈ zTbl ∧ Cond.selects mHis_placeThrough.2.1.cls mHis_placeThrough.2.1 mHis_placeThrough.2.1 ∈ zTbl := ⟨zi_ml 766 (by decide +kernel), zi_im 767 (by decide +kernel), zi_se 768 (by decide +kernel)⟩
theorem lk9_304 : Cond.methodLink (zON 9) 304 mSR_runsIfRaised.2.1 ∈ zTbl ∧ Cond.instanceMethod mSR_runsIfRaised.2.1 ∈ zTbl ∧ Cond.selects mSR_runsIfRaised.2.1.cls mSR_runsIfRaised.2.1 mSR_runsIfRaised.2.1 ∈ zTbl := ⟨zi_ml 789 (by decide +kernel), zi_im 791 (by decide +kernel), zi_sp 19 (by decide +kernel)⟩
theorem lk9_308 : Cond.methodLink (zON 9) 308 mSpa_crosses.2.1 ∈ zTbl ∧ Cond.instanceMethod mSpa_crosses.2.1 ∈ zTbl ∧ Cond.selects mSpa_crosses.2.1.cls mSpa_crosses.2.1 mSpa_crosses.2.1 ∈ zTbl := ⟨zi_ml 801 (by decide +kernel), zi_im 802 (by decide +kernel), zi_se 803 (by decide +kernel)⟩
theorem lk9_312 : Cond.methodLink (zON 9) 312 mLoo_howManyRuns.2.1 ∈ zTbl ∧ Cond.instanceMethod mLoo_howManyRuns.2.1 ∈ zTbl ∧ Cond.selects mLoo_howManyRuns.2.1.cls mLoo_howManyRuns.2.1 mLoo_howManyRuns.2.1 ∈ zTbl := ⟨zi_ml 726 (by decide +kernel), zi_im 727 (by decide +kernel), zi_se 728 (by decide +kernel)⟩
theorem lk9_315 : Cond.methodLink (zON 9) 315 mShe_standingAnchors.2.1 ∈ zTbl ∧ Cond.instanceMethod mShe_standingAnchors.2.1 ∈ zTbl ∧ Cond.selects mShe_standingAnchors.2.1.cls mShe_standingAnchors.2.1 mShe_standingAnchors.2.1 ∈ zTbl := ⟨zi_ml 813 (by decide +kernel), zi_im 814 (by decide +kernel), zi_se 815 (by decide +kernel)⟩
theorem lk9_318 : Cond.methodLink (zON 9) 318 mLoo_longestLength.2.1 ∈ zTbl ∧ Cond.instanceMethod mLoo_longestLength.2.1 ∈ zTbl ∧ Cond.selects mLoo_longestLength.2.1.cls mLoo_longestLength.2.1 mLoo_longestLength.2.1 ∈ zTbl := ⟨zi_ml 817 (by decide +kernel), zi_im 818 (by decide +kernel), zi_se 819 (by decide +kernel)⟩
theorem lk9_321 : Cond.methodLink (zON 9) 321 mLoo_longestRun.2.1 ∈ zTbl ∧ Cond.instanceMethod mLoo_longestRun.2.1 ∈ zTbl ∧ Cond.selects mLoo_longestRun.2.1.cls mLoo_longestRun.2.1 mLoo_longestRun.2.1 ∈ zTbl := ⟨zi_ml 821 (by decide +kernel), zi_im 822 (by decide +kernel), zi_se 823 (by decide +kernel)⟩
theorem lk9_324 : Cond.methodLink (zON 9) 324 mLoo_unlikeStyles.2.1 ∈ zTbl ∧ Cond.instanceMethod mLoo_unlikeStyles.2.1 ∈ zTbl ∧ Cond.selects mLoo_unlikeStyles.2.1.cls mLoo_unlikeStyles.2.1 mLoo_unlikeStyles.2.1 ∈ zTbl := ⟨zi_ml 826 (by decide +kernel), zi_im 827 (by decide +kernel), zi_se 828 (by decide +kernel)⟩
theorem lk9_327 : Cond.methodLink (zON 9) 327 mShe_mostSpansOverLetter.2.1 ∈ zTbl ∧ Cond.instanceMethod mShe_mostSpansOverLetter.2.1 ∈ zTbl ∧ Cond.selects mShe_mostSpansOverLetter.2.1.cls mShe_mostSpansOverLetter.2.1 mShe_mostSpansOverLetter.2.1 ∈ zTbl := ⟨zi_ml 834 (by decide +kernel), zi_im 835 (by decide +kernel), zi_se 836 (by decide +kernel)⟩
theorem lk9_330 : Cond.methodLink (zON 9) 330 mShe_lostOfAll.2.1 ∈ zTbl ∧ Cond.instanceMethod mShe_lostOfAll.2.1 ∈ zTbl ∧ Cond.selects mShe_lostOfAll.2.1.cls mShe_lostOfAll.2.1 mShe_lostOfAll.2.1 ∈ zTbl := ⟨zi_ml 840 (by decide +kernel), zi_im 841 (by decide +kernel), zi_se 842 (by decide +kernel)⟩
theorem lk9_333 : Cond.methodLink (zON 9) 333 mHis_keep.2.1 ∈ zTbl ∧ Cond.instanceMethod mHis_keep.2.1 ∈ zTbl ∧ Cond.selects mHis_keep.2.1.cls mHis_keep.2.1 mHis_keep.2.1 ∈ zTbl := ⟨zi_ml 366 (by decide +kernel), zi_im 367 (by decide +kernel), zi_se 368 (by decide +kernel)⟩
theorem lk9_337 : Cond.methodLink (zON 9) 337 mLoo_see.2.1 ∈ zTbl ∧ Cond.instanceMethod mLoo_see.2.1 ∈ zTbl ∧ Cond.selects mLoo_see.2.1.cls mLoo_see.2.1 mLoo_see.2.1 ∈ zTbl := ⟨zi_ml 534 (by decide +kernel), zi_im 535 (by decide +kernel), zi_se 536 (by decide +kernel)⟩
theorem lk9_341 : Cond.methodLink (zON 9) 341 mSR_isColorOrNone.2.1 ∈ zTbl ∧ Cond.static mSR_isColorOrNone.2.1 ∈ zTbl := ⟨zi_ml 480 (by decide +kernel), zi_st 481 (by decide +kernel)⟩
theorem lk9_344 : Cond.methodLink (zON 9) 344 mLoo_isLike.2.1 ∈ zTbl ∧ Cond.instanceMethod mLoo_isLike.2.1 ∈ zTbl ∧ Cond.selects mLoo_isLike.2.1.cls mLoo_isLike.2.1 mLoo_isLike.2.1 ∈ zTbl := ⟨zi_ml 718 (by decide +kernel), zi_im 719 (by decide +kernel), zi_se 720 (by decide +kernel)⟩
theorem lk0_24 : Cond.methodLink (zON 0) 24 mPla_afterComing.2.1 ∈ zTbl ∧ Cond.static mPla_afterComing.2.1 ∈ zTbl := ⟨zi_ml 775 (by decide +kernel), zi_st 402 (by decide +kernel)⟩
theorem lk0_30 : Cond.methodLink (zON 0) 30 mPla_afterGoing.2.1 ∈ zTbl ∧ Cond.static mPla_afterGoing.2.1 ∈ zTbl := ⟨zi_ml 776 (by decide +kernel), zi_st 427 (by decide +kernel)⟩
theorem lk0_34 : Cond.methodLink (zON 0) 34 mPla_afterMove.2.1 ∈ zTbl ∧ Cond.static mPla_afterMove.2.1 ∈ zTbl := ⟨zi_ml 777 (by decide +kernel), zi_st 467 (by decide +kernel)⟩
theorem lk0_38 : Cond.methodLink (zON 0) 38 mPla_afterSwap.2.1 ∈ zTbl ∧ Cond.static mPla_afterSwap.2.1 ∈ zTbl := ⟨zi_ml 778 (by decide +kernel), zi_st 779 (by decide +kernel)⟩
theorem lk1_23 : Cond.methodLink (zON 1) 23 mPla_afterGoing.2.1 ∈ zTbl ∧ Cond.static mPla_afterGoing.2.1 ∈ zTbl := ⟨zi_ml 434 (by decide +kernel), zi_st 427 (by decide +kernel)⟩
theorem lk2_30 : Cond.methodLink (zON 2) 30 mShe_init.2.1 ∈ zTbl ∧ Cond.instanceMethod mShe_init.2.1 ∈ zTbl := ⟨zi_ml 175 (by decide +kernel), zi_im 27 (by decide +kernel)⟩
theorem lk2_31 : Cond.methodLinkNest (zON 2) 31 mAct_init.2.1 "StyledRuns" ∈ zNs ∧ Cond.instanceMethod mAct_init.2.1 ∈ zTbl := ⟨by decide +kernel, zi_im 178 (by decide +kernel)⟩
theorem lk2_32 : Cond.methodLink (zON 2) 32 mShe_become.2.1 ∈ zTbl ∧ Cond.instanceMethod mShe_become.2.1 ∈ zTbl ∧ Cond.selects mShe_become.2.1.cls mShe_become.2.1 mShe_become.2.1 ∈ zTbl := ⟨zi_ml 370 (by decide +kernel), zi_im 371 (by decide +kernel), zi_se 372 (by decide +kernel)⟩
theorem lk2_36 : Cond.methodLink (zON 2) 36 mAct_become.2.1 ∈ zTbl ∧ Cond.instanceMethod mAct_become.2.1 ∈ zTbl ∧ Cond.selects mAct_become.2.1.cls mAct_become.2.1 mAct_become.2.1 ∈ zTbl := ⟨zi_ml 385 (by decide +kernel), zi_im 386 (by decide +kernel), zi_se 387 (by decide +kernel)⟩
theorem lk2_39 : Cond.methodLink (zON 2) 39 mMa_min.2.1 ∈ zTbl ∧ Cond.static mMa_min.2.1 ∈ zTbl := ⟨zi_ml 389 (by decide +kernel), zi_st 390 (by decide +kernel)⟩
theorem lk2_45 : Cond.methodLink (zON 2) 45 mHis_latest.2.1 ∈ zTbl ∧ Cond.instanceMethod mHis_latest.2.1 ∈ zTbl ∧ Cond.selects mHis_latest.2.1.cls mHis_latest.2.1 mHis_latest.2.1 ∈ zTbl := ⟨zi_ml 649 (by decide +kernel), zi_im 651 (by decide +kernel), zi_sp 15 (by decide +kernel)⟩
theorem lk2_52 : Cond.methodLink (zON 2) 52 mMa_floorMod.2.1 ∈ zTbl ∧ Cond.static mMa_floorMod.2.1 ∈ zTbl := ⟨zi_ml 653 (by decide +kernel), zi_st 654 (by decide +kernel)⟩
theorem lk2_55 : Cond.methodLink (zON 2) 55 mShe_hasPlace.2.1 ∈ zTbl ∧ Cond.instanceMethod mShe_hasPlace.2.1 ∈ zTbl ∧ Cond.selects mShe_hasPlace.2.1.cls mShe_hasPlace.2.1 mShe_hasPlace.2.1 ∈ zTbl := ⟨zi_ml 770 (by decide +kernel), zi_im 344 (by decide +kernel), zi_se 345 (by decide +kernel)⟩
theorem lk2_59 : Cond.methodLink (zON 2) 59 mAct_follows.2.1 ∈ zTbl ∧ Cond.instanceMethod mAct_follows.2.1 ∈ zTbl ∧ Cond.selects mAct_follows.2.1.cls mAct_follows.2.1 mAct_follows.2.1 ∈ zTbl := ⟨zi_ml 771 (by decide +kernel), zi_im 772 (by decide +kernel), zi_se 773 (by decide +kernel)⟩
theorem lk3_25 : Cond.methodLink (zON 3) 25 arraycopyName ∈ zTbl ∧ Cond.native arraycopyName ∈ zTbl ∧ Cond.static arraycopyName ∈ zTbl ∧ Cond.initialized "java/lang/System" ∈ zTbl := ⟨zi_ml 538 (by decide +kernel), zi_na 376 (by decide +kernel), zi_st 375 (by decide +kernel), zi_init 12 (by decide +kernel)⟩
theorem lk3_47 : Cond.methodLink (zON 3) 47 mLoo_brush.2.1 ∈ zTbl ∧ Cond.instanceMethod mLoo_brush.2.1 ∈ zTbl ∧ Cond.selects mLoo_brush.2.1.cls mLoo_brush.2.1 mLoo_brush.2.1 ∈ zTbl := ⟨zi_ml 539 (by decide +kernel), zi_im 541 (by decide +kernel), zi_sp 5 (by decide +kernel)⟩
theorem lk3_54 : Cond.methodLink (zON 3) 54 mMa_min.2.1 ∈ zTbl ∧ Cond.static mMa_min.2.1 ∈ zTbl := ⟨zi_ml 543 (by decide +kernel), zi_st 390 (by decide +kernel)⟩
theorem lk3_63 : Cond.methodLink (zON 3) 63 mMa_max.2.1 ∈ zTbl ∧ Cond.static mMa_max.2.1 ∈ zTbl := ⟨zi_ml 544 (by decide +kernel), zi_st 521 (by decide +kernel)⟩
theorem lk3_78 : Cond.methodLink (zON 3) 78 mSty_brushed.2.1 ∈ zTbl ∧ Cond.static mSty_brushed.2.1 ∈ zTbl := ⟨zi_ml 545 (by decide +kernel), zi_st 508 (by decide +kernel)⟩
theorem lk3_84 : Cond.methodLink (zON 3) 84 mLoo_beginsRun.2.1 ∈ zTbl ∧ Cond.instanceMethod mLoo_beginsRun.2.1 ∈ zTbl ∧ Cond.selects mLoo_beginsRun.2.1.cls mLoo_beginsRun.2.1 mLoo_beginsRun.2.1 ∈ zTbl := ⟨zi_ml 688 (by decide +kernel), zi_im 609 (by decide +kernel), zi_se 610 (by decide +kernel)⟩
theorem lk3_88 : Cond.methodLink (zON 3) 88 mLoo_longestLength.2.1 ∈ zTbl ∧ Cond.instanceMethod mLoo_longestLength.2.1 ∈ zTbl ∧ Cond.selects mLoo_longestLength.2.1.cls mLoo_longestLength.2.1 mLoo_longestLength.2.1 ∈ zTbl := ⟨zi_ml 825 (by decide +kernel), zi_im 818 (by decide +kernel), zi_se 819 (by decide +kernel)⟩
theorem lk3_92 : Cond.methodLink (zON 3) 92 mLoo_standsAhead.2.1 ∈ zTbl ∧ Cond.instanceMethod mLoo_standsAhead.2.1 ∈ zTbl ∧ Cond.selects mLoo_standsAhead.2.1.cls mLoo_standsAhead.2.1 mLoo_standsAhead.2.1 ∈ zTbl := ⟨zi_ml 830 (by decide +kernel), zi_im 832 (by decide +kernel), zi_sp 20 (by decide +kernel)⟩
theorem lk11_7 : Cond.methodLink (zON 11) 7 mMa_min.2.1 ∈ zTbl ∧ Cond.static mMa_min.2.1 ∈ zTbl := ⟨zi_ml 429 (by decide +kernel), zi_st 390 (by decide +kernel)⟩
theorem lk11_13 : Cond.methodLink (zON 11) 13 mPla_afterGoing.2.1 ∈ zTbl ∧ Cond.static mPla_afterGoing.2.1 ∈ zTbl := ⟨zi_ml 463 (by decide +kernel), zi_st 427 (by decide +kernel)⟩
theorem lk11_19 : Cond.methodLink (zON 11) 19 mPla_landing.2.1 ∈ zTbl ∧ Cond.static mPla_landing.2.1 ∈ zTbl := ⟨zi_ml 464 (by decide +kernel), zi_st 458 (by decide +kernel)⟩
theorem lk11_22 : Cond.methodLink (zON 11) 22 mPla_afterComing.2.1 ∈ zTbl ∧ Cond.static mPla_afterComing.2.1 ∈ zTbl := ⟨zi_ml 465 (by decide +kernel), zi_st 402 (by decide +kernel)⟩
theorem lk11_26 : Cond.methodLink (zON 11) 26 mPla_leftByMove.2.1 ∈ zTbl ∧ Cond.static mPla_leftByMove.2.1 ∈ zTbl := ⟨zi_ml 469 (by decide +kernel), zi_st 461 (by decide +kernel)⟩
theorem lk4_41 : Cond.methodLink (zON 4) 41 mTap_at.2.1 ∈ zTbl ∧ Cond.instanceMethod mTap_at.2.1 ∈ zTbl ∧ Cond.selects mTap_at.2.1.cls mTap_at.2.1 mTap_at.2.1 ∈ zTbl := ⟨zi_ml 566 (by decide +kernel), zi_im 336 (by decide +kernel), zi_se 337 (by decide +kernel)⟩
theorem lk4_45 : Cond.methodLink (zON 4) 45 mRea_afterMark.2.1 ∈ zTbl ∧ Cond.instanceMethod mRea_afterMark.2.1 ∈ zTbl ∧ Cond.selects mRea_afterMark.2.1.cls mRea_afterMark.2.1 mRea_afterMark.2.1 ∈ zTbl := ⟨zi_ml 567 (by decide +kernel), zi_im 569 (by decide +kernel), zi_sp 6 (by decide +kernel)⟩
theorem lk4_49 : Cond.methodLink (zON 4) 49 mRea_afterLetter.2.1 ∈ zTbl ∧ Cond.instanceMethod mRea_afterLetter.2.1 ∈ zTbl ∧ Cond.selects mRea_afterLetter.2.1.cls mRea_afterLetter.2.1 mRea_afterLetter.2.1 ∈ zTbl := ⟨zi_ml 587 (by decide +kernel), zi_im 589 (by decide +kernel), zi_sp 9 (by decide +kernel)⟩
theorem lk4_52 : Cond.methodLink (zON 4) 52 mTap_isLetter.2.1 ∈ zTbl ∧ Cond.static mTap_isLetter.2.1 ∈ zTbl := ⟨zi_ml 591 (by decide +kernel), zi_st 352 (by decide +kernel)⟩
theorem lk4_56 : Cond.methodLink (zON 4) 56 mRea_kindOf.2.1 ∈ zTbl ∧ Cond.static mRea_kindOf.2.1 ∈ zTbl := ⟨zi_ml 571 (by decide +kernel), zi_st 572 (by decide +kernel)⟩
theorem lk4_59 : Cond.methodLinkNest (zON 4) 59 mSR_isWithin.2.1 "StyledRuns" ∈ zNs ∧ Cond.static mSR_isWithin.2.1 ∈ zTbl := ⟨by decide +kernel, zi_st 475 (by decide +kernel)⟩
theorem lk4_63 : Cond.methodLink (zON 4) 63 mRea_closeLatest.2.1 ∈ zTbl ∧ Cond.instanceMethod mRea_closeLatest.2.1 ∈ zTbl ∧ Cond.selects mRea_closeLatest.2.1.cls mRea_closeLatest.2.1 mRea_closeLatest.2.1 ∈ zTbl := ⟨zi_ml 576 (by decide +kernel), zi_im 578 (by decide +kernel), zi_sp 7 (by decide +kernel)⟩
theorem lk4_66 : Cond.methodLink (zON 4) 66 mRea_openMark.2.1 ∈ zTbl ∧ Cond.instanceMethod mRea_openMark.2.1 ∈ zTbl ∧ Cond.selects mRea_openMark.2.1.cls mRea_openMark.2.1 mRea_openMark.2.1 ∈ zTbl := ⟨zi_ml 580 (by decide +kernel), zi_im 582 (by decide +kernel), zi_sp 8 (by decide +kernel)⟩
theorem lk4_69 : Cond.methodLink (zON 4) 69 mSty_marked.2.1 ∈ zTbl ∧ Cond.static mSty_marked.2.1 ∈ zTbl := ⟨zi_ml 584 (by decide +kernel), zi_st 585 (by decide +kernel)⟩
theorem lk5_40 : Cond.methodLinkNest (zON 5) 40 mSpa_init.2.1 "StyledRuns" ∈ zNs ∧ Cond.instanceMethod mSpa_init.2.1 ∈ zTbl := ⟨by decide +kernel, zi_im 36 (by decide +kernel)⟩
theorem lk5_41 : Cond.methodLinkNest (zON 5) 41 mAnc_init.2.1 "StyledRuns" ∈ zNs ∧ Cond.instanceMethod mAnc_init.2.1 ∈ zTbl := ⟨by decide +kernel, zi_im 88 (by decide +kernel)⟩
theorem lk5_42 : Cond.methodLink (zON 5) 42 arraycopyName ∈ zTbl ∧ Cond.native arraycopyName ∈ zTbl ∧ Cond.static arraycopyName ∈ zTbl ∧ Cond.initialized "java/lang/System" ∈ zTbl := ⟨zi_ml 374 (by decide +kernel), zi_na 376 (by decide +kernel), zi_st 375 (by decide +kernel), zi_init 12 (by decide +kernel)⟩
theorem lk5_48 : Cond.methodLink (zON 5) 48 mSpa_become.2.1 ∈ zTbl ∧ Cond.instanceMethod mSpa_become.2.1 ∈ zTbl ∧ Cond.selects mSpa_become.2.1.cls mSpa_become.2.1 mSpa_become.2.1 ∈ zTbl := ⟨zi_ml 377 (by decide +kernel), zi_im 378 (by decide +kernel), zi_se 379 (by decide +kernel)⟩
theorem lk5_52 : Cond.methodLink (zON 5) 52 mAnc_become.2.1 ∈ zTbl ∧ Cond.instanceMethod mAnc_become.2.1 ∈ zTbl ∧ Cond.selects mAnc_become.2.1.cls mAnc_become.2.1 mAnc_become.2.1 ∈ zTbl := ⟨zi_ml 381 (by decide +kernel), zi_im 382 (by decide +kernel), zi_se 383 (by decide +kernel)⟩
theorem lk5_68 : Cond.methodLink (zON 5) 68 mSpa_liesOver.2.1 ∈ zTbl ∧ Cond.instanceMethod mSpa_liesOver.2.1 ∈ zTbl ∧ Cond.selects mSpa_liesOver.2.1.cls mSpa_liesOver.2.1 mSpa_liesOver.2.1 ∈ zTbl := ⟨zi_ml 838 (by decide +kernel), zi_im 698 (by decide +kernel), zi_se 699 (by decide +kernel)⟩
theorem lk5_72 : Cond.methodLink (zON 5) 72 mMa_max.2.1 ∈ zTbl ∧ Cond.static mMa_max.2.1 ∈ zTbl := ⟨zi_ml 839 (by decide +kernel), zi_st 521 (by decide +kernel)⟩
theorem lk5_83 : Cond.methodLink (zON 5) 83 mShe_hasPlace.2.1 ∈ zTbl ∧ Cond.instanceMethod mShe_hasPlace.2.1 ∈ zTbl ∧ Cond.selects mShe_hasPlace.2.1.cls mShe_hasPlace.2.1 mShe_hasPlace.2.1 ∈ zTbl := ⟨zi_ml 396 (by decide +kernel), zi_im 344 (by decide +kernel), zi_se 345 (by decide +kernel)⟩
theorem lk5_91 : Cond.methodLink (zON 5) 91 mSpa_lettersCome.2.1 ∈ zTbl ∧ Cond.instanceMethod mSpa_lettersCome.2.1 ∈ zTbl ∧ Cond.selects mSpa_lettersCome.2.1.cls mSpa_lettersCome.2.1 mSpa_lettersCome.2.1 ∈ zTbl := ⟨zi_ml 397 (by decide +kernel), zi_im 398 (by decide +kernel), zi_se 399 (by decide +kernel)⟩
theorem lk5_101 : Cond.methodLink (zON 5) 101 mPla_afterComing.2.1 ∈ zTbl ∧ Cond.static mPla_afterComing.2.1 ∈ zTbl := ⟨zi_ml 404 (by decide +kernel), zi_st 402 (by decide +kernel)⟩
theorem lk5_107 : Cond.methodLink (zON 5) 107 mShe_isRange.2.1 ∈ zTbl ∧ Cond.instanceMethod mShe_isRange.2.1 ∈ zTbl ∧ Cond.selects mShe_isRange.2.1.cls mShe_isRange.2.1 mShe_isRange.2.1 ∈ zTbl := ⟨zi_ml 421 (by decide +kernel), zi_im 414 (by decide +kernel), zi_se 415 (by decide +kernel)⟩
theorem lk5_111 : Cond.methodLink (zON 5) 111 mSpa_lettersGo.2.1 ∈ zTbl ∧ Cond.instanceMethod mSpa_lettersGo.2.1 ∈ zTbl ∧ Cond.selects mSpa_lettersGo.2.1.cls mSpa_lettersGo.2.1 mSpa_lettersGo.2.1 ∈ zTbl := ⟨zi_ml 422 (by decide +kernel), zi_im 423 (by decide +kernel), zi_se 424 (by decide +kernel)⟩
theorem lk5_114 : Cond.methodLink (zON 5) 114 mAnc_lettersGo.2.1 ∈ zTbl ∧ Cond.instanceMethod mAnc_lettersGo.2.1 ∈ zTbl ∧ Cond.selects mAnc_lettersGo.2.1.cls mAnc_lettersGo.2.1 mAnc_lettersGo.2.1 ∈ zTbl := ⟨zi_ml 430 (by decide +kernel), zi_im 431 (by decide +kernel), zi_se 432 (by decide +kernel)⟩
theorem lk5_115 : Cond.methodLink (zON 5) 115 mShe_changeSides.2.1 ∈ zTbl ∧ Cond.static mShe_changeSides.2.1 ∈ zTbl := ⟨zi_ml 447 (by decide +kernel), zi_st 448 (by decide +kernel)⟩
theorem lk5_119 : Cond.methodLink (zON 5) 119 mSpa_lettersMove.2.1 ∈ zTbl ∧ Cond.instanceMethod mSpa_lettersMove.2.1 ∈ zTbl ∧ Cond.selects mSpa_lettersMove.2.1.cls mSpa_lettersMove.2.1 mSpa_lettersMove.2.1 ∈ zTbl := ⟨zi_ml 453 (by decide +kernel), zi_im 454 (by decide +kernel), zi_se 455 (by decide +kernel)⟩
theorem lk5_123 : Cond.methodLink (zON 5) 123 mPla_afterMove.2.1 ∈ zTbl ∧ Cond.static mPla_afterMove.2.1 ∈ zTbl := ⟨zi_ml 466 (by decide +kernel), zi_st 467 (by decide +kernel)⟩
theorem lk5_127 : Cond.methodLink (zON 5) 127 mShe_turn.2.1 ∈ zTbl ∧ Cond.static mShe_turn.2.1 ∈ zTbl := ⟨zi_ml 450 (by decide +kernel), zi_st 451 (by decide +kernel)⟩
theorem lk6_40 : Cond.methodLink (zON 6) 40 mSpa_covers.2.1 ∈ zTbl ∧ Cond.instanceMethod mSpa_covers.2.1 ∈ zTbl ∧ Cond.selects mSpa_covers.2.1.cls mSpa_covers.2.1 mSpa_covers.2.1 ∈ zTbl := ⟨zi_ml 805 (by decide +kernel), zi_im 806 (by decide +kernel), zi_se 807 (by decide +kernel)⟩
theorem lk6_44 : Cond.methodLink (zON 6) 44 mPla_afterComing.2.1 ∈ zTbl ∧ Cond.static mPla_afterComing.2.1 ∈ zTbl := ⟨zi_ml 401 (by decide +kernel), zi_st 402 (by decide +kernel)⟩
theorem lk6_50 : Cond.methodLink (zON 6) 50 mPla_afterGoing.2.1 ∈ zTbl ∧ Cond.static mPla_afterGoing.2.1 ∈ zTbl := ⟨zi_ml 426 (by decide +kernel), zi_st 427 (by decide +kernel)⟩
theorem lk6_54 : Cond.methodLink (zON 6) 54 mPla_landing.2.1 ∈ zTbl ∧ Cond.static mPla_landing.2.1 ∈ zTbl := ⟨zi_ml 457 (by decide +kernel), zi_st 458 (by decide +kernel)⟩
theorem lk6_57 : Cond.methodLink (zON 6) 57 mPla_leftByMove.2.1 ∈ zTbl ∧ Cond.static mPla_leftByMove.2.1 ∈ zTbl := ⟨zi_ml 460 (by decide +kernel), zi_st 461 (by decide +kernel)⟩
theorem lk12_9 : Cond.methodLink (zON 12) 9 mSty_flagsOf.2.1 ∈ zTbl ∧ Cond.static mSty_flagsOf.2.1 ∈ zTbl := ⟨zi_ml 510 (by decide +kernel), zi_st 511 (by decide +kernel)⟩
theorem lk12_15 : Cond.methodLink (zON 12) 15 mSty_colorOf.2.1 ∈ zTbl ∧ Cond.static mSty_colorOf.2.1 ∈ zTbl := ⟨zi_ml 513 (by decide +kernel), zi_st 514 (by decide +kernel)⟩
theorem lk12_18 : Cond.methodLink (zON 12) 18 mSty_sizeOf.2.1 ∈ zTbl ∧ Cond.static mSty_sizeOf.2.1 ∈ zTbl := ⟨zi_ml 516 (by decide +kernel), zi_st 517 (by decide +kernel)⟩
theorem lk12_21 : Cond.methodLink (zON 12) 21 mMa_min.2.1 ∈ zTbl ∧ Cond.static mMa_min.2.1 ∈ zTbl := ⟨zi_ml 519 (by decide +kernel), zi_st 390 (by decide +kernel)⟩
theorem lk12_27 : Cond.methodLink (zON 12) 27 mMa_max.2.1 ∈ zTbl ∧ Cond.static mMa_max.2.1 ∈ zTbl := ⟨zi_ml 520 (by decide +kernel), zi_st 521 (by decide +kernel)⟩
theorem lk12_30 : Cond.methodLink (zON 12) 30 mSty_of.2.1 ∈ zTbl ∧ Cond.static mSty_of.2.1 ∈ zTbl := ⟨zi_ml 523 (by decide +kernel), zi_st 524 (by decide +kernel)⟩
theorem lk7_19 : Cond.methodLink (zON 7) 19 mMa_min.2.1 ∈ zTbl ∧ Cond.static mMa_min.2.1 ∈ zTbl := ⟨zi_ml 639 (by decide +kernel), zi_st 390 (by decide +kernel)⟩
theorem lk7_25 : Cond.methodLink (zON 7) 25 arraycopyName ∈ zTbl ∧ Cond.native arraycopyName ∈ zTbl ∧ Cond.static arraycopyName ∈ zTbl ∧ Cond.initialized "java/lang/System" ∈ zTbl := ⟨zi_ml 640 (by decide +kernel), zi_na 376 (by decide +kernel), zi_st 375 (by decide +kernel), zi_init 12 (by decide +kernel)⟩
theorem lk7_31 : Cond.methodLink (zON 7) 31 mTap_isLetter.2.1 ∈ zTbl ∧ Cond.static mTap_isLetter.2.1 ∈ zTbl := ⟨zi_ml 351 (by decide +kernel), zi_st 352 (by decide +kernel)⟩
theorem lk8_36 : Cond.methodLink (zON 8) 36 mLoo_beginsRun.2.1 ∈ zTbl ∧ Cond.instanceMethod mLoo_beginsRun.2.1 ∈ zTbl ∧ Cond.selects mLoo_beginsRun.2.1.cls mLoo_beginsRun.2.1 mLoo_beginsRun.2.1 ∈ zTbl := ⟨zi_ml 608 (by decide +kernel), zi_im 609 (by decide +kernel), zi_se 610 (by decide +kernel)⟩
theorem lk8_45 : Cond.methodLink (zON 8) 45 mWri_firstUnfit.2.1 ∈ zTbl ∧ Cond.instanceMethod mWri_firstUnfit.2.1 ∈ zTbl ∧ Cond.selects mWri_firstUnfit.2.1.cls mWri_firstUnfit.2.1 mWri_firstUnfit.2.1 ∈ zTbl := ⟨zi_ml 612 (by decide +kernel), zi_im 614 (by decide +kernel), zi_sp 10 (by decide +kernel)⟩
theorem lk8_49 : Cond.methodLink (zON 8) 49 mWri_closeDownTo.2.1 ∈ zTbl ∧ Cond.instanceMethod mWri_closeDownTo.2.1 ∈ zTbl ∧ Cond.selects mWri_closeDownTo.2.1.cls mWri_closeDownTo.2.1 mWri_closeDownTo.2.1 ∈ zTbl := ⟨zi_ml 619 (by decide +kernel), zi_im 621 (by decide +kernel), zi_sp 11 (by decide +kernel)⟩
theorem lk8_53 : Cond.methodLink (zON 8) 53 mWri_openLacking.2.1 ∈ zTbl ∧ Cond.instanceMethod mWri_openLacking.2.1 ∈ zTbl ∧ Cond.selects mWri_openLacking.2.1.cls mWri_openLacking.2.1 mWri_openLacking.2.1 ∈ zTbl := ⟨zi_ml 627 (by decide +kernel), zi_im 629 (by decide +kernel), zi_sp 13 (by decide +kernel)⟩
theorem lk8_59 : Cond.methodLink (zON 8) 59 mWri_add.2.1 ∈ zTbl ∧ Cond.instanceMethod mWri_add.2.1 ∈ zTbl ∧ Cond.selects mWri_add.2.1.cls mWri_add.2.1 mWri_add.2.1 ∈ zTbl := ⟨zi_ml 623 (by decide +kernel), zi_im 625 (by decide +kernel), zi_sp 12 (by decide +kernel)⟩
theorem lk8_62 : Cond.methodLink (zON 8) 62 mSty_markValue.2.1 ∈ zTbl ∧ Cond.static mSty_markValue.2.1 ∈ zTbl := ⟨zi_ml 616 (by decide +kernel), zi_st 617 (by decide +kernel)⟩
theorem lk8_68 : Cond.methodLink (zON 8) 68 mWri_isOpen.2.1 ∈ zTbl ∧ Cond.instanceMethod mWri_isOpen.2.1 ∈ zTbl ∧ Cond.selects mWri_isOpen.2.1.cls mWri_isOpen.2.1 mWri_isOpen.2.1 ∈ zTbl := ⟨zi_ml 631 (by decide +kernel), zi_im 633 (by decide +kernel), zi_sp 14 (by decide +kernel)⟩
theorem lk13_9 : Cond.methodLink (zON 13) 9 mSR_init.2.1 ∈ zTbl ∧ Cond.instanceMethod mSR_init.2.1 ∈ zTbl := ⟨zi_ml 18 (by decide +kernel), zi_im 19 (by decide +kernel)⟩
theorem lk13_12 : Cond.methodLink (zON 13) 12 mMo_init.2.1 ∈ zTbl ∧ Cond.instanceMethod mMo_init.2.1 ∈ zTbl := ⟨zi_ml 850 (by decide +kernel), zi_im 851 (by decide +kernel)⟩
theorem lk13_13 : Cond.methodLink (zON 13) 13 mSR_feed.2.1 ∈ zTbl ∧ Cond.instanceMethod mSR_feed.2.1 ∈ zTbl ∧ Cond.selects mSR_feed.2.1.cls mSR_feed.2.1 mSR_feed.2.1 ∈ zTbl := ⟨zi_ml 319 (by decide +kernel), zi_im 320 (by decide +kernel), zi_se 321 (by decide +kernel)⟩
theorem lk13_17 : Cond.methodLink (zON 13) 17 mMo_feed.2.1 ∈ zTbl ∧ Cond.instanceMethod mMo_feed.2.1 ∈ zTbl ∧ Cond.selects mMo_feed.2.1.cls mMo_feed.2.1 mMo_feed.2.1 ∈ zTbl := ⟨zi_ml 975 (by decide +kernel), zi_im 976 (by decide +kernel), zi_se 977 (by decide +kernel)⟩
theorem lk13_18 : Cond.methodLink (zON 13) 18 mSR_end.2.1 ∈ zTbl ∧ Cond.instanceMethod mSR_end.2.1 ∈ zTbl ∧ Cond.selects mSR_end.2.1.cls mSR_end.2.1 mSR_end.2.1 ∈ zTbl := ⟨zi_ml 327 (by decide +kernel), zi_im 328 (by decide +kernel), zi_se 329 (by decide +kernel)⟩
theorem lk13_22 : Cond.methodLink (zON 13) 22 mMo_end.2.1 ∈ zTbl ∧ Cond.instanceMethod mMo_end.2.1 ∈ zTbl ∧ Cond.selects mMo_end.2.1.cls mMo_end.2.1 mMo_end.2.1 ∈ zTbl := ⟨zi_ml 983 (by decide +kernel), zi_im 984 (by decide +kernel), zi_se 985 (by decide +kernel)⟩
theorem lk13_23 : Cond.methodLink (zON 13) 23 mSR_tape.2.1 ∈ zTbl ∧ Cond.instanceMethod mSR_tape.2.1 ∈ zTbl ∧ Cond.selects mSR_tape.2.1.cls mSR_tape.2.1 mSR_tape.2.1 ∈ zTbl := ⟨zi_ml 331 (by decide +kernel), zi_im 332 (by decide +kernel), zi_se 333 (by decide +kernel)⟩
theorem lk13_26 : Cond.methodLink (zON 13) 26 mMo_tape.2.1 ∈ zTbl ∧ Cond.instanceMethod mMo_tape.2.1 ∈ zTbl ∧ Cond.selects mMo_tape.2.1.cls mMo_tape.2.1 mMo_tape.2.1 ∈ zTbl := ⟨zi_ml 987 (by decide +kernel), zi_im 988 (by decide +kernel), zi_se 989 (by decide +kernel)⟩
theorem lk13_27 : Cond.methodLink (zON 13) 27 mSR_type.2.1 ∈ zTbl ∧ Cond.instanceMethod mSR_type.2.1 ∈ zTbl ∧ Cond.selects mSR_type.2.1.cls mSR_type.2.1 mSR_type.2.1 ∈ zTbl := ⟨zi_ml 339 (by decide +kernel), zi_im 340 (by decide +kernel), zi_se 341 (by decide +kernel)⟩
theorem lk13_30 : Cond.methodLink (zON 13) 30 mMo_type.2.1 ∈ zTbl ∧ Cond.instanceMethod mMo_type.2.1 ∈ zTbl ∧ Cond.selects mMo_type.2.1.cls mMo_type.2.1 mMo_type.2.1 ∈ zTbl := ⟨zi_ml 991 (by decide +kernel), zi_im 992 (by decide +kernel), zi_se 993 (by decide +kernel)⟩
theorem lk13_31 : Cond.methodLink (zON 13) 31 mSR_cut.2.1 ∈ zTbl ∧ Cond.instanceMethod mSR_cut.2.1 ∈ zTbl ∧ Cond.selects mSR_cut.2.1.cls mSR_cut.2.1 mSR_cut.2.1 ∈ zTbl := ⟨zi_ml 409 (by decide +kernel), zi_im 410 (by decide +kernel), zi_se 411 (by decide +kernel)⟩
theorem lk13_35 : Cond.methodLink (zON 13) 35 mMo_cut.2.1 ∈ zTbl ∧ Cond.instanceMethod mMo_cut.2.1 ∈ zTbl ∧ Cond.selects mMo_cut.2.1.cls mMo_cut.2.1 mMo_cut.2.1 ∈ zTbl := ⟨zi_ml 1051 (by decide +kernel), zi_im 1052 (by decide +kernel), zi_se 1053 (by decide +kernel)⟩
theorem lk13_36 : Cond.methodLink (zON 13) 36 mSR_swap.2.1 ∈ zTbl ∧ Cond.instanceMethod mSR_swap.2.1 ∈ zTbl ∧ Cond.selects mSR_swap.2.1.cls mSR_swap.2.1 mSR_swap.2.1 ∈ zTbl := ⟨zi_ml 435 (by decide +kernel), zi_im 436 (by decide +kernel), zi_se 437 (by decide +kernel)⟩
theorem lk13_39 : Cond.methodLink (zON 13) 39 mMo_swap.2.1 ∈ zTbl ∧ Cond.instanceMethod mMo_swap.2.1 ∈ zTbl ∧ Cond.selects mMo_swap.2.1.cls mMo_swap.2.1 mMo_swap.2.1 ∈ zTbl := ⟨zi_ml 1036 (by decide +kernel), zi_im 1037 (by decide +kernel), zi_se 1038 (by decide +kernel)⟩
theorem lk13_40 : Cond.methodLink (zON 13) 40 mSR_move.2.1 ∈ zTbl ∧ Cond.instanceMethod mSR_move.2.1 ∈ zTbl ∧ Cond.selects mSR_move.2.1.cls mSR_move.2.1 mSR_move.2.1 ∈ zTbl := ⟨zi_ml 439 (by decide +kernel), zi_im 440 (by decide +kernel), zi_se 441 (by decide +kernel)⟩
theorem lk13_44 : Cond.methodLink (zON 13) 44 mMo_move.2.1 ∈ zTbl ∧ Cond.instanceMethod mMo_move.2.1 ∈ zTbl ∧ Cond.selects mMo_move.2.1.cls mMo_move.2.1 mMo_move.2.1 ∈ zTbl := ⟨zi_ml 1055 (by decide +kernel), zi_im 1056 (by decide +kernel), zi_se 1057 (by decide +kernel)⟩
theorem lk13_45 : Cond.methodLink (zON 13) 45 mSR_lay.2.1 ∈ zTbl ∧ Cond.instanceMethod mSR_lay.2.1 ∈ zTbl ∧ Cond.selects mSR_lay.2.1.cls mSR_lay.2.1 mSR_lay.2.1 ∈ zTbl := ⟨zi_ml 470 (by decide +kernel), zi_im 471 (by decide +kernel), zi_se 472 (by decide +kernel)⟩
theorem lk13_49 : Cond.methodLink (zON 13) 49 mMo_lay.2.1 ∈ zTbl ∧ Cond.instanceMethod mMo_lay.2.1 ∈ zTbl ∧ Cond.selects mMo_lay.2.1.cls mMo_lay.2.1 mMo_lay.2.1 ∈ zTbl := ⟨zi_ml 1067 (by decide +kernel), zi_im 1068 (by decide +kernel), zi_se 1069 (by decide +kernel)⟩
theorem lk13_50 : Cond.methodLink (zON 13) 50 mSR_lift.2.1 ∈ zTbl ∧ Cond.instanceMethod mSR_lift.2.1 ∈ zTbl ∧ Cond.selects mSR_lift.2.1.cls mSR_lift.2.1 mSR_lift.2.1 ∈ zTbl := ⟨zi_ml 483 (by decide +kernel), zi_im 484 (by decide +kernel), zi_se 485 (by decide +kernel)⟩
theorem lk13_53 : Cond.methodLink (zON 13) 53 mMo_lift.2.1 ∈ zTbl ∧ Cond.instanceMethod mMo_lift.2.1 ∈ zTbl ∧ Cond.selects mMo_lift.2.1.cls mMo_lift.2.1 mMo_lift.2.1 ∈ zTbl := ⟨zi_ml 1080 (by decide +kernel), zi_im 1081 (by decide +kernel), zi_se 1082 (by decide +kernel)⟩
theorem lk13_54 : Cond.methodLink (zON 13) 54 mSR_set.2.1 ∈ zTbl ∧ Cond.instanceMethod mSR_set.2.1 ∈ zTbl ∧ Cond.selects mSR_set.2.1.cls mSR_set.2.1 mSR_set.2.1 ∈ zTbl := ⟨zi_ml 495 (by decide +kernel), zi_im 496 (by decide +kernel), zi_se 497 (by decide +kernel)⟩
theorem lk13_57 : Cond.methodLink (zON 13) 57 mMo_set.2.1 ∈ zTbl ∧ Cond.instanceMethod mMo_set.2.1 ∈ zTbl ∧ Cond.selects mMo_set.2.1.cls mMo_set.2.1 mMo_set.2.1 ∈ zTbl := ⟨zi_ml 1088 (by decide +kernel), zi_im 1089 (by decide +kernel), zi_se 1090 (by decide +kernel)⟩
theorem lk13_58 : Cond.methodLink (zON 13) 58 mSR_stretch.2.1 ∈ zTbl ∧ Cond.instanceMethod mSR_stretch.2.1 ∈ zTbl ∧ Cond.selects mSR_stretch.2.1.cls mSR_stretch.2.1 mSR_stretch.2.1 ∈ zTbl := ⟨zi_ml 499 (by decide +kernel), zi_im 500 (by decide +kernel), zi_se 501 (by decide +kernel)⟩
theorem lk13_61 : Cond.methodLink (zON 13) 61 mMo_stretch.2.1 ∈ zTbl ∧ Cond.instanceMethod mMo_stretch.2.1 ∈ zTbl ∧ Cond.selects mMo_stretch.2.1.cls mMo_stretch.2.1 mMo_stretch.2.1 ∈ zTbl := ⟨zi_ml 1092 (by decide +kernel), zi_im 1093 (by decide +kernel), zi_se 1094 (by decide +kernel)⟩
theorem lk13_62 : Cond.methodLink (zON 13) 62 mSR_paint.2.1 ∈ zTbl ∧ Cond.instanceMethod mSR_paint.2.1 ∈ zTbl ∧ Cond.selects mSR_paint.2.1.cls mSR_paint.2.1 mSR_paint.2.1 ∈ zTbl := ⟨zi_ml 503 (by decide +kernel), zi_im 504 (by decide +kernel), zi_se 505 (by decide +kernel)⟩
theorem lk13_66 : Cond.methodLink (zON 13) 66 mMo_paint.2.1 ∈ zTbl ∧ Cond.instanceMethod mMo_paint.2.1 ∈ zTbl ∧ Cond.selects mMo_paint.2.1.cls mMo_paint.2.1 mMo_paint.2.1 ∈ zTbl := ⟨zi_ml 1096 (by decide +kernel), zi_im 1097 (by decide +kernel), zi_se 1098 (by decide +kernel)⟩
theorem lk13_67 : Cond.methodLink (zON 13) 67 mSR_fast.2.1 ∈ zTbl ∧ Cond.instanceMethod mSR_fast.2.1 ∈ zTbl ∧ Cond.selects mSR_fast.2.1.cls mSR_fast.2.1 mSR_fast.2.1 ∈ zTbl := ⟨zi_ml 526 (by decide +kernel), zi_im 527 (by decide +kernel), zi_se 528 (by decide +kernel)⟩
theorem lk13_71 : Cond.methodLink (zON 13) 71 mMo_fast.2.1 ∈ zTbl ∧ Cond.instanceMethod mMo_fast.2.1 ∈ zTbl ∧ Cond.selects mMo_fast.2.1.cls mMo_fast.2.1 mMo_fast.2.1 ∈ zTbl := ⟨zi_ml 1112 (by decide +kernel), zi_im 1113 (by decide +kernel), zi_se 1114 (by decide +kernel)⟩
theorem lk13_72 : Cond.methodLink (zON 13) 72 mSR_pin.2.1 ∈ zTbl ∧ Cond.instanceMethod mSR_pin.2.1 ∈ zTbl ∧ Cond.selects mSR_pin.2.1.cls mSR_pin.2.1 mSR_pin.2.1 ∈ zTbl := ⟨zi_ml 546 (by decide +kernel), zi_im 547 (by decide +kernel), zi_se 548 (by decide +kernel)⟩
theorem lk13_75 : Cond.methodLink (zON 13) 75 mMo_pin.2.1 ∈ zTbl ∧ Cond.instanceMethod mMo_pin.2.1 ∈ zTbl ∧ Cond.selects mMo_pin.2.1.cls mMo_pin.2.1 mMo_pin.2.1 ∈ zTbl := ⟨zi_ml 1124 (by decide +kernel), zi_im 1125 (by decide +kernel), zi_se 1126 (by decide +kernel)⟩
theorem lk13_76 : Cond.methodLink (zON 13) 76 mSR_unpin.2.1 ∈ zTbl ∧ Cond.instanceMethod mSR_unpin.2.1 ∈ zTbl ∧ Cond.selects mSR_unpin.2.1.cls mSR_unpin.2.1 mSR_unpin.2.1 ∈ zTbl := ⟨zi_ml 550 (by decide +kernel), zi_im 551 (by decide +kernel), zi_se 552 (by decide +kernel)⟩
theorem lk13_79 : Cond.methodLink (zON 13) 79 mMo_unpin.2.1 ∈ zTbl ∧ Cond.instanceMethod mMo_unpin.2.1 ∈ zTbl ∧ Cond.selects mMo_unpin.2.1.cls mMo_unpin.2.1 mMo_unpin.2.1 ∈ zTbl := ⟨zi_ml 1128 (by decide +kernel), zi_im 1129 (by decide +kernel), zi_se 1130 (by decide +kernel)⟩
theorem lk13_80 : Cond.methodLink (zON 13) 80 mSR_read.2.1 ∈ zTbl ∧ Cond.instanceMethod mSR_read.2.1 ∈ zTbl ∧ Cond.selects mSR_read.2.1.cls mSR_read.2.1 mSR_read.2.1 ∈ zTbl := ⟨zi_ml 558 (by decide +kernel), zi_im 559 (by decide +kernel), zi_se 560 (by decide +kernel)⟩
theorem lk13_83 : Cond.methodLink (zON 13) 83 mMo_read.2.1 ∈ zTbl ∧ Cond.instanceMethod mMo_read.2.1 ∈ zTbl ∧ Cond.selects mMo_read.2.1.cls mMo_read.2.1 mMo_read.2.1 ∈ zTbl := ⟨zi_ml 1132 (by decide +kernel), zi_im 1133 (by decide +kernel), zi_se 1134 (by decide +kernel)⟩
theorem lk13_84 : Cond.methodLink (zON 13) 84 mSR_fault.2.1 ∈ zTbl ∧ Cond.instanceMethod mSR_fault.2.1 ∈ zTbl ∧ Cond.selects mSR_fault.2.1.cls mSR_fault.2.1 mSR_fault.2.1 ∈ zTbl := ⟨zi_ml 596 (by decide +kernel), zi_im 597 (by decide +kernel), zi_se 598 (by decide +kernel)⟩
theorem lk13_87 : Cond.methodLink (zON 13) 87 mMo_fault.2.1 ∈ zTbl ∧ Cond.instanceMethod mMo_fault.2.1 ∈ zTbl ∧ Cond.selects mMo_fault.2.1.cls mMo_fault.2.1 mMo_fault.2.1 ∈ zTbl := ⟨zi_ml 1155 (by decide +kernel), zi_im 1156 (by decide +kernel), zi_se 1157 (by decide +kernel)⟩
theorem lk13_88 : Cond.methodLink (zON 13) 88 mSR_write.2.1 ∈ zTbl ∧ Cond.instanceMethod mSR_write.2.1 ∈ zTbl ∧ Cond.selects mSR_write.2.1.cls mSR_write.2.1 mSR_write.2.1 ∈ zTbl := ⟨zi_ml 600 (by decide +kernel), zi_im 601 (by decide +kernel), zi_se 602 (by decide +kernel)⟩
theorem lk13_91 : Cond.methodLink (zON 13) 91 mMo_write.2.1 ∈ zTbl ∧ Cond.instanceMethod mMo_write.2.1 ∈ zTbl ∧ Cond.selects mMo_write.2.1.cls mMo_write.2.1 mMo_write.2.1 ∈ zTbl := ⟨zi_ml 1159 (by decide +kernel), zi_im 1160 (by decide +kernel), zi_se 1161 (by decide +kernel)⟩
theorem lk13_92 : Cond.methodLink (zON 13) 92 mSR_undo.2.1 ∈ zTbl ∧ Cond.instanceMethod mSR_undo.2.1 ∈ zTbl ∧ Cond.selects mSR_undo.2.1.cls mSR_undo.2.1 mSR_undo.2.1 ∈ zTbl := ⟨zi_ml 641 (by decide +kernel), zi_im 642 (by decide +kernel), zi_se 643 (by decide +kernel)⟩
theorem lk13_95 : Cond.methodLink (zON 13) 95 mMo_undo.2.1 ∈ zTbl ∧ Cond.instanceMethod mMo_undo.2.1 ∈ zTbl ∧ Cond.selects mMo_undo.2.1.cls mMo_undo.2.1 mMo_undo.2.1 ∈ zTbl := ⟨zi_ml 949 (by decide +kernel), zi_im 950 (by decide +kernel), zi_se 951 (by decide +kernel)⟩
theorem lk13_96 : Cond.methodLink (zON 13) 96 mSR_image.2.1 ∈ zTbl ∧ Cond.instanceMethod mSR_image.2.1 ∈ zTbl ∧ Cond.selects mSR_image.2.1.cls mSR_image.2.1 mSR_image.2.1 ∈ zTbl := ⟨zi_ml 656 (by decide +kernel), zi_im 657 (by decide +kernel), zi_se 658 (by decide +kernel)⟩
theorem lk13_99 : Cond.methodLink (zON 13) 99 mMo_image.2.1 ∈ zTbl ∧ Cond.instanceMethod mMo_image.2.1 ∈ zTbl ∧ Cond.selects mMo_image.2.1.cls mMo_image.2.1 mMo_image.2.1 ∈ zTbl := ⟨zi_ml 964 (by decide +kernel), zi_im 965 (by decide +kernel), zi_se 966 (by decide +kernel)⟩
theorem lk13_100 : Cond.methodLink (zON 13) 100 mSR_back.2.1 ∈ zTbl ∧ Cond.instanceMethod mSR_back.2.1 ∈ zTbl ∧ Cond.selects mSR_back.2.1.cls mSR_back.2.1 mSR_back.2.1 ∈ zTbl := ⟨zi_ml 661 (by decide +kernel), zi_im 662 (by decide +kernel), zi_se 663 (by decide +kernel)⟩
theorem lk13_103 : Cond.methodLink (zON 13) 103 mMo_back.2.1 ∈ zTbl ∧ Cond.instanceMethod mMo_back.2.1 ∈ zTbl ∧ Cond.selects mMo_back.2.1.cls mMo_back.2.1 mMo_back.2.1 ∈ zTbl := ⟨zi_ml 971 (by decide +kernel), zi_im 972 (by decide +kernel), zi_se 973 (by decide +kernel)⟩
theorem lk13_104 : Cond.methodLink (zON 13) 104 mSR_letter.2.1 ∈ zTbl ∧ Cond.instanceMethod mSR_letter.2.1 ∈ zTbl ∧ Cond.selects mSR_letter.2.1.cls mSR_letter.2.1 mSR_letter.2.1 ∈ zTbl := ⟨zi_ml 665 (by decide +kernel), zi_im 666 (by decide +kernel), zi_se 667 (by decide +kernel)⟩
theorem lk13_107 : Cond.methodLink (zON 13) 107 mMo_letter.2.1 ∈ zTbl ∧ Cond.instanceMethod mMo_letter.2.1 ∈ zTbl ∧ Cond.selects mMo_letter.2.1.cls mMo_letter.2.1 mMo_letter.2.1 ∈ zTbl := ⟨zi_ml 1195 (by decide +kernel), zi_im 1196 (by decide +kernel), zi_se 1197 (by decide +kernel)⟩
theorem lk13_108 : Cond.methodLink (zON 13) 108 mSR_style.2.1 ∈ zTbl ∧ Cond.instanceMethod mSR_style.2.1 ∈ zTbl ∧ Cond.selects mSR_style.2.1.cls mSR_style.2.1 mSR_style.2.1 ∈ zTbl := ⟨zi_ml 673 (by decide +kernel), zi_im 674 (by decide +kernel), zi_se 675 (by decide +kernel)⟩
theorem lk13_111 : Cond.methodLink (zON 13) 111 mMo_style.2.1 ∈ zTbl ∧ Cond.instanceMethod mMo_style.2.1 ∈ zTbl ∧ Cond.selects mMo_style.2.1.cls mMo_style.2.1 mMo_style.2.1 ∈ zTbl := ⟨zi_ml 1203 (by decide +kernel), zi_im 1204 (by decide +kernel), zi_se 1205 (by decide +kernel)⟩
theorem lk13_112 : Cond.methodLink (zON 13) 112 mSR_run.2.1 ∈ zTbl ∧ Cond.instanceMethod mSR_run.2.1 ∈ zTbl ∧ Cond.selects mSR_run.2.1.cls mSR_run.2.1 mSR_run.2.1 ∈ zTbl := ⟨zi_ml 680 (by decide +kernel), zi_im 681 (by decide +kernel), zi_se 682 (by decide +kernel)⟩
theorem lk13_115 : Cond.methodLink (zON 13) 115 mMo_run.2.1 ∈ zTbl ∧ Cond.instanceMethod mMo_run.2.1 ∈ zTbl ∧ Cond.selects mMo_run.2.1.cls mMo_run.2.1 mMo_run.2.1 ∈ zTbl := ⟨zi_ml 1213 (by decide +kernel), zi_im 1214 (by decide +kernel), zi_se 1215 (by decide +kernel)⟩
theorem lk13_116 : Cond.methodLink (zON 13) 116 mSR_stack.2.1 ∈ zTbl ∧ Cond.instanceMethod mSR_stack.2.1 ∈ zTbl ∧ Cond.selects mSR_stack.2.1.cls mSR_stack.2.1 mSR_stack.2.1 ∈ zTbl := ⟨zi_ml 693 (by decide +kernel), zi_im 694 (by decide +kernel), zi_se 695 (by decide +kernel)⟩
theorem lk13_119 : Cond.methodLink (zON 13) 119 mMo_stack.2.1 ∈ zTbl ∧ Cond.instanceMethod mMo_stack.2.1 ∈ zTbl ∧ Cond.selects mMo_stack.2.1.cls mMo_stack.2.1 mMo_stack.2.1 ∈ zTbl := ⟨zi_ml 1222 (by decide +kernel), zi_im 1223 (by decide +kernel), zi_se 1224 (by decide +kernel)⟩
theorem lk13_120 : Cond.methodLink (zON 13) 120 mSR_tells.2.1 ∈ zTbl ∧ Cond.instanceMethod mSR_tells.2.1 ∈ zTbl ∧ Cond.selects mSR_tells.2.1.cls mSR_tells.2.1 mSR_tells.2.1 ∈ zTbl := ⟨zi_ml 701 (by decide +kernel), zi_im 702 (by decide +kernel), zi_se 703 (by decide +kernel)⟩
theorem lk13_123 : Cond.methodLink (zON 13) 123 mMo_tells.2.1 ∈ zTbl ∧ Cond.instanceMethod mMo_tells.2.1 ∈ zTbl ∧ Cond.selects mMo_tells.2.1.cls mMo_tells.2.1 mMo_tells.2.1 ∈ zTbl := ⟨zi_ml 1226 (by decide +kernel), zi_im 1227 (by decide +kernel), zi_se 1228 (by decide +kernel)⟩
theorem lk13_124 : Cond.methodLink (zON 13) 124 mSR_span.2.1 ∈ zTbl ∧ Cond.instanceMethod mSR_span.2.1 ∈ zTbl ∧ Cond.selects mSR_span.2.1.cls mSR_span.2.1 mSR_span.2.1 ∈ zTbl := ⟨zi_ml 709 (by decide +kernel), zi_im 710 (by decide +kernel), zi_se 711 (by decide +kernel)⟩
theorem lk13_127 : Cond.methodLink (zON 13) 127 mMo_span.2.1 ∈ zTbl ∧ Cond.instanceMethod mMo_span.2.1 ∈ zTbl ∧ Cond.selects mMo_span.2.1.cls mMo_span.2.1 mMo_span.2.1 ∈ zTbl := ⟨zi_ml 1234 (by decide +kernel), zi_im 1235 (by decide +kernel), zi_se 1236 (by decide +kernel)⟩
theorem lk13_128 : Cond.methodLink (zON 13) 128 mSR_anchor.2.1 ∈ zTbl ∧ Cond.instanceMethod mSR_anchor.2.1 ∈ zTbl ∧ Cond.selects mSR_anchor.2.1.cls mSR_anchor.2.1 mSR_anchor.2.1 ∈ zTbl := ⟨zi_ml 730 (by decide +kernel), zi_im 731 (by decide +kernel), zi_se 732 (by decide +kernel)⟩
theorem lk13_131 : Cond.methodLink (zON 13) 131 mMo_anchor.2.1 ∈ zTbl ∧ Cond.instanceMethod mMo_anchor.2.1 ∈ zTbl ∧ Cond.selects mMo_anchor.2.1.cls mMo_anchor.2.1 mMo_anchor.2.1 ∈ zTbl := ⟨zi_ml 1243 (by decide +kernel), zi_im 1244 (by decide +kernel), zi_se 1245 (by decide +kernel)⟩
theorem lk13_132 : Cond.methodLink (zON 13) 132 mSR_find.2.1 ∈ zTbl ∧ Cond.instanceMethod mSR_find.2.1 ∈ zTbl ∧ Cond.selects mSR_find.2.1.cls mSR_find.2.1 mSR_find.2.1 ∈ zTbl := ⟨zi_ml 734 (by decide +kernel), zi_im 735 (by decide +kernel), zi_se 736 (by decide +kernel)⟩
theorem lk13_135 : Cond.methodLink (zON 13) 135 mMo_find.2.1 ∈ zTbl ∧ Cond.instanceMethod mMo_find.2.1 ∈ zTbl ∧ Cond.selects mMo_find.2.1.cls mMo_find.2.1 mMo_find.2.1 ∈ zTbl := ⟨zi_ml 1248 (by decide +kernel), zi_im 1249 (by decide +kernel), zi_se 1250 (by decide +kernel)⟩
theorem lk13_136 : Cond.methodLink (zON 13) 136 mSR_findBy.2.1 ∈ zTbl ∧ Cond.instanceMethod mSR_findBy.2.1 ∈ zTbl ∧ Cond.selects mSR_findBy.2.1.cls mSR_findBy.2.1 mSR_findBy.2.1 ∈ zTbl := ⟨zi_ml 745 (by decide +kernel), zi_im 746 (by decide +kernel), zi_se 747 (by decide +kernel)⟩
theorem lk13_139 : Cond.methodLink (zON 13) 139 mMo_findBy.2.1 ∈ zTbl ∧ Cond.instanceMethod mMo_findBy.2.1 ∈ zTbl ∧ Cond.selects mMo_findBy.2.1.cls mMo_findBy.2.1 mMo_findBy.2.1 ∈ zTbl := ⟨zi_ml 1256 (by decide +kernel), zi_im 1257 (by decide +kernel), zi_se 1258 (by decide +kernel)⟩
theorem lk13_140 : Cond.methodLink (zON 13) 140 mSR_styled.2.1 ∈ zTbl ∧ Cond.instanceMethod mSR_styled.2.1 ∈ zTbl ∧ Cond.selects mSR_styled.2.1.cls mSR_styled.2.1 mSR_styled.2.1 ∈ zTbl := ⟨zi_ml 752 (by decide +kernel), zi_im 753 (by decide +kernel), zi_se 754 (by decide +kernel)⟩
theorem lk13_143 : Cond.methodLink (zON 13) 143 mMo_styled.2.1 ∈ zTbl ∧ Cond.instanceMethod mMo_styled.2.1 ∈ zTbl ∧ Cond.selects mMo_styled.2.1.cls mMo_styled.2.1 mMo_styled.2.1 ∈ zTbl := ⟨zi_ml 1264 (by decide +kernel), zi_im 1265 (by decide +kernel), zi_se 1266 (by decide +kernel)⟩
theorem lk13_144 : Cond.methodLink (zON 13) 144 mSR_follow.2.1 ∈ zTbl ∧ Cond.instanceMethod mSR_follow.2.1 ∈ zTbl ∧ Cond.selects mSR_follow.2.1.cls mSR_follow.2.1 mSR_follow.2.1 ∈ zTbl := ⟨zi_ml 756 (by decide +kernel), zi_im 757 (by decide +kernel), zi_se 758 (by decide +kernel)⟩
theorem lk13_148 : Cond.methodLink (zON 13) 148 mMo_follow.2.1 ∈ zTbl ∧ Cond.instanceMethod mMo_follow.2.1 ∈ zTbl ∧ Cond.selects mMo_follow.2.1.cls mMo_follow.2.1 mMo_follow.2.1 ∈ zTbl := ⟨zi_ml 1268 (by decide +kernel), zi_im 1269 (by decide +kernel), zi_se 1270 (by decide +kernel)⟩
theorem lk13_149 : Cond.methodLink (zON 13) 149 mSR_through.2.1 ∈ zTbl ∧ Cond.instanceMethod mSR_through.2.1 ∈ zTbl ∧ Cond.selects mSR_through.2.1.cls mSR_through.2.1 mSR_through.2.1 ∈ zTbl := ⟨zi_ml 762 (by decide +kernel), zi_im 763 (by decide +kernel), zi_se 764 (by decide +kernel)⟩
theorem lk13_152 : Cond.methodLink (zON 13) 152 mMo_through.2.1 ∈ zTbl ∧ Cond.instanceMethod mMo_through.2.1 ∈ zTbl ∧ Cond.selects mMo_through.2.1.cls mMo_through.2.1 mMo_through.2.1 ∈ zTbl := ⟨zi_ml 1273 (by decide +kernel), zi_im 1274 (by decide +kernel), zi_se 1275 (by decide +kernel)⟩
theorem lk13_153 : Cond.methodLink (zON 13) 153 mSR_idle.2.1 ∈ zTbl ∧ Cond.instanceMethod mSR_idle.2.1 ∈ zTbl ∧ Cond.selects mSR_idle.2.1.cls mSR_idle.2.1 mSR_idle.2.1 ∈ zTbl := ⟨zi_ml 781 (by decide +kernel), zi_im 782 (by decide +kernel), zi_se 783 (by decide +kernel)⟩
theorem lk13_156 : Cond.methodLink (zON 13) 156 mMo_idle.2.1 ∈ zTbl ∧ Cond.instanceMethod mMo_idle.2.1 ∈ zTbl ∧ Cond.selects mMo_idle.2.1.cls mMo_idle.2.1 mMo_idle.2.1 ∈ zTbl := ⟨zi_ml 1281 (by decide +kernel), zi_im 1282 (by decide +kernel), zi_se 1283 (by decide +kernel)⟩
theorem lk13_157 : Cond.methodLink (zON 13) 157 mSR_raised.2.1 ∈ zTbl ∧ Cond.instanceMethod mSR_raised.2.1 ∈ zTbl ∧ Cond.selects mSR_raised.2.1.cls mSR_raised.2.1 mSR_raised.2.1 ∈ zTbl := ⟨zi_ml 785 (by decide +kernel), zi_im 786 (by decide +kernel), zi_se 787 (by decide +kernel)⟩
theorem lk13_160 : Cond.methodLink (zON 13) 160 mMo_raised.2.1 ∈ zTbl ∧ Cond.instanceMethod mMo_raised.2.1 ∈ zTbl ∧ Cond.selects mMo_raised.2.1.cls mMo_raised.2.1 mMo_raised.2.1 ∈ zTbl := ⟨zi_ml 1285 (by decide +kernel), zi_im 1286 (by decide +kernel), zi_se 1287 (by decide +kernel)⟩
theorem lk13_161 : Cond.methodLink (zON 13) 161 mSR_best.2.1 ∈ zTbl ∧ Cond.instanceMethod mSR_best.2.1 ∈ zTbl ∧ Cond.selects mSR_best.2.1.cls mSR_best.2.1 mSR_best.2.1 ∈ zTbl := ⟨zi_ml 793 (by decide +kernel), zi_im 794 (by decide +kernel), zi_se 795 (by decide +kernel)⟩
theorem lk13_164 : Cond.methodLink (zON 13) 164 mMo_best.2.1 ∈ zTbl ∧ Cond.instanceMethod mMo_best.2.1 ∈ zTbl ∧ Cond.selects mMo_best.2.1.cls mMo_best.2.1 mMo_best.2.1 ∈ zTbl := ⟨zi_ml 1293 (by decide +kernel), zi_im 1294 (by decide +kernel), zi_se 1295 (by decide +kernel)⟩
theorem lk13_165 : Cond.methodLink (zON 13) 165 mSR_crossed.2.1 ∈ zTbl ∧ Cond.instanceMethod mSR_crossed.2.1 ∈ zTbl ∧ Cond.selects mSR_crossed.2.1.cls mSR_crossed.2.1 mSR_crossed.2.1 ∈ zTbl := ⟨zi_ml 797 (by decide +kernel), zi_im 798 (by decide +kernel), zi_se 799 (by decide +kernel)⟩
theorem lk13_168 : Cond.methodLink (zON 13) 168 mMo_crossed.2.1 ∈ zTbl ∧ Cond.instanceMethod mMo_crossed.2.1 ∈ zTbl ∧ Cond.selects mMo_crossed.2.1.cls mMo_crossed.2.1 mMo_crossed.2.1 ∈ zTbl := ⟨zi_ml 1297 (by decide +kernel), zi_im 1298 (by decide +kernel), zi_se 1299 (by decide +kernel)⟩
theorem lk13_169 : Cond.methodLink (zON 13) 169 mSR_count.2.1 ∈ zTbl ∧ Cond.instanceMethod mSR_count.2.1 ∈ zTbl ∧ Cond.selects mSR_count.2.1.cls mSR_count.2.1 mSR_count.2.1 ∈ zTbl := ⟨zi_ml 809 (by decide +kernel), zi_im 810 (by decide +kernel), zi_se 811 (by decide +kernel)⟩
theorem lk13_172 : Cond.methodLink (zON 13) 172 mMo_count.2.1 ∈ zTbl ∧ Cond.instanceMethod mMo_count.2.1 ∈ zTbl ∧ Cond.selects mMo_count.2.1.cls mMo_count.2.1 mMo_count.2.1 ∈ zTbl := ⟨zi_ml 1305 (by decide +kernel), zi_im 1306 (by decide +kernel), zi_se 1307 (by decide +kernel)⟩
theorem lk13_173 : Cond.methodLink (zON 13) 173 mSR_status.2.1 ∈ zTbl ∧ Cond.instanceMethod mSR_status.2.1 ∈ zTbl ∧ Cond.selects mSR_status.2.1.cls mSR_status.2.1 mSR_status.2.1 ∈ zTbl := ⟨zi_ml 844 (by decide +kernel), zi_im 845 (by decide +kernel), zi_se 846 (by decide +kernel)⟩
theorem lk13_176 : Cond.methodLink (zON 13) 176 mMo_status.2.1 ∈ zTbl ∧ Cond.instanceMethod mMo_status.2.1 ∈ zTbl ∧ Cond.selects mMo_status.2.1.cls mMo_status.2.1 mMo_status.2.1 ∈ zTbl := ⟨zi_ml 1325 (by decide +kernel), zi_im 1326 (by decide +kernel), zi_se 1327 (by decide +kernel)⟩
theorem lk10_76 : Cond.methodLink (zON 10) 76 mMo_copy.2.1 ∈ zTbl ∧ Cond.static mMo_copy.2.1 ∈ zTbl := ⟨zi_ml 957 (by decide +kernel), zi_st 958 (by decide +kernel)⟩
theorem lk10_80 : Cond.methodLink (zON 10) 80 mMo_refuse.2.1 ∈ zTbl ∧ Cond.instanceMethod mMo_refuse.2.1 ∈ zTbl ∧ Cond.selects mMo_refuse.2.1.cls mMo_refuse.2.1 mMo_refuse.2.1 ∈ zTbl := ⟨zi_ml 953 (by decide +kernel), zi_im 955 (by decide +kernel), zi_sp 21 (by decide +kernel)⟩
theorem lk10_84 : Cond.methodLink (zON 10) 84 mMo_tell.2.1 ∈ zTbl ∧ Cond.instanceMethod mMo_tell.2.1 ∈ zTbl ∧ Cond.selects mMo_tell.2.1.cls mMo_tell.2.1 mMo_tell.2.1 ∈ zTbl := ⟨zi_ml 960 (by decide +kernel), zi_im 962 (by decide +kernel), zi_sp 22 (by decide +kernel)⟩
theorem lk10_87 : Cond.methodLink (zON 10) 87 mMo_in.2.1 ∈ zTbl ∧ Cond.static mMo_in.2.1 ∈ zTbl := ⟨zi_ml 968 (by decide +kernel), zi_st 969 (by decide +kernel)⟩
theorem lk10_91 : Cond.methodLink (zON 10) 91 mMo_spanAt.2.1 ∈ zTbl ∧ Cond.static mMo_spanAt.2.1 ∈ zTbl := ⟨zi_ml 1020 (by decide +kernel), zi_st 1021 (by decide +kernel)⟩
theorem lk10_94 : Cond.methodLink (zON 10) 94 mMo_anchorAt.2.1 ∈ zTbl ∧ Cond.static mMo_anchorAt.2.1 ∈ zTbl := ⟨zi_ml 1026 (by decide +kernel), zi_st 1027 (by decide +kernel)⟩
theorem lk10_97 : Cond.methodLink (zON 10) 97 mMo_isPlace.2.1 ∈ zTbl ∧ Cond.instanceMethod mMo_isPlace.2.1 ∈ zTbl ∧ Cond.selects mMo_isPlace.2.1.cls mMo_isPlace.2.1 mMo_isPlace.2.1 ∈ zTbl := ⟨zi_ml 995 (by decide +kernel), zi_im 997 (by decide +kernel), zi_sp 24 (by decide +kernel)⟩
theorem lk10_105 : Cond.methodLink (zON 10) 105 mMo_onward.2.1 ∈ zTbl ∧ Cond.static mMo_onward.2.1 ∈ zTbl := ⟨zi_ml 1023 (by decide +kernel), zi_st 1024 (by decide +kernel)⟩
theorem lk10_109 : Cond.methodLink (zON 10) 109 mMo_backward.2.1 ∈ zTbl ∧ Cond.static mMo_backward.2.1 ∈ zTbl := ⟨zi_ml 1048 (by decide +kernel), zi_st 1049 (by decide +kernel)⟩
theorem lk10_116 : Cond.methodLink (zON 10) 116 mMo_comes.2.1 ∈ zTbl ∧ Cond.instanceMethod mMo_comes.2.1 ∈ zTbl ∧ Cond.selects mMo_comes.2.1.cls mMo_comes.2.1 mMo_comes.2.1 ∈ zTbl := ⟨zi_ml 979 (by decide +kernel), zi_im 981 (by decide +kernel), zi_sp 23 (by decide +kernel)⟩
theorem lk10_120 : Cond.methodLink (zON 10) 120 mMo_isByte.2.1 ∈ zTbl ∧ Cond.static mMo_isByte.2.1 ∈ zTbl := ⟨zi_ml 1003 (by decide +kernel), zi_st 1004 (by decide +kernel)⟩
theorem lk10_123 : Cond.methodLink (zON 10) 123 mMo_areLetters.2.1 ∈ zTbl ∧ Cond.instanceMethod mMo_areLetters.2.1 ∈ zTbl ∧ Cond.selects mMo_areLetters.2.1.cls mMo_areLetters.2.1 mMo_areLetters.2.1 ∈ zTbl := ⟨zi_ml 999 (by decide +kernel), zi_im 1001 (by decide +kernel), zi_sp 25 (by decide +kernel)⟩
theorem lk10_127 : Cond.methodLink (zON 10) 127 mMo_remember.2.1 ∈ zTbl ∧ Cond.instanceMethod mMo_remember.2.1 ∈ zTbl ∧ Cond.selects mMo_remember.2.1.cls mMo_remember.2.1 mMo_remember.2.1 ∈ zTbl := ⟨zi_ml 1008 (by decide +kernel), zi_im 1010 (by decide +kernel), zi_sp 26 (by decide +kernel)⟩
theorem lk10_130 : Cond.methodLink (zON 10) 130 mMo_noteAct.2.1 ∈ zTbl ∧ Cond.instanceMethod mMo_noteAct.2.1 ∈ zTbl ∧ Cond.selects mMo_noteAct.2.1.cls mMo_noteAct.2.1 mMo_noteAct.2.1 ∈ zTbl := ⟨zi_ml 1012 (by decide +kernel), zi_im 1014 (by decide +kernel), zi_sp 27 (by decide +kernel)⟩
theorem lk10_134 : Cond.methodLink (zON 10) 134 mMo_makeRoom.2.1 ∈ zTbl ∧ Cond.instanceMethod mMo_makeRoom.2.1 ∈ zTbl ∧ Cond.selects mMo_makeRoom.2.1.cls mMo_makeRoom.2.1 mMo_makeRoom.2.1 ∈ zTbl := ⟨zi_ml 1016 (by decide +kernel), zi_im 1018 (by decide +kernel), zi_sp 28 (by decide +kernel)⟩
theorem lk10_138 : Cond.methodLink (zON 10) 138 mMo_comeFrom.2.1 ∈ zTbl ∧ Cond.instanceMethod mMo_comeFrom.2.1 ∈ zTbl ∧ Cond.selects mMo_comeFrom.2.1.cls mMo_comeFrom.2.1 mMo_comeFrom.2.1 ∈ zTbl := ⟨zi_ml 1029 (by decide +kernel), zi_im 1031 (by decide +kernel), zi_sp 29 (by decide +kernel)⟩
theorem lk10_141 : Cond.methodLink (zON 10) 141 mMo_letterAt.2.1 ∈ zTbl ∧ Cond.static mMo_letterAt.2.1 ∈ zTbl := ⟨zi_ml 1033 (by decide +kernel), zi_st 1034 (by decide +kernel)⟩
theorem lk10_144 : Cond.methodLink (zON 10) 144 mMo_isRange.2.1 ∈ zTbl ∧ Cond.instanceMethod mMo_isRange.2.1 ∈ zTbl ∧ Cond.selects mMo_isRange.2.1.cls mMo_isRange.2.1 mMo_isRange.2.1 ∈ zTbl := ⟨zi_ml 1040 (by decide +kernel), zi_im 1042 (by decide +kernel), zi_sp 30 (by decide +kernel)⟩
theorem lk10_148 : Cond.methodLink (zON 10) 148 mMo_takeOut.2.1 ∈ zTbl ∧ Cond.instanceMethod mMo_takeOut.2.1 ∈ zTbl ∧ Cond.selects mMo_takeOut.2.1.cls mMo_takeOut.2.1 mMo_takeOut.2.1 ∈ zTbl := ⟨zi_ml 1044 (by decide +kernel), zi_im 1046 (by decide +kernel), zi_sp 31 (by decide +kernel)⟩
theorem lk10_151 : Cond.methodLink (zON 10) 151 mMo_isSpan.2.1 ∈ zTbl ∧ Cond.instanceMethod mMo_isSpan.2.1 ∈ zTbl ∧ Cond.selects mMo_isSpan.2.1.cls mMo_isSpan.2.1 mMo_isSpan.2.1 ∈ zTbl := ⟨zi_ml 1059 (by decide +kernel), zi_im 1061 (by decide +kernel), zi_sp 32 (by decide +kernel)⟩
theorem lk10_154 : Cond.methodLink (zON 10) 154 mMo_isAnchor.2.1 ∈ zTbl ∧ Cond.instanceMethod mMo_isAnchor.2.1 ∈ zTbl ∧ Cond.selects mMo_isAnchor.2.1.cls mMo_isAnchor.2.1 mMo_isAnchor.2.1 ∈ zTbl := ⟨zi_ml 1063 (by decide +kernel), zi_im 1065 (by decide +kernel), zi_sp 33 (by decide +kernel)⟩
theorem lk10_169 : Cond.methodLink (zON 10) 169 mMo_isLook.2.1 ∈ zTbl ∧ Cond.static mMo_isLook.2.1 ∈ zTbl := ⟨zi_ml 1072 (by decide +kernel), zi_st 1073 (by decide +kernel)⟩
theorem lk10_173 : Cond.methodLink (zON 10) 173 mMo_spans.2.1 ∈ zTbl ∧ Cond.instanceMethod mMo_spans.2.1 ∈ zTbl ∧ Cond.selects mMo_spans.2.1.cls mMo_spans.2.1 mMo_spans.2.1 ∈ zTbl := ⟨zi_ml 1084 (by decide +kernel), zi_im 1086 (by decide +kernel), zi_sp 34 (by decide +kernel)⟩
theorem lk10_186 : Cond.methodLink (zON 10) 186 mMo_takePaint.2.1 ∈ zTbl ∧ Cond.instanceMethod mMo_takePaint.2.1 ∈ zTbl ∧ Cond.selects mMo_takePaint.2.1.cls mMo_takePaint.2.1 mMo_takePaint.2.1 ∈ zTbl := ⟨zi_ml 1100 (by decide +kernel), zi_im 1102 (by decide +kernel), zi_sp 35 (by decide +kernel)⟩
theorem lk10_189 : Cond.methodLink (zON 10) 189 mMo_isOver.2.1 ∈ zTbl ∧ Cond.instanceMethod mMo_isOver.2.1 ∈ zTbl ∧ Cond.selects mMo_isOver.2.1.cls mMo_isOver.2.1 mMo_isOver.2.1 ∈ zTbl := ⟨zi_ml 1120 (by decide +kernel), zi_im 1122 (by decide +kernel), zi_sp 39 (by decide +kernel)⟩
theorem lk10_192 : Cond.methodLink (zON 10) 192 mMo_look.2.1 ∈ zTbl ∧ Cond.instanceMethod mMo_look.2.1 ∈ zTbl ∧ Cond.selects mMo_look.2.1.cls mMo_look.2.1 mMo_look.2.1 ∈ zTbl := ⟨zi_ml 1104 (by decide +kernel), zi_im 1106 (by decide +kernel), zi_sp 36 (by decide +kernel)⟩
theorem lk10_196 : Cond.methodLink (zON 10) 196 mMo_takeStyle.2.1 ∈ zTbl ∧ Cond.instanceMethod mMo_takeStyle.2.1 ∈ zTbl ∧ Cond.selects mMo_takeStyle.2.1.cls mMo_takeStyle.2.1 mMo_takeStyle.2.1 ∈ zTbl := ⟨zi_ml 1116 (by decide +kernel), zi_im 1118 (by decide +kernel), zi_sp 38 (by decide +kernel)⟩
theorem lk10_200 : Cond.methodLink (zON 10) 200 mMo_layPaint.2.1 ∈ zTbl ∧ Cond.instanceMethod mMo_layPaint.2.1 ∈ zTbl ∧ Cond.selects mMo_layPaint.2.1.cls mMo_layPaint.2.1 mMo_layPaint.2.1 ∈ zTbl := ⟨zi_ml 1108 (by decide +kernel), zi_im 1110 (by decide +kernel), zi_sp 37 (by decide +kernel)⟩
theorem lk10_210 : Cond.methodLink (zON 10) 210 mMo_byteAt.2.1 ∈ zTbl ∧ Cond.instanceMethod mMo_byteAt.2.1 ∈ zTbl ∧ Cond.selects mMo_byteAt.2.1.cls mMo_byteAt.2.1 mMo_byteAt.2.1 ∈ zTbl := ⟨zi_ml 1136 (by decide +kernel), zi_im 1138 (by decide +kernel), zi_sp 40 (by decide +kernel)⟩
theorem lk10_213 : Cond.methodLink (zON 10) 213 mMo_flagOf.2.1 ∈ zTbl ∧ Cond.static mMo_flagOf.2.1 ∈ zTbl := ⟨zi_ml 1144 (by decide +kernel), zi_st 1145 (by decide +kernel)⟩
theorem lk10_216 : Cond.methodLink (zON 10) 216 mMo_wrong.2.1 ∈ zTbl ∧ Cond.instanceMethod mMo_wrong.2.1 ∈ zTbl ∧ Cond.selects mMo_wrong.2.1.cls mMo_wrong.2.1 mMo_wrong.2.1 ∈ zTbl := ⟨zi_ml 1147 (by decide +kernel), zi_im 1149 (by decide +kernel), zi_sp 42 (by decide +kernel)⟩
theorem lk10_225 : Cond.methodLink (zON 10) 225 mMo_readMark.2.1 ∈ zTbl ∧ Cond.instanceMethod mMo_readMark.2.1 ∈ zTbl ∧ Cond.selects mMo_readMark.2.1.cls mMo_readMark.2.1 mMo_readMark.2.1 ∈ zTbl := ⟨zi_ml 1140 (by decide +kernel), zi_im 1142 (by decide +kernel), zi_sp 41 (by decide +kernel)⟩
theorem lk10_228 : Cond.methodLink (zON 10) 228 mMo_readLetter.2.1 ∈ zTbl ∧ Cond.instanceMethod mMo_readLetter.2.1 ∈ zTbl ∧ Cond.selects mMo_readLetter.2.1.cls mMo_readLetter.2.1 mMo_readLetter.2.1 ∈ zTbl := ⟨zi_ml 1151 (by decide +kernel), zi_im 1153 (by decide +kernel), zi_sp 43 (by decide +kernel)⟩
theorem lk10_234 : Cond.methodLink (zON 10) 234 mMo_has.2.1 ∈ zTbl ∧ Cond.instanceMethod mMo_has.2.1 ∈ zTbl ∧ Cond.selects mMo_has.2.1.cls mMo_has.2.1 mMo_has.2.1 ∈ zTbl := ⟨zi_ml 1175 (by decide +kernel), zi_im 1177 (by decide +kernel), zi_sp 47 (by decide +kernel)⟩
theorem lk10_237 : Cond.methodLink (zON 10) 237 mMo_put.2.1 ∈ zTbl ∧ Cond.instanceMethod mMo_put.2.1 ∈ zTbl ∧ Cond.selects mMo_put.2.1.cls mMo_put.2.1 mMo_put.2.1 ∈ zTbl := ⟨zi_ml 1183 (by decide +kernel), zi_im 1185 (by decide +kernel), zi_sp 49 (by decide +kernel)⟩
theorem lk10_240 : Cond.methodLink (zON 10) 240 mMo_isOpen.2.1 ∈ zTbl ∧ Cond.instanceMethod mMo_isOpen.2.1 ∈ zTbl ∧ Cond.selects mMo_isOpen.2.1.cls mMo_isOpen.2.1 mMo_isOpen.2.1 ∈ zTbl := ⟨zi_ml 1191 (by decide +kernel), zi_im 1193 (by decide +kernel), zi_sp 51 (by decide +kernel)⟩
theorem lk10_243 : Cond.methodLink (zON 10) 243 mMo_hasAll.2.1 ∈ zTbl ∧ Cond.instanceMethod mMo_hasAll.2.1 ∈ zTbl ∧ Cond.selects mMo_hasAll.2.1.cls mMo_hasAll.2.1 mMo_hasAll.2.1 ∈ zTbl := ⟨zi_ml 1171 (by decide +kernel), zi_im 1173 (by decide +kernel), zi_sp 46 (by decide +kernel)⟩
theorem lk10_246 : Cond.methodLink (zON 10) 246 mMo_closes.2.1 ∈ zTbl ∧ Cond.instanceMethod mMo_closes.2.1 ∈ zTbl ∧ Cond.selects mMo_closes.2.1.cls mMo_closes.2.1 mMo_closes.2.1 ∈ zTbl := ⟨zi_ml 1179 (by decide +kernel), zi_im 1181 (by decide +kernel), zi_sp 48 (by decide +kernel)⟩
theorem lk10_249 : Cond.methodLink (zON 10) 249 mMo_opens.2.1 ∈ zTbl ∧ Cond.instanceMethod mMo_opens.2.1 ∈ zTbl ∧ Cond.selects mMo_opens.2.1.cls mMo_opens.2.1 mMo_opens.2.1 ∈ zTbl := ⟨zi_ml 1187 (by decide +kernel), zi_im 1189 (by decide +kernel), zi_sp 50 (by decide +kernel)⟩
theorem lk10_252 : Cond.methodLink (zON 10) 252 mMo_marks.2.1 ∈ zTbl ∧ Cond.instanceMethod mMo_marks.2.1 ∈ zTbl ∧ Cond.selects mMo_marks.2.1.cls mMo_marks.2.1 mMo_marks.2.1 ∈ zTbl := ⟨zi_ml 1167 (by decide +kernel), zi_im 1169 (by decide +kernel), zi_sp 45 (by decide +kernel)⟩
theorem lk10_255 : Cond.methodLink (zON 10) 255 mMo_writes.2.1 ∈ zTbl ∧ Cond.instanceMethod mMo_writes.2.1 ∈ zTbl ∧ Cond.selects mMo_writes.2.1.cls mMo_writes.2.1 mMo_writes.2.1 ∈ zTbl := ⟨zi_ml 1163 (by decide +kernel), zi_im 1165 (by decide +kernel), zi_sp 44 (by decide +kernel)⟩
theorem lk10_258 : Cond.methodLink (zON 10) 258 mMo_isLetter.2.1 ∈ zTbl ∧ Cond.instanceMethod mMo_isLetter.2.1 ∈ zTbl ∧ Cond.selects mMo_isLetter.2.1.cls mMo_isLetter.2.1 mMo_isLetter.2.1 ∈ zTbl := ⟨zi_ml 1199 (by decide +kernel), zi_im 1201 (by decide +kernel), zi_sp 52 (by decide +kernel)⟩
theorem lk10_265 : Cond.methodLink (zON 10) 265 mMo_styleOf.2.1 ∈ zTbl ∧ Cond.instanceMethod mMo_styleOf.2.1 ∈ zTbl ∧ Cond.selects mMo_styleOf.2.1.cls mMo_styleOf.2.1 mMo_styleOf.2.1 ∈ zTbl := ⟨zi_ml 1209 (by decide +kernel), zi_im 1211 (by decide +kernel), zi_sp 53 (by decide +kernel)⟩
theorem lk10_272 : Cond.methodLink (zON 10) 272 mMo_layRuns.2.1 ∈ zTbl ∧ Cond.instanceMethod mMo_layRuns.2.1 ∈ zTbl ∧ Cond.selects mMo_layRuns.2.1.cls mMo_layRuns.2.1 mMo_layRuns.2.1 ∈ zTbl := ⟨zi_ml 1217 (by decide +kernel), zi_im 1219 (by decide +kernel), zi_sp 54 (by decide +kernel)⟩
theorem lk10_277 : Cond.methodLink (zON 10) 277 mMo_tellsOf.2.1 ∈ zTbl ∧ Cond.instanceMethod mMo_tellsOf.2.1 ∈ zTbl ∧ Cond.selects mMo_tellsOf.2.1.cls mMo_tellsOf.2.1 mMo_tellsOf.2.1 ∈ zTbl := ⟨zi_ml 1230 (by decide +kernel), zi_im 1232 (by decide +kernel), zi_sp 55 (by decide +kernel)⟩
theorem lk10_283 : Cond.methodLink (zON 10) 283 mMo_isIdle.2.1 ∈ zTbl ∧ Cond.instanceMethod mMo_isIdle.2.1 ∈ zTbl ∧ Cond.selects mMo_isIdle.2.1.cls mMo_isIdle.2.1 mMo_isIdle.2.1 ∈ zTbl := ⟨zi_ml 1239 (by decide +kernel), zi_im 1241 (by decide +kernel), zi_sp 56 (by decide +kernel)⟩
theorem lk10_288 : Cond.methodLink (zON 10) 288 mMo_stands.2.1 ∈ zTbl ∧ Cond.instanceMethod mMo_stands.2.1 ∈ zTbl ∧ Cond.selects mMo_stands.2.1.cls mMo_stands.2.1 mMo_stands.2.1 ∈ zTbl := ⟨zi_ml 1252 (by decide +kernel), zi_im 1254 (by decide +kernel), zi_sp 57 (by decide +kernel)⟩
theorem lk10_291 : Cond.methodLink (zON 10) 291 mMo_isSo.2.1 ∈ zTbl ∧ Cond.instanceMethod mMo_isSo.2.1 ∈ zTbl ∧ Cond.selects mMo_isSo.2.1.cls mMo_isSo.2.1 mMo_isSo.2.1 ∈ zTbl := ⟨zi_ml 1260 (by decide +kernel), zi_im 1262 (by decide +kernel), zi_sp 58 (by decide +kernel)⟩
theorem lk10_296 : Cond.methodLink (zON 10) 296 mMo_behind.2.1 ∈ zTbl ∧ Cond.instanceMethod mMo_behind.2.1 ∈ zTbl ∧ Cond.selects mMo_behind.2.1.cls mMo_behind.2.1 mMo_behind.2.1 ∈ zTbl := ⟨zi_ml 1277 (by decide +kernel), zi_im 1279 (by decide +kernel), zi_sp 59 (by decide +kernel)⟩
theorem lk10_299 : Cond.methodLink (zON 10) 299 mMo_runsBy.2.1 ∈ zTbl ∧ Cond.instanceMethod mMo_runsBy.2.1 ∈ zTbl ∧ Cond.selects mMo_runsBy.2.1.cls mMo_runsBy.2.1 mMo_runsBy.2.1 ∈ zTbl := ⟨zi_ml 1289 (by decide +kernel), zi_im 1291 (by decide +kernel), zi_sp 60 (by decide +kernel)⟩
theorem lk10_302 : Cond.methodLink (zON 10) 302 mMo_isWithin.2.1 ∈ zTbl ∧ Cond.instanceMethod mMo_isWithin.2.1 ∈ zTbl ∧ Cond.selects mMo_isWithin.2.1.cls mMo_isWithin.2.1 mMo_isWithin.2.1 ∈ zTbl := ⟨zi_ml 1301 (by decide +kernel), zi_im 1303 (by decide +kernel), zi_sp 61 (by decide +kernel)⟩
theorem lk10_305 : Cond.methodLink (zON 10) 305 mMo_ofAnchors.2.1 ∈ zTbl ∧ Cond.instanceMethod mMo_ofAnchors.2.1 ∈ zTbl ∧ Cond.selects mMo_ofAnchors.2.1.cls mMo_ofAnchors.2.1 mMo_ofAnchors.2.1 ∈ zTbl := ⟨zi_ml 1309 (by decide +kernel), zi_im 1311 (by decide +kernel), zi_sp 62 (by decide +kernel)⟩
theorem lk10_308 : Cond.methodLink (zON 10) 308 mMo_longest.2.1 ∈ zTbl ∧ Cond.instanceMethod mMo_longest.2.1 ∈ zTbl ∧ Cond.selects mMo_longest.2.1.cls mMo_longest.2.1 mMo_longest.2.1 ∈ zTbl := ⟨zi_ml 1313 (by decide +kernel), zi_im 1315 (by decide +kernel), zi_sp 63 (by decide +kernel)⟩
theorem lk10_312 : Cond.methodLink (zON 10) 312 mMo_unlike.2.1 ∈ zTbl ∧ Cond.instanceMethod mMo_unlike.2.1 ∈ zTbl ∧ Cond.selects mMo_unlike.2.1.cls mMo_unlike.2.1 mMo_unlike.2.1 ∈ zTbl := ⟨zi_ml 1317 (by decide +kernel), zi_im 1319 (by decide +kernel), zi_sp 64 (by decide +kernel)⟩
theorem lk10_315 : Cond.methodLink (zON 10) 315 mMo_highest.2.1 ∈ zTbl ∧ Cond.instanceMethod mMo_highest.2.1 ∈ zTbl ∧ Cond.selects mMo_highest.2.1.cls mMo_highest.2.1 mMo_highest.2.1 ∈ zTbl := ⟨zi_ml 1321 (by decide +kernel), zi_im 1323 (by decide +kernel), zi_sp 65 (by decide +kernel)⟩
