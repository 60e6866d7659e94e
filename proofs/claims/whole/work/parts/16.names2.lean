/-! walks' names: printed by program -/
abbrev Y_X0_init : AbY := (yX0_init, cX0_init, none, [])
abbrev Y_X1_init : AbY := (yX1_init, cX1_init, none, [])
abbrev Y_X1_tell : AbY := (yX1_tell, cX1_tell, none, [])
abbrev Y_X1_sizeFor : AbY := (yX1_sizeFor, cX1_sizeFor, some .int, [])
abbrev Y_X1_measure : AbY := (yX1_measure, cX1_measure, none, [])
abbrev Y_X1_imageSize : AbY := (yX1_imageSize, cX1_imageSize, some .long, [])
abbrev Y_X1_imageInto : AbY := (yX1_imageInto, cX1_imageInto, some .int, [])
abbrev Y_X1_lengthsToLookAt : AbY := (yX1_lengthsToLookAt, cX1_lengthsToLookAt, some .int, [])
abbrev Y_X1_growsFrom : AbY := (yX1_growsFrom, cX1_growsFrom, some .boolean, [])
abbrev Y_X1_letterFarOut : AbY := (yX1_letterFarOut, cX1_letterFarOut, some .int, [])
abbrev Y_X2_init : AbY := (yX2_init, cX2_init, none, [])
abbrev Y_X2_shortest : AbY := (yX2_shortest, cX2_shortest, some .int, [])
abbrev Y_X2_isNear : AbY := (yX2_isNear, cX2_isNear, some .boolean, [])
abbrev Y_X3_init : AbY := (yX3_init, cX3_init, none, [])
abbrev Y_X3_shortest : AbY := (yX3_shortest, cX3_shortest, some .int, [])
abbrev Y_X4_init : AbY := (yX4_init, cX4_init, none, [])
abbrev Y_X4_forgetLooks : AbY := (yX4_forgetLooks, cX4_forgetLooks, none, [])
abbrev Y_X4_begin : AbY := (yX4_begin, cX4_begin, none, [])
abbrev Y_X4_hasShape : AbY := (yX4_hasShape, cX4_hasShape, some .boolean, [])
abbrev Y_X4_advanceBy : AbY := (yX4_advanceBy, cX4_advanceBy, some .int, [])
abbrev Y_X4_advance : AbY := (yX4_advance, cX4_advance, some .int, [])
abbrev Y_X4_takeLook : AbY := (yX4_takeLook, cX4_takeLook, some .boolean, [])
abbrev Y_X4_putBehind : AbY := (yX4_putBehind, cX4_putBehind, some .boolean, [])
abbrev Y_X5_init : AbY := (yX5_init, cX5_init, none, [])
abbrev Y_X5_shortest : AbY := (yX5_shortest, cX5_shortest, some .int, [])
abbrev Y_X5_fit : AbY := (yX5_fit, cX5_fit, none, [])
abbrev Y_X5_mostFor : AbY := (yX5_mostFor, cX5_mostFor, some .int, [])
abbrev Y_X5_areSame : AbY := (yX5_areSame, cX5_areSame, some .boolean, [])
abbrev Y_X5_unknowns : AbY := (yX5_unknowns, cX5_unknowns, some .int, [])
abbrev Y_X5_standsInZimin : AbY := (yX5_standsInZimin, cX5_standsInZimin, some .boolean, [])
abbrev Y_X5_seekSteps : AbY := (yX5_seekSteps, cX5_seekSteps, some .int, [])
abbrev Y_X5_stepAt : AbY := (yX5_stepAt, cX5_stepAt, some .int, [])
abbrev Y_X5_takeOff : AbY := (yX5_takeOff, cX5_takeOff, some .int, [])
abbrev Y_X5_isLoose : AbY := (yX5_isLoose, cX5_isLoose, some .boolean, [])
abbrev Y_X5_reachOn : AbY := (yX5_reachOn, cX5_reachOn, some .int, [])
abbrev Y_X6_init : AbY := (yX6_init, cX6_init, none, [])
abbrev Y_X6_sizeOf : AbY := (yX6_sizeOf, cX6_sizeOf, some .int, [])
abbrev Y_X6_renew : AbY := (yX6_renew, cX6_renew, none, [])
abbrev Y_X6_write : AbY := (yX6_write, cX6_write, none, [])
abbrev Y_X6_drop : AbY := (yX6_drop, cX6_drop, some .int, [])
abbrev Y_X6_copyIn : AbY := (yX6_copyIn, cX6_copyIn, none, [])
abbrev Y_X6_readInto : AbY := (yX6_readInto, cX6_readInto, some .int, [])
abbrev Y_X7_init : AbY := (yX7_init, cX7_init, none, [])
abbrev Y_X7_shortest : AbY := (yX7_shortest, cX7_shortest, some .int, [])
abbrev Y_X8_init : AbY := (yX8_init, cX8_init, none, [])
abbrev Y_X8_shortest : AbY := (yX8_shortest, cX8_shortest, some .int, [])
abbrev Y_X8_weight : AbY := (yX8_weight, cX8_weight, some .long, [])
abbrev Y_X9_init : AbY := (yX9_init, cX9_init, none, [])
abbrev Y_X9_sheet : AbY := (yX9_sheet, cX9_sheet, some .int, [])
abbrev Y_X9_row : AbY := (yX9_row, cX9_row, some .int, [])
abbrev Y_X9_put : AbY := (yX9_put, cX9_put, some .int, [])
abbrev Y_X9_tear : AbY := (yX9_tear, cX9_tear, some .int, [])
abbrev Y_X9_word : AbY := (yX9_word, cX9_word, some .int, [])
abbrev Y_X9_letter : AbY := (yX9_letter, cX9_letter, some .int, [])
abbrev Y_X9_law : AbY := (yX9_law, cX9_law, some .int, [])
abbrev Y_X9_count : AbY := (yX9_count, cX9_count, some .int, [])
abbrev Y_X9_power : AbY := (yX9_power, cX9_power, some .int, [])
abbrev Y_X9_run : AbY := (yX9_run, cX9_run, some .int, [])
abbrev Y_X9_clash : AbY := (yX9_clash, cX9_clash, some .int, [])
abbrev Y_X9_many : AbY := (yX9_many, cX9_many, some .int, [])
abbrev Y_X9_find : AbY := (yX9_find, cX9_find, some .int, [])
abbrev Y_X9_rank : AbY := (yX9_rank, cX9_rank, some .int, [])
abbrev Y_X9_longest : AbY := (yX9_longest, cX9_longest, some .int, [])
abbrev Y_X9_map : AbY := (yX9_map, cX9_map, some .int, [])
abbrev Y_X9_image : AbY := (yX9_image, cX9_image, some .int, [])
abbrev Y_X9_keeps : AbY := (yX9_keeps, cX9_keeps, some .int, [])
abbrev Y_X9_at : AbY := (yX9_at, cX9_at, some .int, [])
abbrev Y_X9_shape : AbY := (yX9_shape, cX9_shape, some .int, [])
abbrev Y_X9_tellShape : AbY := (yX9_tellShape, cX9_tellShape, some .int, [])
abbrev Y_X9_sheetOf : AbY := (yX9_sheetOf, cX9_sheetOf, (some ((.object "WordBench$Sheet"))), [])
abbrev Y_X9_needRow : AbY := (yX9_needRow, cX9_needRow, none, [])
abbrev Y_X9_sheetWithRow : AbY := (yX9_sheetWithRow, cX9_sheetWithRow, (some ((.object "WordBench$Sheet"))), [])
abbrev Y_X9_readWord : AbY := (yX9_readWord, cX9_readWord, some .int, [])
abbrev Y_X9_mapOf : AbY := (yX9_mapOf, cX9_mapOf, (some ((.object "WordBench$LetterMap"))), [])
abbrev Y_X9_needWhat : AbY := (yX9_needWhat, cX9_needWhat, none, [])
abbrev Y_X9_needSet : AbY := (yX9_needSet, cX9_needSet, none, [])
abbrev Y_X9_needAlphabet : AbY := (yX9_needAlphabet, cX9_needAlphabet, none, [])
abbrev Y_X9_needSearch : AbY := (yX9_needSearch, cX9_needSearch, none, [])
abbrev Y_X9_lawOfRow : AbY := (yX9_lawOfRow, cX9_lawOfRow, (some ((.object "WordBench$Law"))), [])
abbrev Y_X9_lawOfNumbers : AbY := (yX9_lawOfNumbers, cX9_lawOfNumbers, (some ((.object "WordBench$Law"))), [])
abbrev Y_X9_areNumbersFor : AbY := (yX9_areNumbersFor, cX9_areNumbersFor, some .boolean, [])
abbrev Y_X9_areBelow : AbY := (yX9_areBelow, cX9_areBelow, some .boolean, [])
abbrev Y_X9_areAlike : AbY := (yX9_areAlike, cX9_areAlike, some .boolean, [])
abbrev Y_X9_periodEnd : AbY := (yX9_periodEnd, cX9_periodEnd, some .int, [])
abbrev Y_X9_leastPeriod : AbY := (yX9_leastPeriod, cX9_leastPeriod, some .int, [])
abbrev Y_X9_lowestTerm : AbY := (yX9_lowestTerm, cX9_lowestTerm, some .int, [])
abbrev Y_X9_seekRun : AbY := (yX9_seekRun, cX9_seekRun, some .int, [])
abbrev Y_X9_runEnd : AbY := (yX9_runEnd, cX9_runEnd, some .int, [])
abbrev Y_X9_clashLetters : AbY := (yX9_clashLetters, cX9_clashLetters, some .int, [])
abbrev Y_X9_barringLaw : AbY := (yX9_barringLaw, cX9_barringLaw, some .int, [])
abbrev Y_X9_fillMap : AbY := (yX9_fillMap, cX9_fillMap, none, [])
abbrev Y_X9_seekFailure : AbY := (yX9_seekFailure, cX9_seekFailure, some .int, [])
abbrev Y_X9_isFailure : AbY := (yX9_isFailure, cX9_isFailure, some .boolean, [])
abbrev Y_X10_thrown : AbY := (yX10_thrown, cX10_thrown, some .int, [])
abbrev Y_X10_may : AbY := (yX10_may, cX10_may, some .boolean, [])
abbrev Y_X10_init : AbY := (yX10_init, cX10_init, none, [])
abbrev Y_X10_sheet : AbY := (yX10_sheet, cX10_sheet, some .int, [])
abbrev Y_X10_isSheet : AbY := (yX10_isSheet, cX10_isSheet, some .boolean, [])
abbrev Y_X10_isRow : AbY := (yX10_isRow, cX10_isRow, some .boolean, [])
abbrev Y_X10_row : AbY := (yX10_row, cX10_row, some .int, [])
abbrev Y_X10_put : AbY := (yX10_put, cX10_put, some .int, [])
abbrev Y_X10_tear : AbY := (yX10_tear, cX10_tear, some .int, [])
abbrev Y_X10_reads : AbY := (yX10_reads, cX10_reads, some .boolean, [])
abbrev Y_X10_word : AbY := (yX10_word, cX10_word, some .int, [])
abbrev Y_X10_letter : AbY := (yX10_letter, cX10_letter, some .int, [])
abbrev Y_X10_write : AbY := (yX10_write, cX10_write, none, [])
abbrev Y_X10_law : AbY := (yX10_law, cX10_law, some .int, [])
abbrev Y_X10_count : AbY := (yX10_count, cX10_count, some .int, [])
abbrev Y_X10_isPeriod : AbY := (yX10_isPeriod, cX10_isPeriod, some .boolean, [])
abbrev Y_X10_period : AbY := (yX10_period, cX10_period, some .int, [])
abbrev Y_X10_isTurned : AbY := (yX10_isTurned, cX10_isTurned, some .boolean, [])
abbrev Y_X10_isBarred : AbY := (yX10_isBarred, cX10_isBarred, some .boolean, [])
abbrev Y_X10_comesOf : AbY := (yX10_comesOf, cX10_comesOf, some .boolean, [])
abbrev Y_X10_has : AbY := (yX10_has, cX10_has, some .boolean, [])
abbrev Y_X10_fits : AbY := (yX10_fits, cX10_fits, some .boolean, [])
abbrev Y_X10_isIn : AbY := (yX10_isIn, cX10_isIn, some .boolean, [])
abbrev Y_X10_keepsLast : AbY := (yX10_keepsLast, cX10_keepsLast, some .boolean, [])
abbrev Y_X10_isSet : AbY := (yX10_isSet, cX10_isSet, some .boolean, [])
abbrev Y_X10_power : AbY := (yX10_power, cX10_power, some .int, [])
abbrev Y_X10_gcd : AbY := (yX10_gcd, cX10_gcd, some .int, [])
abbrev Y_X10_findRuns : AbY := (yX10_findRuns, cX10_findRuns, none, [])
abbrev Y_X10_run : AbY := (yX10_run, cX10_run, some .int, [])
abbrev Y_X10_findClash : AbY := (yX10_findClash, cX10_findClash, none, [])
abbrev Y_X10_clash : AbY := (yX10_clash, cX10_clash, some .int, [])
abbrev Y_X10_beginSearch : AbY := (yX10_beginSearch, cX10_beginSearch, none, [])
abbrev Y_X10_look : AbY := (yX10_look, cX10_look, some .boolean, [])
abbrev Y_X10_keepsWay : AbY := (yX10_keepsWay, cX10_keepsWay, some .boolean, [])
abbrev Y_X10_next : AbY := (yX10_next, cX10_next, some .boolean, [])
abbrev Y_X10_maySearch : AbY := (yX10_maySearch, cX10_maySearch, some .boolean, [])
abbrev Y_X10_many : AbY := (yX10_many, cX10_many, some .int, [])
abbrev Y_X10_find : AbY := (yX10_find, cX10_find, some .int, [])
abbrev Y_X10_rank : AbY := (yX10_rank, cX10_rank, some .int, [])
abbrev Y_X10_longest : AbY := (yX10_longest, cX10_longest, some .int, [])
abbrev Y_X10_map : AbY := (yX10_map, cX10_map, some .int, [])
abbrev Y_X10_isMap : AbY := (yX10_isMap, cX10_isMap, some .boolean, [])
abbrev Y_X10_findImage : AbY := (yX10_findImage, cX10_findImage, none, [])
abbrev Y_X10_image : AbY := (yX10_image, cX10_image, some .int, [])
abbrev Y_X10_hasSquare : AbY := (yX10_hasSquare, cX10_hasSquare, some .boolean, [])
abbrev Y_X10_keeps : AbY := (yX10_keeps, cX10_keeps, some .int, [])
abbrev Y_X10_at : AbY := (yX10_at, cX10_at, some .int, [])
abbrev Y_X10_isLoose : AbY := (yX10_isLoose, cX10_isLoose, some .boolean, [])
abbrev Y_X10_findSteps : AbY := (yX10_findSteps, cX10_findSteps, some .boolean, [])
abbrev Y_X10_stands : AbY := (yX10_stands, cX10_stands, some .boolean, [])
abbrev Y_X10_shape : AbY := (yX10_shape, cX10_shape, some .int, [])
abbrev Y_J6_bitCount_0f7a4 : AbY := (yJ6_bitCount_0f7a4, cJ6_bitCount_0f7a4, some .int, [])
abbrev Y_J9_max_7cf53 : AbY := (yJ9_max_7cf53, cJ9_max_7cf53, some .int, [])
abbrev Y_J9_min_7cf53 : AbY := (yJ9_min_7cf53, cJ9_min_7cf53, some .int, [])
abbrev Y_J9_min_f86c9 : AbY := (yJ9_min_f86c9, cJ9_min_f86c9, some .long, [])
abbrev Y_J7_rangeCheck_23922 : AbY := (yJ7_rangeCheck_23922, cJ7_rangeCheck_23922, none, [])
abbrev Y_J7_fill_bad5a : AbY := (yJ7_fill_bad5a, cJ7_fill_bad5a, none, [])
abbrev Y_J7_fill_53178 : AbY := (yJ7_fill_53178, cJ7_fill_53178, none, [])
abbrev Y_J7_fill_fda19 : AbY := (yJ7_fill_fda19, cJ7_fill_fda19, none, [])
abbrev Y_J7_copyOf_59c91 : AbY := (yJ7_copyOf_59c91, cJ7_copyOf_59c91, (some ((.array .int))), [])
abbrev Y_L_sheet : AbY := (yL_sheet, cL_sheet, some .int, [(0, 9, 12, 13), (0, 9, 15, 15)])
abbrev Y_L_row : AbY := (yL_row, cL_row, some .int, [(0, 12, 15, 21)])
abbrev Y_L_put : AbY := (yL_put, cL_put, some .int, [(0, 14, 17, 21)])
abbrev Y_L_tear : AbY := (yL_tear, cL_tear, some .int, [(0, 10, 13, 21)])
abbrev Y_L_word : AbY := (yL_word, cL_word, some .int, [(0, 10, 13, 21)])
abbrev Y_L_letter : AbY := (yL_letter, cL_letter, some .int, [(0, 12, 15, 21)])
abbrev Y_L_law : AbY := (yL_law, cL_law, some .int, [(0, 12, 15, 13), (0, 12, 19, 21)])
abbrev Y_L_power : AbY := (yL_power, cL_power, some .int, [(0, 12, 15, 21), (0, 12, 19, 13)])
abbrev Y_L_run : AbY := (yL_run, cL_run, some .int, [(0, 14, 17, 21), (0, 14, 21, 13)])
abbrev Y_L_clash : AbY := (yL_clash, cL_clash, some .int, [(0, 14, 17, 21), (0, 14, 21, 13)])
abbrev Y_L_many : AbY := (yL_many, cL_many, some .int, [(0, 12, 15, 13)])
abbrev Y_L_find : AbY := (yL_find, cL_find, some .int, [(0, 16, 19, 13), (0, 16, 23, 21)])
abbrev Y_L_rank : AbY := (yL_rank, cL_rank, some .int, [(0, 14, 17, 13), (0, 14, 21, 21)])
abbrev Y_L_longest : AbY := (yL_longest, cL_longest, some .int, [(0, 10, 13, 13)])
abbrev Y_L_map : AbY := (yL_map, cL_map, some .int, [(0, 14, 17, 13), (0, 14, 21, 21)])
abbrev Y_L_image : AbY := (yL_image, cL_image, some .int, [(0, 14, 17, 68), (0, 14, 21, 21)])
abbrev Y_L_keeps : AbY := (yL_keeps, cL_keeps, some .int, [(0, 10, 13, 68), (0, 10, 17, 21)])
abbrev Y_L_at : AbY := (yL_at, cL_at, some .int, [(0, 12, 15, 68)])
abbrev Y_L_shape : AbY := (yL_shape, cL_shape, some .int, [(0, 10, 13, 21), (0, 10, 17, 13)])
theorem sp0 : Cond.selects "java/lang/Throwable" ({ cls := "java/lang/Throwable", name := "fillInStackTrace", desc := "(I)Ljava/lang/Throwable;" } : Jvm.MethodName) ({ cls := "java/lang/Throwable", name := "fillInStackTrace", desc := "(I)Ljava/lang/Throwable;" } : Jvm.MethodName) ∈ lw_tbl := List.mem_append_left _ (List.mem_of_getElem? (l := k2_sels lw_privs) (i := 0) (by decide +kernel))
theorem sp1 : Cond.selects "WordBench" ({ cls := "WordBench", name := "sheetWithRow", desc := "(II)LWordBench$Sheet;" } : Jvm.MethodName) ({ cls := "WordBench", name := "sheetWithRow", desc := "(II)LWordBench$Sheet;" } : Jvm.MethodName) ∈ lw_tbl := List.mem_append_left _ (List.mem_of_getElem? (l := k2_sels lw_privs) (i := 1) (by decide +kernel))
theorem sp2 : Cond.selects "WordBench" ({ cls := "WordBench", name := "sheetOf", desc := "(I)LWordBench$Sheet;" } : Jvm.MethodName) ({ cls := "WordBench", name := "sheetOf", desc := "(I)LWordBench$Sheet;" } : Jvm.MethodName) ∈ lw_tbl := List.mem_append_left _ (List.mem_of_getElem? (l := k2_sels lw_privs) (i := 2) (by decide +kernel))
theorem sp3 : Cond.selects "WordBench" ({ cls := "WordBench", name := "readWord", desc := "(II)I" } : Jvm.MethodName) ({ cls := "WordBench", name := "readWord", desc := "(II)I" } : Jvm.MethodName) ∈ lw_tbl := List.mem_append_left _ (List.mem_of_getElem? (l := k2_sels lw_privs) (i := 3) (by decide +kernel))
theorem sp4 : Cond.selects "WordBench" ({ cls := "WordBench", name := "lawOfRow", desc := "(III)LWordBench$Law;" } : Jvm.MethodName) ({ cls := "WordBench", name := "lawOfRow", desc := "(III)LWordBench$Law;" } : Jvm.MethodName) ∈ lw_tbl := List.mem_append_left _ (List.mem_of_getElem? (l := k2_sels lw_privs) (i := 4) (by decide +kernel))
theorem sp5 : Cond.selects "WordBench" ({ cls := "WordBench", name := "seekRun", desc := "(III)I" } : Jvm.MethodName) ({ cls := "WordBench", name := "seekRun", desc := "(III)I" } : Jvm.MethodName) ∈ lw_tbl := List.mem_append_left _ (List.mem_of_getElem? (l := k2_sels lw_privs) (i := 5) (by decide +kernel))
theorem sp6 : Cond.selects "WordBench" ({ cls := "WordBench", name := "runEnd", desc := "(III)I" } : Jvm.MethodName) ({ cls := "WordBench", name := "runEnd", desc := "(III)I" } : Jvm.MethodName) ∈ lw_tbl := List.mem_append_left _ (List.mem_of_getElem? (l := k2_sels lw_privs) (i := 6) (by decide +kernel))
theorem sp7 : Cond.selects "WordBench" ({ cls := "WordBench", name := "needSet", desc := "(I)V" } : Jvm.MethodName) ({ cls := "WordBench", name := "needSet", desc := "(I)V" } : Jvm.MethodName) ∈ lw_tbl := List.mem_append_left _ (List.mem_of_getElem? (l := k2_sels lw_privs) (i := 7) (by decide +kernel))
theorem sp8 : Cond.selects "WordBench" ({ cls := "WordBench", name := "clashLetters", desc := "(II)I" } : Jvm.MethodName) ({ cls := "WordBench", name := "clashLetters", desc := "(II)I" } : Jvm.MethodName) ∈ lw_tbl := List.mem_append_left _ (List.mem_of_getElem? (l := k2_sels lw_privs) (i := 8) (by decide +kernel))
theorem sp9 : Cond.selects "WordBench$NearLaw" ({ cls := "WordBench$NearLaw", name := "isNear", desc := "([III)Z" } : Jvm.MethodName) ({ cls := "WordBench$NearLaw", name := "isNear", desc := "([III)Z" } : Jvm.MethodName) ∈ lw_tbl := List.mem_append_left _ (List.mem_of_getElem? (l := k2_sels lw_privs) (i := 9) (by decide +kernel))
theorem sp10 : Cond.selects "WordBench$ShapeLaw" ({ cls := "WordBench$ShapeLaw", name := "fit", desc := "([IIII)V" } : Jvm.MethodName) ({ cls := "WordBench$ShapeLaw", name := "fit", desc := "([IIII)V" } : Jvm.MethodName) ∈ lw_tbl := List.mem_append_left _ (List.mem_of_getElem? (l := k2_sels lw_privs) (i := 10) (by decide +kernel))
theorem sp11 : Cond.selects "WordBench$ShapeLaw" ({ cls := "WordBench$ShapeLaw", name := "mostFor", desc := "([III)I" } : Jvm.MethodName) ({ cls := "WordBench$ShapeLaw", name := "mostFor", desc := "([III)I" } : Jvm.MethodName) ∈ lw_tbl := List.mem_append_left _ (List.mem_of_getElem? (l := k2_sels lw_privs) (i := 11) (by decide +kernel))
theorem sp12 : Cond.selects "WordBench" ({ cls := "WordBench", name := "needSearch", desc := "(III)V" } : Jvm.MethodName) ({ cls := "WordBench", name := "needSearch", desc := "(III)V" } : Jvm.MethodName) ∈ lw_tbl := List.mem_append_left _ (List.mem_of_getElem? (l := k2_sels lw_privs) (i := 12) (by decide +kernel))
theorem sp13 : Cond.selects "WordBench$Search" ({ cls := "WordBench$Search", name := "hasShape", desc := "()Z" } : Jvm.MethodName) ({ cls := "WordBench$Search", name := "hasShape", desc := "()Z" } : Jvm.MethodName) ∈ lw_tbl := List.mem_append_left _ (List.mem_of_getElem? (l := k2_sels lw_privs) (i := 13) (by decide +kernel))
theorem sp14 : Cond.selects "WordBench$Search" ({ cls := "WordBench$Search", name := "takeLook", desc := "()Z" } : Jvm.MethodName) ({ cls := "WordBench$Search", name := "takeLook", desc := "()Z" } : Jvm.MethodName) ∈ lw_tbl := List.mem_append_left _ (List.mem_of_getElem? (l := k2_sels lw_privs) (i := 14) (by decide +kernel))
theorem sp15 : Cond.selects "WordBench$Search" ({ cls := "WordBench$Search", name := "putBehind", desc := "()Z" } : Jvm.MethodName) ({ cls := "WordBench$Search", name := "putBehind", desc := "()Z" } : Jvm.MethodName) ∈ lw_tbl := List.mem_append_left _ (List.mem_of_getElem? (l := k2_sels lw_privs) (i := 15) (by decide +kernel))
theorem sp16 : Cond.selects "WordBench" ({ cls := "WordBench", name := "fillMap", desc := "(LWordBench$LetterMap;ILWordBench$Sheet;I)V" } : Jvm.MethodName) ({ cls := "WordBench", name := "fillMap", desc := "(LWordBench$LetterMap;ILWordBench$Sheet;I)V" } : Jvm.MethodName) ∈ lw_tbl := List.mem_append_left _ (List.mem_of_getElem? (l := k2_sels lw_privs) (i := 16) (by decide +kernel))
theorem sp17 : Cond.selects "WordBench$LetterMap" ({ cls := "WordBench$LetterMap", name := "imageSize", desc := "(II)J" } : Jvm.MethodName) ({ cls := "WordBench$LetterMap", name := "imageSize", desc := "(II)J" } : Jvm.MethodName) ∈ lw_tbl := List.mem_append_left _ (List.mem_of_getElem? (l := k2_sels lw_privs) (i := 17) (by decide +kernel))
theorem sp18 : Cond.selects "WordBench" ({ cls := "WordBench", name := "mapOf", desc := "(I)LWordBench$LetterMap;" } : Jvm.MethodName) ({ cls := "WordBench", name := "mapOf", desc := "(I)LWordBench$LetterMap;" } : Jvm.MethodName) ∈ lw_tbl := List.mem_append_left _ (List.mem_of_getElem? (l := k2_sels lw_privs) (i := 18) (by decide +kernel))
theorem sp19 : Cond.selects "WordBench" ({ cls := "WordBench", name := "seekFailure", desc := "(LWordBench$LetterMap;I)I" } : Jvm.MethodName) ({ cls := "WordBench", name := "seekFailure", desc := "(LWordBench$LetterMap;I)I" } : Jvm.MethodName) ∈ lw_tbl := List.mem_append_left _ (List.mem_of_getElem? (l := k2_sels lw_privs) (i := 19) (by decide +kernel))
theorem sp20 : Cond.selects "WordBench" ({ cls := "WordBench", name := "isFailure", desc := "(LWordBench$LetterMap;I)Z" } : Jvm.MethodName) ({ cls := "WordBench", name := "isFailure", desc := "(LWordBench$LetterMap;I)Z" } : Jvm.MethodName) ∈ lw_tbl := List.mem_append_left _ (List.mem_of_getElem? (l := k2_sels lw_privs) (i := 20) (by decide +kernel))
theorem sp21 : Cond.selects "WordBench$ShapeLaw" ({ cls := "WordBench$ShapeLaw", name := "unknowns", desc := "()I" } : Jvm.MethodName) ({ cls := "WordBench$ShapeLaw", name := "unknowns", desc := "()I" } : Jvm.MethodName) ∈ lw_tbl := List.mem_append_left _ (List.mem_of_getElem? (l := k2_sels lw_privs) (i := 21) (by decide +kernel))
theorem sp22 : Cond.selects "WordBench$ShapeLaw" ({ cls := "WordBench$ShapeLaw", name := "takeOff", desc := "(II)I" } : Jvm.MethodName) ({ cls := "WordBench$ShapeLaw", name := "takeOff", desc := "(II)I" } : Jvm.MethodName) ∈ lw_tbl := List.mem_append_left _ (List.mem_of_getElem? (l := k2_sels lw_privs) (i := 22) (by decide +kernel))
theorem sp23 : Cond.selects "WordBench$ShapeLaw" ({ cls := "WordBench$ShapeLaw", name := "isLoose", desc := "(II)Z" } : Jvm.MethodName) ({ cls := "WordBench$ShapeLaw", name := "isLoose", desc := "(II)Z" } : Jvm.MethodName) ∈ lw_tbl := List.mem_append_left _ (List.mem_of_getElem? (l := k2_sels lw_privs) (i := 23) (by decide +kernel))
theorem sp24 : Cond.selects "WordBench$ShapeLaw" ({ cls := "WordBench$ShapeLaw", name := "reachOn", desc := "(II)I" } : Jvm.MethodName) ({ cls := "WordBench$ShapeLaw", name := "reachOn", desc := "(II)I" } : Jvm.MethodName) ∈ lw_tbl := List.mem_append_left _ (List.mem_of_getElem? (l := k2_sels lw_privs) (i := 24) (by decide +kernel))
theorem sp25 : Cond.selects "WordBenchModel" ({ cls := "WordBenchModel", name := "may", desc := "(ZI)Z" } : Jvm.MethodName) ({ cls := "WordBenchModel", name := "may", desc := "(ZI)Z" } : Jvm.MethodName) ∈ lw_tbl := List.mem_append_left _ (List.mem_of_getElem? (l := k2_sels lw_privs) (i := 25) (by decide +kernel))
theorem sp26 : Cond.selects "WordBenchModel" ({ cls := "WordBenchModel", name := "isRow", desc := "(III)Z" } : Jvm.MethodName) ({ cls := "WordBenchModel", name := "isRow", desc := "(III)Z" } : Jvm.MethodName) ∈ lw_tbl := List.mem_append_left _ (List.mem_of_getElem? (l := k2_sels lw_privs) (i := 26) (by decide +kernel))
theorem sp27 : Cond.selects "WordBenchModel" ({ cls := "WordBenchModel", name := "isSheet", desc := "(I)Z" } : Jvm.MethodName) ({ cls := "WordBenchModel", name := "isSheet", desc := "(I)Z" } : Jvm.MethodName) ∈ lw_tbl := List.mem_append_left _ (List.mem_of_getElem? (l := k2_sels lw_privs) (i := 27) (by decide +kernel))
theorem sp28 : Cond.selects "WordBenchModel" ({ cls := "WordBenchModel", name := "reads", desc := "(II)Z" } : Jvm.MethodName) ({ cls := "WordBenchModel", name := "reads", desc := "(II)Z" } : Jvm.MethodName) ∈ lw_tbl := List.mem_append_left _ (List.mem_of_getElem? (l := k2_sels lw_privs) (i := 28) (by decide +kernel))
theorem sp29 : Cond.selects "WordBenchModel" ({ cls := "WordBenchModel", name := "findRuns", desc := "()V" } : Jvm.MethodName) ({ cls := "WordBenchModel", name := "findRuns", desc := "()V" } : Jvm.MethodName) ∈ lw_tbl := List.mem_append_left _ (List.mem_of_getElem? (l := k2_sels lw_privs) (i := 29) (by decide +kernel))
theorem sp30 : Cond.selects "WordBenchModel" ({ cls := "WordBenchModel", name := "isSet", desc := "(I)Z" } : Jvm.MethodName) ({ cls := "WordBenchModel", name := "isSet", desc := "(I)Z" } : Jvm.MethodName) ∈ lw_tbl := List.mem_append_left _ (List.mem_of_getElem? (l := k2_sels lw_privs) (i := 30) (by decide +kernel))
theorem sp31 : Cond.selects "WordBenchModel" ({ cls := "WordBenchModel", name := "findClash", desc := "(I[II)V" } : Jvm.MethodName) ({ cls := "WordBenchModel", name := "findClash", desc := "(I[II)V" } : Jvm.MethodName) ∈ lw_tbl := List.mem_append_left _ (List.mem_of_getElem? (l := k2_sels lw_privs) (i := 31) (by decide +kernel))
theorem sp32 : Cond.selects "WordBenchModel" ({ cls := "WordBenchModel", name := "isBarred", desc := "(I[III)Z" } : Jvm.MethodName) ({ cls := "WordBenchModel", name := "isBarred", desc := "(I[III)Z" } : Jvm.MethodName) ∈ lw_tbl := List.mem_append_left _ (List.mem_of_getElem? (l := k2_sels lw_privs) (i := 32) (by decide +kernel))
theorem sp33 : Cond.selects "WordBenchModel" ({ cls := "WordBenchModel", name := "isTurned", desc := "([III)Z" } : Jvm.MethodName) ({ cls := "WordBenchModel", name := "isTurned", desc := "([III)Z" } : Jvm.MethodName) ∈ lw_tbl := List.mem_append_left _ (List.mem_of_getElem? (l := k2_sels lw_privs) (i := 33) (by decide +kernel))
theorem sp34 : Cond.selects "WordBenchModel" ({ cls := "WordBenchModel", name := "comesOf", desc := "([III[III)Z" } : Jvm.MethodName) ({ cls := "WordBenchModel", name := "comesOf", desc := "([III[III)Z" } : Jvm.MethodName) ∈ lw_tbl := List.mem_append_left _ (List.mem_of_getElem? (l := k2_sels lw_privs) (i := 34) (by decide +kernel))
theorem sp35 : Cond.selects "WordBenchModel" ({ cls := "WordBenchModel", name := "fits", desc := "([III[III)Z" } : Jvm.MethodName) ({ cls := "WordBenchModel", name := "fits", desc := "([III[III)Z" } : Jvm.MethodName) ∈ lw_tbl := List.mem_append_left _ (List.mem_of_getElem? (l := k2_sels lw_privs) (i := 35) (by decide +kernel))
theorem sp36 : Cond.selects "WordBenchModel" ({ cls := "WordBenchModel", name := "maySearch", desc := "(II)Z" } : Jvm.MethodName) ({ cls := "WordBenchModel", name := "maySearch", desc := "(II)Z" } : Jvm.MethodName) ∈ lw_tbl := List.mem_append_left _ (List.mem_of_getElem? (l := k2_sels lw_privs) (i := 36) (by decide +kernel))
theorem sp37 : Cond.selects "WordBenchModel" ({ cls := "WordBenchModel", name := "beginSearch", desc := "(III)V" } : Jvm.MethodName) ({ cls := "WordBenchModel", name := "beginSearch", desc := "(III)V" } : Jvm.MethodName) ∈ lw_tbl := List.mem_append_left _ (List.mem_of_getElem? (l := k2_sels lw_privs) (i := 37) (by decide +kernel))
theorem sp38 : Cond.selects "WordBenchModel" ({ cls := "WordBenchModel", name := "next", desc := "()Z" } : Jvm.MethodName) ({ cls := "WordBenchModel", name := "next", desc := "()Z" } : Jvm.MethodName) ∈ lw_tbl := List.mem_append_left _ (List.mem_of_getElem? (l := k2_sels lw_privs) (i := 38) (by decide +kernel))
theorem sp39 : Cond.selects "WordBenchModel" ({ cls := "WordBenchModel", name := "look", desc := "()Z" } : Jvm.MethodName) ({ cls := "WordBenchModel", name := "look", desc := "()Z" } : Jvm.MethodName) ∈ lw_tbl := List.mem_append_left _ (List.mem_of_getElem? (l := k2_sels lw_privs) (i := 39) (by decide +kernel))
theorem sp40 : Cond.selects "WordBenchModel" ({ cls := "WordBenchModel", name := "keepsWay", desc := "()Z" } : Jvm.MethodName) ({ cls := "WordBenchModel", name := "keepsWay", desc := "()Z" } : Jvm.MethodName) ∈ lw_tbl := List.mem_append_left _ (List.mem_of_getElem? (l := k2_sels lw_privs) (i := 40) (by decide +kernel))
theorem sp41 : Cond.selects "WordBenchModel" ({ cls := "WordBenchModel", name := "keepsLast", desc := "(I[II)Z" } : Jvm.MethodName) ({ cls := "WordBenchModel", name := "keepsLast", desc := "(I[II)Z" } : Jvm.MethodName) ∈ lw_tbl := List.mem_append_left _ (List.mem_of_getElem? (l := k2_sels lw_privs) (i := 41) (by decide +kernel))
theorem sp42 : Cond.selects "WordBenchModel" ({ cls := "WordBenchModel", name := "write", desc := "(I[II)V" } : Jvm.MethodName) ({ cls := "WordBenchModel", name := "write", desc := "(I[II)V" } : Jvm.MethodName) ∈ lw_tbl := List.mem_append_left _ (List.mem_of_getElem? (l := k2_sels lw_privs) (i := 42) (by decide +kernel))
theorem sp43 : Cond.selects "WordBenchModel" ({ cls := "WordBenchModel", name := "isMap", desc := "(I)Z" } : Jvm.MethodName) ({ cls := "WordBenchModel", name := "isMap", desc := "(I)Z" } : Jvm.MethodName) ∈ lw_tbl := List.mem_append_left _ (List.mem_of_getElem? (l := k2_sels lw_privs) (i := 43) (by decide +kernel))
theorem sp44 : Cond.selects "WordBenchModel" ({ cls := "WordBenchModel", name := "findImage", desc := "(I[II)V" } : Jvm.MethodName) ({ cls := "WordBenchModel", name := "findImage", desc := "(I[II)V" } : Jvm.MethodName) ∈ lw_tbl := List.mem_append_left _ (List.mem_of_getElem? (l := k2_sels lw_privs) (i := 44) (by decide +kernel))
theorem sp45 : Cond.selects "WordBenchModel" ({ cls := "WordBenchModel", name := "hasSquare", desc := "()Z" } : Jvm.MethodName) ({ cls := "WordBenchModel", name := "hasSquare", desc := "()Z" } : Jvm.MethodName) ∈ lw_tbl := List.mem_append_left _ (List.mem_of_getElem? (l := k2_sels lw_privs) (i := 45) (by decide +kernel))
theorem sp46 : Cond.selects "WordBenchModel" ({ cls := "WordBenchModel", name := "stands", desc := "(I)Z" } : Jvm.MethodName) ({ cls := "WordBenchModel", name := "stands", desc := "(I)Z" } : Jvm.MethodName) ∈ lw_tbl := List.mem_append_left _ (List.mem_of_getElem? (l := k2_sels lw_privs) (i := 46) (by decide +kernel))
theorem sp47 : Cond.selects "WordBenchModel" ({ cls := "WordBenchModel", name := "findSteps", desc := "(I)Z" } : Jvm.MethodName) ({ cls := "WordBenchModel", name := "findSteps", desc := "(I)Z" } : Jvm.MethodName) ∈ lw_tbl := List.mem_append_left _ (List.mem_of_getElem? (l := k2_sels lw_privs) (i := 47) (by decide +kernel))
theorem sp48 : Cond.selects "WordBenchModel" ({ cls := "WordBenchModel", name := "isLoose", desc := "(II)Z" } : Jvm.MethodName) ({ cls := "WordBenchModel", name := "isLoose", desc := "(II)Z" } : Jvm.MethodName) ∈ lw_tbl := List.mem_append_left _ (List.mem_of_getElem? (l := k2_sels lw_privs) (i := 48) (by decide +kernel))
theorem inX1 : ∀ w ∈ u_ws RX1 TX1 4, w ∈ lw_tbl := by
  intro w hw
  have h : u_ws RX1 TX1 4 = ([891, 893, 895, 897]).filterMap (fun i => tables_1[i]?) := by decide +kernel
  rw [h] at hw
  obtain ⟨i, -, hi⟩ := List.mem_filterMap.mp hw
  exact w_in i hi
theorem okX1 : ab_ok 0 RX1 TX1 4 tyX1 := ⟨rfl, inX1, tyX1_ok, nmX1⟩
theorem inX2 : ∀ w ∈ u_ws RX2 TX2 1, w ∈ lw_tbl := by
  intro w hw
  have h : u_ws RX2 TX2 1 = ([692]).filterMap (fun i => tables_1[i]?) := by decide +kernel
  rw [h] at hw
  obtain ⟨i, -, hi⟩ := List.mem_filterMap.mp hw
  exact w_in i hi
theorem okX2 : ab_ok 1 RX2 TX2 1 tyX2 := ⟨rfl, inX2, tyX2_ok, nmX2⟩
theorem inX3 : ∀ w ∈ u_ws RX3 TX3 3, w ∈ lw_tbl := by
  intro w hw
  have h : u_ws RX3 TX3 3 = ([57, 59, 61]).filterMap (fun i => tables_1[i]?) := by decide +kernel
  rw [h] at hw
  obtain ⟨i, -, hi⟩ := List.mem_filterMap.mp hw
  exact w_in i hi
theorem okX3 : ab_ok 2 RX3 TX3 3 tyX3 := ⟨rfl, inX3, tyX3_ok, nmX3⟩
theorem inX4 : ∀ w ∈ u_ws RX4 TX4 12, w ∈ lw_tbl := by
  intro w hw
  have h : u_ws RX4 TX4 12 = ([86, 88, 90, 92, 94, 96, 98, 100, 102, 104, 106, 108]).filterMap (fun i => tables_1[i]?) := by decide +kernel
  rw [h] at hw
  obtain ⟨i, -, hi⟩ := List.mem_filterMap.mp hw
  exact w_in i hi
theorem okX4 : ab_ok 3 RX4 TX4 12 tyX4 := ⟨rfl, inX4, tyX4_ok, nmX4⟩
theorem inX5 : ∀ w ∈ u_ws RX5 TX5 7, w ∈ lw_tbl := by
  intro w hw
  have h : u_ws RX5 TX5 7 = ([663, 665, 667, 669, 671, 673, 675]).filterMap (fun i => tables_1[i]?) := by decide +kernel
  rw [h] at hw
  obtain ⟨i, -, hi⟩ := List.mem_filterMap.mp hw
  exact w_in i hi
theorem okX5 : ab_ok 4 RX5 TX5 7 tyX5 := ⟨rfl, inX5, tyX5_ok, nmX5⟩
theorem inX6 : ∀ w ∈ u_ws RX6 TX6 3, w ∈ lw_tbl := by
  intro w hw
  have h : u_ws RX6 TX6 3 = ([250, 252, 254]).filterMap (fun i => tables_1[i]?) := by decide +kernel
  rw [h] at hw
  obtain ⟨i, -, hi⟩ := List.mem_filterMap.mp hw
  exact w_in i hi
theorem okX6 : ab_ok 5 RX6 TX6 3 tyX6 := ⟨rfl, inX6, tyX6_ok, nmX6⟩
theorem inX7 : ∀ w ∈ u_ws RX7 TX7 1, w ∈ lw_tbl := by
  intro w hw
  have h : u_ws RX7 TX7 1 = ([644]).filterMap (fun i => tables_1[i]?) := by decide +kernel
  rw [h] at hw
  obtain ⟨i, -, hi⟩ := List.mem_filterMap.mp hw
  exact w_in i hi
theorem okX7 : ab_ok 6 RX7 TX7 1 tyX7 := ⟨rfl, inX7, tyX7_ok, nmX7⟩
theorem inX8 : ∀ w ∈ u_ws RX8 TX8 0, w ∈ lw_tbl := by
  intro w hw
  cases hw
theorem okX8 : ab_ok 7 RX8 TX8 0 tyX8 := ⟨rfl, inX8, tyX8_ok, nmX8⟩
theorem inX9 : ∀ w ∈ u_ws RX9 TX9 9, w ∈ lw_tbl := by
  intro w hw
  have h : u_ws RX9 TX9 9 = ([121, 123, 125, 127, 129, 131, 133, 135, 137]).filterMap (fun i => tables_1[i]?) := by decide +kernel
  rw [h] at hw
  obtain ⟨i, -, hi⟩ := List.mem_filterMap.mp hw
  exact w_in i hi
theorem okX9 : ab_ok 8 RX9 TX9 9 tyX9 := ⟨rfl, inX9, tyX9_ok, nmX9⟩
theorem inX10 : ∀ w ∈ u_ws RX10 TX10 48, w ∈ lw_tbl := by
  intro w hw
  have h : u_ws RX10 TX10 48 = ([1103, 1105, 1107, 1109, 1111, 1113, 1115, 1117, 1119, 1121, 1123, 1125, 1127, 1129, 1131, 1133, 1135, 1137, 1139, 1141, 1143, 1145, 1147, 1149, 1151, 1153, 1155, 1157, 1159, 1161, 1163, 1165, 1167, 1169, 1171, 1173, 1175, 1177, 1179, 1181, 1183, 1185, 1187, 1189, 1191, 1193, 1195, 1197]).filterMap (fun i => tables_1[i]?) := by decide +kernel
  rw [h] at hw
  obtain ⟨i, -, hi⟩ := List.mem_filterMap.mp hw
  exact w_in i hi
theorem okX10 : ab_ok 9 RX10 TX10 48 tyX10 := ⟨rfl, inX10, tyX10_ok, nmX10⟩
