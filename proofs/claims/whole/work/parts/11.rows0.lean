/-! each method's rows of code and its place in the registry, decided -/
set_option maxRecDepth 100000 in
theorem tk_X0_copyBlock : ab_tb 0 cX0_copyBlock tb_X0_copyBlock = true := by decide +kernel
theorem rq_X0_copyBlock : ab_reg[1]? = some (yX0_copyBlock, cX0_copyBlock, 11, (some .long), 0, (930, 929, 36, 95), 0) := rfl
set_option maxRecDepth 100000 in
theorem tk_X0_copyStatement : ab_tb 0 cX0_copyStatement tb_X0_copyStatement = true := by decide +kernel
theorem rq_X0_copyStatement : ab_reg[2]? = some (yX0_copyStatement, cX0_copyStatement, 13, (some .long), 0, (934, 933, 37, 95), 0) := rfl
set_option maxRecDepth 100000 in
theorem tk_X0_differing : ab_tb 0 cX0_differing tb_X0_differing = true := by decide +kernel
theorem rq_X0_differing : ab_reg[3]? = some (yX0_differing, cX0_differing, 6, (some .int), 0, (896, 895, 9999, 95), 1) := rfl
set_option maxRecDepth 100000 in
theorem tk_X0_joined : ab_tb 0 cX0_joined tb_X0_joined = true := by decide +kernel
theorem rq_X0_joined : ab_reg[4]? = some (yX0_joined, cX0_joined, 6, (some .long), 0, (900, 899, 34, 95), 0) := rfl
set_option maxRecDepth 100000 in
theorem tk_X0_noteThrow : ab_tb 0 cX0_noteThrow tb_X0_noteThrow = true := by decide +kernel
theorem rq_X0_noteThrow : ab_reg[5]? = some (yX0_noteThrow, cX0_noteThrow, 4, none, 0, (893, 892, 33, 95), 0) := rfl
set_option maxRecDepth 100000 in
theorem tk_X0_renewed : ab_tb 0 cX0_renewed tb_X0_renewed = true := by decide +kernel
theorem rq_X0_renewed : ab_reg[6]? = some (yX0_renewed, cX0_renewed, 7, (some .long), 0, (888, 887, 32, 95), 0) := rfl
set_option maxRecDepth 100000 in
theorem tk_X0_sizeByCopying : ab_tb 0 cX0_sizeByCopying tb_X0_sizeByCopying = true := by decide +kernel
theorem rq_X0_sizeByCopying : ab_reg[7]? = some (yX0_sizeByCopying, cX0_sizeByCopying, 1, (some .long), 0, (926, 924, 925, 95), 0) := rfl
set_option maxRecDepth 100000 in
theorem tk_X0_traverse : ab_tb 0 cX0_traverse tb_X0_traverse = true := by decide +kernel
theorem rq_X0_traverse : ab_reg[8]? = some (yX0_traverse, cX0_traverse, 2, none, 0, (872, 870, 871, 95), 0) := rfl
set_option maxRecDepth 100000 in
theorem tk_X0_traverseBlock : ab_tb 0 cX0_traverseBlock tb_X0_traverseBlock = true := by decide +kernel
theorem rq_X0_traverseBlock : ab_reg[9]? = some (yX0_traverseBlock, cX0_traverseBlock, 10, (some .long), 0, (876, 875, 30, 95), 0) := rfl
set_option maxRecDepth 100000 in
theorem tk_X0_traverseStatement : ab_tb 0 cX0_traverseStatement tb_X0_traverseStatement = true := by decide +kernel
theorem rq_X0_traverseStatement : ab_reg[10]? = some (yX0_traverseStatement, cX0_traverseStatement, 11, (some .long), 0, (882, 881, 31, 95), 0) := rfl
set_option maxRecDepth 100000 in
theorem tk_X0_traverseTry : ab_tb 0 cX0_traverseTry tb_X0_traverseTry = true := by decide +kernel
theorem rq_X0_traverseTry : ab_reg[11]? = some (yX0_traverseTry, cX0_traverseTry, 11, (some .long), 0, (910, 909, 35, 95), 0) := rfl
set_option maxRecDepth 100000 in
theorem tk_X1_addCheck : ab_tb 1 cX1_addCheck tb_X1_addCheck = true := by decide +kernel
theorem rq_X1_addCheck : ab_reg[13]? = some (yX1_addCheck, cX1_addCheck, 2, none, 1, (574, 572, 573, 89), 0) := rfl
set_option maxRecDepth 100000 in
theorem tk_X1_addLoop : ab_tb 1 cX1_addLoop tb_X1_addLoop = true := by decide +kernel
theorem rq_X1_addLoop : ab_reg[14]? = some (yX1_addLoop, cX1_addLoop, 2, none, 1, (570, 568, 569, 89), 0) := rfl
set_option maxRecDepth 100000 in
theorem tk_X1_addTerm : ab_tb 1 cX1_addTerm tb_X1_addTerm = true := by decide +kernel
theorem rq_X1_addTerm : ab_reg[15]? = some (yX1_addTerm, cX1_addTerm, 3, (some .int), 1, (592, 590, 591, 89), 0) := rfl
set_option maxRecDepth 100000 in
theorem tk_X1_at : ab_tb 1 cX1_at tb_X1_at = true := by decide +kernel
theorem rq_X1_at : ab_reg[16]? = some (yX1_at, cX1_at, 2, (some (.object "PassiveChecks$Statement")), 1, (534, 532, 533, 89), 0) := rfl
set_option maxRecDepth 100000 in
theorem tk_X1_entry : ab_tb 1 cX1_entry tb_X1_entry = true := by decide +kernel
theorem rq_X1_entry : ab_reg[17]? = some (yX1_entry, cX1_entry, 3, (some .int), 1, (614, 613, 13, 89), 0) := rfl
set_option maxRecDepth 100000 in
theorem tk_X1_hasCheck : ab_tb 1 cX1_hasCheck tb_X1_hasCheck = true := by decide +kernel
theorem rq_X1_hasCheck : ab_reg[18]? = some (yX1_hasCheck, cX1_hasCheck, 2, (some .boolean), 1, (706, 704, 705, 89), 0) := rfl
set_option maxRecDepth 100000 in
theorem tk_X1_hasLoop : ab_tb 1 cX1_hasLoop tb_X1_hasLoop = true := by decide +kernel
theorem rq_X1_hasLoop : ab_reg[19]? = some (yX1_hasLoop, cX1_hasLoop, 2, (some .boolean), 1, (669, 667, 668, 89), 0) := rfl
set_option maxRecDepth 100000 in
theorem tk_X1_isInLoop : ab_tb 1 cX1_isInLoop tb_X1_isInLoop = true := by decide +kernel
theorem rq_X1_isInLoop : ab_reg[20]? = some (yX1_isInLoop, cX1_isInLoop, 4, (some .boolean), 1, (766, 764, 765, 89), 0) := rfl
set_option maxRecDepth 100000 in
theorem tk_X1_link : ab_tb 1 cX1_link tb_X1_link = true := by decide +kernel
theorem rq_X1_link : ab_reg[21]? = some (yX1_link, cX1_link, 3, none, 1, (600, 598, 599, 89), 0) := rfl
set_option maxRecDepth 100000 in
theorem tk_X1_linkIn : ab_tb 1 cX1_linkIn tb_X1_linkIn = true := by decide +kernel
theorem rq_X1_linkIn : ab_reg[22]? = some (yX1_linkIn, cX1_linkIn, 2, none, 1, (618, 617, 14, 89), 0) := rfl
set_option maxRecDepth 100000 in
theorem tk_X1_linkOut : ab_tb 1 cX1_linkOut tb_X1_linkOut = true := by decide +kernel
theorem rq_X1_linkOut : ab_reg[23]? = some (yX1_linkOut, cX1_linkOut, 4, none, 1, (605, 604, 11, 89), 0) := rfl
set_option maxRecDepth 100000 in
theorem tk_X1_loopRow : ab_tb 1 cX1_loopRow tb_X1_loopRow = true := by decide +kernel
theorem rq_X1_loopRow : ab_reg[24]? = some (yX1_loopRow, cX1_loopRow, 2, (some .int), 1, (681, 679, 680, 89), 0) := rfl
set_option maxRecDepth 100000 in
theorem tk_X1_loopStatement : ab_tb 1 cX1_loopStatement tb_X1_loopStatement = true := by decide +kernel
theorem rq_X1_loopStatement : ab_reg[25]? = some (yX1_loopStatement, cX1_loopStatement, 2, (some (.object "PassiveChecks$Statement")), 1, (677, 675, 676, 89), 0) := rfl
set_option maxRecDepth 100000 in
theorem tk_X1_noteModified : ab_tb 1 cX1_noteModified tb_X1_noteModified = true := by decide +kernel
theorem rq_X1_noteModified : ab_reg[26]? = some (yX1_noteModified, cX1_noteModified, 4, none, 1, (622, 621, 15, 89), 0) := rfl
set_option maxRecDepth 100000 in
theorem tk_X1_reset : ab_tb 1 cX1_reset tb_X1_reset = true := by decide +kernel
theorem rq_X1_reset : ab_reg[27]? = some (yX1_reset, cX1_reset, 2, none, 1, (518, 516, 517, 89), 0) := rfl
set_option maxRecDepth 100000 in
theorem tk_X1_rowBehindBlock : ab_tb 1 cX1_rowBehindBlock tb_X1_rowBehindBlock = true := by decide +kernel
theorem rq_X1_rowBehindBlock : ab_reg[28]? = some (yX1_rowBehindBlock, cX1_rowBehindBlock, 2, (some .int), 1, (609, 608, 12, 89), 0) := rfl
set_option maxRecDepth 100000 in
theorem tk_X1_startRow : ab_tb 1 cX1_startRow tb_X1_startRow = true := by decide +kernel
theorem rq_X1_startRow : ab_reg[29]? = some (yX1_startRow, cX1_startRow, 1, (some .int), 1, (817, 815, 816, 89), 0) := rfl
set_option maxRecDepth 100000 in
theorem tk_X1_termBegin : ab_tb 1 cX1_termBegin tb_X1_termBegin = true := by decide +kernel
theorem rq_X1_termBegin : ab_reg[30]? = some (yX1_termBegin, cX1_termBegin, 2, (some .int), 1, (685, 683, 684, 89), 0) := rfl
set_option maxRecDepth 100000 in
theorem tk_X1_termLength : ab_tb 1 cX1_termLength tb_X1_termLength = true := by decide +kernel
theorem rq_X1_termLength : ab_reg[31]? = some (yX1_termLength, cX1_termLength, 2, (some .int), 1, (689, 687, 688, 89), 0) := rfl
set_option maxRecDepth 100000 in
theorem tk_X2_addChecks : ab_tb 2 cX2_addChecks tb_X2_addChecks = true := by decide +kernel
theorem rq_X2_addChecks : ab_reg[33]? = some (yX2_addChecks, cX2_addChecks, 3, none, 2, (566, 565, 7, 91), 0) := rfl
set_option maxRecDepth 100000 in
theorem tk_X2_addStatement : ab_tb 2 cX2_addStatement tb_X2_addStatement = true := by decide +kernel
theorem rq_X2_addStatement : ab_reg[34]? = some (yX2_addStatement, cX2_addStatement, 4, (some (.object "PassiveChecks$Statement")), 2, (561, 560, 6, 91), 0) := rfl
set_option maxRecDepth 100000 in
theorem tk_X2_closeBlock : ab_tb 2 cX2_closeBlock tb_X2_closeBlock = true := by decide +kernel
theorem rq_X2_closeBlock : ab_reg[35]? = some (yX2_closeBlock, cX2_closeBlock, 2, none, 2, (530, 529, 2, 91), 0) := rfl
set_option maxRecDepth 100000 in
theorem tk_X2_isAllowed : ab_tb 2 cX2_isAllowed tb_X2_isAllowed = true := by decide +kernel
theorem rq_X2_isAllowed : ab_reg[36]? = some (yX2_isAllowed, cX2_isAllowed, 1, (some .boolean), 2, (550, 549, 4, 91), 0) := rfl
set_option maxRecDepth 100000 in
theorem tk_X2_isBinary : ab_tb 2 cX2_isBinary tb_X2_isBinary = true := by decide +kernel
theorem rq_X2_isBinary : ab_reg[37]? = some (yX2_isBinary, cX2_isBinary, 1, (some .boolean), 2, (588, 587, 9999, 91), 1) := rfl
set_option maxRecDepth 100000 in
theorem tk_X2_moveTo : ab_tb 2 cX2_moveTo tb_X2_moveTo = true := by decide +kernel
theorem rq_X2_moveTo : ab_reg[38]? = some (yX2_moveTo, cX2_moveTo, 2, none, 2, (522, 521, 1, 91), 0) := rfl
set_option maxRecDepth 100000 in
theorem tk_X2_openBlock : ab_tb 2 cX2_openBlock tb_X2_openBlock = true := by decide +kernel
theorem rq_X2_openBlock : ab_reg[39]? = some (yX2_openBlock, cX2_openBlock, 2, none, 2, (596, 595, 10, 91), 0) := rfl
set_option maxRecDepth 100000 in
theorem tk_X2_pass : ab_tb 2 cX2_pass tb_X2_pass = true := by decide +kernel
theorem rq_X2_pass : ab_reg[40]? = some (yX2_pass, cX2_pass, 2, none, 2, (542, 541, 3, 91), 0) := rfl
set_option maxRecDepth 100000 in
theorem tk_X2_readProgram : ab_tb 2 cX2_readProgram tb_X2_readProgram = true := by decide +kernel
theorem rq_X2_readProgram : ab_reg[41]? = some (yX2_readProgram, cX2_readProgram, 4, (some .int), 2, (510, 508, 509, 91), 0) := rfl
set_option maxRecDepth 100000 in
theorem tk_X2_readStatement : ab_tb 2 cX2_readStatement tb_X2_readStatement = true := by decide +kernel
theorem rq_X2_readStatement : ab_reg[42]? = some (yX2_readStatement, cX2_readStatement, 3, none, 2, (557, 556, 5, 91), 0) := rfl
set_option maxRecDepth 100000 in
theorem tk_X2_readTerm : ab_tb 2 cX2_readTerm tb_X2_readTerm = true := by decide +kernel
theorem rq_X2_readTerm : ab_reg[43]? = some (yX2_readTerm, cX2_readTerm, 3, (some .int), 2, (673, 671, 672, 91), 0) := rfl
set_option maxRecDepth 100000 in
theorem tk_X2_start : ab_tb 2 cX2_start tb_X2_start = true := by decide +kernel
theorem rq_X2_start : ab_reg[44]? = some (yX2_start, cX2_start, 3, none, 2, (514, 513, 0, 91), 0) := rfl
set_option maxRecDepth 100000 in
theorem tk_X2_term : ab_tb 2 cX2_term tb_X2_term = true := by decide +kernel
theorem rq_X2_term : ab_reg[45]? = some (yX2_term, cX2_term, 4, (some .int), 2, (582, 581, 9, 91), 0) := rfl
set_option maxRecDepth 100000 in
theorem tk_X2_variable : ab_tb 2 cX2_variable tb_X2_variable = true := by decide +kernel
theorem rq_X2_variable : ab_reg[46]? = some (yX2_variable, cX2_variable, 2, (some .int), 2, (578, 577, 8, 91), 0) := rfl
set_option maxRecDepth 100000 in
theorem tk_X3_can : ab_tb 3 cX3_can tb_X3_can = true := by decide +kernel
theorem rq_X3_can : ab_reg[48]? = some (yX3_can, cX3_can, 4, (some .boolean), 3, (822, 820, 821, 92), 0) := rfl
set_option maxRecDepth 100000 in
theorem tk_X3_clearNotes : ab_tb 3 cX3_clearNotes tb_X3_clearNotes = true := by decide +kernel
theorem rq_X3_clearNotes : ab_reg[49]? = some (yX3_clearNotes, cX3_clearNotes, 1, none, 3, (755, 754, 20, 92), 0) := rfl
set_option maxRecDepth 100000 in
theorem tk_X3_drop : ab_tb 3 cX3_drop tb_X3_drop = true := by decide +kernel
theorem rq_X3_drop : ab_reg[50]? = some (yX3_drop, cX3_drop, 1, none, 3, (657, 655, 656, 92), 0) := rfl
set_option maxRecDepth 100000 in
theorem tk_X3_isReached : ab_tb 3 cX3_isReached tb_X3_isReached = true := by decide +kernel
theorem rq_X3_isReached : ab_reg[51]? = some (yX3_isReached, cX3_isReached, 3, (some .boolean), 3, (845, 843, 844, 92), 0) := rfl
set_option maxRecDepth 100000 in
theorem tk_X3_prepare : ab_tb 3 cX3_prepare tb_X3_prepare = true := by decide +kernel
theorem rq_X3_prepare : ab_reg[52]? = some (yX3_prepare, cX3_prepare, 8, none, 3, (751, 749, 750, 92), 0) := rfl
set_option maxRecDepth 100000 in
theorem tk_X3_refresh : ab_tb 3 cX3_refresh tb_X3_refresh = true := by decide +kernel
theorem rq_X3_refresh : ab_reg[53]? = some (yX3_refresh, cX3_refresh, 8, (some .boolean), 3, (776, 775, 22, 92), 0) := rfl
set_option maxRecDepth 100000 in
theorem tk_X3_removeLeaving : ab_tb 3 cX3_removeLeaving tb_X3_removeLeaving = true := by decide +kernel
theorem rq_X3_removeLeaving : ab_reg[54]? = some (yX3_removeLeaving, cX3_removeLeaving, 6, (some .boolean), 3, (859, 858, 29, 92), 0) := rfl
set_option maxRecDepth 100000 in
theorem tk_X3_search : ab_tb 3 cX3_search tb_X3_search = true := by decide +kernel
theorem rq_X3_search : ab_reg[55]? = some (yX3_search, cX3_search, 8, none, 3, (841, 839, 840, 92), 0) := rfl
set_option maxRecDepth 100000 in
theorem tk_X3_shrink : ab_tb 3 cX3_shrink tb_X3_shrink = true := by decide +kernel
theorem rq_X3_shrink : ab_reg[56]? = some (yX3_shrink, cX3_shrink, 6, (some .int), 3, (853, 851, 852, 92), 0) := rfl
set_option maxRecDepth 100000 in
theorem tk_X3_statesKept : ab_tb 3 cX3_statesKept tb_X3_statesKept = true := by decide +kernel
theorem rq_X3_statesKept : ab_reg[57]? = some (yX3_statesKept, cX3_statesKept, 4, (some .int), 3, (863, 861, 862, 92), 0) := rfl
set_option maxRecDepth 100000 in
theorem tk_X3_statesWith : ab_tb 3 cX3_statesWith tb_X3_statesWith = true := by decide +kernel
theorem rq_X3_statesWith : ab_reg[58]? = some (yX3_statesWith, cX3_statesWith, 4, (some .int), 3, (714, 712, 713, 92), 0) := rfl
set_option maxRecDepth 100000 in
theorem tk_X3_sweep : ab_tb 3 cX3_sweep tb_X3_sweep = true := by decide +kernel
theorem rq_X3_sweep : ab_reg[59]? = some (yX3_sweep, cX3_sweep, 7, (some .boolean), 3, (771, 770, 21, 92), 0) := rfl
set_option maxRecDepth 100000 in
theorem tk_X4_hasTwoBlocks : ab_tb 4 cX4_hasTwoBlocks tb_X4_hasTwoBlocks = true := by decide +kernel
theorem rq_X4_hasTwoBlocks : ab_reg[61]? = some (yX4_hasTwoBlocks, cX4_hasTwoBlocks, 1, (some .boolean), 4, (538, 536, 537, 90), 0) := rfl
set_option maxRecDepth 100000 in
theorem tk_X4_isLoop : ab_tb 4 cX4_isLoop tb_X4_isLoop = true := by decide +kernel
theorem rq_X4_isLoop : ab_reg[62]? = some (yX4_isLoop, cX4_isLoop, 1, (some .boolean), 4, (546, 544, 545, 90), 0) := rfl
set_option maxRecDepth 100000 in
theorem tk_X4_reset : ab_tb 4 cX4_reset tb_X4_reset = true := by decide +kernel
theorem rq_X4_reset : ab_reg[63]? = some (yX4_reset, cX4_reset, 3, none, 4, (256, 254, 255, 90), 0) := rfl
set_option maxRecDepth 100000 in
theorem tk_X5_add : ab_tb 5 cX5_add tb_X5_add = true := by decide +kernel
theorem rq_X5_add : ab_reg[65]? = some (yX5_add, cX5_add, 3, none, 5, (794, 793, 24, 94), 0) := rfl
set_option maxRecDepth 100000 in
theorem tk_X5_addHavoc : ab_tb 5 cX5_addHavoc tb_X5_addHavoc = true := by decide +kernel
theorem rq_X5_addHavoc : ab_reg[66]? = some (yX5_addHavoc, cX5_addHavoc, 5, none, 5, (798, 797, 25, 94), 0) := rfl
set_option maxRecDepth 100000 in
theorem tk_X5_find : ab_tb 5 cX5_find tb_X5_find = true := by decide +kernel
theorem rq_X5_find : ab_reg[67]? = some (yX5_find, cX5_find, 4, (some .int), 5, (780, 778, 779, 94), 0) := rfl
set_option maxRecDepth 100000 in
theorem tk_X5_ofBack : ab_tb 5 cX5_ofBack tb_X5_ofBack = true := by decide +kernel
theorem rq_X5_ofBack : ab_reg[68]? = some (yX5_ofBack, cX5_ofBack, 5, (some .int), 5, (812, 811, 28, 94), 0) := rfl
set_option maxRecDepth 100000 in
theorem tk_X5_ofCutLoop : ab_tb 5 cX5_ofCutLoop tb_X5_ofCutLoop = true := by decide +kernel
theorem rq_X5_ofCutLoop : ab_reg[69]? = some (yX5_ofCutLoop, cX5_ofCutLoop, 3, (some .int), 5, (803, 802, 26, 94), 0) := rfl
set_option maxRecDepth 100000 in
theorem tk_X5_ofHead : ab_tb 5 cX5_ofHead tb_X5_ofHead = true := by decide +kernel
theorem rq_X5_ofHead : ab_reg[70]? = some (yX5_ofHead, cX5_ofHead, 7, none, 5, (808, 807, 27, 94), 0) := rfl
set_option maxRecDepth 100000 in
theorem tk_X5_ofStatement : ab_tb 5 cX5_ofStatement tb_X5_ofStatement = true := by decide +kernel
theorem rq_X5_ofStatement : ab_reg[71]? = some (yX5_ofStatement, cX5_ofStatement, 4, (some .int), 5, (785, 784, 23, 94), 0) := rfl
set_option maxRecDepth 100000 in
theorem tk_X6_add : ab_tb 6 cX6_add tb_X6_add = true := by decide +kernel
theorem rq_X6_add : ab_reg[73]? = some (yX6_add, cX6_add, 2, (some .boolean), 6, (498, 496, 497, 87), 0) := rfl
set_option maxRecDepth 100000 in
theorem tk_X6_addPlain : ab_tb 6 cX6_addPlain tb_X6_addPlain = true := by decide +kernel
theorem rq_X6_addPlain : ab_reg[74]? = some (yX6_addPlain, cX6_addPlain, 6, none, 6, (629, 627, 628, 87), 0) := rfl
set_option maxRecDepth 100000 in
theorem tk_X6_become : ab_tb 6 cX6_become tb_X6_become = true := by decide +kernel
theorem rq_X6_become : ab_reg[75]? = some (yX6_become, cX6_become, 2, none, 6, (643, 641, 642, 87), 0) := rfl
set_option maxRecDepth 100000 in
theorem tk_X6_sign : ab_tb 6 cX6_sign tb_X6_sign = true := by decide +kernel
theorem rq_X6_sign : ab_reg[76]? = some (yX6_sign, cX6_sign, 2, (some .int), 6, (526, 524, 525, 87), 0) := rfl
set_option maxRecDepth 100000 in
theorem tk_X7_combined : ab_tb 7 cX7_combined tb_X7_combined = true := by decide +kernel
theorem rq_X7_combined : ab_reg[78]? = some (yX7_combined, cX7_combined, 3, (some .int), 7, (736, 735, 9999, 93), 1) := rfl
set_option maxRecDepth 100000 in
theorem tk_X7_drop : ab_tb 7 cX7_drop tb_X7_drop = true := by decide +kernel
theorem rq_X7_drop : ab_reg[79]? = some (yX7_drop, cX7_drop, 1, none, 7, (661, 659, 660, 93), 0) := rfl
set_option maxRecDepth 100000 in
theorem tk_X7_evaluate : ab_tb 7 cX7_evaluate tb_X7_evaluate = true := by decide +kernel
theorem rq_X7_evaluate : ab_reg[80]? = some (yX7_evaluate, cX7_evaluate, 7, (some .int), 7, (724, 723, 19, 93), 0) := rfl
set_option maxRecDepth 100000 in
theorem tk_X7_isTrue : ab_tb 7 cX7_isTrue tb_X7_isTrue = true := by decide +kernel
theorem rq_X7_isTrue : ab_reg[81]? = some (yX7_isTrue, cX7_isTrue, 4, (some .boolean), 7, (740, 738, 739, 93), 0) := rfl
set_option maxRecDepth 100000 in
theorem tk_X7_of : ab_tb 7 cX7_of tb_X7_of = true := by decide +kernel
theorem rq_X7_of : ab_reg[82]? = some (yX7_of, cX7_of, 4, (some .int), 7, (789, 787, 788, 93), 0) := rfl
set_option maxRecDepth 100000 in
theorem tk_X7_oneIf : ab_tb 7 cX7_oneIf tb_X7_oneIf = true := by decide +kernel
theorem rq_X7_oneIf : ab_reg[83]? = some (yX7_oneIf, cX7_oneIf, 1, (some .int), 7, (733, 732, 9999, 93), 1) := rfl
set_option maxRecDepth 100000 in
theorem tk_X7_prepare : ab_tb 7 cX7_prepare tb_X7_prepare = true := by decide +kernel
theorem rq_X7_prepare : ab_reg[84]? = some (yX7_prepare, cX7_prepare, 5, none, 7, (718, 716, 717, 93), 0) := rfl
set_option maxRecDepth 100000 in
theorem tk_X8_ask : ab_tb 8 cX8_ask tb_X8_ask = true := by decide +kernel
theorem rq_X8_ask : ab_reg[86]? = some (yX8_ask, cX8_ask, 5, (some .int), 8, (964, 962, 963, 86), 0) := rfl
set_option maxRecDepth 100000 in
theorem tk_X8_back : ab_tb 8 cX8_back tb_X8_back = true := by decide +kernel
theorem rq_X8_back : ab_reg[87]? = some (yX8_back, cX8_back, 2, (some .int), 8, (978, 976, 977, 86), 0) := rfl
set_option maxRecDepth 100000 in
theorem tk_X8_changeToSpare : ab_tb 8 cX8_changeToSpare tb_X8_changeToSpare = true := by decide +kernel
theorem rq_X8_changeToSpare : ab_reg[88]? = some (yX8_changeToSpare, cX8_changeToSpare, 1, none, 8, (635, 634, 16, 86), 0) := rfl
set_option maxRecDepth 100000 in
theorem tk_X8_clear : ab_tb 8 cX8_clear tb_X8_clear = true := by decide +kernel
theorem rq_X8_clear : ab_reg[89]? = some (yX8_clear, cX8_clear, 2, (some .int), 8, (502, 500, 501, 86), 0) := rfl
set_option maxRecDepth 100000 in
theorem tk_X8_copied : ab_tb 8 cX8_copied tb_X8_copied = true := by decide +kernel
theorem rq_X8_copied : ab_reg[90]? = some (yX8_copied, cX8_copied, 1, (some .long), 8, (922, 920, 921, 86), 0) := rfl
set_option maxRecDepth 100000 in
theorem tk_X8_count : ab_tb 8 cX8_count tb_X8_count = true := by decide +kernel
theorem rq_X8_count : ab_reg[91]? = some (yX8_count, cX8_count, 2, (some .int), 8, (982, 980, 981, 86), 0) := rfl
set_option maxRecDepth 100000 in
theorem tk_X8_dropOldest : ab_tb 8 cX8_dropOldest tb_X8_dropOldest = true := by decide +kernel
theorem rq_X8_dropOldest : ab_reg[92]? = some (yX8_dropOldest, cX8_dropOldest, 3, none, 8, (639, 638, 17, 86), 0) := rfl
set_option maxRecDepth 100000 in
theorem tk_X8_ends : ab_tb 8 cX8_ends tb_X8_ends = true := by decide +kernel
theorem rq_X8_ends : ab_reg[93]? = some (yX8_ends, cX8_ends, 8, (some .int), 8, (837, 835, 836, 86), 0) := rfl
set_option maxRecDepth 100000 in
theorem tk_X8_equalities : ab_tb 8 cX8_equalities tb_X8_equalities = true := by decide +kernel
theorem rq_X8_equalities : ab_reg[94]? = some (yX8_equalities, cX8_equalities, 1, (some .int), 8, (914, 912, 913, 86), 0) := rfl
set_option maxRecDepth 100000 in
theorem tk_X8_forget : ab_tb 8 cX8_forget tb_X8_forget = true := by decide +kernel
theorem rq_X8_forget : ab_reg[95]? = some (yX8_forget, cX8_forget, 2, (some .int), 8, (944, 942, 943, 86), 0) := rfl
set_option maxRecDepth 100000 in
theorem tk_X8_from : ab_tb 8 cX8_from tb_X8_from = true := by decide +kernel
theorem rq_X8_from : ab_reg[96]? = some (yX8_from, cX8_from, 5, (some .int), 8, (830, 828, 829, 86), 0) := rfl
set_option maxRecDepth 100000 in
theorem tk_X8_invariant : ab_tb 8 cX8_invariant tb_X8_invariant = true := by decide +kernel
theorem rq_X8_invariant : ab_reg[97]? = some (yX8_invariant, cX8_invariant, 6, (some .int), 8, (665, 663, 664, 86), 0) := rfl
set_option maxRecDepth 100000 in
theorem tk_X8_isDigit : ab_tb 8 cX8_isDigit tb_X8_isDigit = true := by decide +kernel
theorem rq_X8_isDigit : ab_reg[98]? = some (yX8_isDigit, cX8_isDigit, 1, (some .boolean), 8, (585, 584, 9999, 86), 1) := rfl
set_option maxRecDepth 100000 in
theorem tk_X8_isFlag : ab_tb 8 cX8_isFlag tb_X8_isFlag = true := by decide +kernel
theorem rq_X8_isFlag : ab_reg[99]? = some (yX8_isFlag, cX8_isFlag, 1, (some .boolean), 8, (747, 746, 9999, 86), 1) := rfl
set_option maxRecDepth 100000 in
theorem tk_X8_isStart : ab_tb 8 cX8_isStart tb_X8_isStart = true := by decide +kernel
theorem rq_X8_isStart : ab_reg[100]? = some (yX8_isStart, cX8_isStart, 3, (some .boolean), 8, (956, 955, 39, 86), 0) := rfl
set_option maxRecDepth 100000 in
theorem tk_X8_isState : ab_tb 8 cX8_isState tb_X8_isState = true := by decide +kernel
theorem rq_X8_isState : ab_reg[101]? = some (yX8_isState, cX8_isState, 1, (some .boolean), 8, (833, 832, 9999, 86), 1) := rfl
set_option maxRecDepth 100000 in
theorem tk_X8_isVariable : ab_tb 8 cX8_isVariable tb_X8_isVariable = true := by decide +kernel
theorem rq_X8_isVariable : ab_reg[102]? = some (yX8_isVariable, cX8_isVariable, 1, (some .boolean), 8, (553, 552, 9999, 86), 1) := rfl
set_option maxRecDepth 100000 in
theorem tk_X8_keep : ab_tb 8 cX8_keep tb_X8_keep = true := by decide +kernel
theorem rq_X8_keep : ab_reg[103]? = some (yX8_keep, cX8_keep, 2, (some .int), 8, (974, 972, 973, 86), 0) := rfl
set_option maxRecDepth 100000 in
theorem tk_X8_keeps : ab_tb 8 cX8_keeps tb_X8_keeps = true := by decide +kernel
theorem rq_X8_keeps : ab_reg[104]? = some (yX8_keeps, cX8_keeps, 4, (some .int), 8, (849, 847, 848, 86), 0) := rfl
set_option maxRecDepth 100000 in
theorem tk_X8_kind : ab_tb 8 cX8_kind tb_X8_kind = true := by decide +kernel
theorem rq_X8_kind : ab_reg[105]? = some (yX8_kind, cX8_kind, 2, (some .int), 8, (702, 700, 701, 86), 0) := rfl
set_option maxRecDepth 100000 in
theorem tk_X8_largestGroup : ab_tb 8 cX8_largestGroup tb_X8_largestGroup = true := by decide +kernel
theorem rq_X8_largestGroup : ab_reg[106]? = some (yX8_largestGroup, cX8_largestGroup, 6, (some .int), 8, (968, 967, 41, 86), 0) := rfl
set_option maxRecDepth 100000 in
theorem tk_X8_linear : ab_tb 8 cX8_linear tb_X8_linear = true := by decide +kernel
theorem rq_X8_linear : ab_reg[107]? = some (yX8_linear, cX8_linear, 1, (some .int), 8, (918, 916, 917, 86), 0) := rfl
set_option maxRecDepth 100000 in
theorem tk_X8_loop : ab_tb 8 cX8_loop tb_X8_loop = true := by decide +kernel
theorem rq_X8_loop : ab_reg[108]? = some (yX8_loop, cX8_loop, 4, (some .int), 8, (710, 708, 709, 86), 0) := rfl
set_option maxRecDepth 100000 in
theorem tk_X8_lowestStart : ab_tb 8 cX8_lowestStart tb_X8_lowestStart = true := by decide +kernel
theorem rq_X8_lowestStart : ab_reg[109]? = some (yX8_lowestStart, cX8_lowestStart, 2, (some .int), 8, (960, 959, 40, 86), 0) := rfl
set_option maxRecDepth 100000 in
theorem tk_X8_program : ab_tb 8 cX8_program tb_X8_program = true := by decide +kernel
theorem rq_X8_program : ab_reg[110]? = some (yX8_program, cX8_program, 2, (some .int), 8, (506, 504, 505, 86), 0) := rfl
set_option maxRecDepth 100000 in
theorem tk_X8_readPresent : ab_tb 8 cX8_readPresent tb_X8_readPresent = true := by decide +kernel
theorem rq_X8_readPresent : ab_reg[111]? = some (yX8_readPresent, cX8_readPresent, 1, none, 8, (653, 652, 18, 86), 0) := rfl
set_option maxRecDepth 100000 in
theorem tk_X8_sees : ab_tb 8 cX8_sees tb_X8_sees = true := by decide +kernel
theorem rq_X8_sees : ab_reg[112]? = some (yX8_sees, cX8_sees, 3, (some .int), 8, (940, 938, 939, 86), 0) := rfl
set_option maxRecDepth 100000 in
theorem tk_X8_spurious : ab_tb 8 cX8_spurious tb_X8_spurious = true := by decide +kernel
theorem rq_X8_spurious : ab_reg[113]? = some (yX8_spurious, cX8_spurious, 4, (some .int), 8, (826, 824, 825, 86), 0) := rfl
set_option maxRecDepth 100000 in
theorem tk_X8_starts : ab_tb 8 cX8_starts tb_X8_starts = true := by decide +kernel
theorem rq_X8_starts : ab_reg[114]? = some (yX8_starts, cX8_starts, 2, (some .int), 8, (948, 946, 947, 86), 0) := rfl
set_option maxRecDepth 100000 in
theorem tk_X8_startsFound : ab_tb 8 cX8_startsFound tb_X8_startsFound = true := by decide +kernel
theorem rq_X8_startsFound : ab_reg[115]? = some (yX8_startsFound, cX8_startsFound, 3, (some .int), 8, (952, 951, 38, 86), 0) := rfl
set_option maxRecDepth 100000 in
theorem tk_X8_stateWith : ab_tb 8 cX8_stateWith tb_X8_stateWith = true := by decide +kernel
theorem rq_X8_stateWith : ab_reg[116]? = some (yX8_stateWith, cX8_stateWith, 4, (some .int), 8, (625, 624, 9999, 86), 1) := rfl
set_option maxRecDepth 100000 in
theorem tk_X8_told : ab_tb 8 cX8_told tb_X8_told = true := by decide +kernel
theorem rq_X8_told : ab_reg[117]? = some (yX8_told, cX8_told, 3, (some .int), 8, (697, 695, 696, 86), 0) := rfl
set_option maxRecDepth 100000 in
theorem tk_X8_type : ab_tb 8 cX8_type tb_X8_type = true := by decide +kernel
theorem rq_X8_type : ab_reg[118]? = some (yX8_type, cX8_type, 2, (some .int), 8, (494, 492, 493, 86), 0) := rfl
set_option maxRecDepth 100000 in
theorem tk_X8_undo : ab_tb 8 cX8_undo tb_X8_undo = true := by decide +kernel
theorem rq_X8_undo : ab_reg[119]? = some (yX8_undo, cX8_undo, 1, (some .int), 8, (693, 691, 692, 86), 0) := rfl
set_option maxRecDepth 100000 in
theorem tk_X8_valueIn : ab_tb 8 cX8_valueIn tb_X8_valueIn = true := by decide +kernel
theorem rq_X8_valueIn : ab_reg[120]? = some (yX8_valueIn, cX8_valueIn, 2, (some .int), 8, (730, 729, 9999, 86), 1) := rfl
set_option maxRecDepth 100000 in
theorem tk_X8_versions : ab_tb 8 cX8_versions tb_X8_versions = true := by decide +kernel
theorem rq_X8_versions : ab_reg[121]? = some (yX8_versions, cX8_versions, 2, (some .int), 8, (868, 866, 867, 86), 0) := rfl
set_option maxRecDepth 100000 in
theorem tk_X8_wrong : ab_tb 8 cX8_wrong tb_X8_wrong = true := by decide +kernel
theorem rq_X8_wrong : ab_reg[122]? = some (yX8_wrong, cX8_wrong, 7, (some .int), 8, (744, 742, 743, 86), 0) := rfl
set_option maxRecDepth 100000 in
theorem tk_X9_alike : ab_tb 9 cX9_alike tb_X9_alike = true := by decide +kernel
theorem rq_X9_alike : ab_reg[124]? = some (yX9_alike, cX9_alike, 6, (some .int), 9, (1496, 1495, 84, 96), 0) := rfl
set_option maxRecDepth 100000 in
theorem tk_X9_anyOf : ab_tb 9 cX9_anyOf tb_X9_anyOf = true := by decide +kernel
theorem rq_X9_anyOf : ab_reg[125]? = some (yX9_anyOf, cX9_anyOf, 4, (some .int), 9, (1323, 1322, 57, 96), 0) := rfl
set_option maxRecDepth 100000 in
theorem tk_X9_ask : ab_tb 9 cX9_ask tb_X9_ask = true := by decide +kernel
theorem rq_X9_ask : ab_reg[126]? = some (yX9_ask, cX9_ask, 5, (some .int), 9, (1491, 1489, 1490, 96), 0) := rfl
set_option maxRecDepth 100000 in
theorem tk_X9_back : ab_tb 9 cX9_back tb_X9_back = true := by decide +kernel
theorem rq_X9_back : ab_reg[127]? = some (yX9_back, cX9_back, 3, (some .int), 9, (1504, 1502, 1503, 96), 0) := rfl
set_option maxRecDepth 100000 in
theorem tk_X9_both : ab_tb 9 cX9_both tb_X9_both = true := by decide +kernel
theorem rq_X9_both : ab_reg[128]? = some (yX9_both, cX9_both, 3, (some .int), 9, (1330, 1329, 9999, 96), 1) := rfl
