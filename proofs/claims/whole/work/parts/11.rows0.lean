/-! each method's rows of code and its place in the registry, decided -/
set_option maxRecDepth 100000 in
theorem tk_X0_copyBlock : ab_tb 0 cX0_copyBlock tb_X0_copyBlock = true := by decide +kernel
theorem rq_X0_copyBlock : ab_reg[1]? = some (yX0_copyBlock, cX0_copyBlock, 11, (some .long), 0, (1124, 1123, 44, 106), 0) := rfl
set_option maxRecDepth 100000 in
theorem tk_X0_copyStatement : ab_tb 0 cX0_copyStatement tb_X0_copyStatement = true := by decide +kernel
theorem rq_X0_copyStatement : ab_reg[2]? = some (yX0_copyStatement, cX0_copyStatement, 13, (some .long), 0, (1128, 1127, 45, 106), 0) := rfl
set_option maxRecDepth 100000 in
theorem tk_X0_differing : ab_tb 0 cX0_differing tb_X0_differing = true := by decide +kernel
theorem rq_X0_differing : ab_reg[3]? = some (yX0_differing, cX0_differing, 6, (some .int), 0, (1090, 1089, 9999, 106), 1) := rfl
set_option maxRecDepth 100000 in
theorem tk_X0_joined : ab_tb 0 cX0_joined tb_X0_joined = true := by decide +kernel
theorem rq_X0_joined : ab_reg[4]? = some (yX0_joined, cX0_joined, 6, (some .long), 0, (1094, 1093, 42, 106), 0) := rfl
set_option maxRecDepth 100000 in
theorem tk_X0_noteThrow : ab_tb 0 cX0_noteThrow tb_X0_noteThrow = true := by decide +kernel
theorem rq_X0_noteThrow : ab_reg[5]? = some (yX0_noteThrow, cX0_noteThrow, 4, none, 0, (1087, 1086, 41, 106), 0) := rfl
set_option maxRecDepth 100000 in
theorem tk_X0_renewed : ab_tb 0 cX0_renewed tb_X0_renewed = true := by decide +kernel
theorem rq_X0_renewed : ab_reg[6]? = some (yX0_renewed, cX0_renewed, 7, (some .long), 0, (1082, 1081, 40, 106), 0) := rfl
set_option maxRecDepth 100000 in
theorem tk_X0_sizeByCopying : ab_tb 0 cX0_sizeByCopying tb_X0_sizeByCopying = true := by decide +kernel
theorem rq_X0_sizeByCopying : ab_reg[7]? = some (yX0_sizeByCopying, cX0_sizeByCopying, 1, (some .long), 0, (1120, 1118, 1119, 106), 0) := rfl
set_option maxRecDepth 100000 in
theorem tk_X0_traverse : ab_tb 0 cX0_traverse tb_X0_traverse = true := by decide +kernel
theorem rq_X0_traverse : ab_reg[8]? = some (yX0_traverse, cX0_traverse, 2, none, 0, (1066, 1064, 1065, 106), 0) := rfl
set_option maxRecDepth 100000 in
theorem tk_X0_traverseBlock : ab_tb 0 cX0_traverseBlock tb_X0_traverseBlock = true := by decide +kernel
theorem rq_X0_traverseBlock : ab_reg[9]? = some (yX0_traverseBlock, cX0_traverseBlock, 10, (some .long), 0, (1070, 1069, 38, 106), 0) := rfl
set_option maxRecDepth 100000 in
theorem tk_X0_traverseStatement : ab_tb 0 cX0_traverseStatement tb_X0_traverseStatement = true := by decide +kernel
theorem rq_X0_traverseStatement : ab_reg[10]? = some (yX0_traverseStatement, cX0_traverseStatement, 11, (some .long), 0, (1076, 1075, 39, 106), 0) := rfl
set_option maxRecDepth 100000 in
theorem tk_X0_traverseTry : ab_tb 0 cX0_traverseTry tb_X0_traverseTry = true := by decide +kernel
theorem rq_X0_traverseTry : ab_reg[11]? = some (yX0_traverseTry, cX0_traverseTry, 11, (some .long), 0, (1104, 1103, 43, 106), 0) := rfl
set_option maxRecDepth 100000 in
theorem tk_X1_addCheck : ab_tb 1 cX1_addCheck tb_X1_addCheck = true := by decide +kernel
theorem rq_X1_addCheck : ab_reg[13]? = some (yX1_addCheck, cX1_addCheck, 2, none, 1, (686, 684, 685, 97), 0) := rfl
set_option maxRecDepth 100000 in
theorem tk_X1_addLoop : ab_tb 1 cX1_addLoop tb_X1_addLoop = true := by decide +kernel
theorem rq_X1_addLoop : ab_reg[14]? = some (yX1_addLoop, cX1_addLoop, 2, none, 1, (682, 680, 681, 97), 0) := rfl
set_option maxRecDepth 100000 in
theorem tk_X1_addTerm : ab_tb 1 cX1_addTerm tb_X1_addTerm = true := by decide +kernel
theorem rq_X1_addTerm : ab_reg[15]? = some (yX1_addTerm, cX1_addTerm, 3, (some .int), 1, (704, 702, 703, 97), 0) := rfl
set_option maxRecDepth 100000 in
theorem tk_X1_at : ab_tb 1 cX1_at tb_X1_at = true := by decide +kernel
theorem rq_X1_at : ab_reg[16]? = some (yX1_at, cX1_at, 2, (some (.object "PassiveChecks$Statement")), 1, (646, 644, 645, 97), 0) := rfl
set_option maxRecDepth 100000 in
theorem tk_X1_entry : ab_tb 1 cX1_entry tb_X1_entry = true := by decide +kernel
theorem rq_X1_entry : ab_reg[17]? = some (yX1_entry, cX1_entry, 3, (some .int), 1, (726, 725, 13, 97), 0) := rfl
set_option maxRecDepth 100000 in
theorem tk_X1_hasCheck : ab_tb 1 cX1_hasCheck tb_X1_hasCheck = true := by decide +kernel
theorem rq_X1_hasCheck : ab_reg[18]? = some (yX1_hasCheck, cX1_hasCheck, 2, (some .boolean), 1, (822, 820, 821, 97), 0) := rfl
set_option maxRecDepth 100000 in
theorem tk_X1_hasLoop : ab_tb 1 cX1_hasLoop tb_X1_hasLoop = true := by decide +kernel
theorem rq_X1_hasLoop : ab_reg[19]? = some (yX1_hasLoop, cX1_hasLoop, 2, (some .boolean), 1, (785, 783, 784, 97), 0) := rfl
set_option maxRecDepth 100000 in
theorem tk_X1_link : ab_tb 1 cX1_link tb_X1_link = true := by decide +kernel
theorem rq_X1_link : ab_reg[20]? = some (yX1_link, cX1_link, 3, none, 1, (712, 710, 711, 97), 0) := rfl
set_option maxRecDepth 100000 in
theorem tk_X1_linkIn : ab_tb 1 cX1_linkIn tb_X1_linkIn = true := by decide +kernel
theorem rq_X1_linkIn : ab_reg[21]? = some (yX1_linkIn, cX1_linkIn, 2, none, 1, (730, 729, 14, 97), 0) := rfl
set_option maxRecDepth 100000 in
theorem tk_X1_linkOut : ab_tb 1 cX1_linkOut tb_X1_linkOut = true := by decide +kernel
theorem rq_X1_linkOut : ab_reg[22]? = some (yX1_linkOut, cX1_linkOut, 4, none, 1, (717, 716, 11, 97), 0) := rfl
set_option maxRecDepth 100000 in
theorem tk_X1_loopRow : ab_tb 1 cX1_loopRow tb_X1_loopRow = true := by decide +kernel
theorem rq_X1_loopRow : ab_reg[23]? = some (yX1_loopRow, cX1_loopRow, 2, (some .int), 1, (797, 795, 796, 97), 0) := rfl
set_option maxRecDepth 100000 in
theorem tk_X1_loopStatement : ab_tb 1 cX1_loopStatement tb_X1_loopStatement = true := by decide +kernel
theorem rq_X1_loopStatement : ab_reg[24]? = some (yX1_loopStatement, cX1_loopStatement, 2, (some (.object "PassiveChecks$Statement")), 1, (793, 791, 792, 97), 0) := rfl
set_option maxRecDepth 100000 in
theorem tk_X1_noteModified : ab_tb 1 cX1_noteModified tb_X1_noteModified = true := by decide +kernel
theorem rq_X1_noteModified : ab_reg[25]? = some (yX1_noteModified, cX1_noteModified, 4, none, 1, (734, 733, 15, 97), 0) := rfl
set_option maxRecDepth 100000 in
theorem tk_X1_reset : ab_tb 1 cX1_reset tb_X1_reset = true := by decide +kernel
theorem rq_X1_reset : ab_reg[26]? = some (yX1_reset, cX1_reset, 2, none, 1, (630, 628, 629, 97), 0) := rfl
set_option maxRecDepth 100000 in
theorem tk_X1_rowBehindBlock : ab_tb 1 cX1_rowBehindBlock tb_X1_rowBehindBlock = true := by decide +kernel
theorem rq_X1_rowBehindBlock : ab_reg[27]? = some (yX1_rowBehindBlock, cX1_rowBehindBlock, 2, (some .int), 1, (721, 720, 12, 97), 0) := rfl
set_option maxRecDepth 100000 in
theorem tk_X1_startRow : ab_tb 1 cX1_startRow tb_X1_startRow = true := by decide +kernel
theorem rq_X1_startRow : ab_reg[28]? = some (yX1_startRow, cX1_startRow, 1, (some .int), 1, (885, 883, 884, 97), 0) := rfl
set_option maxRecDepth 100000 in
theorem tk_X1_termBegin : ab_tb 1 cX1_termBegin tb_X1_termBegin = true := by decide +kernel
theorem rq_X1_termBegin : ab_reg[29]? = some (yX1_termBegin, cX1_termBegin, 2, (some .int), 1, (801, 799, 800, 97), 0) := rfl
set_option maxRecDepth 100000 in
theorem tk_X1_termLength : ab_tb 1 cX1_termLength tb_X1_termLength = true := by decide +kernel
theorem rq_X1_termLength : ab_reg[30]? = some (yX1_termLength, cX1_termLength, 2, (some .int), 1, (805, 803, 804, 97), 0) := rfl
set_option maxRecDepth 100000 in
theorem tk_X2_addChecks : ab_tb 2 cX2_addChecks tb_X2_addChecks = true := by decide +kernel
theorem rq_X2_addChecks : ab_reg[32]? = some (yX2_addChecks, cX2_addChecks, 3, none, 2, (678, 677, 7, 99), 0) := rfl
set_option maxRecDepth 100000 in
theorem tk_X2_addStatement : ab_tb 2 cX2_addStatement tb_X2_addStatement = true := by decide +kernel
theorem rq_X2_addStatement : ab_reg[33]? = some (yX2_addStatement, cX2_addStatement, 4, (some (.object "PassiveChecks$Statement")), 2, (673, 672, 6, 99), 0) := rfl
set_option maxRecDepth 100000 in
theorem tk_X2_closeBlock : ab_tb 2 cX2_closeBlock tb_X2_closeBlock = true := by decide +kernel
theorem rq_X2_closeBlock : ab_reg[34]? = some (yX2_closeBlock, cX2_closeBlock, 2, none, 2, (642, 641, 2, 99), 0) := rfl
set_option maxRecDepth 100000 in
theorem tk_X2_isAllowed : ab_tb 2 cX2_isAllowed tb_X2_isAllowed = true := by decide +kernel
theorem rq_X2_isAllowed : ab_reg[35]? = some (yX2_isAllowed, cX2_isAllowed, 1, (some .boolean), 2, (662, 661, 4, 99), 0) := rfl
set_option maxRecDepth 100000 in
theorem tk_X2_isBinary : ab_tb 2 cX2_isBinary tb_X2_isBinary = true := by decide +kernel
theorem rq_X2_isBinary : ab_reg[36]? = some (yX2_isBinary, cX2_isBinary, 1, (some .boolean), 2, (700, 699, 9999, 99), 1) := rfl
set_option maxRecDepth 100000 in
theorem tk_X2_moveTo : ab_tb 2 cX2_moveTo tb_X2_moveTo = true := by decide +kernel
theorem rq_X2_moveTo : ab_reg[37]? = some (yX2_moveTo, cX2_moveTo, 2, none, 2, (634, 633, 1, 99), 0) := rfl
set_option maxRecDepth 100000 in
theorem tk_X2_openBlock : ab_tb 2 cX2_openBlock tb_X2_openBlock = true := by decide +kernel
theorem rq_X2_openBlock : ab_reg[38]? = some (yX2_openBlock, cX2_openBlock, 2, none, 2, (708, 707, 10, 99), 0) := rfl
set_option maxRecDepth 100000 in
theorem tk_X2_pass : ab_tb 2 cX2_pass tb_X2_pass = true := by decide +kernel
theorem rq_X2_pass : ab_reg[39]? = some (yX2_pass, cX2_pass, 2, none, 2, (654, 653, 3, 99), 0) := rfl
set_option maxRecDepth 100000 in
theorem tk_X2_readProgram : ab_tb 2 cX2_readProgram tb_X2_readProgram = true := by decide +kernel
theorem rq_X2_readProgram : ab_reg[40]? = some (yX2_readProgram, cX2_readProgram, 4, (some .int), 2, (622, 620, 621, 99), 0) := rfl
set_option maxRecDepth 100000 in
theorem tk_X2_readStatement : ab_tb 2 cX2_readStatement tb_X2_readStatement = true := by decide +kernel
theorem rq_X2_readStatement : ab_reg[41]? = some (yX2_readStatement, cX2_readStatement, 3, none, 2, (669, 668, 5, 99), 0) := rfl
set_option maxRecDepth 100000 in
theorem tk_X2_readTerm : ab_tb 2 cX2_readTerm tb_X2_readTerm = true := by decide +kernel
theorem rq_X2_readTerm : ab_reg[42]? = some (yX2_readTerm, cX2_readTerm, 3, (some .int), 2, (789, 787, 788, 99), 0) := rfl
set_option maxRecDepth 100000 in
theorem tk_X2_start : ab_tb 2 cX2_start tb_X2_start = true := by decide +kernel
theorem rq_X2_start : ab_reg[43]? = some (yX2_start, cX2_start, 3, none, 2, (626, 625, 0, 99), 0) := rfl
set_option maxRecDepth 100000 in
theorem tk_X2_term : ab_tb 2 cX2_term tb_X2_term = true := by decide +kernel
theorem rq_X2_term : ab_reg[44]? = some (yX2_term, cX2_term, 4, (some .int), 2, (694, 693, 9, 99), 0) := rfl
set_option maxRecDepth 100000 in
theorem tk_X2_variable : ab_tb 2 cX2_variable tb_X2_variable = true := by decide +kernel
theorem rq_X2_variable : ab_reg[45]? = some (yX2_variable, cX2_variable, 2, (some .int), 2, (690, 689, 8, 99), 0) := rfl
set_option maxRecDepth 100000 in
theorem tk_X3_can : ab_tb 3 cX3_can tb_X3_can = true := by decide +kernel
theorem rq_X3_can : ab_reg[47]? = some (yX3_can, cX3_can, 5, (some .boolean), 3, (980, 978, 979, 100), 0) := rfl
set_option maxRecDepth 100000 in
theorem tk_X3_drop : ab_tb 3 cX3_drop tb_X3_drop = true := by decide +kernel
theorem rq_X3_drop : ab_reg[48]? = some (yX3_drop, cX3_drop, 2, none, 3, (769, 767, 768, 100), 0) := rfl
set_option maxRecDepth 100000 in
theorem tk_X3_isReached : ab_tb 3 cX3_isReached tb_X3_isReached = true := by decide +kernel
theorem rq_X3_isReached : ab_reg[49]? = some (yX3_isReached, cX3_isReached, 3, (some .boolean), 3, (1007, 1005, 1006, 100), 0) := rfl
set_option maxRecDepth 100000 in
theorem tk_X3_prepare : ab_tb 3 cX3_prepare tb_X3_prepare = true := by decide +kernel
theorem rq_X3_prepare : ab_reg[50]? = some (yX3_prepare, cX3_prepare, 2, none, 3, (867, 865, 866, 100), 0) := rfl
set_option maxRecDepth 100000 in
theorem tk_X3_prepareLoop : ab_tb 3 cX3_prepareLoop tb_X3_prepareLoop = true := by decide +kernel
theorem rq_X3_prepareLoop : ab_reg[51]? = some (yX3_prepareLoop, cX3_prepareLoop, 2, none, 3, (1019, 1017, 1018, 100), 0) := rfl
set_option maxRecDepth 100000 in
theorem tk_X3_search : ab_tb 3 cX3_search tb_X3_search = true := by decide +kernel
theorem rq_X3_search : ab_reg[52]? = some (yX3_search, cX3_search, 3, none, 3, (999, 997, 998, 100), 0) := rfl
set_option maxRecDepth 100000 in
theorem tk_X3_statesWith : ab_tb 3 cX3_statesWith tb_X3_statesWith = true := by decide +kernel
theorem rq_X3_statesWith : ab_reg[53]? = some (yX3_statesWith, cX3_statesWith, 4, (some .int), 3, (830, 828, 829, 100), 0) := rfl
set_option maxRecDepth 100000 in
theorem tk_X4_hasTwoBlocks : ab_tb 4 cX4_hasTwoBlocks tb_X4_hasTwoBlocks = true := by decide +kernel
theorem rq_X4_hasTwoBlocks : ab_reg[55]? = some (yX4_hasTwoBlocks, cX4_hasTwoBlocks, 1, (some .boolean), 4, (650, 648, 649, 98), 0) := rfl
set_option maxRecDepth 100000 in
theorem tk_X4_isLoop : ab_tb 4 cX4_isLoop tb_X4_isLoop = true := by decide +kernel
theorem rq_X4_isLoop : ab_reg[56]? = some (yX4_isLoop, cX4_isLoop, 1, (some .boolean), 4, (658, 656, 657, 98), 0) := rfl
set_option maxRecDepth 100000 in
theorem tk_X4_reset : ab_tb 4 cX4_reset tb_X4_reset = true := by decide +kernel
theorem rq_X4_reset : ab_reg[57]? = some (yX4_reset, cX4_reset, 3, none, 4, (268, 266, 267, 98), 0) := rfl
set_option maxRecDepth 100000 in
theorem tk_X5_add : ab_tb 5 cX5_add tb_X5_add = true := by decide +kernel
theorem rq_X5_add : ab_reg[59]? = some (yX5_add, cX5_add, 3, none, 5, (912, 911, 24, 102), 0) := rfl
set_option maxRecDepth 100000 in
theorem tk_X5_addHavoc : ab_tb 5 cX5_addHavoc tb_X5_addHavoc = true := by decide +kernel
theorem rq_X5_addHavoc : ab_reg[60]? = some (yX5_addHavoc, cX5_addHavoc, 5, none, 5, (916, 915, 25, 102), 0) := rfl
set_option maxRecDepth 100000 in
theorem tk_X5_find : ab_tb 5 cX5_find tb_X5_find = true := by decide +kernel
theorem rq_X5_find : ab_reg[61]? = some (yX5_find, cX5_find, 4, (some .int), 5, (898, 896, 897, 102), 0) := rfl
set_option maxRecDepth 100000 in
theorem tk_X5_ofBack : ab_tb 5 cX5_ofBack tb_X5_ofBack = true := by decide +kernel
theorem rq_X5_ofBack : ab_reg[62]? = some (yX5_ofBack, cX5_ofBack, 5, (some .int), 5, (930, 929, 28, 102), 0) := rfl
set_option maxRecDepth 100000 in
theorem tk_X5_ofCutLoop : ab_tb 5 cX5_ofCutLoop tb_X5_ofCutLoop = true := by decide +kernel
theorem rq_X5_ofCutLoop : ab_reg[63]? = some (yX5_ofCutLoop, cX5_ofCutLoop, 3, (some .int), 5, (921, 920, 26, 102), 0) := rfl
set_option maxRecDepth 100000 in
theorem tk_X5_ofHead : ab_tb 5 cX5_ofHead tb_X5_ofHead = true := by decide +kernel
theorem rq_X5_ofHead : ab_reg[64]? = some (yX5_ofHead, cX5_ofHead, 7, none, 5, (926, 925, 27, 102), 0) := rfl
set_option maxRecDepth 100000 in
theorem tk_X5_ofStatement : ab_tb 5 cX5_ofStatement tb_X5_ofStatement = true := by decide +kernel
theorem rq_X5_ofStatement : ab_reg[65]? = some (yX5_ofStatement, cX5_ofStatement, 4, (some .int), 5, (903, 902, 23, 102), 0) := rfl
set_option maxRecDepth 100000 in
theorem tk_X6_add : ab_tb 6 cX6_add tb_X6_add = true := by decide +kernel
theorem rq_X6_add : ab_reg[67]? = some (yX6_add, cX6_add, 2, (some .boolean), 6, (610, 608, 609, 95), 0) := rfl
set_option maxRecDepth 100000 in
theorem tk_X6_addPlain : ab_tb 6 cX6_addPlain tb_X6_addPlain = true := by decide +kernel
theorem rq_X6_addPlain : ab_reg[68]? = some (yX6_addPlain, cX6_addPlain, 6, none, 6, (741, 739, 740, 95), 0) := rfl
set_option maxRecDepth 100000 in
theorem tk_X6_become : ab_tb 6 cX6_become tb_X6_become = true := by decide +kernel
theorem rq_X6_become : ab_reg[69]? = some (yX6_become, cX6_become, 2, none, 6, (755, 753, 754, 95), 0) := rfl
set_option maxRecDepth 100000 in
theorem tk_X6_sign : ab_tb 6 cX6_sign tb_X6_sign = true := by decide +kernel
theorem rq_X6_sign : ab_reg[70]? = some (yX6_sign, cX6_sign, 2, (some .int), 6, (638, 636, 637, 95), 0) := rfl
set_option maxRecDepth 100000 in
theorem tk_X7_combined : ab_tb 7 cX7_combined tb_X7_combined = true := by decide +kernel
theorem rq_X7_combined : ab_reg[72]? = some (yX7_combined, cX7_combined, 3, (some .int), 7, (852, 851, 9999, 101), 1) := rfl
set_option maxRecDepth 100000 in
theorem tk_X7_drop : ab_tb 7 cX7_drop tb_X7_drop = true := by decide +kernel
theorem rq_X7_drop : ab_reg[73]? = some (yX7_drop, cX7_drop, 1, none, 7, (773, 771, 772, 101), 0) := rfl
set_option maxRecDepth 100000 in
theorem tk_X7_evaluate : ab_tb 7 cX7_evaluate tb_X7_evaluate = true := by decide +kernel
theorem rq_X7_evaluate : ab_reg[74]? = some (yX7_evaluate, cX7_evaluate, 7, (some .int), 7, (840, 839, 19, 101), 0) := rfl
set_option maxRecDepth 100000 in
theorem tk_X7_isTrue : ab_tb 7 cX7_isTrue tb_X7_isTrue = true := by decide +kernel
theorem rq_X7_isTrue : ab_reg[75]? = some (yX7_isTrue, cX7_isTrue, 4, (some .boolean), 7, (856, 854, 855, 101), 0) := rfl
set_option maxRecDepth 100000 in
theorem tk_X7_of : ab_tb 7 cX7_of tb_X7_of = true := by decide +kernel
theorem rq_X7_of : ab_reg[76]? = some (yX7_of, cX7_of, 4, (some .int), 7, (907, 905, 906, 101), 0) := rfl
set_option maxRecDepth 100000 in
theorem tk_X7_oneIf : ab_tb 7 cX7_oneIf tb_X7_oneIf = true := by decide +kernel
theorem rq_X7_oneIf : ab_reg[77]? = some (yX7_oneIf, cX7_oneIf, 1, (some .int), 7, (849, 848, 9999, 101), 1) := rfl
set_option maxRecDepth 100000 in
theorem tk_X7_prepare : ab_tb 7 cX7_prepare tb_X7_prepare = true := by decide +kernel
theorem rq_X7_prepare : ab_reg[78]? = some (yX7_prepare, cX7_prepare, 5, none, 7, (834, 832, 833, 101), 0) := rfl
set_option maxRecDepth 100000 in
theorem tk_X8_ask : ab_tb 8 cX8_ask tb_X8_ask = true := by decide +kernel
theorem rq_X8_ask : ab_reg[80]? = some (yX8_ask, cX8_ask, 5, (some .int), 8, (1158, 1156, 1157, 94), 0) := rfl
set_option maxRecDepth 100000 in
theorem tk_X8_back : ab_tb 8 cX8_back tb_X8_back = true := by decide +kernel
theorem rq_X8_back : ab_reg[81]? = some (yX8_back, cX8_back, 2, (some .int), 8, (1172, 1170, 1171, 94), 0) := rfl
set_option maxRecDepth 100000 in
theorem tk_X8_changeToSpare : ab_tb 8 cX8_changeToSpare tb_X8_changeToSpare = true := by decide +kernel
theorem rq_X8_changeToSpare : ab_reg[82]? = some (yX8_changeToSpare, cX8_changeToSpare, 1, none, 8, (747, 746, 16, 94), 0) := rfl
set_option maxRecDepth 100000 in
theorem tk_X8_clear : ab_tb 8 cX8_clear tb_X8_clear = true := by decide +kernel
theorem rq_X8_clear : ab_reg[83]? = some (yX8_clear, cX8_clear, 2, (some .int), 8, (614, 612, 613, 94), 0) := rfl
set_option maxRecDepth 100000 in
theorem tk_X8_copied : ab_tb 8 cX8_copied tb_X8_copied = true := by decide +kernel
theorem rq_X8_copied : ab_reg[84]? = some (yX8_copied, cX8_copied, 1, (some .long), 8, (1116, 1114, 1115, 94), 0) := rfl
set_option maxRecDepth 100000 in
theorem tk_X8_count : ab_tb 8 cX8_count tb_X8_count = true := by decide +kernel
theorem rq_X8_count : ab_reg[85]? = some (yX8_count, cX8_count, 2, (some .int), 8, (1176, 1174, 1175, 94), 0) := rfl
set_option maxRecDepth 100000 in
theorem tk_X8_dropOldest : ab_tb 8 cX8_dropOldest tb_X8_dropOldest = true := by decide +kernel
theorem rq_X8_dropOldest : ab_reg[86]? = some (yX8_dropOldest, cX8_dropOldest, 3, none, 8, (751, 750, 17, 94), 0) := rfl
set_option maxRecDepth 100000 in
theorem tk_X8_ends : ab_tb 8 cX8_ends tb_X8_ends = true := by decide +kernel
theorem rq_X8_ends : ab_reg[87]? = some (yX8_ends, cX8_ends, 8, (some .int), 8, (995, 993, 994, 94), 0) := rfl
set_option maxRecDepth 100000 in
theorem tk_X8_equalities : ab_tb 8 cX8_equalities tb_X8_equalities = true := by decide +kernel
theorem rq_X8_equalities : ab_reg[88]? = some (yX8_equalities, cX8_equalities, 1, (some .int), 8, (1108, 1106, 1107, 94), 0) := rfl
set_option maxRecDepth 100000 in
theorem tk_X8_forget : ab_tb 8 cX8_forget tb_X8_forget = true := by decide +kernel
theorem rq_X8_forget : ab_reg[89]? = some (yX8_forget, cX8_forget, 2, (some .int), 8, (1138, 1136, 1137, 94), 0) := rfl
set_option maxRecDepth 100000 in
theorem tk_X8_from : ab_tb 8 cX8_from tb_X8_from = true := by decide +kernel
theorem rq_X8_from : ab_reg[90]? = some (yX8_from, cX8_from, 5, (some .int), 8, (988, 986, 987, 94), 0) := rfl
set_option maxRecDepth 100000 in
theorem tk_X8_invariant : ab_tb 8 cX8_invariant tb_X8_invariant = true := by decide +kernel
theorem rq_X8_invariant : ab_reg[91]? = some (yX8_invariant, cX8_invariant, 6, (some .int), 8, (781, 779, 780, 94), 0) := rfl
set_option maxRecDepth 100000 in
theorem tk_X8_isDigit : ab_tb 8 cX8_isDigit tb_X8_isDigit = true := by decide +kernel
theorem rq_X8_isDigit : ab_reg[92]? = some (yX8_isDigit, cX8_isDigit, 1, (some .boolean), 8, (697, 696, 9999, 94), 1) := rfl
set_option maxRecDepth 100000 in
theorem tk_X8_isFlag : ab_tb 8 cX8_isFlag tb_X8_isFlag = true := by decide +kernel
theorem rq_X8_isFlag : ab_reg[93]? = some (yX8_isFlag, cX8_isFlag, 1, (some .boolean), 8, (863, 862, 9999, 94), 1) := rfl
set_option maxRecDepth 100000 in
theorem tk_X8_isStart : ab_tb 8 cX8_isStart tb_X8_isStart = true := by decide +kernel
theorem rq_X8_isStart : ab_reg[94]? = some (yX8_isStart, cX8_isStart, 3, (some .boolean), 8, (1150, 1149, 47, 94), 0) := rfl
set_option maxRecDepth 100000 in
theorem tk_X8_isState : ab_tb 8 cX8_isState tb_X8_isState = true := by decide +kernel
theorem rq_X8_isState : ab_reg[95]? = some (yX8_isState, cX8_isState, 1, (some .boolean), 8, (991, 990, 9999, 94), 1) := rfl
set_option maxRecDepth 100000 in
theorem tk_X8_isVariable : ab_tb 8 cX8_isVariable tb_X8_isVariable = true := by decide +kernel
theorem rq_X8_isVariable : ab_reg[96]? = some (yX8_isVariable, cX8_isVariable, 1, (some .boolean), 8, (665, 664, 9999, 94), 1) := rfl
set_option maxRecDepth 100000 in
theorem tk_X8_keep : ab_tb 8 cX8_keep tb_X8_keep = true := by decide +kernel
theorem rq_X8_keep : ab_reg[97]? = some (yX8_keep, cX8_keep, 2, (some .int), 8, (1168, 1166, 1167, 94), 0) := rfl
set_option maxRecDepth 100000 in
theorem tk_X8_keeps : ab_tb 8 cX8_keeps tb_X8_keeps = true := by decide +kernel
theorem rq_X8_keeps : ab_reg[98]? = some (yX8_keeps, cX8_keeps, 3, (some .int), 8, (1015, 1013, 1014, 94), 0) := rfl
set_option maxRecDepth 100000 in
theorem tk_X8_kind : ab_tb 8 cX8_kind tb_X8_kind = true := by decide +kernel
theorem rq_X8_kind : ab_reg[99]? = some (yX8_kind, cX8_kind, 2, (some .int), 8, (818, 816, 817, 94), 0) := rfl
set_option maxRecDepth 100000 in
theorem tk_X8_largestGroup : ab_tb 8 cX8_largestGroup tb_X8_largestGroup = true := by decide +kernel
theorem rq_X8_largestGroup : ab_reg[100]? = some (yX8_largestGroup, cX8_largestGroup, 6, (some .int), 8, (1162, 1161, 49, 94), 0) := rfl
set_option maxRecDepth 100000 in
theorem tk_X8_linear : ab_tb 8 cX8_linear tb_X8_linear = true := by decide +kernel
theorem rq_X8_linear : ab_reg[101]? = some (yX8_linear, cX8_linear, 1, (some .int), 8, (1112, 1110, 1111, 94), 0) := rfl
set_option maxRecDepth 100000 in
theorem tk_X8_loop : ab_tb 8 cX8_loop tb_X8_loop = true := by decide +kernel
theorem rq_X8_loop : ab_reg[102]? = some (yX8_loop, cX8_loop, 4, (some .int), 8, (826, 824, 825, 94), 0) := rfl
set_option maxRecDepth 100000 in
theorem tk_X8_lowestStart : ab_tb 8 cX8_lowestStart tb_X8_lowestStart = true := by decide +kernel
theorem rq_X8_lowestStart : ab_reg[103]? = some (yX8_lowestStart, cX8_lowestStart, 2, (some .int), 8, (1154, 1153, 48, 94), 0) := rfl
set_option maxRecDepth 100000 in
theorem tk_X8_program : ab_tb 8 cX8_program tb_X8_program = true := by decide +kernel
theorem rq_X8_program : ab_reg[104]? = some (yX8_program, cX8_program, 2, (some .int), 8, (618, 616, 617, 94), 0) := rfl
set_option maxRecDepth 100000 in
theorem tk_X8_readPresent : ab_tb 8 cX8_readPresent tb_X8_readPresent = true := by decide +kernel
theorem rq_X8_readPresent : ab_reg[105]? = some (yX8_readPresent, cX8_readPresent, 1, none, 8, (765, 764, 18, 94), 0) := rfl
set_option maxRecDepth 100000 in
theorem tk_X8_sees : ab_tb 8 cX8_sees tb_X8_sees = true := by decide +kernel
theorem rq_X8_sees : ab_reg[106]? = some (yX8_sees, cX8_sees, 3, (some .int), 8, (1134, 1132, 1133, 94), 0) := rfl
set_option maxRecDepth 100000 in
theorem tk_X8_spurious : ab_tb 8 cX8_spurious tb_X8_spurious = true := by decide +kernel
theorem rq_X8_spurious : ab_reg[107]? = some (yX8_spurious, cX8_spurious, 4, (some .int), 8, (984, 982, 983, 94), 0) := rfl
set_option maxRecDepth 100000 in
theorem tk_X8_starts : ab_tb 8 cX8_starts tb_X8_starts = true := by decide +kernel
theorem rq_X8_starts : ab_reg[108]? = some (yX8_starts, cX8_starts, 2, (some .int), 8, (1142, 1140, 1141, 94), 0) := rfl
set_option maxRecDepth 100000 in
theorem tk_X8_startsFound : ab_tb 8 cX8_startsFound tb_X8_startsFound = true := by decide +kernel
theorem rq_X8_startsFound : ab_reg[109]? = some (yX8_startsFound, cX8_startsFound, 3, (some .int), 8, (1146, 1145, 46, 94), 0) := rfl
set_option maxRecDepth 100000 in
theorem tk_X8_stateWith : ab_tb 8 cX8_stateWith tb_X8_stateWith = true := by decide +kernel
theorem rq_X8_stateWith : ab_reg[110]? = some (yX8_stateWith, cX8_stateWith, 4, (some .int), 8, (737, 736, 9999, 94), 1) := rfl
set_option maxRecDepth 100000 in
theorem tk_X8_told : ab_tb 8 cX8_told tb_X8_told = true := by decide +kernel
theorem rq_X8_told : ab_reg[111]? = some (yX8_told, cX8_told, 3, (some .int), 8, (813, 811, 812, 94), 0) := rfl
set_option maxRecDepth 100000 in
theorem tk_X8_type : ab_tb 8 cX8_type tb_X8_type = true := by decide +kernel
theorem rq_X8_type : ab_reg[112]? = some (yX8_type, cX8_type, 2, (some .int), 8, (606, 604, 605, 94), 0) := rfl
set_option maxRecDepth 100000 in
theorem tk_X8_undo : ab_tb 8 cX8_undo tb_X8_undo = true := by decide +kernel
theorem rq_X8_undo : ab_reg[113]? = some (yX8_undo, cX8_undo, 1, (some .int), 8, (809, 807, 808, 94), 0) := rfl
set_option maxRecDepth 100000 in
theorem tk_X8_valueIn : ab_tb 8 cX8_valueIn tb_X8_valueIn = true := by decide +kernel
theorem rq_X8_valueIn : ab_reg[114]? = some (yX8_valueIn, cX8_valueIn, 2, (some .int), 8, (846, 845, 9999, 94), 1) := rfl
set_option maxRecDepth 100000 in
theorem tk_X8_versions : ab_tb 8 cX8_versions tb_X8_versions = true := by decide +kernel
theorem rq_X8_versions : ab_reg[115]? = some (yX8_versions, cX8_versions, 2, (some .int), 8, (1062, 1060, 1061, 94), 0) := rfl
set_option maxRecDepth 100000 in
theorem tk_X8_wrong : ab_tb 8 cX8_wrong tb_X8_wrong = true := by decide +kernel
theorem rq_X8_wrong : ab_reg[116]? = some (yX8_wrong, cX8_wrong, 7, (some .int), 8, (860, 858, 859, 94), 0) := rfl
set_option maxRecDepth 100000 in
theorem tk_X9_alike : ab_tb 9 cX9_alike tb_X9_alike = true := by decide +kernel
theorem rq_X9_alike : ab_reg[118]? = some (yX9_alike, cX9_alike, 6, (some .int), 9, (1690, 1689, 92, 107), 0) := rfl
set_option maxRecDepth 100000 in
theorem tk_X9_anyOf : ab_tb 9 cX9_anyOf tb_X9_anyOf = true := by decide +kernel
theorem rq_X9_anyOf : ab_reg[119]? = some (yX9_anyOf, cX9_anyOf, 4, (some .int), 9, (1517, 1516, 65, 107), 0) := rfl
set_option maxRecDepth 100000 in
theorem tk_X9_ask : ab_tb 9 cX9_ask tb_X9_ask = true := by decide +kernel
theorem rq_X9_ask : ab_reg[120]? = some (yX9_ask, cX9_ask, 5, (some .int), 9, (1685, 1683, 1684, 107), 0) := rfl
set_option maxRecDepth 100000 in
theorem tk_X9_back : ab_tb 9 cX9_back tb_X9_back = true := by decide +kernel
theorem rq_X9_back : ab_reg[121]? = some (yX9_back, cX9_back, 3, (some .int), 9, (1698, 1696, 1697, 107), 0) := rfl
set_option maxRecDepth 100000 in
theorem tk_X9_both : ab_tb 9 cX9_both tb_X9_both = true := by decide +kernel
theorem rq_X9_both : ab_reg[122]? = some (yX9_both, cX9_both, 3, (some .int), 9, (1524, 1523, 9999, 107), 1) := rfl
set_option maxRecDepth 100000 in
theorem tk_X9_canBy : ab_tb 9 cX9_canBy tb_X9_canBy = true := by decide +kernel
theorem rq_X9_canBy : ab_reg[123]? = some (yX9_canBy, cX9_canBy, 4, (some .int), 9, (1567, 1566, 75, 107), 0) := rfl
set_option maxRecDepth 100000 in
theorem tk_X9_canFrom : ab_tb 9 cX9_canFrom tb_X9_canFrom = true := by decide +kernel
theorem rq_X9_canFrom : ab_reg[124]? = some (yX9_canFrom, cX9_canFrom, 3, (some .int), 9, (1574, 1573, 76, 107), 0) := rfl
set_option maxRecDepth 100000 in
theorem tk_X9_checksOf : ab_tb 9 cX9_checksOf tb_X9_checksOf = true := by decide +kernel
theorem rq_X9_checksOf : ab_reg[125]? = some (yX9_checksOf, cX9_checksOf, 1, (some .int), 9, (1458, 1457, 9999, 107), 1) := rfl
set_option maxRecDepth 100000 in
theorem tk_X9_clear : ab_tb 9 cX9_clear tb_X9_clear = true := by decide +kernel
theorem rq_X9_clear : ab_reg[126]? = some (yX9_clear, cX9_clear, 2, (some .int), 9, (1417, 1415, 1416, 107), 0) := rfl
set_option maxRecDepth 100000 in
theorem tk_X9_come : ab_tb 9 cX9_come tb_X9_come = true := by decide +kernel
theorem rq_X9_come : ab_reg[127]? = some (yX9_come, cX9_come, 3, none, 9, (1595, 1594, 78, 107), 0) := rfl
set_option maxRecDepth 100000 in
theorem tk_X9_copied : ab_tb 9 cX9_copied tb_X9_copied = true := by decide +kernel
theorem rq_X9_copied : ab_reg[128]? = some (yX9_copied, cX9_copied, 3, (some .long), 9, (1659, 1657, 1658, 107), 0) := rfl
set_option maxRecDepth 100000 in
theorem tk_X9_copyStatement : ab_tb 9 cX9_copyStatement tb_X9_copyStatement = true := by decide +kernel
theorem rq_X9_copyStatement : ab_reg[129]? = some (yX9_copyStatement, cX9_copyStatement, 4, none, 9, (1663, 1662, 90, 107), 0) := rfl
set_option maxRecDepth 100000 in
theorem tk_X9_count : ab_tb 9 cX9_count tb_X9_count = true := by decide +kernel
theorem rq_X9_count : ab_reg[130]? = some (yX9_count, cX9_count, 2, (some .int), 9, (1702, 1700, 1701, 107), 0) := rfl
set_option maxRecDepth 100000 in
theorem tk_X9_emit : ab_tb 9 cX9_emit tb_X9_emit = true := by decide +kernel
theorem rq_X9_emit : ab_reg[131]? = some (yX9_emit, cX9_emit, 6, none, 9, (1548, 1547, 71, 107), 0) := rfl
set_option maxRecDepth 100000 in
theorem tk_X9_emitClose : ab_tb 9 cX9_emitClose tb_X9_emitClose = true := by decide +kernel
theorem rq_X9_emitClose : ab_reg[132]? = some (yX9_emitClose, cX9_emitClose, 5, none, 9, (1563, 1562, 74, 107), 0) := rfl
