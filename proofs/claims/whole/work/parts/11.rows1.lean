/-! each method's rows of code and its place in the registry, decided -/
set_option maxRecDepth 100000 in
theorem tk_X9_canBy : ab_tb 9 cX9_canBy tb_X9_canBy = true := by decide +kernel
theorem rq_X9_canBy : ab_reg[129]? = some (yX9_canBy, cX9_canBy, 4, (some .int), 9, (1373, 1372, 67, 96), 0) := rfl
set_option maxRecDepth 100000 in
theorem tk_X9_canFrom : ab_tb 9 cX9_canFrom tb_X9_canFrom = true := by decide +kernel
theorem rq_X9_canFrom : ab_reg[130]? = some (yX9_canFrom, cX9_canFrom, 3, (some .int), 9, (1380, 1379, 68, 96), 0) := rfl
set_option maxRecDepth 100000 in
theorem tk_X9_checksOf : ab_tb 9 cX9_checksOf tb_X9_checksOf = true := by decide +kernel
theorem rq_X9_checksOf : ab_reg[131]? = some (yX9_checksOf, cX9_checksOf, 1, (some .int), 9, (1264, 1263, 9999, 96), 1) := rfl
set_option maxRecDepth 100000 in
theorem tk_X9_clear : ab_tb 9 cX9_clear tb_X9_clear = true := by decide +kernel
theorem rq_X9_clear : ab_reg[132]? = some (yX9_clear, cX9_clear, 2, (some .int), 9, (1223, 1221, 1222, 96), 0) := rfl
set_option maxRecDepth 100000 in
theorem tk_X9_come : ab_tb 9 cX9_come tb_X9_come = true := by decide +kernel
theorem rq_X9_come : ab_reg[133]? = some (yX9_come, cX9_come, 3, none, 9, (1401, 1400, 70, 96), 0) := rfl
set_option maxRecDepth 100000 in
theorem tk_X9_copied : ab_tb 9 cX9_copied tb_X9_copied = true := by decide +kernel
theorem rq_X9_copied : ab_reg[134]? = some (yX9_copied, cX9_copied, 3, (some .long), 9, (1465, 1463, 1464, 96), 0) := rfl
set_option maxRecDepth 100000 in
theorem tk_X9_copyStatement : ab_tb 9 cX9_copyStatement tb_X9_copyStatement = true := by decide +kernel
theorem rq_X9_copyStatement : ab_reg[135]? = some (yX9_copyStatement, cX9_copyStatement, 4, none, 9, (1469, 1468, 82, 96), 0) := rfl
set_option maxRecDepth 100000 in
theorem tk_X9_count : ab_tb 9 cX9_count tb_X9_count = true := by decide +kernel
theorem rq_X9_count : ab_reg[136]? = some (yX9_count, cX9_count, 2, (some .int), 9, (1508, 1506, 1507, 96), 0) := rfl
set_option maxRecDepth 100000 in
theorem tk_X9_emit : ab_tb 9 cX9_emit tb_X9_emit = true := by decide +kernel
theorem rq_X9_emit : ab_reg[137]? = some (yX9_emit, cX9_emit, 6, none, 9, (1354, 1353, 63, 96), 0) := rfl
set_option maxRecDepth 100000 in
theorem tk_X9_emitClose : ab_tb 9 cX9_emitClose tb_X9_emitClose = true := by decide +kernel
theorem rq_X9_emitClose : ab_reg[138]? = some (yX9_emitClose, cX9_emitClose, 5, none, 9, (1369, 1368, 66, 96), 0) := rfl
set_option maxRecDepth 100000 in
theorem tk_X9_emitEvent : ab_tb 9 cX9_emitEvent tb_X9_emitEvent = true := by decide +kernel
theorem rq_X9_emitEvent : ab_reg[139]? = some (yX9_emitEvent, cX9_emitEvent, 3, none, 9, (1350, 1349, 62, 96), 0) := rfl
set_option maxRecDepth 100000 in
theorem tk_X9_emitLoop : ab_tb 9 cX9_emitLoop tb_X9_emitLoop = true := by decide +kernel
theorem rq_X9_emitLoop : ab_reg[140]? = some (yX9_emitLoop, cX9_emitLoop, 5, none, 9, (1362, 1361, 65, 96), 0) := rfl
set_option maxRecDepth 100000 in
theorem tk_X9_ends : ab_tb 9 cX9_ends tb_X9_ends = true := by decide +kernel
theorem rq_X9_ends : ab_reg[141]? = some (yX9_ends, cX9_ends, 7, (some .int), 9, (1393, 1391, 1392, 96), 0) := rfl
set_option maxRecDepth 100000 in
theorem tk_X9_equalities : ab_tb 9 cX9_equalities tb_X9_equalities = true := by decide +kernel
theorem rq_X9_equalities : ab_reg[142]? = some (yX9_equalities, cX9_equalities, 1, (some .int), 9, (1457, 1455, 1456, 96), 0) := rfl
set_option maxRecDepth 100000 in
theorem tk_X9_findMasks : ab_tb 9 cX9_findMasks tb_X9_findMasks = true := by decide +kernel
theorem rq_X9_findMasks : ab_reg[143]? = some (yX9_findMasks, cX9_findMasks, 6, none, 9, (1342, 1341, 60, 96), 0) := rfl
set_option maxRecDepth 100000 in
theorem tk_X9_forget : ab_tb 9 cX9_forget tb_X9_forget = true := by decide +kernel
theorem rq_X9_forget : ab_reg[144]? = some (yX9_forget, cX9_forget, 2, (some .int), 9, (1479, 1477, 1478, 96), 0) := rfl
set_option maxRecDepth 100000 in
theorem tk_X9_forgetAll : ab_tb 9 cX9_forgetAll tb_X9_forgetAll = true := by decide +kernel
theorem rq_X9_forgetAll : ab_reg[145]? = some (yX9_forgetAll, cX9_forgetAll, 1, none, 9, (1287, 1286, 53, 96), 0) := rfl
set_option maxRecDepth 100000 in
theorem tk_X9_from : ab_tb 9 cX9_from tb_X9_from = true := by decide +kernel
theorem rq_X9_from : ab_reg[146]? = some (yX9_from, cX9_from, 6, (some .int), 9, (1389, 1387, 1388, 96), 0) := rfl
set_option maxRecDepth 100000 in
theorem tk_X9_goOn : ab_tb 9 cX9_goOn tb_X9_goOn = true := by decide +kernel
theorem rq_X9_goOn : ab_reg[147]? = some (yX9_goOn, cX9_goOn, 5, none, 9, (1405, 1404, 71, 96), 0) := rfl
set_option maxRecDepth 100000 in
theorem tk_X9_goThrough : ab_tb 9 cX9_goThrough tb_X9_goThrough = true := by decide +kernel
theorem rq_X9_goThrough : ab_reg[148]? = some (yX9_goThrough, cX9_goThrough, 4, none, 9, (1397, 1396, 69, 96), 0) := rfl
set_option maxRecDepth 100000 in
theorem tk_X9_has : ab_tb 9 cX9_has tb_X9_has = true := by decide +kernel
theorem rq_X9_has : ab_reg[149]? = some (yX9_has, cX9_has, 2, (some .boolean), 9, (1365, 1364, 9999, 96), 1) := rfl
set_option maxRecDepth 100000 in
theorem tk_X9_here : ab_tb 9 cX9_here tb_X9_here = true := by decide +kernel
theorem rq_X9_here : ab_reg[150]? = some (yX9_here, cX9_here, 1, (some .int), 9, (1239, 1238, 44, 96), 0) := rfl
set_option maxRecDepth 100000 in
theorem tk_X9_in : ab_tb 9 cX9_in tb_X9_in = true := by decide +kernel
theorem rq_X9_in : ab_reg[151]? = some (yX9_in, cX9_in, 3, (some .boolean), 9, (1219, 1218, 9999, 96), 1) := rfl
set_option maxRecDepth 100000 in
theorem tk_X9_invariant : ab_tb 9 cX9_invariant tb_X9_invariant = true := by decide +kernel
theorem rq_X9_invariant : ab_reg[152]? = some (yX9_invariant, cX9_invariant, 10, (some .int), 9, (1295, 1293, 1294, 96), 0) := rfl
set_option maxRecDepth 100000 in
theorem tk_X9_isCheck : ab_tb 9 cX9_isCheck tb_X9_isCheck = true := by decide +kernel
theorem rq_X9_isCheck : ab_reg[153]? = some (yX9_isCheck, cX9_isCheck, 2, (some .boolean), 9, (1338, 1337, 59, 96), 0) := rfl
set_option maxRecDepth 100000 in
theorem tk_X9_isName : ab_tb 9 cX9_isName tb_X9_isName = true := by decide +kernel
theorem rq_X9_isName : ab_reg[154]? = some (yX9_isName, cX9_isName, 1, (some .boolean), 9, (1261, 1260, 9999, 96), 1) := rfl
set_option maxRecDepth 100000 in
theorem tk_X9_isStart : ab_tb 9 cX9_isStart tb_X9_isStart = true := by decide +kernel
theorem rq_X9_isStart : ab_reg[155]? = some (yX9_isStart, cX9_isStart, 4, (some .boolean), 9, (1487, 1486, 83, 96), 0) := rfl
set_option maxRecDepth 100000 in
theorem tk_X9_isTwo : ab_tb 9 cX9_isTwo tb_X9_isTwo = true := by decide +kernel
theorem rq_X9_isTwo : ab_reg[156]? = some (yX9_isTwo, cX9_isTwo, 1, (some .boolean), 9, (1283, 1282, 9999, 96), 1) := rfl
set_option maxRecDepth 100000 in
theorem tk_X9_joinBoth : ab_tb 9 cX9_joinBoth tb_X9_joinBoth = true := by decide +kernel
theorem rq_X9_joinBoth : ab_reg[157]? = some (yX9_joinBoth, cX9_joinBoth, 3, none, 9, (1449, 1448, 80, 96), 0) := rfl
set_option maxRecDepth 100000 in
theorem tk_X9_joinVariable : ab_tb 9 cX9_joinVariable tb_X9_joinVariable = true := by decide +kernel
theorem rq_X9_joinVariable : ab_reg[158]? = some (yX9_joinVariable, cX9_joinVariable, 9, none, 9, (1433, 1432, 76, 96), 0) := rfl
set_option maxRecDepth 100000 in
theorem tk_X9_keep : ab_tb 9 cX9_keep tb_X9_keep = true := by decide +kernel
theorem rq_X9_keep : ab_reg[159]? = some (yX9_keep, cX9_keep, 3, (some .int), 9, (1500, 1498, 1499, 96), 0) := rfl
set_option maxRecDepth 100000 in
theorem tk_X9_keepVersions : ab_tb 9 cX9_keepVersions tb_X9_keepVersions = true := by decide +kernel
theorem rq_X9_keepVersions : ab_reg[160]? = some (yX9_keepVersions, cX9_keepVersions, 4, none, 9, (1445, 1444, 79, 96), 0) := rfl
set_option maxRecDepth 100000 in
theorem tk_X9_keeps : ab_tb 9 cX9_keeps tb_X9_keeps = true := by decide +kernel
theorem rq_X9_keeps : ab_reg[161]? = some (yX9_keeps, cX9_keeps, 7, (some .int), 9, (1409, 1407, 1408, 96), 0) := rfl
set_option maxRecDepth 100000 in
theorem tk_X9_kind : ab_tb 9 cX9_kind tb_X9_kind = true := by decide +kernel
theorem rq_X9_kind : ab_reg[162]? = some (yX9_kind, cX9_kind, 2, (some .int), 9, (1315, 1313, 1314, 96), 0) := rfl
set_option maxRecDepth 100000 in
theorem tk_X9_lay : ab_tb 9 cX9_lay tb_X9_lay = true := by decide +kernel
theorem rq_X9_lay : ab_reg[163]? = some (yX9_lay, cX9_lay, 3, none, 9, (1346, 1345, 61, 96), 0) := rfl
set_option maxRecDepth 100000 in
theorem tk_X9_layVersions : ab_tb 9 cX9_layVersions tb_X9_layVersions = true := by decide +kernel
theorem rq_X9_layVersions : ab_reg[164]? = some (yX9_layVersions, cX9_layVersions, 4, none, 9, (1429, 1428, 75, 96), 0) := rfl
set_option maxRecDepth 100000 in
theorem tk_X9_leaveOut : ab_tb 9 cX9_leaveOut tb_X9_leaveOut = true := by decide +kernel
theorem rq_X9_leaveOut : ab_reg[165]? = some (yX9_leaveOut, cX9_leaveOut, 4, (some .boolean), 9, (1413, 1412, 72, 96), 0) := rfl
set_option maxRecDepth 100000 in
theorem tk_X9_linear : ab_tb 9 cX9_linear tb_X9_linear = true := by decide +kernel
theorem rq_X9_linear : ab_reg[166]? = some (yX9_linear, cX9_linear, 1, (some .int), 9, (1461, 1459, 1460, 96), 0) := rfl
set_option maxRecDepth 100000 in
theorem tk_X9_loop : ab_tb 9 cX9_loop tb_X9_loop = true := by decide +kernel
theorem rq_X9_loop : ab_reg[167]? = some (yX9_loop, cX9_loop, 6, (some .int), 9, (1319, 1317, 1318, 96), 0) := rfl
set_option maxRecDepth 100000 in
theorem tk_X9_loopsAround : ab_tb 9 cX9_loopsAround tb_X9_loopsAround = true := by decide +kernel
theorem rq_X9_loopsAround : ab_reg[168]? = some (yX9_loopsAround, cX9_loopsAround, 3, (some .int), 9, (1268, 1267, 49, 96), 0) := rfl
set_option maxRecDepth 100000 in
theorem tk_X9_must : ab_tb 9 cX9_must tb_X9_must = true := by decide +kernel
theorem rq_X9_must : ab_reg[169]? = some (yX9_must, cX9_must, 2, none, 9, (1251, 1250, 47, 96), 0) := rfl
set_option maxRecDepth 100000 in
theorem tk_X9_note : ab_tb 9 cX9_note tb_X9_note = true := by decide +kernel
theorem rq_X9_note : ab_reg[170]? = some (yX9_note, cX9_note, 2, none, 9, (1291, 1290, 54, 96), 0) := rfl
set_option maxRecDepth 100000 in
theorem tk_X9_pass : ab_tb 9 cX9_pass tb_X9_pass = true := by decide +kernel
theorem rq_X9_pass : ab_reg[171]? = some (yX9_pass, cX9_pass, 2, none, 9, (1421, 1420, 73, 96), 0) := rfl
set_option maxRecDepth 100000 in
theorem tk_X9_passClose : ab_tb 9 cX9_passClose tb_X9_passClose = true := by decide +kernel
theorem rq_X9_passClose : ab_reg[172]? = some (yX9_passClose, cX9_passClose, 3, none, 9, (1441, 1440, 78, 96), 0) := rfl
set_option maxRecDepth 100000 in
theorem tk_X9_passOpen : ab_tb 9 cX9_passOpen tb_X9_passOpen = true := by decide +kernel
theorem rq_X9_passOpen : ab_reg[173]? = some (yX9_passOpen, cX9_passOpen, 5, none, 9, (1425, 1424, 74, 96), 0) := rfl
set_option maxRecDepth 100000 in
theorem tk_X9_passStatement : ab_tb 9 cX9_passStatement tb_X9_passStatement = true := by decide +kernel
theorem rq_X9_passStatement : ab_reg[174]? = some (yX9_passStatement, cX9_passStatement, 4, none, 9, (1453, 1452, 81, 96), 0) := rfl
set_option maxRecDepth 100000 in
theorem tk_X9_program : ab_tb 9 cX9_program tb_X9_program = true := by decide +kernel
theorem rq_X9_program : ab_reg[175]? = some (yX9_program, cX9_program, 4, (some .int), 9, (1227, 1225, 1226, 96), 0) := rfl
set_option maxRecDepth 100000 in
theorem tk_X9_read : ab_tb 9 cX9_read tb_X9_read = true := by decide +kernel
theorem rq_X9_read : ab_reg[176]? = some (yX9_read, cX9_read, 1, none, 9, (1299, 1298, 55, 96), 0) := rfl
set_option maxRecDepth 100000 in
theorem tk_X9_readClose : ab_tb 9 cX9_readClose tb_X9_readClose = true := by decide +kernel
theorem rq_X9_readClose : ab_reg[177]? = some (yX9_readClose, cX9_readClose, 2, none, 9, (1243, 1242, 45, 96), 0) := rfl
set_option maxRecDepth 100000 in
theorem tk_X9_readName : ab_tb 9 cX9_readName tb_X9_readName = true := by decide +kernel
theorem rq_X9_readName : ab_reg[178]? = some (yX9_readName, cX9_readName, 2, (some .int), 9, (1276, 1275, 51, 96), 0) := rfl
set_option maxRecDepth 100000 in
theorem tk_X9_readOpen : ab_tb 9 cX9_readOpen tb_X9_readOpen = true := by decide +kernel
theorem rq_X9_readOpen : ab_reg[179]? = some (yX9_readOpen, cX9_readOpen, 3, none, 9, (1247, 1246, 46, 96), 0) := rfl
set_option maxRecDepth 100000 in
theorem tk_X9_readProgram : ab_tb 9 cX9_readProgram tb_X9_readProgram = true := by decide +kernel
theorem rq_X9_readProgram : ab_reg[180]? = some (yX9_readProgram, cX9_readProgram, 1, (some .int), 9, (1235, 1234, 43, 96), 0) := rfl
set_option maxRecDepth 100000 in
theorem tk_X9_readRest : ab_tb 9 cX9_readRest tb_X9_readRest = true := by decide +kernel
theorem rq_X9_readRest : ab_reg[181]? = some (yX9_readRest, cX9_readRest, 3, none, 9, (1272, 1271, 50, 96), 0) := rfl
set_option maxRecDepth 100000 in
theorem tk_X9_readStatement : ab_tb 9 cX9_readStatement tb_X9_readStatement = true := by decide +kernel
theorem rq_X9_readStatement : ab_reg[182]? = some (yX9_readStatement, cX9_readStatement, 4, none, 9, (1255, 1254, 48, 96), 0) := rfl
set_option maxRecDepth 100000 in
theorem tk_X9_readTerm : ab_tb 9 cX9_readTerm tb_X9_readTerm = true := by decide +kernel
theorem rq_X9_readTerm : ab_reg[183]? = some (yX9_readTerm, cX9_readTerm, 4, (some .int), 9, (1280, 1279, 52, 96), 0) := rfl
set_option maxRecDepth 100000 in
theorem tk_X9_renew : ab_tb 9 cX9_renew tb_X9_renew = true := by decide +kernel
theorem rq_X9_renew : ab_reg[184]? = some (yX9_renew, cX9_renew, 2, none, 9, (1437, 1436, 77, 96), 0) := rfl
set_option maxRecDepth 100000 in
theorem tk_X9_sees : ab_tb 9 cX9_sees tb_X9_sees = true := by decide +kernel
theorem rq_X9_sees : ab_reg[185]? = some (yX9_sees, cX9_sees, 3, (some .int), 9, (1475, 1473, 1474, 96), 0) := rfl
set_option maxRecDepth 100000 in
theorem tk_X9_sortOf : ab_tb 9 cX9_sortOf tb_X9_sortOf = true := by decide +kernel
theorem rq_X9_sortOf : ab_reg[186]? = some (yX9_sortOf, cX9_sortOf, 1, (some .int), 9, (1258, 1257, 9999, 96), 1) := rfl
set_option maxRecDepth 100000 in
theorem tk_X9_spurious : ab_tb 9 cX9_spurious tb_X9_spurious = true := by decide +kernel
theorem rq_X9_spurious : ab_reg[187]? = some (yX9_spurious, cX9_spurious, 4, (some .int), 9, (1385, 1383, 1384, 96), 0) := rfl
set_option maxRecDepth 100000 in
theorem tk_X9_starts : ab_tb 9 cX9_starts tb_X9_starts = true := by decide +kernel
theorem rq_X9_starts : ab_reg[188]? = some (yX9_starts, cX9_starts, 5, (some .int), 9, (1483, 1481, 1482, 96), 0) := rfl
set_option maxRecDepth 100000 in
theorem tk_X9_takeNow : ab_tb 9 cX9_takeNow tb_X9_takeNow = true := by decide +kernel
theorem rq_X9_takeNow : ab_reg[189]? = some (yX9_takeNow, cX9_takeNow, 2, none, 9, (1303, 1302, 56, 96), 0) := rfl
set_option maxRecDepth 100000 in
theorem tk_X9_takeText : ab_tb 9 cX9_takeText tb_X9_takeText = true := by decide +kernel
theorem rq_X9_takeText : ab_reg[190]? = some (yX9_takeText, cX9_takeText, 2, none, 9, (1231, 1230, 42, 96), 0) := rfl
set_option maxRecDepth 100000 in
theorem tk_X9_told : ab_tb 9 cX9_told tb_X9_told = true := by decide +kernel
theorem rq_X9_told : ab_reg[191]? = some (yX9_told, cX9_told, 2, (some .int), 9, (1311, 1309, 1310, 96), 0) := rfl
set_option maxRecDepth 100000 in
theorem tk_X9_tryAround : ab_tb 9 cX9_tryAround tb_X9_tryAround = true := by decide +kernel
theorem rq_X9_tryAround : ab_reg[192]? = some (yX9_tryAround, cX9_tryAround, 2, (some .int), 9, (1358, 1357, 64, 96), 0) := rfl
set_option maxRecDepth 100000 in
theorem tk_X9_type : ab_tb 9 cX9_type tb_X9_type = true := by decide +kernel
theorem rq_X9_type : ab_reg[193]? = some (yX9_type, cX9_type, 2, (some .int), 9, (1216, 1214, 1215, 96), 0) := rfl
set_option maxRecDepth 100000 in
theorem tk_X9_undo : ab_tb 9 cX9_undo tb_X9_undo = true := by decide +kernel
theorem rq_X9_undo : ab_reg[194]? = some (yX9_undo, cX9_undo, 2, (some .int), 9, (1307, 1305, 1306, 96), 0) := rfl
set_option maxRecDepth 100000 in
theorem tk_X9_valueOf : ab_tb 9 cX9_valueOf tb_X9_valueOf = true := by decide +kernel
theorem rq_X9_valueOf : ab_reg[195]? = some (yX9_valueOf, cX9_valueOf, 7, (some .int), 9, (1327, 1326, 58, 96), 0) := rfl
set_option maxRecDepth 100000 in
theorem tk_X9_versions : ab_tb 9 cX9_versions tb_X9_versions = true := by decide +kernel
theorem rq_X9_versions : ab_reg[196]? = some (yX9_versions, cX9_versions, 2, (some .int), 9, (1417, 1415, 1416, 96), 0) := rfl
set_option maxRecDepth 100000 in
theorem tk_X9_with : ab_tb 9 cX9_with tb_X9_with = true := by decide +kernel
theorem rq_X9_with : ab_reg[197]? = some (yX9_with, cX9_with, 4, (some .int), 9, (1376, 1375, 9999, 96), 1) := rfl
set_option maxRecDepth 100000 in
theorem tk_X9_wrong : ab_tb 9 cX9_wrong tb_X9_wrong = true := by decide +kernel
theorem rq_X9_wrong : ab_reg[198]? = some (yX9_wrong, cX9_wrong, 7, (some .int), 9, (1334, 1332, 1333, 96), 0) := rfl
set_option maxRecDepth 100000 in
theorem tk_J6_bitCount_0f7a4 : ab_tb 11 cJ6_bitCount_0f7a4 tb_J6_bitCount_0f7a4 = true := by decide +kernel
theorem rq_J6_bitCount_0f7a4 : ab_reg[199]? = some (yJ6_bitCount_0f7a4, cJ6_bitCount_0f7a4, 1, (some .int), 11, (903, 902, 9999, 99), 1) := rfl
set_option maxRecDepth 100000 in
theorem tk_J7_fill_53178 : ab_tb 14 cJ7_fill_53178 tb_J7_fill_53178 = true := by decide +kernel
theorem rq_J7_fill_53178 : ab_reg[200]? = some (yJ7_fill_53178, cJ7_fill_53178, 4, none, 14, (758, 757, 9999, 98), 1) := rfl
