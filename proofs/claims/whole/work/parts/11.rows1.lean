/-! each method's rows of code and its place in the registry, decided -/
set_option maxRecDepth 100000 in
theorem tk_X9_emitEvent : ab_tb 9 cX9_emitEvent tb_X9_emitEvent = true := by decide +kernel
theorem rq_X9_emitEvent : ab_reg[133]? = some (yX9_emitEvent, cX9_emitEvent, 3, none, 9, (1544, 1543, 70, 107), 0) := rfl
set_option maxRecDepth 100000 in
theorem tk_X9_emitLoop : ab_tb 9 cX9_emitLoop tb_X9_emitLoop = true := by decide +kernel
theorem rq_X9_emitLoop : ab_reg[134]? = some (yX9_emitLoop, cX9_emitLoop, 5, none, 9, (1556, 1555, 73, 107), 0) := rfl
set_option maxRecDepth 100000 in
theorem tk_X9_ends : ab_tb 9 cX9_ends tb_X9_ends = true := by decide +kernel
theorem rq_X9_ends : ab_reg[135]? = some (yX9_ends, cX9_ends, 7, (some .int), 9, (1587, 1585, 1586, 107), 0) := rfl
set_option maxRecDepth 100000 in
theorem tk_X9_equalities : ab_tb 9 cX9_equalities tb_X9_equalities = true := by decide +kernel
theorem rq_X9_equalities : ab_reg[136]? = some (yX9_equalities, cX9_equalities, 1, (some .int), 9, (1651, 1649, 1650, 107), 0) := rfl
set_option maxRecDepth 100000 in
theorem tk_X9_findMasks : ab_tb 9 cX9_findMasks tb_X9_findMasks = true := by decide +kernel
theorem rq_X9_findMasks : ab_reg[137]? = some (yX9_findMasks, cX9_findMasks, 6, none, 9, (1536, 1535, 68, 107), 0) := rfl
set_option maxRecDepth 100000 in
theorem tk_X9_forget : ab_tb 9 cX9_forget tb_X9_forget = true := by decide +kernel
theorem rq_X9_forget : ab_reg[138]? = some (yX9_forget, cX9_forget, 2, (some .int), 9, (1673, 1671, 1672, 107), 0) := rfl
set_option maxRecDepth 100000 in
theorem tk_X9_forgetAll : ab_tb 9 cX9_forgetAll tb_X9_forgetAll = true := by decide +kernel
theorem rq_X9_forgetAll : ab_reg[139]? = some (yX9_forgetAll, cX9_forgetAll, 1, none, 9, (1481, 1480, 61, 107), 0) := rfl
set_option maxRecDepth 100000 in
theorem tk_X9_from : ab_tb 9 cX9_from tb_X9_from = true := by decide +kernel
theorem rq_X9_from : ab_reg[140]? = some (yX9_from, cX9_from, 6, (some .int), 9, (1583, 1581, 1582, 107), 0) := rfl
set_option maxRecDepth 100000 in
theorem tk_X9_goOn : ab_tb 9 cX9_goOn tb_X9_goOn = true := by decide +kernel
theorem rq_X9_goOn : ab_reg[141]? = some (yX9_goOn, cX9_goOn, 5, none, 9, (1599, 1598, 79, 107), 0) := rfl
set_option maxRecDepth 100000 in
theorem tk_X9_goThrough : ab_tb 9 cX9_goThrough tb_X9_goThrough = true := by decide +kernel
theorem rq_X9_goThrough : ab_reg[142]? = some (yX9_goThrough, cX9_goThrough, 4, none, 9, (1591, 1590, 77, 107), 0) := rfl
set_option maxRecDepth 100000 in
theorem tk_X9_has : ab_tb 9 cX9_has tb_X9_has = true := by decide +kernel
theorem rq_X9_has : ab_reg[143]? = some (yX9_has, cX9_has, 2, (some .boolean), 9, (1559, 1558, 9999, 107), 1) := rfl
set_option maxRecDepth 100000 in
theorem tk_X9_here : ab_tb 9 cX9_here tb_X9_here = true := by decide +kernel
theorem rq_X9_here : ab_reg[144]? = some (yX9_here, cX9_here, 1, (some .int), 9, (1433, 1432, 52, 107), 0) := rfl
set_option maxRecDepth 100000 in
theorem tk_X9_in : ab_tb 9 cX9_in tb_X9_in = true := by decide +kernel
theorem rq_X9_in : ab_reg[145]? = some (yX9_in, cX9_in, 3, (some .boolean), 9, (1413, 1412, 9999, 107), 1) := rfl
set_option maxRecDepth 100000 in
theorem tk_X9_invariant : ab_tb 9 cX9_invariant tb_X9_invariant = true := by decide +kernel
theorem rq_X9_invariant : ab_reg[146]? = some (yX9_invariant, cX9_invariant, 10, (some .int), 9, (1489, 1487, 1488, 107), 0) := rfl
set_option maxRecDepth 100000 in
theorem tk_X9_isCheck : ab_tb 9 cX9_isCheck tb_X9_isCheck = true := by decide +kernel
theorem rq_X9_isCheck : ab_reg[147]? = some (yX9_isCheck, cX9_isCheck, 2, (some .boolean), 9, (1532, 1531, 67, 107), 0) := rfl
set_option maxRecDepth 100000 in
theorem tk_X9_isName : ab_tb 9 cX9_isName tb_X9_isName = true := by decide +kernel
theorem rq_X9_isName : ab_reg[148]? = some (yX9_isName, cX9_isName, 1, (some .boolean), 9, (1455, 1454, 9999, 107), 1) := rfl
set_option maxRecDepth 100000 in
theorem tk_X9_isStart : ab_tb 9 cX9_isStart tb_X9_isStart = true := by decide +kernel
theorem rq_X9_isStart : ab_reg[149]? = some (yX9_isStart, cX9_isStart, 4, (some .boolean), 9, (1681, 1680, 91, 107), 0) := rfl
set_option maxRecDepth 100000 in
theorem tk_X9_isTwo : ab_tb 9 cX9_isTwo tb_X9_isTwo = true := by decide +kernel
theorem rq_X9_isTwo : ab_reg[150]? = some (yX9_isTwo, cX9_isTwo, 1, (some .boolean), 9, (1477, 1476, 9999, 107), 1) := rfl
set_option maxRecDepth 100000 in
theorem tk_X9_joinBoth : ab_tb 9 cX9_joinBoth tb_X9_joinBoth = true := by decide +kernel
theorem rq_X9_joinBoth : ab_reg[151]? = some (yX9_joinBoth, cX9_joinBoth, 3, none, 9, (1643, 1642, 88, 107), 0) := rfl
set_option maxRecDepth 100000 in
theorem tk_X9_joinVariable : ab_tb 9 cX9_joinVariable tb_X9_joinVariable = true := by decide +kernel
theorem rq_X9_joinVariable : ab_reg[152]? = some (yX9_joinVariable, cX9_joinVariable, 9, none, 9, (1627, 1626, 84, 107), 0) := rfl
set_option maxRecDepth 100000 in
theorem tk_X9_keep : ab_tb 9 cX9_keep tb_X9_keep = true := by decide +kernel
theorem rq_X9_keep : ab_reg[153]? = some (yX9_keep, cX9_keep, 3, (some .int), 9, (1694, 1692, 1693, 107), 0) := rfl
set_option maxRecDepth 100000 in
theorem tk_X9_keepVersions : ab_tb 9 cX9_keepVersions tb_X9_keepVersions = true := by decide +kernel
theorem rq_X9_keepVersions : ab_reg[154]? = some (yX9_keepVersions, cX9_keepVersions, 4, none, 9, (1639, 1638, 87, 107), 0) := rfl
set_option maxRecDepth 100000 in
theorem tk_X9_keeps : ab_tb 9 cX9_keeps tb_X9_keeps = true := by decide +kernel
theorem rq_X9_keeps : ab_reg[155]? = some (yX9_keeps, cX9_keeps, 7, (some .int), 9, (1603, 1601, 1602, 107), 0) := rfl
set_option maxRecDepth 100000 in
theorem tk_X9_kind : ab_tb 9 cX9_kind tb_X9_kind = true := by decide +kernel
theorem rq_X9_kind : ab_reg[156]? = some (yX9_kind, cX9_kind, 2, (some .int), 9, (1509, 1507, 1508, 107), 0) := rfl
set_option maxRecDepth 100000 in
theorem tk_X9_lay : ab_tb 9 cX9_lay tb_X9_lay = true := by decide +kernel
theorem rq_X9_lay : ab_reg[157]? = some (yX9_lay, cX9_lay, 3, none, 9, (1540, 1539, 69, 107), 0) := rfl
set_option maxRecDepth 100000 in
theorem tk_X9_layVersions : ab_tb 9 cX9_layVersions tb_X9_layVersions = true := by decide +kernel
theorem rq_X9_layVersions : ab_reg[158]? = some (yX9_layVersions, cX9_layVersions, 4, none, 9, (1623, 1622, 83, 107), 0) := rfl
set_option maxRecDepth 100000 in
theorem tk_X9_leaveOut : ab_tb 9 cX9_leaveOut tb_X9_leaveOut = true := by decide +kernel
theorem rq_X9_leaveOut : ab_reg[159]? = some (yX9_leaveOut, cX9_leaveOut, 4, (some .boolean), 9, (1607, 1606, 80, 107), 0) := rfl
set_option maxRecDepth 100000 in
theorem tk_X9_linear : ab_tb 9 cX9_linear tb_X9_linear = true := by decide +kernel
theorem rq_X9_linear : ab_reg[160]? = some (yX9_linear, cX9_linear, 1, (some .int), 9, (1655, 1653, 1654, 107), 0) := rfl
set_option maxRecDepth 100000 in
theorem tk_X9_loop : ab_tb 9 cX9_loop tb_X9_loop = true := by decide +kernel
theorem rq_X9_loop : ab_reg[161]? = some (yX9_loop, cX9_loop, 6, (some .int), 9, (1513, 1511, 1512, 107), 0) := rfl
set_option maxRecDepth 100000 in
theorem tk_X9_loopsAround : ab_tb 9 cX9_loopsAround tb_X9_loopsAround = true := by decide +kernel
theorem rq_X9_loopsAround : ab_reg[162]? = some (yX9_loopsAround, cX9_loopsAround, 3, (some .int), 9, (1462, 1461, 57, 107), 0) := rfl
set_option maxRecDepth 100000 in
theorem tk_X9_must : ab_tb 9 cX9_must tb_X9_must = true := by decide +kernel
theorem rq_X9_must : ab_reg[163]? = some (yX9_must, cX9_must, 2, none, 9, (1445, 1444, 55, 107), 0) := rfl
set_option maxRecDepth 100000 in
theorem tk_X9_note : ab_tb 9 cX9_note tb_X9_note = true := by decide +kernel
theorem rq_X9_note : ab_reg[164]? = some (yX9_note, cX9_note, 2, none, 9, (1485, 1484, 62, 107), 0) := rfl
set_option maxRecDepth 100000 in
theorem tk_X9_pass : ab_tb 9 cX9_pass tb_X9_pass = true := by decide +kernel
theorem rq_X9_pass : ab_reg[165]? = some (yX9_pass, cX9_pass, 2, none, 9, (1615, 1614, 81, 107), 0) := rfl
set_option maxRecDepth 100000 in
theorem tk_X9_passClose : ab_tb 9 cX9_passClose tb_X9_passClose = true := by decide +kernel
theorem rq_X9_passClose : ab_reg[166]? = some (yX9_passClose, cX9_passClose, 3, none, 9, (1635, 1634, 86, 107), 0) := rfl
set_option maxRecDepth 100000 in
theorem tk_X9_passOpen : ab_tb 9 cX9_passOpen tb_X9_passOpen = true := by decide +kernel
theorem rq_X9_passOpen : ab_reg[167]? = some (yX9_passOpen, cX9_passOpen, 5, none, 9, (1619, 1618, 82, 107), 0) := rfl
set_option maxRecDepth 100000 in
theorem tk_X9_passStatement : ab_tb 9 cX9_passStatement tb_X9_passStatement = true := by decide +kernel
theorem rq_X9_passStatement : ab_reg[168]? = some (yX9_passStatement, cX9_passStatement, 4, none, 9, (1647, 1646, 89, 107), 0) := rfl
set_option maxRecDepth 100000 in
theorem tk_X9_program : ab_tb 9 cX9_program tb_X9_program = true := by decide +kernel
theorem rq_X9_program : ab_reg[169]? = some (yX9_program, cX9_program, 4, (some .int), 9, (1421, 1419, 1420, 107), 0) := rfl
set_option maxRecDepth 100000 in
theorem tk_X9_read : ab_tb 9 cX9_read tb_X9_read = true := by decide +kernel
theorem rq_X9_read : ab_reg[170]? = some (yX9_read, cX9_read, 1, none, 9, (1493, 1492, 63, 107), 0) := rfl
set_option maxRecDepth 100000 in
theorem tk_X9_readClose : ab_tb 9 cX9_readClose tb_X9_readClose = true := by decide +kernel
theorem rq_X9_readClose : ab_reg[171]? = some (yX9_readClose, cX9_readClose, 2, none, 9, (1437, 1436, 53, 107), 0) := rfl
set_option maxRecDepth 100000 in
theorem tk_X9_readName : ab_tb 9 cX9_readName tb_X9_readName = true := by decide +kernel
theorem rq_X9_readName : ab_reg[172]? = some (yX9_readName, cX9_readName, 2, (some .int), 9, (1470, 1469, 59, 107), 0) := rfl
set_option maxRecDepth 100000 in
theorem tk_X9_readOpen : ab_tb 9 cX9_readOpen tb_X9_readOpen = true := by decide +kernel
theorem rq_X9_readOpen : ab_reg[173]? = some (yX9_readOpen, cX9_readOpen, 3, none, 9, (1441, 1440, 54, 107), 0) := rfl
set_option maxRecDepth 100000 in
theorem tk_X9_readProgram : ab_tb 9 cX9_readProgram tb_X9_readProgram = true := by decide +kernel
theorem rq_X9_readProgram : ab_reg[174]? = some (yX9_readProgram, cX9_readProgram, 1, (some .int), 9, (1429, 1428, 51, 107), 0) := rfl
set_option maxRecDepth 100000 in
theorem tk_X9_readRest : ab_tb 9 cX9_readRest tb_X9_readRest = true := by decide +kernel
theorem rq_X9_readRest : ab_reg[175]? = some (yX9_readRest, cX9_readRest, 3, none, 9, (1466, 1465, 58, 107), 0) := rfl
set_option maxRecDepth 100000 in
theorem tk_X9_readStatement : ab_tb 9 cX9_readStatement tb_X9_readStatement = true := by decide +kernel
theorem rq_X9_readStatement : ab_reg[176]? = some (yX9_readStatement, cX9_readStatement, 4, none, 9, (1449, 1448, 56, 107), 0) := rfl
set_option maxRecDepth 100000 in
theorem tk_X9_readTerm : ab_tb 9 cX9_readTerm tb_X9_readTerm = true := by decide +kernel
theorem rq_X9_readTerm : ab_reg[177]? = some (yX9_readTerm, cX9_readTerm, 4, (some .int), 9, (1474, 1473, 60, 107), 0) := rfl
set_option maxRecDepth 100000 in
theorem tk_X9_renew : ab_tb 9 cX9_renew tb_X9_renew = true := by decide +kernel
theorem rq_X9_renew : ab_reg[178]? = some (yX9_renew, cX9_renew, 2, none, 9, (1631, 1630, 85, 107), 0) := rfl
set_option maxRecDepth 100000 in
theorem tk_X9_sees : ab_tb 9 cX9_sees tb_X9_sees = true := by decide +kernel
theorem rq_X9_sees : ab_reg[179]? = some (yX9_sees, cX9_sees, 3, (some .int), 9, (1669, 1667, 1668, 107), 0) := rfl
set_option maxRecDepth 100000 in
theorem tk_X9_sortOf : ab_tb 9 cX9_sortOf tb_X9_sortOf = true := by decide +kernel
theorem rq_X9_sortOf : ab_reg[180]? = some (yX9_sortOf, cX9_sortOf, 1, (some .int), 9, (1452, 1451, 9999, 107), 1) := rfl
set_option maxRecDepth 100000 in
theorem tk_X9_spurious : ab_tb 9 cX9_spurious tb_X9_spurious = true := by decide +kernel
theorem rq_X9_spurious : ab_reg[181]? = some (yX9_spurious, cX9_spurious, 4, (some .int), 9, (1579, 1577, 1578, 107), 0) := rfl
set_option maxRecDepth 100000 in
theorem tk_X9_starts : ab_tb 9 cX9_starts tb_X9_starts = true := by decide +kernel
theorem rq_X9_starts : ab_reg[182]? = some (yX9_starts, cX9_starts, 5, (some .int), 9, (1677, 1675, 1676, 107), 0) := rfl
set_option maxRecDepth 100000 in
theorem tk_X9_takeNow : ab_tb 9 cX9_takeNow tb_X9_takeNow = true := by decide +kernel
theorem rq_X9_takeNow : ab_reg[183]? = some (yX9_takeNow, cX9_takeNow, 2, none, 9, (1497, 1496, 64, 107), 0) := rfl
set_option maxRecDepth 100000 in
theorem tk_X9_takeText : ab_tb 9 cX9_takeText tb_X9_takeText = true := by decide +kernel
theorem rq_X9_takeText : ab_reg[184]? = some (yX9_takeText, cX9_takeText, 2, none, 9, (1425, 1424, 50, 107), 0) := rfl
set_option maxRecDepth 100000 in
theorem tk_X9_told : ab_tb 9 cX9_told tb_X9_told = true := by decide +kernel
theorem rq_X9_told : ab_reg[185]? = some (yX9_told, cX9_told, 2, (some .int), 9, (1505, 1503, 1504, 107), 0) := rfl
set_option maxRecDepth 100000 in
theorem tk_X9_tryAround : ab_tb 9 cX9_tryAround tb_X9_tryAround = true := by decide +kernel
theorem rq_X9_tryAround : ab_reg[186]? = some (yX9_tryAround, cX9_tryAround, 2, (some .int), 9, (1552, 1551, 72, 107), 0) := rfl
set_option maxRecDepth 100000 in
theorem tk_X9_type : ab_tb 9 cX9_type tb_X9_type = true := by decide +kernel
theorem rq_X9_type : ab_reg[187]? = some (yX9_type, cX9_type, 2, (some .int), 9, (1410, 1408, 1409, 107), 0) := rfl
set_option maxRecDepth 100000 in
theorem tk_X9_undo : ab_tb 9 cX9_undo tb_X9_undo = true := by decide +kernel
theorem rq_X9_undo : ab_reg[188]? = some (yX9_undo, cX9_undo, 2, (some .int), 9, (1501, 1499, 1500, 107), 0) := rfl
set_option maxRecDepth 100000 in
theorem tk_X9_valueOf : ab_tb 9 cX9_valueOf tb_X9_valueOf = true := by decide +kernel
theorem rq_X9_valueOf : ab_reg[189]? = some (yX9_valueOf, cX9_valueOf, 7, (some .int), 9, (1521, 1520, 66, 107), 0) := rfl
set_option maxRecDepth 100000 in
theorem tk_X9_versions : ab_tb 9 cX9_versions tb_X9_versions = true := by decide +kernel
theorem rq_X9_versions : ab_reg[190]? = some (yX9_versions, cX9_versions, 2, (some .int), 9, (1611, 1609, 1610, 107), 0) := rfl
set_option maxRecDepth 100000 in
theorem tk_X9_with : ab_tb 9 cX9_with tb_X9_with = true := by decide +kernel
theorem rq_X9_with : ab_reg[191]? = some (yX9_with, cX9_with, 4, (some .int), 9, (1570, 1569, 9999, 107), 1) := rfl
set_option maxRecDepth 100000 in
theorem tk_X9_wrong : ab_tb 9 cX9_wrong tb_X9_wrong = true := by decide +kernel
theorem rq_X9_wrong : ab_reg[192]? = some (yX9_wrong, cX9_wrong, 7, (some .int), 9, (1528, 1526, 1527, 107), 0) := rfl
set_option maxRecDepth 100000 in
theorem tk_X10_clearNotes : ab_tb 10 cX10_clearNotes tb_X10_clearNotes = true := by decide +kernel
theorem rq_X10_clearNotes : ab_reg[194]? = some (yX10_clearNotes, cX10_clearNotes, 1, none, 10, (958, 957, 32, 104), 0) := rfl
set_option maxRecDepth 100000 in
theorem tk_X10_findEnds : ab_tb 10 cX10_findEnds tb_X10_findEnds = true := by decide +kernel
theorem rq_X10_findEnds : ab_reg[195]? = some (yX10_findEnds, cX10_findEnds, 8, none, 10, (1023, 1021, 1022, 104), 0) := rfl
set_option maxRecDepth 100000 in
theorem tk_X10_findOutcomes : ab_tb 10 cX10_findOutcomes tb_X10_findOutcomes = true := by decide +kernel
theorem rq_X10_findOutcomes : ab_reg[196]? = some (yX10_findOutcomes, cX10_findOutcomes, 3, none, 10, (954, 952, 953, 104), 0) := rfl
set_option maxRecDepth 100000 in
theorem tk_X10_noteSecondCheck : ab_tb 10 cX10_noteSecondCheck tb_X10_noteSecondCheck = true := by decide +kernel
theorem rq_X10_noteSecondCheck : ab_reg[197]? = some (yX10_noteSecondCheck, cX10_noteSecondCheck, 4, none, 10, (968, 967, 33, 104), 0) := rfl
set_option maxRecDepth 100000 in
theorem tk_X10_sweep : ab_tb 10 cX10_sweep tb_X10_sweep = true := by decide +kernel
theorem rq_X10_sweep : ab_reg[198]? = some (yX10_sweep, cX10_sweep, 13, none, 10, (973, 972, 34, 104), 0) := rfl
set_option maxRecDepth 100000 in
theorem tk_X11_begin : ab_tb 11 cX11_begin tb_X11_begin = true := by decide +kernel
theorem rq_X11_begin : ab_reg[200]? = some (yX11_begin, cX11_begin, 3, none, 11, (1035, 1034, 35, 105), 0) := rfl
set_option maxRecDepth 100000 in
theorem tk_X11_canLeave : ab_tb 11 cX11_canLeave tb_X11_canLeave = true := by decide +kernel
theorem rq_X11_canLeave : ab_reg[201]? = some (yX11_canLeave, cX11_canLeave, 3, (some .boolean), 11, (1047, 1046, 37, 105), 0) := rfl
set_option maxRecDepth 100000 in
theorem tk_X11_isRoundRemoving : ab_tb 11 cX11_isRoundRemoving tb_X11_isRoundRemoving = true := by decide +kernel
theorem rq_X11_isRoundRemoving : ab_reg[202]? = some (yX11_isRoundRemoving, cX11_isRoundRemoving, 3, (some .boolean), 11, (1043, 1042, 36, 105), 0) := rfl
set_option maxRecDepth 100000 in
theorem tk_X11_shrink : ab_tb 11 cX11_shrink tb_X11_shrink = true := by decide +kernel
theorem rq_X11_shrink : ab_reg[203]? = some (yX11_shrink, cX11_shrink, 3, (some .int), 11, (1031, 1029, 1030, 105), 0) := rfl
set_option maxRecDepth 100000 in
theorem tk_X11_statesKept : ab_tb 11 cX11_statesKept tb_X11_statesKept = true := by decide +kernel
theorem rq_X11_statesKept : ab_reg[204]? = some (yX11_statesKept, cX11_statesKept, 3, (some .int), 11, (1052, 1050, 1051, 105), 0) := rfl
set_option maxRecDepth 100000 in
theorem tk_X12_close : ab_tb 12 cX12_close tb_X12_close = true := by decide +kernel
theorem rq_X12_close : ab_reg[206]? = some (yX12_close, cX12_close, 4, none, 12, (949, 948, 31, 103), 0) := rfl
set_option maxRecDepth 100000 in
theorem tk_X12_drop : ab_tb 12 cX12_drop tb_X12_drop = true := by decide +kernel
theorem rq_X12_drop : ab_reg[207]? = some (yX12_drop, cX12_drop, 1, none, 12, (777, 775, 776, 103), 0) := rfl
set_option maxRecDepth 100000 in
theorem tk_X12_findOutcomes : ab_tb 12 cX12_findOutcomes tb_X12_findOutcomes = true := by decide +kernel
theorem rq_X12_findOutcomes : ab_reg[208]? = some (yX12_findOutcomes, cX12_findOutcomes, 4, none, 12, (871, 869, 870, 103), 0) := rfl
set_option maxRecDepth 100000 in
theorem tk_X12_finish : ab_tb 12 cX12_finish tb_X12_finish = true := by decide +kernel
theorem rq_X12_finish : ab_reg[209]? = some (yX12_finish, cX12_finish, 7, none, 12, (939, 938, 30, 103), 0) := rfl
set_option maxRecDepth 100000 in
theorem tk_X12_firstNotMet : ab_tb 12 cX12_firstNotMet tb_X12_firstNotMet = true := by decide +kernel
theorem rq_X12_firstNotMet : ab_reg[210]? = some (yX12_firstNotMet, cX12_firstNotMet, 2, (some .int), 12, (935, 934, 29, 103), 0) := rfl
set_option maxRecDepth 100000 in
theorem tk_X12_goFrom : ab_tb 12 cX12_goFrom tb_X12_goFrom = true := by decide +kernel
theorem rq_X12_goFrom : ab_reg[211]? = some (yX12_goFrom, cX12_goFrom, 6, none, 12, (889, 888, 21, 103), 0) := rfl
set_option maxRecDepth 100000 in
theorem tk_X12_isMarked : ab_tb 12 cX12_isMarked tb_X12_isMarked = true := by decide +kernel
theorem rq_X12_isMarked : ab_reg[212]? = some (yX12_isMarked, cX12_isMarked, 3, (some .boolean), 12, (1011, 1009, 1010, 103), 0) := rfl
set_option maxRecDepth 100000 in
theorem tk_X12_mark : ab_tb 12 cX12_mark tb_X12_mark = true := by decide +kernel
theorem rq_X12_mark : ab_reg[213]? = some (yX12_mark, cX12_mark, 9, none, 12, (1003, 1001, 1002, 103), 0) := rfl
set_option maxRecDepth 100000 in
theorem tk_X12_open : ab_tb 12 cX12_open tb_X12_open = true := by decide +kernel
theorem rq_X12_open : ab_reg[214]? = some (yX12_open, cX12_open, 3, none, 12, (893, 892, 22, 103), 0) := rfl
set_option maxRecDepth 100000 in
theorem tk_X12_ownOutcome : ab_tb 12 cX12_ownOutcome tb_X12_ownOutcome = true := by decide +kernel
theorem rq_X12_ownOutcome : ab_reg[215]? = some (yX12_ownOutcome, cX12_ownOutcome, 2, (some .long), 12, (942, 941, 9999, 103), 1) := rfl
set_option maxRecDepth 100000 in
theorem tk_X12_startAgain : ab_tb 12 cX12_startAgain tb_X12_startAgain = true := by decide +kernel
theorem rq_X12_startAgain : ab_reg[216]? = some (yX12_startAgain, cX12_startAgain, 1, none, 12, (875, 874, 20, 103), 0) := rfl
set_option maxRecDepth 100000 in
theorem tk_J6_bitCount_0f7a4 : ab_tb 14 cJ6_bitCount_0f7a4 tb_J6_bitCount_0f7a4 = true := by decide +kernel
theorem rq_J6_bitCount_0f7a4 : ab_reg[217]? = some (yJ6_bitCount_0f7a4, cJ6_bitCount_0f7a4, 1, (some .int), 14, (1097, 1096, 9999, 111), 1) := rfl
set_option maxRecDepth 100000 in
theorem tk_J7_fill_fda19 : ab_tb 17 cJ7_fill_fda19 tb_J7_fill_fda19 = true := by decide +kernel
theorem rq_J7_fill_fda19 : ab_reg[218]? = some (yJ7_fill_fda19, cJ7_fill_fda19, 5, none, 17, (878, 877, 9999, 109), 1) := rfl
set_option maxRecDepth 100000 in
theorem tk_J7_fill_bad5a : ab_tb 17 cJ7_fill_bad5a tb_J7_fill_bad5a = true := by decide +kernel
theorem rq_J7_fill_bad5a : ab_reg[219]? = some (yJ7_fill_bad5a, cJ7_fill_bad5a, 6, none, 17, (961, 960, 9999, 109), 1) := rfl
set_option maxRecDepth 100000 in
theorem tk_J7_fill_d0a16 : ab_tb 17 cJ7_fill_d0a16 tb_J7_fill_d0a16 = true := by decide +kernel
theorem rq_J7_fill_d0a16 : ab_reg[220]? = some (yJ7_fill_d0a16, cJ7_fill_d0a16, 5, none, 17, (1038, 1037, 9999, 109), 1) := rfl
set_option maxRecDepth 100000 in
theorem tk_J7_rangeCheck_23922 : ab_tb 17 cJ7_rangeCheck_23922 tb_J7_rangeCheck_23922 = true := by decide +kernel
theorem rq_J7_rangeCheck_23922 : ab_reg[221]? = some (yJ7_rangeCheck_23922, cJ7_rangeCheck_23922, 3, none, 17, (881, 880, 9999, 109), 1) := rfl
set_option maxRecDepth 100000 in
theorem tk_J13_bitCount_95d88 : ab_tb 18 cJ13_bitCount_95d88 tb_J13_bitCount_95d88 = true := by decide +kernel
theorem rq_J13_bitCount_95d88 : ab_reg[222]? = some (yJ13_bitCount_95d88, cJ13_bitCount_95d88, 2, (some .int), 18, (1055, 1054, 9999, 110), 1) := rfl
