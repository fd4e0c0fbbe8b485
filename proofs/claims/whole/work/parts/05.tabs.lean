/-- the words that move with the resolved: links to nest mates -/
def ab_nest : Cond → Bool
  | .fieldLinkNest .. => true
  | .methodLinkNest .. => true
  | _ => false
def ab_tt : List Cond := lw_tbl.filter goodWord
def ab_tn : List Cond := lw_tbl.filter (fun w => goodWord w || ab_nest w)
theorem ab_ttm {w : Cond} (h : w ∈ lw_tbl) (hg : goodWord w = true) : w ∈ ab_tt := List.mem_filter.mpr ⟨h, hg⟩
theorem ab_tnm {w : Cond} (h : w ∈ lw_tbl) (hg : (goodWord w || ab_nest w) = true) : w ∈ ab_tn := List.mem_filter.mpr ⟨h, hg⟩
set_option maxRecDepth 20000 in
theorem ab_rc0 : lw_tbl[530]? = some (.code yX0_init cX0_init 2 none) := rfl
set_option maxRecDepth 20000 in
theorem ab_rc1 : lw_tbl[1124]? = some (.code yX0_copyBlock cX0_copyBlock 11 (some .long)) := rfl
set_option maxRecDepth 20000 in
theorem ab_rc2 : lw_tbl[1128]? = some (.code yX0_copyStatement cX0_copyStatement 13 (some .long)) := rfl
set_option maxRecDepth 20000 in
theorem ab_rc3 : lw_tbl[1090]? = some (.code yX0_differing cX0_differing 6 (some .int)) := rfl
set_option maxRecDepth 20000 in
theorem ab_rc4 : lw_tbl[1094]? = some (.code yX0_joined cX0_joined 6 (some .long)) := rfl
set_option maxRecDepth 20000 in
theorem ab_rc5 : lw_tbl[1087]? = some (.code yX0_noteThrow cX0_noteThrow 4 none) := rfl
set_option maxRecDepth 20000 in
theorem ab_rc6 : lw_tbl[1082]? = some (.code yX0_renewed cX0_renewed 7 (some .long)) := rfl
set_option maxRecDepth 20000 in
theorem ab_rc7 : lw_tbl[1120]? = some (.code yX0_sizeByCopying cX0_sizeByCopying 1 (some .long)) := rfl
set_option maxRecDepth 20000 in
theorem ab_rc8 : lw_tbl[1066]? = some (.code yX0_traverse cX0_traverse 2 none) := rfl
set_option maxRecDepth 20000 in
theorem ab_rc9 : lw_tbl[1070]? = some (.code yX0_traverseBlock cX0_traverseBlock 10 (some .long)) := rfl
set_option maxRecDepth 20000 in
theorem ab_rc10 : lw_tbl[1076]? = some (.code yX0_traverseStatement cX0_traverseStatement 11 (some .long)) := rfl
set_option maxRecDepth 20000 in
theorem ab_rc11 : lw_tbl[1104]? = some (.code yX0_traverseTry cX0_traverseTry 11 (some .long)) := rfl
set_option maxRecDepth 20000 in
theorem ab_rc12 : lw_tbl[144]? = some (.code yX1_init cX1_init 3 none) := rfl
set_option maxRecDepth 20000 in
theorem ab_rc13 : lw_tbl[686]? = some (.code yX1_addCheck cX1_addCheck 2 none) := rfl
set_option maxRecDepth 20000 in
theorem ab_rc14 : lw_tbl[682]? = some (.code yX1_addLoop cX1_addLoop 2 none) := rfl
set_option maxRecDepth 20000 in
theorem ab_rc15 : lw_tbl[704]? = some (.code yX1_addTerm cX1_addTerm 3 (some .int)) := rfl
set_option maxRecDepth 20000 in
theorem ab_rc16 : lw_tbl[646]? = some (.code yX1_at cX1_at 2 (some (.object "PassiveChecks$Statement"))) := rfl
set_option maxRecDepth 20000 in
theorem ab_rc17 : lw_tbl[726]? = some (.code yX1_entry cX1_entry 3 (some .int)) := rfl
set_option maxRecDepth 20000 in
theorem ab_rc18 : lw_tbl[822]? = some (.code yX1_hasCheck cX1_hasCheck 2 (some .boolean)) := rfl
set_option maxRecDepth 20000 in
theorem ab_rc19 : lw_tbl[785]? = some (.code yX1_hasLoop cX1_hasLoop 2 (some .boolean)) := rfl
set_option maxRecDepth 20000 in
theorem ab_rc20 : lw_tbl[712]? = some (.code yX1_link cX1_link 3 none) := rfl
set_option maxRecDepth 20000 in
theorem ab_rc21 : lw_tbl[730]? = some (.code yX1_linkIn cX1_linkIn 2 none) := rfl
set_option maxRecDepth 20000 in
theorem ab_rc22 : lw_tbl[717]? = some (.code yX1_linkOut cX1_linkOut 4 none) := rfl
set_option maxRecDepth 20000 in
theorem ab_rc23 : lw_tbl[797]? = some (.code yX1_loopRow cX1_loopRow 2 (some .int)) := rfl
set_option maxRecDepth 20000 in
theorem ab_rc24 : lw_tbl[793]? = some (.code yX1_loopStatement cX1_loopStatement 2 (some (.object "PassiveChecks$Statement"))) := rfl
set_option maxRecDepth 20000 in
theorem ab_rc25 : lw_tbl[734]? = some (.code yX1_noteModified cX1_noteModified 4 none) := rfl
set_option maxRecDepth 20000 in
theorem ab_rc26 : lw_tbl[630]? = some (.code yX1_reset cX1_reset 2 none) := rfl
set_option maxRecDepth 20000 in
theorem ab_rc27 : lw_tbl[721]? = some (.code yX1_rowBehindBlock cX1_rowBehindBlock 2 (some .int)) := rfl
set_option maxRecDepth 20000 in
theorem ab_rc28 : lw_tbl[885]? = some (.code yX1_startRow cX1_startRow 1 (some .int)) := rfl
set_option maxRecDepth 20000 in
theorem ab_rc29 : lw_tbl[801]? = some (.code yX1_termBegin cX1_termBegin 2 (some .int)) := rfl
set_option maxRecDepth 20000 in
theorem ab_rc30 : lw_tbl[805]? = some (.code yX1_termLength cX1_termLength 2 (some .int)) := rfl
set_option maxRecDepth 20000 in
theorem ab_rc31 : lw_tbl[326]? = some (.code yX2_init cX2_init 2 none) := rfl
set_option maxRecDepth 20000 in
theorem ab_rc32 : lw_tbl[678]? = some (.code yX2_addChecks cX2_addChecks 3 none) := rfl
set_option maxRecDepth 20000 in
theorem ab_rc33 : lw_tbl[673]? = some (.code yX2_addStatement cX2_addStatement 4 (some (.object "PassiveChecks$Statement"))) := rfl
set_option maxRecDepth 20000 in
theorem ab_rc34 : lw_tbl[642]? = some (.code yX2_closeBlock cX2_closeBlock 2 none) := rfl
set_option maxRecDepth 20000 in
theorem ab_rc35 : lw_tbl[662]? = some (.code yX2_isAllowed cX2_isAllowed 1 (some .boolean)) := rfl
set_option maxRecDepth 20000 in
theorem ab_rc36 : lw_tbl[700]? = some (.code yX2_isBinary cX2_isBinary 1 (some .boolean)) := rfl
set_option maxRecDepth 20000 in
theorem ab_rc37 : lw_tbl[634]? = some (.code yX2_moveTo cX2_moveTo 2 none) := rfl
set_option maxRecDepth 20000 in
theorem ab_rc38 : lw_tbl[708]? = some (.code yX2_openBlock cX2_openBlock 2 none) := rfl
set_option maxRecDepth 20000 in
theorem ab_rc39 : lw_tbl[654]? = some (.code yX2_pass cX2_pass 2 none) := rfl
set_option maxRecDepth 20000 in
theorem ab_rc40 : lw_tbl[622]? = some (.code yX2_readProgram cX2_readProgram 4 (some .int)) := rfl
set_option maxRecDepth 20000 in
theorem ab_rc41 : lw_tbl[669]? = some (.code yX2_readStatement cX2_readStatement 3 none) := rfl
set_option maxRecDepth 20000 in
theorem ab_rc42 : lw_tbl[789]? = some (.code yX2_readTerm cX2_readTerm 3 (some .int)) := rfl
set_option maxRecDepth 20000 in
theorem ab_rc43 : lw_tbl[626]? = some (.code yX2_start cX2_start 3 none) := rfl
set_option maxRecDepth 20000 in
theorem ab_rc44 : lw_tbl[694]? = some (.code yX2_term cX2_term 4 (some .int)) := rfl
set_option maxRecDepth 20000 in
theorem ab_rc45 : lw_tbl[690]? = some (.code yX2_variable cX2_variable 2 (some .int)) := rfl
set_option maxRecDepth 20000 in
theorem ab_rc46 : lw_tbl[363]? = some (.code yX3_init cX3_init 4 none) := rfl
set_option maxRecDepth 20000 in
theorem ab_rc47 : lw_tbl[980]? = some (.code yX3_can cX3_can 5 (some .boolean)) := rfl
set_option maxRecDepth 20000 in
theorem ab_rc48 : lw_tbl[769]? = some (.code yX3_drop cX3_drop 2 none) := rfl
set_option maxRecDepth 20000 in
theorem ab_rc49 : lw_tbl[1007]? = some (.code yX3_isReached cX3_isReached 3 (some .boolean)) := rfl
set_option maxRecDepth 20000 in
theorem ab_rc50 : lw_tbl[867]? = some (.code yX3_prepare cX3_prepare 2 none) := rfl
set_option maxRecDepth 20000 in
theorem ab_rc51 : lw_tbl[1019]? = some (.code yX3_prepareLoop cX3_prepareLoop 2 none) := rfl
set_option maxRecDepth 20000 in
theorem ab_rc52 : lw_tbl[999]? = some (.code yX3_search cX3_search 3 none) := rfl
set_option maxRecDepth 20000 in
theorem ab_rc53 : lw_tbl[830]? = some (.code yX3_statesWith cX3_statesWith 4 (some .int)) := rfl
set_option maxRecDepth 20000 in
theorem ab_rc54 : lw_tbl[151]? = some (.code yX4_init cX4_init 1 none) := rfl
set_option maxRecDepth 20000 in
theorem ab_rc55 : lw_tbl[650]? = some (.code yX4_hasTwoBlocks cX4_hasTwoBlocks 1 (some .boolean)) := rfl
set_option maxRecDepth 20000 in
theorem ab_rc56 : lw_tbl[658]? = some (.code yX4_isLoop cX4_isLoop 1 (some .boolean)) := rfl
set_option maxRecDepth 20000 in
theorem ab_rc57 : lw_tbl[268]? = some (.code yX4_reset cX4_reset 3 none) := rfl
set_option maxRecDepth 20000 in
theorem ab_rc58 : lw_tbl[389]? = some (.code yX5_init cX5_init 3 none) := rfl
set_option maxRecDepth 20000 in
theorem ab_rc59 : lw_tbl[912]? = some (.code yX5_add cX5_add 3 none) := rfl
set_option maxRecDepth 20000 in
theorem ab_rc60 : lw_tbl[916]? = some (.code yX5_addHavoc cX5_addHavoc 5 none) := rfl
set_option maxRecDepth 20000 in
theorem ab_rc61 : lw_tbl[898]? = some (.code yX5_find cX5_find 4 (some .int)) := rfl
set_option maxRecDepth 20000 in
theorem ab_rc62 : lw_tbl[930]? = some (.code yX5_ofBack cX5_ofBack 5 (some .int)) := rfl
set_option maxRecDepth 20000 in
theorem ab_rc63 : lw_tbl[921]? = some (.code yX5_ofCutLoop cX5_ofCutLoop 3 (some .int)) := rfl
set_option maxRecDepth 20000 in
theorem ab_rc64 : lw_tbl[926]? = some (.code yX5_ofHead cX5_ofHead 7 none) := rfl
set_option maxRecDepth 20000 in
theorem ab_rc65 : lw_tbl[903]? = some (.code yX5_ofStatement cX5_ofStatement 4 (some .int)) := rfl
set_option maxRecDepth 20000 in
theorem ab_rc66 : lw_tbl[124]? = some (.code yX6_init cX6_init 2 none) := rfl
set_option maxRecDepth 20000 in
theorem ab_rc67 : lw_tbl[610]? = some (.code yX6_add cX6_add 2 (some .boolean)) := rfl
set_option maxRecDepth 20000 in
theorem ab_rc68 : lw_tbl[741]? = some (.code yX6_addPlain cX6_addPlain 6 none) := rfl
set_option maxRecDepth 20000 in
theorem ab_rc69 : lw_tbl[755]? = some (.code yX6_become cX6_become 2 none) := rfl
set_option maxRecDepth 20000 in
theorem ab_rc70 : lw_tbl[638]? = some (.code yX6_sign cX6_sign 2 (some .int)) := rfl
set_option maxRecDepth 20000 in
theorem ab_rc71 : lw_tbl[369]? = some (.code yX7_init cX7_init 2 none) := rfl
set_option maxRecDepth 20000 in
theorem ab_rc72 : lw_tbl[852]? = some (.code yX7_combined cX7_combined 3 (some .int)) := rfl
set_option maxRecDepth 20000 in
theorem ab_rc73 : lw_tbl[773]? = some (.code yX7_drop cX7_drop 1 none) := rfl
set_option maxRecDepth 20000 in
theorem ab_rc74 : lw_tbl[840]? = some (.code yX7_evaluate cX7_evaluate 7 (some .int)) := rfl
set_option maxRecDepth 20000 in
theorem ab_rc75 : lw_tbl[856]? = some (.code yX7_isTrue cX7_isTrue 4 (some .boolean)) := rfl
set_option maxRecDepth 20000 in
theorem ab_rc76 : lw_tbl[907]? = some (.code yX7_of cX7_of 4 (some .int)) := rfl
set_option maxRecDepth 20000 in
theorem ab_rc77 : lw_tbl[849]? = some (.code yX7_oneIf cX7_oneIf 1 (some .int)) := rfl
set_option maxRecDepth 20000 in
theorem ab_rc78 : lw_tbl[834]? = some (.code yX7_prepare cX7_prepare 5 none) := rfl
set_option maxRecDepth 20000 in
theorem ab_rc79 : lw_tbl[116]? = some (.code yX8_init cX8_init 2 none) := rfl
set_option maxRecDepth 20000 in
theorem ab_rc80 : lw_tbl[1158]? = some (.code yX8_ask cX8_ask 5 (some .int)) := rfl
set_option maxRecDepth 20000 in
theorem ab_rc81 : lw_tbl[1172]? = some (.code yX8_back cX8_back 2 (some .int)) := rfl
set_option maxRecDepth 20000 in
theorem ab_rc82 : lw_tbl[747]? = some (.code yX8_changeToSpare cX8_changeToSpare 1 none) := rfl
set_option maxRecDepth 20000 in
theorem ab_rc83 : lw_tbl[614]? = some (.code yX8_clear cX8_clear 2 (some .int)) := rfl
set_option maxRecDepth 20000 in
theorem ab_rc84 : lw_tbl[1116]? = some (.code yX8_copied cX8_copied 1 (some .long)) := rfl
set_option maxRecDepth 20000 in
theorem ab_rc85 : lw_tbl[1176]? = some (.code yX8_count cX8_count 2 (some .int)) := rfl
set_option maxRecDepth 20000 in
theorem ab_rc86 : lw_tbl[751]? = some (.code yX8_dropOldest cX8_dropOldest 3 none) := rfl
set_option maxRecDepth 20000 in
theorem ab_rc87 : lw_tbl[995]? = some (.code yX8_ends cX8_ends 8 (some .int)) := rfl
set_option maxRecDepth 20000 in
theorem ab_rc88 : lw_tbl[1108]? = some (.code yX8_equalities cX8_equalities 1 (some .int)) := rfl
set_option maxRecDepth 20000 in
theorem ab_rc89 : lw_tbl[1138]? = some (.code yX8_forget cX8_forget 2 (some .int)) := rfl
set_option maxRecDepth 20000 in
theorem ab_rc90 : lw_tbl[988]? = some (.code yX8_from cX8_from 5 (some .int)) := rfl
set_option maxRecDepth 20000 in
theorem ab_rc91 : lw_tbl[781]? = some (.code yX8_invariant cX8_invariant 6 (some .int)) := rfl
set_option maxRecDepth 20000 in
theorem ab_rc92 : lw_tbl[697]? = some (.code yX8_isDigit cX8_isDigit 1 (some .boolean)) := rfl
set_option maxRecDepth 20000 in
theorem ab_rc93 : lw_tbl[863]? = some (.code yX8_isFlag cX8_isFlag 1 (some .boolean)) := rfl
set_option maxRecDepth 20000 in
theorem ab_rc94 : lw_tbl[1150]? = some (.code yX8_isStart cX8_isStart 3 (some .boolean)) := rfl
set_option maxRecDepth 20000 in
theorem ab_rc95 : lw_tbl[991]? = some (.code yX8_isState cX8_isState 1 (some .boolean)) := rfl
set_option maxRecDepth 20000 in
theorem ab_rc96 : lw_tbl[665]? = some (.code yX8_isVariable cX8_isVariable 1 (some .boolean)) := rfl
set_option maxRecDepth 20000 in
theorem ab_rc97 : lw_tbl[1168]? = some (.code yX8_keep cX8_keep 2 (some .int)) := rfl
set_option maxRecDepth 20000 in
theorem ab_rc98 : lw_tbl[1015]? = some (.code yX8_keeps cX8_keeps 3 (some .int)) := rfl
set_option maxRecDepth 20000 in
theorem ab_rc99 : lw_tbl[818]? = some (.code yX8_kind cX8_kind 2 (some .int)) := rfl
set_option maxRecDepth 20000 in
theorem ab_rc100 : lw_tbl[1162]? = some (.code yX8_largestGroup cX8_largestGroup 6 (some .int)) := rfl
set_option maxRecDepth 20000 in
theorem ab_rc101 : lw_tbl[1112]? = some (.code yX8_linear cX8_linear 1 (some .int)) := rfl
set_option maxRecDepth 20000 in
theorem ab_rc102 : lw_tbl[826]? = some (.code yX8_loop cX8_loop 4 (some .int)) := rfl
set_option maxRecDepth 20000 in
theorem ab_rc103 : lw_tbl[1154]? = some (.code yX8_lowestStart cX8_lowestStart 2 (some .int)) := rfl
set_option maxRecDepth 20000 in
theorem ab_rc104 : lw_tbl[618]? = some (.code yX8_program cX8_program 2 (some .int)) := rfl
set_option maxRecDepth 20000 in
theorem ab_rc105 : lw_tbl[765]? = some (.code yX8_readPresent cX8_readPresent 1 none) := rfl
set_option maxRecDepth 20000 in
theorem ab_rc106 : lw_tbl[1134]? = some (.code yX8_sees cX8_sees 3 (some .int)) := rfl
set_option maxRecDepth 20000 in
theorem ab_rc107 : lw_tbl[984]? = some (.code yX8_spurious cX8_spurious 4 (some .int)) := rfl
set_option maxRecDepth 20000 in
theorem ab_rc108 : lw_tbl[1142]? = some (.code yX8_starts cX8_starts 2 (some .int)) := rfl
set_option maxRecDepth 20000 in
theorem ab_rc109 : lw_tbl[1146]? = some (.code yX8_startsFound cX8_startsFound 3 (some .int)) := rfl
set_option maxRecDepth 20000 in
theorem ab_rc110 : lw_tbl[737]? = some (.code yX8_stateWith cX8_stateWith 4 (some .int)) := rfl
set_option maxRecDepth 20000 in
theorem ab_rc111 : lw_tbl[813]? = some (.code yX8_told cX8_told 3 (some .int)) := rfl
set_option maxRecDepth 20000 in
theorem ab_rc112 : lw_tbl[606]? = some (.code yX8_type cX8_type 2 (some .int)) := rfl
set_option maxRecDepth 20000 in
theorem ab_rc113 : lw_tbl[809]? = some (.code yX8_undo cX8_undo 1 (some .int)) := rfl
set_option maxRecDepth 20000 in
theorem ab_rc114 : lw_tbl[846]? = some (.code yX8_valueIn cX8_valueIn 2 (some .int)) := rfl
set_option maxRecDepth 20000 in
theorem ab_rc115 : lw_tbl[1062]? = some (.code yX8_versions cX8_versions 2 (some .int)) := rfl
set_option maxRecDepth 20000 in
theorem ab_rc116 : lw_tbl[860]? = some (.code yX8_wrong cX8_wrong 7 (some .int)) := rfl
set_option maxRecDepth 20000 in
theorem ab_rc117 : lw_tbl[1181]? = some (.code yX9_init cX9_init 1 none) := rfl
set_option maxRecDepth 20000 in
theorem ab_rc118 : lw_tbl[1690]? = some (.code yX9_alike cX9_alike 6 (some .int)) := rfl
set_option maxRecDepth 20000 in
theorem ab_rc119 : lw_tbl[1517]? = some (.code yX9_anyOf cX9_anyOf 4 (some .int)) := rfl
set_option maxRecDepth 20000 in
theorem ab_rc120 : lw_tbl[1685]? = some (.code yX9_ask cX9_ask 5 (some .int)) := rfl
set_option maxRecDepth 20000 in
theorem ab_rc121 : lw_tbl[1698]? = some (.code yX9_back cX9_back 3 (some .int)) := rfl
set_option maxRecDepth 20000 in
theorem ab_rc122 : lw_tbl[1524]? = some (.code yX9_both cX9_both 3 (some .int)) := rfl
set_option maxRecDepth 20000 in
theorem ab_rc123 : lw_tbl[1567]? = some (.code yX9_canBy cX9_canBy 4 (some .int)) := rfl
set_option maxRecDepth 20000 in
theorem ab_rc124 : lw_tbl[1574]? = some (.code yX9_canFrom cX9_canFrom 3 (some .int)) := rfl
set_option maxRecDepth 20000 in
theorem ab_rc125 : lw_tbl[1458]? = some (.code yX9_checksOf cX9_checksOf 1 (some .int)) := rfl
set_option maxRecDepth 20000 in
theorem ab_rc126 : lw_tbl[1417]? = some (.code yX9_clear cX9_clear 2 (some .int)) := rfl
set_option maxRecDepth 20000 in
theorem ab_rc127 : lw_tbl[1595]? = some (.code yX9_come cX9_come 3 none) := rfl
set_option maxRecDepth 20000 in
theorem ab_rc128 : lw_tbl[1659]? = some (.code yX9_copied cX9_copied 3 (some .long)) := rfl
set_option maxRecDepth 20000 in
theorem ab_rc129 : lw_tbl[1663]? = some (.code yX9_copyStatement cX9_copyStatement 4 none) := rfl
set_option maxRecDepth 20000 in
theorem ab_rc130 : lw_tbl[1702]? = some (.code yX9_count cX9_count 2 (some .int)) := rfl
set_option maxRecDepth 20000 in
theorem ab_rc131 : lw_tbl[1548]? = some (.code yX9_emit cX9_emit 6 none) := rfl
set_option maxRecDepth 20000 in
theorem ab_rc132 : lw_tbl[1563]? = some (.code yX9_emitClose cX9_emitClose 5 none) := rfl
set_option maxRecDepth 20000 in
theorem ab_rc133 : lw_tbl[1544]? = some (.code yX9_emitEvent cX9_emitEvent 3 none) := rfl
set_option maxRecDepth 20000 in
theorem ab_rc134 : lw_tbl[1556]? = some (.code yX9_emitLoop cX9_emitLoop 5 none) := rfl
set_option maxRecDepth 20000 in
theorem ab_rc135 : lw_tbl[1587]? = some (.code yX9_ends cX9_ends 7 (some .int)) := rfl
set_option maxRecDepth 20000 in
theorem ab_rc136 : lw_tbl[1651]? = some (.code yX9_equalities cX9_equalities 1 (some .int)) := rfl
set_option maxRecDepth 20000 in
theorem ab_rc137 : lw_tbl[1536]? = some (.code yX9_findMasks cX9_findMasks 6 none) := rfl
set_option maxRecDepth 20000 in
theorem ab_rc138 : lw_tbl[1673]? = some (.code yX9_forget cX9_forget 2 (some .int)) := rfl
set_option maxRecDepth 20000 in
theorem ab_rc139 : lw_tbl[1481]? = some (.code yX9_forgetAll cX9_forgetAll 1 none) := rfl
set_option maxRecDepth 20000 in
theorem ab_rc140 : lw_tbl[1583]? = some (.code yX9_from cX9_from 6 (some .int)) := rfl
set_option maxRecDepth 20000 in
theorem ab_rc141 : lw_tbl[1599]? = some (.code yX9_goOn cX9_goOn 5 none) := rfl
set_option maxRecDepth 20000 in
theorem ab_rc142 : lw_tbl[1591]? = some (.code yX9_goThrough cX9_goThrough 4 none) := rfl
set_option maxRecDepth 20000 in
theorem ab_rc143 : lw_tbl[1559]? = some (.code yX9_has cX9_has 2 (some .boolean)) := rfl
set_option maxRecDepth 20000 in
theorem ab_rc144 : lw_tbl[1433]? = some (.code yX9_here cX9_here 1 (some .int)) := rfl
set_option maxRecDepth 20000 in
theorem ab_rc145 : lw_tbl[1413]? = some (.code yX9_in cX9_in 3 (some .boolean)) := rfl
set_option maxRecDepth 20000 in
theorem ab_rc146 : lw_tbl[1489]? = some (.code yX9_invariant cX9_invariant 10 (some .int)) := rfl
set_option maxRecDepth 20000 in
theorem ab_rc147 : lw_tbl[1532]? = some (.code yX9_isCheck cX9_isCheck 2 (some .boolean)) := rfl
set_option maxRecDepth 20000 in
theorem ab_rc148 : lw_tbl[1455]? = some (.code yX9_isName cX9_isName 1 (some .boolean)) := rfl
set_option maxRecDepth 20000 in
theorem ab_rc149 : lw_tbl[1681]? = some (.code yX9_isStart cX9_isStart 4 (some .boolean)) := rfl
set_option maxRecDepth 20000 in
theorem ab_rc150 : lw_tbl[1477]? = some (.code yX9_isTwo cX9_isTwo 1 (some .boolean)) := rfl
set_option maxRecDepth 20000 in
theorem ab_rc151 : lw_tbl[1643]? = some (.code yX9_joinBoth cX9_joinBoth 3 none) := rfl
set_option maxRecDepth 20000 in
theorem ab_rc152 : lw_tbl[1627]? = some (.code yX9_joinVariable cX9_joinVariable 9 none) := rfl
set_option maxRecDepth 20000 in
theorem ab_rc153 : lw_tbl[1694]? = some (.code yX9_keep cX9_keep 3 (some .int)) := rfl
set_option maxRecDepth 20000 in
theorem ab_rc154 : lw_tbl[1639]? = some (.code yX9_keepVersions cX9_keepVersions 4 none) := rfl
set_option maxRecDepth 20000 in
theorem ab_rc155 : lw_tbl[1603]? = some (.code yX9_keeps cX9_keeps 7 (some .int)) := rfl
set_option maxRecDepth 20000 in
theorem ab_rc156 : lw_tbl[1509]? = some (.code yX9_kind cX9_kind 2 (some .int)) := rfl
set_option maxRecDepth 20000 in
theorem ab_rc157 : lw_tbl[1540]? = some (.code yX9_lay cX9_lay 3 none) := rfl
set_option maxRecDepth 20000 in
theorem ab_rc158 : lw_tbl[1623]? = some (.code yX9_layVersions cX9_layVersions 4 none) := rfl
set_option maxRecDepth 20000 in
theorem ab_rc159 : lw_tbl[1607]? = some (.code yX9_leaveOut cX9_leaveOut 4 (some .boolean)) := rfl
set_option maxRecDepth 20000 in
theorem ab_rc160 : lw_tbl[1655]? = some (.code yX9_linear cX9_linear 1 (some .int)) := rfl
set_option maxRecDepth 20000 in
theorem ab_rc161 : lw_tbl[1513]? = some (.code yX9_loop cX9_loop 6 (some .int)) := rfl
set_option maxRecDepth 20000 in
theorem ab_rc162 : lw_tbl[1462]? = some (.code yX9_loopsAround cX9_loopsAround 3 (some .int)) := rfl
set_option maxRecDepth 20000 in
theorem ab_rc163 : lw_tbl[1445]? = some (.code yX9_must cX9_must 2 none) := rfl
set_option maxRecDepth 20000 in
theorem ab_rc164 : lw_tbl[1485]? = some (.code yX9_note cX9_note 2 none) := rfl
set_option maxRecDepth 20000 in
theorem ab_rc165 : lw_tbl[1615]? = some (.code yX9_pass cX9_pass 2 none) := rfl
set_option maxRecDepth 20000 in
theorem ab_rc166 : lw_tbl[1635]? = some (.code yX9_passClose cX9_passClose 3 none) := rfl
set_option maxRecDepth 20000 in
theorem ab_rc167 : lw_tbl[1619]? = some (.code yX9_passOpen cX9_passOpen 5 none) := rfl
set_option maxRecDepth 20000 in
theorem ab_rc168 : lw_tbl[1647]? = some (.code yX9_passStatement cX9_passStatement 4 none) := rfl
set_option maxRecDepth 20000 in
theorem ab_rc169 : lw_tbl[1421]? = some (.code yX9_program cX9_program 4 (some .int)) := rfl
set_option maxRecDepth 20000 in
theorem ab_rc170 : lw_tbl[1493]? = some (.code yX9_read cX9_read 1 none) := rfl
set_option maxRecDepth 20000 in
theorem ab_rc171 : lw_tbl[1437]? = some (.code yX9_readClose cX9_readClose 2 none) := rfl
set_option maxRecDepth 20000 in
theorem ab_rc172 : lw_tbl[1470]? = some (.code yX9_readName cX9_readName 2 (some .int)) := rfl
set_option maxRecDepth 20000 in
theorem ab_rc173 : lw_tbl[1441]? = some (.code yX9_readOpen cX9_readOpen 3 none) := rfl
set_option maxRecDepth 20000 in
theorem ab_rc174 : lw_tbl[1429]? = some (.code yX9_readProgram cX9_readProgram 1 (some .int)) := rfl
set_option maxRecDepth 20000 in
theorem ab_rc175 : lw_tbl[1466]? = some (.code yX9_readRest cX9_readRest 3 none) := rfl
set_option maxRecDepth 20000 in
theorem ab_rc176 : lw_tbl[1449]? = some (.code yX9_readStatement cX9_readStatement 4 none) := rfl
set_option maxRecDepth 20000 in
theorem ab_rc177 : lw_tbl[1474]? = some (.code yX9_readTerm cX9_readTerm 4 (some .int)) := rfl
set_option maxRecDepth 20000 in
theorem ab_rc178 : lw_tbl[1631]? = some (.code yX9_renew cX9_renew 2 none) := rfl
set_option maxRecDepth 20000 in
theorem ab_rc179 : lw_tbl[1669]? = some (.code yX9_sees cX9_sees 3 (some .int)) := rfl
set_option maxRecDepth 20000 in
theorem ab_rc180 : lw_tbl[1452]? = some (.code yX9_sortOf cX9_sortOf 1 (some .int)) := rfl
set_option maxRecDepth 20000 in
theorem ab_rc181 : lw_tbl[1579]? = some (.code yX9_spurious cX9_spurious 4 (some .int)) := rfl
set_option maxRecDepth 20000 in
theorem ab_rc182 : lw_tbl[1677]? = some (.code yX9_starts cX9_starts 5 (some .int)) := rfl
set_option maxRecDepth 20000 in
theorem ab_rc183 : lw_tbl[1497]? = some (.code yX9_takeNow cX9_takeNow 2 none) := rfl
set_option maxRecDepth 20000 in
theorem ab_rc184 : lw_tbl[1425]? = some (.code yX9_takeText cX9_takeText 2 none) := rfl
set_option maxRecDepth 20000 in
theorem ab_rc185 : lw_tbl[1505]? = some (.code yX9_told cX9_told 2 (some .int)) := rfl
set_option maxRecDepth 20000 in
theorem ab_rc186 : lw_tbl[1552]? = some (.code yX9_tryAround cX9_tryAround 2 (some .int)) := rfl
set_option maxRecDepth 20000 in
theorem ab_rc187 : lw_tbl[1410]? = some (.code yX9_type cX9_type 2 (some .int)) := rfl
set_option maxRecDepth 20000 in
theorem ab_rc188 : lw_tbl[1501]? = some (.code yX9_undo cX9_undo 2 (some .int)) := rfl
set_option maxRecDepth 20000 in
theorem ab_rc189 : lw_tbl[1521]? = some (.code yX9_valueOf cX9_valueOf 7 (some .int)) := rfl
set_option maxRecDepth 20000 in
theorem ab_rc190 : lw_tbl[1611]? = some (.code yX9_versions cX9_versions 2 (some .int)) := rfl
set_option maxRecDepth 20000 in
theorem ab_rc191 : lw_tbl[1570]? = some (.code yX9_with cX9_with 4 (some .int)) := rfl
set_option maxRecDepth 20000 in
theorem ab_rc192 : lw_tbl[1528]? = some (.code yX9_wrong cX9_wrong 7 (some .int)) := rfl
set_option maxRecDepth 20000 in
theorem ab_rc193 : lw_tbl[452]? = some (.code yX10_init cX10_init 5 none) := rfl
set_option maxRecDepth 20000 in
theorem ab_rc194 : lw_tbl[958]? = some (.code yX10_clearNotes cX10_clearNotes 1 none) := rfl
set_option maxRecDepth 20000 in
theorem ab_rc195 : lw_tbl[1023]? = some (.code yX10_findEnds cX10_findEnds 8 none) := rfl
set_option maxRecDepth 20000 in
theorem ab_rc196 : lw_tbl[954]? = some (.code yX10_findOutcomes cX10_findOutcomes 3 none) := rfl
set_option maxRecDepth 20000 in
theorem ab_rc197 : lw_tbl[968]? = some (.code yX10_noteSecondCheck cX10_noteSecondCheck 4 none) := rfl
set_option maxRecDepth 20000 in
theorem ab_rc198 : lw_tbl[973]? = some (.code yX10_sweep cX10_sweep 13 none) := rfl
set_option maxRecDepth 20000 in
theorem ab_rc199 : lw_tbl[471]? = some (.code yX11_init cX11_init 2 none) := rfl
set_option maxRecDepth 20000 in
theorem ab_rc200 : lw_tbl[1035]? = some (.code yX11_begin cX11_begin 3 none) := rfl
set_option maxRecDepth 20000 in
theorem ab_rc201 : lw_tbl[1047]? = some (.code yX11_canLeave cX11_canLeave 3 (some .boolean)) := rfl
set_option maxRecDepth 20000 in
theorem ab_rc202 : lw_tbl[1043]? = some (.code yX11_isRoundRemoving cX11_isRoundRemoving 3 (some .boolean)) := rfl
set_option maxRecDepth 20000 in
theorem ab_rc203 : lw_tbl[1031]? = some (.code yX11_shrink cX11_shrink 3 (some .int)) := rfl
set_option maxRecDepth 20000 in
theorem ab_rc204 : lw_tbl[1052]? = some (.code yX11_statesKept cX11_statesKept 3 (some .int)) := rfl
set_option maxRecDepth 20000 in
theorem ab_rc205 : lw_tbl[413]? = some (.code yX12_init cX12_init 4 none) := rfl
set_option maxRecDepth 20000 in
theorem ab_rc206 : lw_tbl[949]? = some (.code yX12_close cX12_close 4 none) := rfl
set_option maxRecDepth 20000 in
theorem ab_rc207 : lw_tbl[777]? = some (.code yX12_drop cX12_drop 1 none) := rfl
set_option maxRecDepth 20000 in
theorem ab_rc208 : lw_tbl[871]? = some (.code yX12_findOutcomes cX12_findOutcomes 4 none) := rfl
set_option maxRecDepth 20000 in
theorem ab_rc209 : lw_tbl[939]? = some (.code yX12_finish cX12_finish 7 none) := rfl
set_option maxRecDepth 20000 in
theorem ab_rc210 : lw_tbl[935]? = some (.code yX12_firstNotMet cX12_firstNotMet 2 (some .int)) := rfl
set_option maxRecDepth 20000 in
theorem ab_rc211 : lw_tbl[889]? = some (.code yX12_goFrom cX12_goFrom 6 none) := rfl
set_option maxRecDepth 20000 in
theorem ab_rc212 : lw_tbl[1011]? = some (.code yX12_isMarked cX12_isMarked 3 (some .boolean)) := rfl
set_option maxRecDepth 20000 in
theorem ab_rc213 : lw_tbl[1003]? = some (.code yX12_mark cX12_mark 9 none) := rfl
set_option maxRecDepth 20000 in
theorem ab_rc214 : lw_tbl[893]? = some (.code yX12_open cX12_open 3 none) := rfl
set_option maxRecDepth 20000 in
theorem ab_rc215 : lw_tbl[942]? = some (.code yX12_ownOutcome cX12_ownOutcome 2 (some .long)) := rfl
set_option maxRecDepth 20000 in
theorem ab_rc216 : lw_tbl[875]? = some (.code yX12_startAgain cX12_startAgain 1 none) := rfl
set_option maxRecDepth 20000 in
theorem ab_rc217 : lw_tbl[1097]? = some (.code yJ6_bitCount_0f7a4 cJ6_bitCount_0f7a4 1 (some .int)) := rfl
set_option maxRecDepth 20000 in
theorem ab_rc218 : lw_tbl[878]? = some (.code yJ7_fill_fda19 cJ7_fill_fda19 5 none) := rfl
set_option maxRecDepth 20000 in
theorem ab_rc219 : lw_tbl[961]? = some (.code yJ7_fill_bad5a cJ7_fill_bad5a 6 none) := rfl
set_option maxRecDepth 20000 in
theorem ab_rc220 : lw_tbl[1038]? = some (.code yJ7_fill_d0a16 cJ7_fill_d0a16 5 none) := rfl
set_option maxRecDepth 20000 in
theorem ab_rc221 : lw_tbl[881]? = some (.code yJ7_rangeCheck_23922 cJ7_rangeCheck_23922 3 none) := rfl
set_option maxRecDepth 20000 in
theorem ab_rc222 : lw_tbl[1055]? = some (.code yJ13_bitCount_95d88 cJ13_bitCount_95d88 2 (some .int)) := rfl
theorem ab_rcs0 : ∀ q ∈ ab_reg0, Cond.code q.1 q.2.1 q.2.2.1 q.2.2.2.1 ∈ lw_tbl := List.forall_mem_cons.mpr ⟨List.mem_of_getElem? ab_rc0, List.forall_mem_cons.mpr ⟨List.mem_of_getElem? ab_rc1, List.forall_mem_cons.mpr ⟨List.mem_of_getElem? ab_rc2, List.forall_mem_cons.mpr ⟨List.mem_of_getElem? ab_rc3, List.forall_mem_cons.mpr ⟨List.mem_of_getElem? ab_rc4, List.forall_mem_cons.mpr ⟨List.mem_of_getElem? ab_rc5, List.forall_mem_cons.mpr ⟨List.mem_of_getElem? ab_rc6, List.forall_mem_cons.mpr ⟨List.mem_of_getElem? ab_rc7, List.forall_mem_cons.mpr ⟨List.mem_of_getElem? ab_rc8, List.forall_mem_cons.mpr ⟨List.mem_of_getElem? ab_rc9, List.forall_mem_cons.mpr ⟨List.mem_of_getElem? ab_rc10, List.forall_mem_cons.mpr ⟨List.mem_of_getElem? ab_rc11, List.forall_mem_cons.mpr ⟨List.mem_of_getElem? ab_rc12, List.forall_mem_cons.mpr ⟨List.mem_of_getElem? ab_rc13, List.forall_mem_cons.mpr ⟨List.mem_of_getElem? ab_rc14, List.forall_mem_cons.mpr ⟨List.mem_of_getElem? ab_rc15, fun _ h => absurd h List.not_mem_nil⟩⟩⟩⟩⟩⟩⟩⟩⟩⟩⟩⟩⟩⟩⟩⟩
theorem ab_rcs1 : ∀ q ∈ ab_reg1, Cond.code q.1 q.2.1 q.2.2.1 q.2.2.2.1 ∈ lw_tbl := List.forall_mem_cons.mpr ⟨List.mem_of_getElem? ab_rc16, List.forall_mem_cons.mpr ⟨List.mem_of_getElem? ab_rc17, List.forall_mem_cons.mpr ⟨List.mem_of_getElem? ab_rc18, List.forall_mem_cons.mpr ⟨List.mem_of_getElem? ab_rc19, List.forall_mem_cons.mpr ⟨List.mem_of_getElem? ab_rc20, List.forall_mem_cons.mpr ⟨List.mem_of_getElem? ab_rc21, List.forall_mem_cons.mpr ⟨List.mem_of_getElem? ab_rc22, List.forall_mem_cons.mpr ⟨List.mem_of_getElem? ab_rc23, List.forall_mem_cons.mpr ⟨List.mem_of_getElem? ab_rc24, List.forall_mem_cons.mpr ⟨List.mem_of_getElem? ab_rc25, List.forall_mem_cons.mpr ⟨List.mem_of_getElem? ab_rc26, List.forall_mem_cons.mpr ⟨List.mem_of_getElem? ab_rc27, List.forall_mem_cons.mpr ⟨List.mem_of_getElem? ab_rc28, List.forall_mem_cons.mpr ⟨List.mem_of_getElem? ab_rc29, List.forall_mem_cons.mpr ⟨List.mem_of_getElem? ab_rc30, List.forall_mem_cons.mpr ⟨List.mem_of_getElem? ab_rc31, fun _ h => absurd h List.not_mem_nil⟩⟩⟩⟩⟩⟩⟩⟩⟩⟩⟩⟩⟩⟩⟩⟩
theorem ab_rcs2 : ∀ q ∈ ab_reg2, Cond.code q.1 q.2.1 q.2.2.1 q.2.2.2.1 ∈ lw_tbl := List.forall_mem_cons.mpr ⟨List.mem_of_getElem? ab_rc32, List.forall_mem_cons.mpr ⟨List.mem_of_getElem? ab_rc33, List.forall_mem_cons.mpr ⟨List.mem_of_getElem? ab_rc34, List.forall_mem_cons.mpr ⟨List.mem_of_getElem? ab_rc35, List.forall_mem_cons.mpr ⟨List.mem_of_getElem? ab_rc36, List.forall_mem_cons.mpr ⟨List.mem_of_getElem? ab_rc37, List.forall_mem_cons.mpr ⟨List.mem_of_getElem? ab_rc38, List.forall_mem_cons.mpr ⟨List.mem_of_getElem? ab_rc39, List.forall_mem_cons.mpr ⟨List.mem_of_getElem? ab_rc40, List.forall_mem_cons.mpr ⟨List.mem_of_getElem? ab_rc41, List.forall_mem_cons.mpr ⟨List.mem_of_getElem? ab_rc42, List.forall_mem_cons.mpr ⟨List.mem_of_getElem? ab_rc43, List.forall_mem_cons.mpr ⟨List.mem_of_getElem? ab_rc44, List.forall_mem_cons.mpr ⟨List.mem_of_getElem? ab_rc45, List.forall_mem_cons.mpr ⟨List.mem_of_getElem? ab_rc46, List.forall_mem_cons.mpr ⟨List.mem_of_getElem? ab_rc47, fun _ h => absurd h List.not_mem_nil⟩⟩⟩⟩⟩⟩⟩⟩⟩⟩⟩⟩⟩⟩⟩⟩
theorem ab_rcs3 : ∀ q ∈ ab_reg3, Cond.code q.1 q.2.1 q.2.2.1 q.2.2.2.1 ∈ lw_tbl := List.forall_mem_cons.mpr ⟨List.mem_of_getElem? ab_rc48, List.forall_mem_cons.mpr ⟨List.mem_of_getElem? ab_rc49, List.forall_mem_cons.mpr ⟨List.mem_of_getElem? ab_rc50, List.forall_mem_cons.mpr ⟨List.mem_of_getElem? ab_rc51, List.forall_mem_cons.mpr ⟨List.mem_of_getElem? ab_rc52, List.forall_mem_cons.mpr ⟨List.mem_of_getElem? ab_rc53, List.forall_mem_cons.mpr ⟨List.mem_of_getElem? ab_rc54, List.forall_mem_cons.mpr ⟨List.mem_of_getElem? ab_rc55, List.forall_mem_cons.mpr ⟨List.mem_of_getElem? ab_rc56, List.forall_mem_cons.mpr ⟨List.mem_of_getElem? ab_rc57, List.forall_mem_cons.mpr ⟨List.mem_of_getElem? ab_rc58, List.forall_mem_cons.mpr ⟨List.mem_of_getElem? ab_rc59, List.forall_mem_cons.mpr ⟨List.mem_of_getElem? ab_rc60, List.forall_mem_cons.mpr ⟨List.mem_of_getElem? ab_rc61, List.forall_mem_cons.mpr ⟨List.mem_of_getElem? ab_rc62, List.forall_mem_cons.mpr ⟨List.mem_of_getElem? ab_rc63, fun _ h => absurd h List.not_mem_nil⟩⟩⟩⟩⟩⟩⟩⟩⟩⟩⟩⟩⟩⟩⟩⟩
theorem ab_rcs4 : ∀ q ∈ ab_reg4, Cond.code q.1 q.2.1 q.2.2.1 q.2.2.2.1 ∈ lw_tbl := List.forall_mem_cons.mpr ⟨List.mem_of_getElem? ab_rc64, List.forall_mem_cons.mpr ⟨List.mem_of_getElem? ab_rc65, List.forall_mem_cons.mpr ⟨List.mem_of_getElem? ab_rc66, List.forall_mem_cons.mpr ⟨List.mem_of_getElem? ab_rc67, List.forall_mem_cons.mpr ⟨List.mem_of_getElem? ab_rc68, List.forall_mem_cons.mpr ⟨List.mem_of_getElem? ab_rc69, List.forall_mem_cons.mpr ⟨List.mem_of_getElem? ab_rc70, List.forall_mem_cons.mpr ⟨List.mem_of_getElem? ab_rc71, List.forall_mem_cons.mpr ⟨List.mem_of_getElem? ab_rc72, List.forall_mem_cons.mpr ⟨List.mem_of_getElem? ab_rc73, List.forall_mem_cons.mpr ⟨List.mem_of_getElem? ab_rc74, List.forall_mem_cons.mpr ⟨List.mem_of_getElem? ab_rc75, List.forall_mem_cons.mpr ⟨List.mem_of_getElem? ab_rc76, List.forall_mem_cons.mpr ⟨List.mem_of_getElem? ab_rc77, List.forall_mem_cons.mpr ⟨List.mem_of_getElem? ab_rc78, List.forall_mem_cons.mpr ⟨List.mem_of_getElem? ab_rc79, fun _ h => absurd h List.not_mem_nil⟩⟩⟩⟩⟩⟩⟩⟩⟩⟩⟩⟩⟩⟩⟩⟩
theorem ab_rcs5 : ∀ q ∈ ab_reg5, Cond.code q.1 q.2.1 q.2.2.1 q.2.2.2.1 ∈ lw_tbl := List.forall_mem_cons.mpr ⟨List.mem_of_getElem? ab_rc80, List.forall_mem_cons.mpr ⟨List.mem_of_getElem? ab_rc81, List.forall_mem_cons.mpr ⟨List.mem_of_getElem? ab_rc82, List.forall_mem_cons.mpr ⟨List.mem_of_getElem? ab_rc83, List.forall_mem_cons.mpr ⟨List.mem_of_getElem? ab_rc84, List.forall_mem_cons.mpr ⟨List.mem_of_getElem? ab_rc85, List.forall_mem_cons.mpr ⟨List.mem_of_getElem? ab_rc86, List.forall_mem_cons.mpr ⟨List.mem_of_getElem? ab_rc87, List.forall_mem_cons.mpr ⟨List.mem_of_getElem? ab_rc88, List.forall_mem_cons.mpr ⟨List.mem_of_getElem? ab_rc89, List.forall_mem_cons.mpr ⟨List.mem_of_getElem? ab_rc90, List.forall_mem_cons.mpr ⟨List.mem_of_getElem? ab_rc91, List.forall_mem_cons.mpr ⟨List.mem_of_getElem? ab_rc92, List.forall_mem_cons.mpr ⟨List.mem_of_getElem? ab_rc93, List.forall_mem_cons.mpr ⟨List.mem_of_getElem? ab_rc94, List.forall_mem_cons.mpr ⟨List.mem_of_getElem? ab_rc95, fun _ h => absurd h List.not_mem_nil⟩⟩⟩⟩⟩⟩⟩⟩⟩⟩⟩⟩⟩⟩⟩⟩
theorem ab_rcs6 : ∀ q ∈ ab_reg6, Cond.code q.1 q.2.1 q.2.2.1 q.2.2.2.1 ∈ lw_tbl := List.forall_mem_cons.mpr ⟨List.mem_of_getElem? ab_rc96, List.forall_mem_cons.mpr ⟨List.mem_of_getElem? ab_rc97, List.forall_mem_cons.mpr ⟨List.mem_of_getElem? ab_rc98, List.forall_mem_cons.mpr ⟨List.mem_of_getElem? ab_rc99, List.forall_mem_cons.mpr ⟨List.mem_of_getElem? ab_rc100, List.forall_mem_cons.mpr ⟨List.mem_of_getElem? ab_rc101, List.forall_mem_cons.mpr ⟨List.mem_of_getElem? ab_rc102, List.forall_mem_cons.mpr ⟨List.mem_of_getElem? ab_rc103, List.forall_mem_cons.mpr ⟨List.mem_of_getElem? ab_rc104, List.forall_mem_cons.mpr ⟨List.mem_of_getElem? ab_rc105, List.forall_mem_cons.mpr ⟨List.mem_of_getElem? ab_rc106, List.forall_mem_cons.mpr ⟨List.mem_of_getElem? ab_rc107, List.forall_mem_cons.mpr ⟨List.mem_of_getElem? ab_rc108, List.forall_mem_cons.mpr ⟨List.mem_of_getElem? ab_rc109, List.forall_mem_cons.mpr ⟨List.mem_of_getElem? ab_rc110, List.forall_mem_cons.mpr ⟨List.mem_of_getElem? ab_rc111, fun _ h => absurd h List.not_mem_nil⟩⟩⟩⟩⟩⟩⟩⟩⟩⟩⟩⟩⟩⟩⟩⟩
theorem ab_rcs7 : ∀ q ∈ ab_reg7, Cond.code q.1 q.2.1 q.2.2.1 q.2.2.2.1 ∈ lw_tbl := List.forall_mem_cons.mpr ⟨List.mem_of_getElem? ab_rc112, List.forall_mem_cons.mpr ⟨List.mem_of_getElem? ab_rc113, List.forall_mem_cons.mpr ⟨List.mem_of_getElem? ab_rc114, List.forall_mem_cons.mpr ⟨List.mem_of_getElem? ab_rc115, List.forall_mem_cons.mpr ⟨List.mem_of_getElem? ab_rc116, List.forall_mem_cons.mpr ⟨List.mem_of_getElem? ab_rc117, List.forall_mem_cons.mpr ⟨List.mem_of_getElem? ab_rc118, List.forall_mem_cons.mpr ⟨List.mem_of_getElem? ab_rc119, List.forall_mem_cons.mpr ⟨List.mem_of_getElem? ab_rc120, List.forall_mem_cons.mpr ⟨List.mem_of_getElem? ab_rc121, List.forall_mem_cons.mpr ⟨List.mem_of_getElem? ab_rc122, List.forall_mem_cons.mpr ⟨List.mem_of_getElem? ab_rc123, List.forall_mem_cons.mpr ⟨List.mem_of_getElem? ab_rc124, List.forall_mem_cons.mpr ⟨List.mem_of_getElem? ab_rc125, List.forall_mem_cons.mpr ⟨List.mem_of_getElem? ab_rc126, List.forall_mem_cons.mpr ⟨List.mem_of_getElem? ab_rc127, fun _ h => absurd h List.not_mem_nil⟩⟩⟩⟩⟩⟩⟩⟩⟩⟩⟩⟩⟩⟩⟩⟩
theorem ab_rcs8 : ∀ q ∈ ab_reg8, Cond.code q.1 q.2.1 q.2.2.1 q.2.2.2.1 ∈ lw_tbl := List.forall_mem_cons.mpr ⟨List.mem_of_getElem? ab_rc128, List.forall_mem_cons.mpr ⟨List.mem_of_getElem? ab_rc129, List.forall_mem_cons.mpr ⟨List.mem_of_getElem? ab_rc130, List.forall_mem_cons.mpr ⟨List.mem_of_getElem? ab_rc131, List.forall_mem_cons.mpr ⟨List.mem_of_getElem? ab_rc132, List.forall_mem_cons.mpr ⟨List.mem_of_getElem? ab_rc133, List.forall_mem_cons.mpr ⟨List.mem_of_getElem? ab_rc134, List.forall_mem_cons.mpr ⟨List.mem_of_getElem? ab_rc135, List.forall_mem_cons.mpr ⟨List.mem_of_getElem? ab_rc136, List.forall_mem_cons.mpr ⟨List.mem_of_getElem? ab_rc137, List.forall_mem_cons.mpr ⟨List.mem_of_getElem? ab_rc138, List.forall_mem_cons.mpr ⟨List.mem_of_getElem? ab_rc139, List.forall_mem_cons.mpr ⟨List.mem_of_getElem? ab_rc140, List.forall_mem_cons.mpr ⟨List.mem_of_getElem? ab_rc141, List.forall_mem_cons.mpr ⟨List.mem_of_getElem? ab_rc142, List.forall_mem_cons.mpr ⟨List.mem_of_getElem? ab_rc143, fun _ h => absurd h List.not_mem_nil⟩⟩⟩⟩⟩⟩⟩⟩⟩⟩⟩⟩⟩⟩⟩⟩
theorem ab_rcs9 : ∀ q ∈ ab_reg9, Cond.code q.1 q.2.1 q.2.2.1 q.2.2.2.1 ∈ lw_tbl := List.forall_mem_cons.mpr ⟨List.mem_of_getElem? ab_rc144, List.forall_mem_cons.mpr ⟨List.mem_of_getElem? ab_rc145, List.forall_mem_cons.mpr ⟨List.mem_of_getElem? ab_rc146, List.forall_mem_cons.mpr ⟨List.mem_of_getElem? ab_rc147, List.forall_mem_cons.mpr ⟨List.mem_of_getElem? ab_rc148, List.forall_mem_cons.mpr ⟨List.mem_of_getElem? ab_rc149, List.forall_mem_cons.mpr ⟨List.mem_of_getElem? ab_rc150, List.forall_mem_cons.mpr ⟨List.mem_of_getElem? ab_rc151, List.forall_mem_cons.mpr ⟨List.mem_of_getElem? ab_rc152, List.forall_mem_cons.mpr ⟨List.mem_of_getElem? ab_rc153, List.forall_mem_cons.mpr ⟨List.mem_of_getElem? ab_rc154, List.forall_mem_cons.mpr ⟨List.mem_of_getElem? ab_rc155, List.forall_mem_cons.mpr ⟨List.mem_of_getElem? ab_rc156, List.forall_mem_cons.mpr ⟨List.mem_of_getElem? ab_rc157, List.forall_mem_cons.mpr ⟨List.mem_of_getElem? ab_rc158, List.forall_mem_cons.mpr ⟨List.mem_of_getElem? ab_rc159, fun _ h => absurd h List.not_mem_nil⟩⟩⟩⟩⟩⟩⟩⟩⟩⟩⟩⟩⟩⟩⟩⟩
theorem ab_rcs10 : ∀ q ∈ ab_reg10, Cond.code q.1 q.2.1 q.2.2.1 q.2.2.2.1 ∈ lw_tbl := List.forall_mem_cons.mpr ⟨List.mem_of_getElem? ab_rc160, List.forall_mem_cons.mpr ⟨List.mem_of_getElem? ab_rc161, List.forall_mem_cons.mpr ⟨List.mem_of_getElem? ab_rc162, List.forall_mem_cons.mpr ⟨List.mem_of_getElem? ab_rc163, List.forall_mem_cons.mpr ⟨List.mem_of_getElem? ab_rc164, List.forall_mem_cons.mpr ⟨List.mem_of_getElem? ab_rc165, List.forall_mem_cons.mpr ⟨List.mem_of_getElem? ab_rc166, List.forall_mem_cons.mpr ⟨List.mem_of_getElem? ab_rc167, List.forall_mem_cons.mpr ⟨List.mem_of_getElem? ab_rc168, List.forall_mem_cons.mpr ⟨List.mem_of_getElem? ab_rc169, List.forall_mem_cons.mpr ⟨List.mem_of_getElem? ab_rc170, List.forall_mem_cons.mpr ⟨List.mem_of_getElem? ab_rc171, List.forall_mem_cons.mpr ⟨List.mem_of_getElem? ab_rc172, List.forall_mem_cons.mpr ⟨List.mem_of_getElem? ab_rc173, List.forall_mem_cons.mpr ⟨List.mem_of_getElem? ab_rc174, List.forall_mem_cons.mpr ⟨List.mem_of_getElem? ab_rc175, fun _ h => absurd h List.not_mem_nil⟩⟩⟩⟩⟩⟩⟩⟩⟩⟩⟩⟩⟩⟩⟩⟩
theorem ab_rcs11 : ∀ q ∈ ab_reg11, Cond.code q.1 q.2.1 q.2.2.1 q.2.2.2.1 ∈ lw_tbl := List.forall_mem_cons.mpr ⟨List.mem_of_getElem? ab_rc176, List.forall_mem_cons.mpr ⟨List.mem_of_getElem? ab_rc177, List.forall_mem_cons.mpr ⟨List.mem_of_getElem? ab_rc178, List.forall_mem_cons.mpr ⟨List.mem_of_getElem? ab_rc179, List.forall_mem_cons.mpr ⟨List.mem_of_getElem? ab_rc180, List.forall_mem_cons.mpr ⟨List.mem_of_getElem? ab_rc181, List.forall_mem_cons.mpr ⟨List.mem_of_getElem? ab_rc182, List.forall_mem_cons.mpr ⟨List.mem_of_getElem? ab_rc183, List.forall_mem_cons.mpr ⟨List.mem_of_getElem? ab_rc184, List.forall_mem_cons.mpr ⟨List.mem_of_getElem? ab_rc185, List.forall_mem_cons.mpr ⟨List.mem_of_getElem? ab_rc186, List.forall_mem_cons.mpr ⟨List.mem_of_getElem? ab_rc187, List.forall_mem_cons.mpr ⟨List.mem_of_getElem? ab_rc188, List.forall_mem_cons.mpr ⟨List.mem_of_getElem? ab_rc189, List.forall_mem_cons.mpr ⟨List.mem_of_getElem? ab_rc190, List.forall_mem_cons.mpr ⟨List.mem_of_getElem? ab_rc191, fun _ h => absurd h List.not_mem_nil⟩⟩⟩⟩⟩⟩⟩⟩⟩⟩⟩⟩⟩⟩⟩⟩
theorem ab_rcs12 : ∀ q ∈ ab_reg12, Cond.code q.1 q.2.1 q.2.2.1 q.2.2.2.1 ∈ lw_tbl := List.forall_mem_cons.mpr ⟨List.mem_of_getElem? ab_rc192, List.forall_mem_cons.mpr ⟨List.mem_of_getElem? ab_rc193, List.forall_mem_cons.mpr ⟨List.mem_of_getElem? ab_rc194, List.forall_mem_cons.mpr ⟨List.mem_of_getElem? ab_rc195, List.forall_mem_cons.mpr ⟨List.mem_of_getElem? ab_rc196, List.forall_mem_cons.mpr ⟨List.mem_of_getElem? ab_rc197, List.forall_mem_cons.mpr ⟨List.mem_of_getElem? ab_rc198, List.forall_mem_cons.mpr ⟨List.mem_of_getElem? ab_rc199, List.forall_mem_cons.mpr ⟨List.mem_of_getElem? ab_rc200, List.forall_mem_cons.mpr ⟨List.mem_of_getElem? ab_rc201, List.forall_mem_cons.mpr ⟨List.mem_of_getElem? ab_rc202, List.forall_mem_cons.mpr ⟨List.mem_of_getElem? ab_rc203, List.forall_mem_cons.mpr ⟨List.mem_of_getElem? ab_rc204, List.forall_mem_cons.mpr ⟨List.mem_of_getElem? ab_rc205, List.forall_mem_cons.mpr ⟨List.mem_of_getElem? ab_rc206, List.forall_mem_cons.mpr ⟨List.mem_of_getElem? ab_rc207, fun _ h => absurd h List.not_mem_nil⟩⟩⟩⟩⟩⟩⟩⟩⟩⟩⟩⟩⟩⟩⟩⟩
theorem ab_rcs13 : ∀ q ∈ ab_reg13, Cond.code q.1 q.2.1 q.2.2.1 q.2.2.2.1 ∈ lw_tbl := List.forall_mem_cons.mpr ⟨List.mem_of_getElem? ab_rc208, List.forall_mem_cons.mpr ⟨List.mem_of_getElem? ab_rc209, List.forall_mem_cons.mpr ⟨List.mem_of_getElem? ab_rc210, List.forall_mem_cons.mpr ⟨List.mem_of_getElem? ab_rc211, List.forall_mem_cons.mpr ⟨List.mem_of_getElem? ab_rc212, List.forall_mem_cons.mpr ⟨List.mem_of_getElem? ab_rc213, List.forall_mem_cons.mpr ⟨List.mem_of_getElem? ab_rc214, List.forall_mem_cons.mpr ⟨List.mem_of_getElem? ab_rc215, List.forall_mem_cons.mpr ⟨List.mem_of_getElem? ab_rc216, List.forall_mem_cons.mpr ⟨List.mem_of_getElem? ab_rc217, List.forall_mem_cons.mpr ⟨List.mem_of_getElem? ab_rc218, List.forall_mem_cons.mpr ⟨List.mem_of_getElem? ab_rc219, List.forall_mem_cons.mpr ⟨List.mem_of_getElem? ab_rc220, List.forall_mem_cons.mpr ⟨List.mem_of_getElem? ab_rc221, List.forall_mem_cons.mpr ⟨List.mem_of_getElem? ab_rc222, fun _ h => absurd h List.not_mem_nil⟩⟩⟩⟩⟩⟩⟩⟩⟩⟩⟩⟩⟩⟩⟩
theorem ab_rcs : ∀ q ∈ ab_reg, Cond.code q.1 q.2.1 q.2.2.1 q.2.2.2.1 ∈ lw_tbl := by
  intro q h
  unfold ab_reg at h
  rcases List.mem_append.mp h with h | h
  · exact ab_rcs0 q h
  rcases List.mem_append.mp h with h | h
  · exact ab_rcs1 q h
  rcases List.mem_append.mp h with h | h
  · exact ab_rcs2 q h
  rcases List.mem_append.mp h with h | h
  · exact ab_rcs3 q h
  rcases List.mem_append.mp h with h | h
  · exact ab_rcs4 q h
  rcases List.mem_append.mp h with h | h
  · exact ab_rcs5 q h
  rcases List.mem_append.mp h with h | h
  · exact ab_rcs6 q h
  rcases List.mem_append.mp h with h | h
  · exact ab_rcs7 q h
  rcases List.mem_append.mp h with h | h
  · exact ab_rcs8 q h
  rcases List.mem_append.mp h with h | h
  · exact ab_rcs9 q h
  rcases List.mem_append.mp h with h | h
  · exact ab_rcs10 q h
  rcases List.mem_append.mp h with h | h
  · exact ab_rcs11 q h
  rcases List.mem_append.mp h with h | h
  · exact ab_rcs12 q h
  exact ab_rcs13 q h

/-! what the tables say of the classes, fields, methods and rows of code, decided -/
set_option maxRecDepth 100000 in
theorem ab_lay0 : u_ws RX0 TX0 7 = [542, 544, 546, 548, 550, 552, 554].filterMap (fun i => lw_tbl[i]?) := by decide +kernel
set_option maxRecDepth 100000 in
theorem ab_layg0 : (u_ws RX0 TX0 7).all goodWord = true := by decide +kernel
theorem ab_layin0 : ∀ w ∈ u_ws RX0 TX0 7, w ∈ ab_tn := fun w h => by
  have hg := List.all_eq_true.mp ab_layg0 w h
  rw [ab_lay0] at h
  obtain ⟨i, -, hi⟩ := List.mem_filterMap.mp h
  exact ab_tnm (List.mem_of_getElem? hi) (by rw [hg]; rfl)
set_option maxRecDepth 100000 in
theorem ab_nfeq0 : ab_nf 0 = 7 := by decide +kernel
set_option maxRecDepth 100000 in
theorem ab_lay1 : u_ws RX1 TX1 12 = [297, 299, 301, 303, 305, 307, 309, 311, 313, 315, 317, 319].filterMap (fun i => lw_tbl[i]?) := by decide +kernel
set_option maxRecDepth 100000 in
theorem ab_layg1 : (u_ws RX1 TX1 12).all goodWord = true := by decide +kernel
theorem ab_layin1 : ∀ w ∈ u_ws RX1 TX1 12, w ∈ ab_tn := fun w h => by
  have hg := List.all_eq_true.mp ab_layg1 w h
  rw [ab_lay1] at h
  obtain ⟨i, -, hi⟩ := List.mem_filterMap.mp h
  exact ab_tnm (List.mem_of_getElem? hi) (by rw [hg]; rfl)
set_option maxRecDepth 100000 in
theorem ab_nfeq1 : ab_nf 1 = 12 := by decide +kernel
set_option maxRecDepth 100000 in
theorem ab_lay2 : u_ws RX2 TX2 10 = [338, 340, 342, 344, 346, 348, 350, 352, 354, 356].filterMap (fun i => lw_tbl[i]?) := by decide +kernel
set_option maxRecDepth 100000 in
theorem ab_layg2 : (u_ws RX2 TX2 10).all goodWord = true := by decide +kernel
theorem ab_layin2 : ∀ w ∈ u_ws RX2 TX2 10, w ∈ ab_tn := fun w h => by
  have hg := List.all_eq_true.mp ab_layg2 w h
  rw [ab_lay2] at h
  obtain ⟨i, -, hi⟩ := List.mem_filterMap.mp h
  exact ab_tnm (List.mem_of_getElem? hi) (by rw [hg]; rfl)
set_option maxRecDepth 100000 in
theorem ab_nfeq2 : ab_nf 2 = 10 := by decide +kernel
set_option maxRecDepth 100000 in
theorem ab_lay3 : u_ws RX3 TX3 12 = [501, 503, 505, 507, 509, 511, 513, 515, 517, 519, 521, 523].filterMap (fun i => lw_tbl[i]?) := by decide +kernel
set_option maxRecDepth 100000 in
theorem ab_layg3 : (u_ws RX3 TX3 12).all goodWord = true := by decide +kernel
theorem ab_layin3 : ∀ w ∈ u_ws RX3 TX3 12, w ∈ ab_tn := fun w h => by
  have hg := List.all_eq_true.mp ab_layg3 w h
  rw [ab_lay3] at h
  obtain ⟨i, -, hi⟩ := List.mem_filterMap.mp h
  exact ab_tnm (List.mem_of_getElem? hi) (by rw [hg]; rfl)
set_option maxRecDepth 100000 in
theorem ab_nfeq3 : ab_nf 3 = 12 := by decide +kernel
set_option maxRecDepth 100000 in
theorem ab_lay4 : u_ws RX4 TX4 19 = [224, 226, 228, 230, 232, 234, 236, 238, 240, 242, 244, 246, 248, 250, 252, 254, 256, 258, 260].filterMap (fun i => lw_tbl[i]?) := by decide +kernel
set_option maxRecDepth 100000 in
theorem ab_layg4 : (u_ws RX4 TX4 19).all goodWord = true := by decide +kernel
theorem ab_layin4 : ∀ w ∈ u_ws RX4 TX4 19, w ∈ ab_tn := fun w h => by
  have hg := List.all_eq_true.mp ab_layg4 w h
  rw [ab_lay4] at h
  obtain ⟨i, -, hi⟩ := List.mem_filterMap.mp h
  exact ab_tnm (List.mem_of_getElem? hi) (by rw [hg]; rfl)
set_option maxRecDepth 100000 in
theorem ab_nfeq4 : ab_nf 4 = 19 := by decide +kernel
set_option maxRecDepth 100000 in
theorem ab_lay5 : u_ws RX5 TX5 4 = [399, 401, 403, 405].filterMap (fun i => lw_tbl[i]?) := by decide +kernel
set_option maxRecDepth 100000 in
theorem ab_layg5 : (u_ws RX5 TX5 4).all goodWord = true := by decide +kernel
theorem ab_layin5 : ∀ w ∈ u_ws RX5 TX5 4, w ∈ ab_tn := fun w h => by
  have hg := List.all_eq_true.mp ab_layg5 w h
  rw [ab_lay5] at h
  obtain ⟨i, -, hi⟩ := List.mem_filterMap.mp h
  exact ab_tnm (List.mem_of_getElem? hi) (by rw [hg]; rfl)
set_option maxRecDepth 100000 in
theorem ab_nfeq5 : ab_nf 5 = 4 := by decide +kernel
set_option maxRecDepth 100000 in
theorem ab_lay6 : u_ws RX6 TX6 2 = [133, 135].filterMap (fun i => lw_tbl[i]?) := by decide +kernel
set_option maxRecDepth 100000 in
theorem ab_layg6 : (u_ws RX6 TX6 2).all goodWord = true := by decide +kernel
theorem ab_layin6 : ∀ w ∈ u_ws RX6 TX6 2, w ∈ ab_tn := fun w h => by
  have hg := List.all_eq_true.mp ab_layg6 w h
  rw [ab_lay6] at h
  obtain ⟨i, -, hi⟩ := List.mem_filterMap.mp h
  exact ab_tnm (List.mem_of_getElem? hi) (by rw [hg]; rfl)
set_option maxRecDepth 100000 in
theorem ab_nfeq6 : ab_nf 6 = 2 := by decide +kernel
set_option maxRecDepth 100000 in
theorem ab_lay7 : u_ws RX7 TX7 4 = [375, 377, 379, 381].filterMap (fun i => lw_tbl[i]?) := by decide +kernel
set_option maxRecDepth 100000 in
theorem ab_layg7 : (u_ws RX7 TX7 4).all goodWord = true := by decide +kernel
theorem ab_layin7 : ∀ w ∈ u_ws RX7 TX7 4, w ∈ ab_tn := fun w h => by
  have hg := List.all_eq_true.mp ab_layg7 w h
  rw [ab_lay7] at h
  obtain ⟨i, -, hi⟩ := List.mem_filterMap.mp h
  exact ab_tnm (List.mem_of_getElem? hi) (by rw [hg]; rfl)
set_option maxRecDepth 100000 in
theorem ab_nfeq7 : ab_nf 7 = 4 := by decide +kernel
set_option maxRecDepth 100000 in
theorem ab_lay8 : u_ws RX8 TX8 15 = [572, 574, 576, 578, 580, 582, 584, 586, 588, 590, 592, 594, 596, 598, 600].filterMap (fun i => lw_tbl[i]?) := by decide +kernel
set_option maxRecDepth 100000 in
theorem ab_layg8 : (u_ws RX8 TX8 15).all goodWord = true := by decide +kernel
theorem ab_layin8 : ∀ w ∈ u_ws RX8 TX8 15, w ∈ ab_tn := fun w h => by
  have hg := List.all_eq_true.mp ab_layg8 w h
  rw [ab_lay8] at h
  obtain ⟨i, -, hi⟩ := List.mem_filterMap.mp h
  exact ab_tnm (List.mem_of_getElem? hi) (by rw [hg]; rfl)
set_option maxRecDepth 100000 in
theorem ab_nfeq8 : ab_nf 8 = 15 := by decide +kernel
set_option maxRecDepth 100000 in
theorem ab_lay9 : u_ws RX9 TX9 74 = [1258, 1260, 1262, 1264, 1266, 1268, 1270, 1272, 1274, 1276, 1278, 1280, 1282, 1284, 1286, 1288, 1290, 1292, 1294, 1296, 1298, 1300, 1302, 1304, 1306, 1308, 1310, 1312, 1314, 1316, 1318, 1320, 1322, 1324, 1326, 1328, 1330, 1332, 1334, 1336, 1338, 1340, 1342, 1344, 1346, 1348, 1350, 1352, 1354, 1356, 1358, 1360, 1362, 1364, 1366, 1368, 1370, 1372, 1374, 1376, 1378, 1380, 1382, 1384, 1386, 1388, 1390, 1392, 1394, 1396, 1398, 1400, 1402, 1404].filterMap (fun i => lw_tbl[i]?) := by decide +kernel
set_option maxRecDepth 100000 in
theorem ab_layg9 : (u_ws RX9 TX9 74).all goodWord = true := by decide +kernel
theorem ab_layin9 : ∀ w ∈ u_ws RX9 TX9 74, w ∈ ab_tn := fun w h => by
  have hg := List.all_eq_true.mp ab_layg9 w h
  rw [ab_lay9] at h
  obtain ⟨i, -, hi⟩ := List.mem_filterMap.mp h
  exact ab_tnm (List.mem_of_getElem? hi) (by rw [hg]; rfl)
set_option maxRecDepth 100000 in
theorem ab_nfeq9 : ab_nf 9 = 74 := by decide +kernel
set_option maxRecDepth 100000 in
theorem ab_lay10 : u_ws RX10 TX10 4 = [458, 460, 462, 464].filterMap (fun i => lw_tbl[i]?) := by decide +kernel
set_option maxRecDepth 100000 in
theorem ab_layg10 : (u_ws RX10 TX10 4).all goodWord = true := by decide +kernel
theorem ab_layin10 : ∀ w ∈ u_ws RX10 TX10 4, w ∈ ab_tn := fun w h => by
  have hg := List.all_eq_true.mp ab_layg10 w h
  rw [ab_lay10] at h
  obtain ⟨i, -, hi⟩ := List.mem_filterMap.mp h
  exact ab_tnm (List.mem_of_getElem? hi) (by rw [hg]; rfl)
set_option maxRecDepth 100000 in
theorem ab_nfeq10 : ab_nf 10 = 4 := by decide +kernel
set_option maxRecDepth 100000 in
theorem ab_lay11 : u_ws RX11 TX11 4 = [478, 480, 482, 484].filterMap (fun i => lw_tbl[i]?) := by decide +kernel
set_option maxRecDepth 100000 in
theorem ab_layg11 : (u_ws RX11 TX11 4).all goodWord = true := by decide +kernel
theorem ab_layin11 : ∀ w ∈ u_ws RX11 TX11 4, w ∈ ab_tn := fun w h => by
  have hg := List.all_eq_true.mp ab_layg11 w h
  rw [ab_lay11] at h
  obtain ⟨i, -, hi⟩ := List.mem_filterMap.mp h
  exact ab_tnm (List.mem_of_getElem? hi) (by rw [hg]; rfl)
set_option maxRecDepth 100000 in
theorem ab_nfeq11 : ab_nf 11 = 4 := by decide +kernel
set_option maxRecDepth 100000 in
theorem ab_lay12 : u_ws RX12 TX12 10 = [426, 428, 430, 432, 434, 436, 438, 440, 442, 444].filterMap (fun i => lw_tbl[i]?) := by decide +kernel
set_option maxRecDepth 100000 in
theorem ab_layg12 : (u_ws RX12 TX12 10).all goodWord = true := by decide +kernel
theorem ab_layin12 : ∀ w ∈ u_ws RX12 TX12 10, w ∈ ab_tn := fun w h => by
  have hg := List.all_eq_true.mp ab_layg12 w h
  rw [ab_lay12] at h
  obtain ⟨i, -, hi⟩ := List.mem_filterMap.mp h
  exact ab_tnm (List.mem_of_getElem? hi) (by rw [hg]; rfl)
set_option maxRecDepth 100000 in
theorem ab_nfeq12 : ab_nf 12 = 10 := by decide +kernel

set_option maxRecDepth 100000 in
theorem ab_clok (ci : Nat) (q : vw_C) (h : ab_cl[ci]? = some q) : (∀ w ∈ u_ws q.1 q.2.1 q.2.2, w ∈ ab_tn) ∧ (∃ ty0 : Nat → FieldType, (∀ k, k < q.2.2 → parseFieldDescriptor (q.2.1 k).2.2.1 = some (ty0 k)) ∧ ∀ a, a < q.2.2 → ∀ b, b < q.2.2 → a ≠ b → (q.2.1 a).2.1 ≠ (q.2.1 b).2.1) ∧ q.2.2 = ab_nf ci ∧ ci < 20 := by
  match ci, h with
  | 0, h => cases h; exact ⟨ab_layin0, ⟨tyX0, tyX0_ok, nmX0⟩, ab_nfeq0.symm, by decide⟩
  | 1, h => cases h; exact ⟨ab_layin1, ⟨tyX1, tyX1_ok, nmX1⟩, ab_nfeq1.symm, by decide⟩
  | 2, h => cases h; exact ⟨ab_layin2, ⟨tyX2, tyX2_ok, nmX2⟩, ab_nfeq2.symm, by decide⟩
  | 3, h => cases h; exact ⟨ab_layin3, ⟨tyX3, tyX3_ok, nmX3⟩, ab_nfeq3.symm, by decide⟩
  | 4, h => cases h; exact ⟨ab_layin4, ⟨tyX4, tyX4_ok, nmX4⟩, ab_nfeq4.symm, by decide⟩
  | 5, h => cases h; exact ⟨ab_layin5, ⟨tyX5, tyX5_ok, nmX5⟩, ab_nfeq5.symm, by decide⟩
  | 6, h => cases h; exact ⟨ab_layin6, ⟨tyX6, tyX6_ok, nmX6⟩, ab_nfeq6.symm, by decide⟩
  | 7, h => cases h; exact ⟨ab_layin7, ⟨tyX7, tyX7_ok, nmX7⟩, ab_nfeq7.symm, by decide⟩
  | 8, h => cases h; exact ⟨ab_layin8, ⟨tyX8, tyX8_ok, nmX8⟩, ab_nfeq8.symm, by decide⟩
  | 9, h => cases h; exact ⟨ab_layin9, ⟨tyX9, tyX9_ok, nmX9⟩, ab_nfeq9.symm, by decide⟩
  | 10, h => cases h; exact ⟨ab_layin10, ⟨tyX10, tyX10_ok, nmX10⟩, ab_nfeq10.symm, by decide⟩
  | 11, h => cases h; exact ⟨ab_layin11, ⟨tyX11, tyX11_ok, nmX11⟩, ab_nfeq11.symm, by decide⟩
  | 12, h => cases h; exact ⟨ab_layin12, ⟨tyX12, tyX12_ok, nmX12⟩, ab_nfeq12.symm, by decide⟩
  | n + 13, h => simp at h
def ab_fk (T : u_T) (ci k : Nat) : Bool := match (ab_ft ci k).1 with
  | 0 => decide (parseFieldDescriptor (T k).2.2.1 = some .int) && !(T k).2.2.2
  | 1 => decide (parseFieldDescriptor (T k).2.2.1 = some .boolean) && !(T k).2.2.2
  | 3 => (match parseFieldDescriptor (T k).2.2.1 with | some (.object _) => true | _ => false) && !(T k).2.2.2
  | _ => true
set_option maxRecDepth 100000 in
theorem ab_fk_all : ab_cl.zipIdx.all (fun q => (List.range q.1.2.2).all (fun k => ab_fk q.1.2.1 q.2 k)) = true := by decide +kernel
theorem ab_fk_ok {ci k : Nat} {q : vw_C} (h : ab_cl[ci]? = some q) (hk : k < q.2.2) : ab_fk q.2.1 ci k = true := by
  have h1 := List.all_eq_true.mp ab_fk_all (q, ci) (List.mem_zipIdx_iff_getElem?.mpr h)
  exact List.all_eq_true.mp h1 k (List.mem_range.mpr hk)
/-- the layout: what a reference that never changes leads to -/
def ab_lk (o k : Nat) : Bool := match ab_ft (ab_kd o) k with
  | (2, d, c, n) => Nat.ble (d + 1) ab_n && (Nat.beq (ab_kd d) c && Nat.beq (ab_ln d) n)
  | (4, d, c, _) => Nat.ble (o + d + 1) ab_n && Nat.beq (ab_kd (o + d)) c
  | (5, d, c, n) => Nat.ble (o + d + 1) ab_n && (Nat.beq (ab_kd (o + d)) c && Nat.beq (ab_ln (o + d)) n)
  | _ => true
set_option maxRecDepth 100000 in
theorem ab_lk_all : (List.range ab_n).all (fun o => (List.range 74).all (fun k => Nat.ble 20 (ab_kd o) || ab_lk o k)) = true := by decide +kernel
set_option maxRecDepth 100000 in
theorem ab_st_all : (List.range ab_n).all (fun o => bif Nat.beq (ab_kd o) 25 then (List.range (ab_ln o)).all (fun i => Nat.ble (o + 1 + 3 * i + 1) ab_n && (Nat.beq (ab_kd (o + 1 + 3 * i)) 4 && Nat.beq (ab_ln (o + 1 + 3 * i)) 0)) else true) = true := by decide +kernel
set_option maxRecDepth 100000 in
theorem ab_kd_all : (List.range ab_n).all (fun o => (Nat.ble (ab_kd o) 12 && Nat.beq (ab_ln o) 0) || (Nat.ble 20 (ab_kd o) && (Nat.ble (ab_kd o) 26 && Nat.ble (ab_ln o) 65536))) = true := by decide +kernel
/-- a row of code is what it says -/
def ab_len (I : Instr) : Nat := match I with
  | .bipush _ | .iload _ | .lload _ | .aload _ | .istore _ | .lstore _ | .astore _ | .ldc _ | .newarray _ => 2
  | .sipush _ | .ldc_w _ | .ldc2_w _ | .iinc _ _ | .getfield _ | .putfield _ | .goto _ | .ifCond _ _ | .if_icmp _ _ | .if_acmp _ _ | .invokevirtual _ | .invokestatic _ | .invokespecial _ | .new _ | .anewarray _ => 3
  | .tableswitch _ _ _ _ => 0
  | .lookupswitch _ _ => 0
  | _ => 1
def ab_cf (own i : Nat) (r : Int × Nat × Nat × Nat × Nat) : Bool := match lw_tbl[r.2.2.2.2]?, ab_cl[r.2.2.1]? with
  | some (.fieldLink o j f n d), some q => decide (r.2.2.2.1 < q.2.2) && decide (o = ab_cn own ∧ j = i ∧ f = (q.2.1 r.2.2.2.1).1 ∧ n = (q.2.1 r.2.2.2.1).2.1 ∧ d = (q.2.1 r.2.2.2.1).2.2.1)
  | some (.fieldLinkNest o j f n d _), some q => decide (r.2.2.2.1 < q.2.2) && decide (o = ab_cn own ∧ j = i ∧ f = (q.2.1 r.2.2.2.1).1 ∧ n = (q.2.1 r.2.2.2.1).2.1 ∧ d = (q.2.1 r.2.2.2.1).2.2.1)
  | _, _ => false
theorem ab_cf_ok {own i : Nat} {r : Int × Nat × Nat × Nat × Nat} (h : ab_cf own i r = true) : ∃ q : vw_C, ab_cl[r.2.2.1]? = some q ∧ r.2.2.2.1 < q.2.2 ∧ (Cond.fieldLink (ab_cn own) i (q.2.1 r.2.2.2.1).1 (q.2.1 r.2.2.2.1).2.1 (q.2.1 r.2.2.2.1).2.2.1 ∈ ab_tn ∨ ∃ host : String, Cond.fieldLinkNest (ab_cn own) i (q.2.1 r.2.2.2.1).1 (q.2.1 r.2.2.2.1).2.1 (q.2.1 r.2.2.2.1).2.2.1 host ∈ ab_tn) := by
  unfold ab_cf at h
  split at h
  · rename_i hw hq
    simp only [Bool.and_eq_true, decide_eq_true_eq] at h
    obtain ⟨h1, rfl, rfl, rfl, rfl, rfl⟩ := h
    exact ⟨_, hq, h1, Or.inl (ab_tnm (List.mem_of_getElem? hw) rfl)⟩
  · rename_i hw hq
    simp only [Bool.and_eq_true, decide_eq_true_eq] at h
    obtain ⟨h1, rfl, rfl, rfl, rfl, rfl⟩ := h
    exact ⟨_, hq, h1, Or.inr ⟨_, ab_tnm (List.mem_of_getElem? hw) rfl⟩⟩
  · cases h
/-- the link of a call, to the method of that number; k: 0 virtual, 1 static, 2 special -/
def ab_cm (own i k : Nat) (r : Int × Nat × Nat × Nat × Nat) : Bool := match lw_tbl[r.2.2.2.2]?, ab_reg[r.2.2.1]? with
  | some (.methodLink o j y), some q => decide (o = ab_cn own ∧ j = i ∧ y = q.1) && (Nat.beq r.2.1 (2 * k) && ((k != 0 || Nat.beq r.1.toNat q.2.2.2.2.1) && Nat.beq q.2.2.2.2.2.2 k && decide ((parseMethodDescriptor q.1.desc).map (fun d => d.parameters.length) = some r.2.2.2.1)))
  | some (.methodLinkNest o j y _), some q => decide (o = ab_cn own ∧ j = i ∧ y = q.1) && (Nat.beq r.2.1 (2 * k + 1) && ((k != 0 || Nat.beq r.1.toNat q.2.2.2.2.1) && Nat.beq q.2.2.2.2.2.2 k && decide ((parseMethodDescriptor q.1.desc).map (fun d => d.parameters.length) = some r.2.2.2.1)))
  | _, _ => false
def ab_cr (own : Nat) (e : ab_T) : Bool := match e.2.1 with
  | .getfield i => ab_cf own i e.2.2.2.1
  | .putfield i => ab_cf own i e.2.2.2.1
  | .invokevirtual i => ab_cm own i 0 e.2.2.2.1
  | .invokestatic i => bif Nat.beq e.2.2.2.1.2.1 9 then decide (lw_tbl[e.2.2.2.1.2.2.2.2]? = some (.methodLink (ab_cn own) i arraycopyName)) else bif Nat.beq e.2.2.2.1.2.1 10 then decide (lw_tbl[e.2.2.2.1.2.2.2.2]? = some (.methodLink (ab_cn own) i yJ9_max_7cf53)) else bif Nat.beq e.2.2.2.1.2.1 11 then decide (lw_tbl[e.2.2.2.1.2.2.2.2]? = some (.methodLink (ab_cn own) i yJ9_min_7cf53)) else ab_cm own i 1 e.2.2.2.1
  | .goto d => decide ((e.1 : Int) + d = (e.2.2.2.1.2.1 : Int))
  | .ifCond _ d => decide ((e.1 : Int) + d = (e.2.2.2.1.2.1 : Int))
  | .if_icmp _ d => decide ((e.1 : Int) + d = (e.2.2.2.1.2.1 : Int))
  | .if_acmp _ d => decide ((e.1 : Int) + d = (e.2.2.2.1.2.1 : Int))
  | .tableswitch d lo hi offs => decide ((e.1 : Int) + d = (e.2.2.2.1.2.1 : Int)) && (decide (hi = lo + (offs.size : Int) - 1) && decide ((offs.toList.zipIdx.filter (fun q => !decide (q.1 = d))).map (fun q => (lo + (q.2 : Int), (e.1 : Int) + q.1)) = e.2.2.2.2.map (fun q => (q.1, (q.2 : Int)))))
  | .lookupswitch d ps => decide ((e.1 : Int) + d = (e.2.2.2.1.2.1 : Int)) && ((ps.toList.zip (ps.toList.drop 1)).all (fun (a, next) => a.1 < next.1) && decide (ps.toList.map (fun q => (q.1, (e.1 : Int) + q.2)) = e.2.2.2.2.map (fun q => (q.1, (q.2 : Int)))))
  | .ldc i => decide (lw_tbl[e.2.2.2.1.2.2.2.2]? = some (.constant (ab_cn own) i (Int32.ofInt e.2.2.2.1.1)))
  | .ldc_w i => decide (lw_tbl[e.2.2.2.1.2.2.2.2]? = some (.constant (ab_cn own) i (Int32.ofInt e.2.2.2.1.1)))
  | .ldc2_w i => decide (lw_tbl[e.2.2.2.1.2.2.2.2]? = some (.constantLong (ab_cn own) i (Int64.ofInt e.2.2.2.1.1)))
  | _ => true
def ab_ck (own : Nat) (cc : ByteArray) (e : ab_T) : Bool := decide (decode cc e.1 = .ok (e.2.1, e.2.2.1)) && ((Nat.beq (ab_len e.2.1) 0 || Nat.beq e.2.2.1 (ab_len e.2.1)) && ab_cr own e)
/-- behind a row of that kind the walk doesn't go on -/
def ab_stop (I : Instr) : Bool := match I with
  | .new _ => true
  | _ => false
/-- rows one behind another -/
def ab_tb (own : Nat) (cc : ByteArray) : List ab_T → Bool
  | [] => true
  | [e] => ab_ck own cc e
  | e :: f :: t => ab_ck own cc e && ((Nat.beq (e.1 + e.2.2.1) f.1 || ab_stop e.2.1) && ab_tb own cc (f :: t))
def ab_rk (q : ab_R) : Bool := (decide (lw_tbl[q.2.2.2.2.2.1.2.2.2]? = some (.initialized q.1.cls)) && (decide (q.1.cls ≠ "java/lang/invoke/MethodHandle" ∧ q.1.cls ≠ "java/lang/invoke/VarHandle") && (plainName q.1.cls && (decide (q.1.cls = ab_cn q.2.2.2.2.1) && (Nat.ble q.2.2.1 45 && match q.2.2.2.2.2.2 with
  | 0 => decide (lw_tbl[q.2.2.2.2.2.1.2.1]? = some (.instanceMethod q.1)) && (decide (lw_tbl[q.2.2.2.2.2.1.2.2.1]? = some (.selects q.1.cls q.1 q.1)) && Nat.ble q.2.2.2.2.1 12)
  | 1 => decide (lw_tbl[q.2.2.2.2.2.1.2.1]? = some (.static q.1))
  | _ => decide (lw_tbl[q.2.2.2.2.2.1.2.1]? = some (.instanceMethod q.1)))))))
set_option maxRecDepth 100000 in
theorem ab_rk0 : ab_reg0.all ab_rk = true := by decide +kernel
set_option maxRecDepth 100000 in
theorem ab_rk1 : ab_reg1.all ab_rk = true := by decide +kernel
set_option maxRecDepth 100000 in
theorem ab_rk2 : ab_reg2.all ab_rk = true := by decide +kernel
set_option maxRecDepth 100000 in
theorem ab_rk3 : ab_reg3.all ab_rk = true := by decide +kernel
set_option maxRecDepth 100000 in
theorem ab_rk4 : ab_reg4.all ab_rk = true := by decide +kernel
set_option maxRecDepth 100000 in
theorem ab_rk5 : ab_reg5.all ab_rk = true := by decide +kernel
set_option maxRecDepth 100000 in
theorem ab_rk6 : ab_reg6.all ab_rk = true := by decide +kernel
set_option maxRecDepth 100000 in
theorem ab_rk7 : ab_reg7.all ab_rk = true := by decide +kernel
set_option maxRecDepth 100000 in
theorem ab_rk8 : ab_reg8.all ab_rk = true := by decide +kernel
set_option maxRecDepth 100000 in
theorem ab_rk9 : ab_reg9.all ab_rk = true := by decide +kernel
set_option maxRecDepth 100000 in
theorem ab_rk10 : ab_reg10.all ab_rk = true := by decide +kernel
set_option maxRecDepth 100000 in
theorem ab_rk11 : ab_reg11.all ab_rk = true := by decide +kernel
set_option maxRecDepth 100000 in
theorem ab_rk12 : ab_reg12.all ab_rk = true := by decide +kernel
set_option maxRecDepth 100000 in
theorem ab_rk13 : ab_reg13.all ab_rk = true := by decide +kernel
theorem ab_rk_all : ab_reg.all ab_rk = true := by
  unfold ab_reg
  simp only [List.all_append, ab_rk0, ab_rk1, ab_rk2, ab_rk3, ab_rk4, ab_rk5, ab_rk6, ab_rk7, ab_rk8, ab_rk9, ab_rk10, ab_rk11, ab_rk12, ab_rk13, Bool.and_self]
set_option maxRecDepth 100000 in
theorem ab_tk_sign : ab_tb 6 cX6_sign tb_X6_sign = true := by decide +kernel
set_option maxRecDepth 100000 in
theorem ab_tk_traverseStatement : ab_tb 0 cX0_traverseStatement tb_X0_traverseStatement = true := by decide +kernel
