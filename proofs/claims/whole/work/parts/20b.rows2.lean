/-! More rows to rewrite with; the methods of the table by number (wip/gen/srows.py). -/
section MRW2
set_option maxRecDepth 20000
variable {G : mG} {mi pc len : Nat} {M : mM} {L st : List Value} {h : mH} {n k : Nat} {Q : mR → Prop} {i : Instr}
theorem mCat_ref {v : Value} (h : mIsRef v = true) : v.category = 1 := by cases v <;> first | rfl | (cases h; done)
theorem rw_iconst {c : Int} {v : Int32} (hm : mTab[mi]? = some M) (hd : decode M.2.1 pc = .ok (.iconst c, 1)) (hv : Int32.ofInt c = v) : mX G mi pc L st h n k Q ↔ mX G mi (pc + 1) L (.int v :: st) h n k Q := by subst hv; exact rw_next hm hd rfl rfl
theorem rw_bipush {c : Int} {v : Int32} (hm : mTab[mi]? = some M) (hd : decode M.2.1 pc = .ok (.bipush c, 2)) (hv : (Int8.ofInt c).toInt32 = v) : mX G mi pc L st h n k Q ↔ mX G mi (pc + 2) L (.int v :: st) h n k Q := by subst hv; exact rw_next hm hd rfl rfl
theorem rw_sipush {c : Int} {v : Int32} (hm : mTab[mi]? = some M) (hd : decode M.2.1 pc = .ok (.sipush c, 3)) (hv : (Int16.ofInt c).toInt32 = v) : mX G mi pc L st h n k Q ↔ mX G mi (pc + 3) L (.int v :: st) h n k Q := by subst hv; exact rw_next hm hd rfl rfl
theorem rw_lconst {c : Fin 2} {v : Int64} (hm : mTab[mi]? = some M) (hd : decode M.2.1 pc = .ok (.lconst c, 1)) (hv : Int64.ofNat c.val = v) : mX G mi pc L st h n k Q ↔ mX G mi (pc + 1) L (.long v :: st) h n k Q := by subst hv; exact rw_next hm hd rfl rfl
theorem mSp_nil : mSpread [] = [] := rfl
theorem mSp_int (x : Int32) (t : List Value) : mSpread (.int x :: t) = .int x :: mSpread t := rfl
theorem mSp_ref (x : Nat) (t : List Value) : mSpread (.ref x :: t) = .ref x :: mSpread t := rfl
theorem mSp_long (x : Int64) (t : List Value) : mSpread (.long x :: t) = .long x :: mU :: mSpread t := rfl
theorem mSp_of {v : Value} (d : mIsRef v = true) (t : List Value) : mSpread (v :: t) = v :: mSpread t := by simp only [mSpread, mCat_ref d]; rfl
theorem mFit_of {mj : Nat} {Mj : mM} {vs E : List Value} (hm : mTab[mj]? = some Mj) (e : mSpread vs = E) (hl : E.length ≤ Mj.2.2.1) : mFitL mj vs = true := by rw [mFitL, hm]; dsimp only; rw [e]; exact decide_eq_true hl
theorem mEnt_of {nL : Nat} {vs E F : List Value} (e : mSpread vs = E) (hF : E ++ List.replicate (nL - E.length) mU = F) : mEnt nL vs = F := by rw [mEnt, e]; exact hF
theorem hm0 : mTab[0]? = some (yX0_init, cX0_init, 8, none, 0, []) := rfl
theorem hm1 : mTab[1]? = some (yX0_total, cX0_total, 1, (some .int), 0, []) := rfl
theorem hm2 : mTab[2]? = some (yX0_hasRecords, cX0_hasRecords, 1, (some .boolean), 0, []) := rfl
theorem hm3 : mTab[3]? = some (yX0_get, cX0_get, 2, (some .int), 0, []) := rfl
theorem hm4 : mTab[4]? = some (yX0_put, cX0_put, 6, none, 0, []) := rfl
theorem hm5 : mTab[5]? = some (yX0_replace, cX0_replace, 4, none, 0, []) := rfl
theorem hm6 : mTab[6]? = some (yX0_placeOf, cX0_placeOf, 2, (some .int), 0, []) := rfl
theorem hm7 : mTab[7]? = some (yX0_push, cX0_push, 3, none, 0, []) := rfl
theorem hm8 : mTab[8]? = some (yX0_recordHas, cX0_recordHas, 6, (some .boolean), 0, []) := rfl
theorem hm9 : mTab[9]? = some (yX0_isAt, cX0_isAt, 4, (some .boolean), 0, []) := rfl
theorem hm10 : mTab[10]? = some (yX0_set, cX0_set, 3, none, 0, []) := rfl
theorem hm11 : mTab[11]? = some (yX1_init, cX1_init, 4, none, 1, []) := rfl
theorem hm12 : mTab[12]? = some (yX1_restart, cX1_restart, 1, none, 1, []) := rfl
theorem hm13 : mTab[13]? = some (yX1_fileNumber, cX1_fileNumber, 1, (some .int), 1, []) := rfl
theorem hm14 : mTab[14]? = some (yX1_directoryNumber, cX1_directoryNumber, 1, (some .int), 1, []) := rfl
theorem hm15 : mTab[15]? = some (yX1_select, cX1_select, 5, (some .int), 1, []) := rfl
theorem hm16 : mTab[16]? = some (yX1_readBytes, cX1_readBytes, 5, (some .int), 1, []) := rfl
theorem hm17 : mTab[17]? = some (yX1_writeBytes, cX1_writeBytes, 4, (some .int), 1, []) := rfl
theorem hm18 : mTab[18]? = some (yX1_readRecord, cX1_readRecord, 5, (some .int), 1, []) := rfl
theorem hm19 : mTab[19]? = some (yX1_writeRecord, cX1_writeRecord, 4, (some .int), 1, []) := rfl
theorem hm20 : mTab[20]? = some (yX1_search, cX1_search, 5, (some .int), 1, []) := rfl
theorem hm21 : mTab[21]? = some (yX1_writeToRing, cX1_writeToRing, 3, (some .int), 1, []) := rfl
theorem hm22 : mTab[22]? = some (yX1_writeToRecords, cX1_writeToRecords, 4, (some .int), 1, []) := rfl
theorem hm23 : mTab[23]? = some (yX1_findNear, cX1_findNear, 3, (some (.object "ChipCard$CardFile")), 1, []) := rfl
theorem hm24 : mTab[24]? = some (yX1_findByPath, cX1_findByPath, 4, (some (.object "ChipCard$CardFile")), 1, []) := rfl
theorem hm25 : mTab[25]? = some (yX1_takeInHand, cX1_takeInHand, 3, none, 1, []) := rfl
theorem hm26 : mTab[26]? = some (yX1_tell, cX1_tell, 4, none, 1, []) := rfl
theorem hm27 : mTab[27]? = some (yX1_tellBytes, cX1_tellBytes, 5, none, 1, []) := rfl
theorem hm28 : mTab[28]? = some (yX1_askBytes, cX1_askBytes, 4, (some .int), 1, []) := rfl
theorem hm29 : mTab[29]? = some (yX1_askRecords, cX1_askRecords, 3, (some .int), 1, []) := rfl
theorem hm30 : mTab[30]? = some (yX1_namesRecord, cX1_namesRecord, 1, (some .boolean), 1, []) := rfl
theorem hm31 : mTab[31]? = some (yX1_choose, cX1_choose, 5, (some .int), 1, []) := rfl
theorem hm32 : mTab[32]? = some (yX1_keepRecord, cX1_keepRecord, 3, none, 1, []) := rfl
theorem hm33 : mTab[33]? = some (yX2_init, cX2_init, 1, none, 2, []) := rfl
theorem hm34 : mTab[34]? = some (yX2_isShape, cX2_isShape, 3, (some .boolean), 2, []) := rfl
theorem hm35 : mTab[35]? = some (yX2_size, cX2_size, 1, (some .int), 2, []) := rfl
theorem hm36 : mTab[36]? = some (yX2_get, cX2_get, 2, (some (.object "ChipCard$CardFile")), 2, []) := rfl
theorem hm37 : mTab[37]? = some (yX2_root, cX2_root, 1, (some (.object "ChipCard$CardFile")), 2, []) := rfl
theorem hm38 : mTab[38]? = some (yX2_isFreeId, cX2_isFreeId, 4, (some .boolean), 2, []) := rfl
theorem hm39 : mTab[39]? = some (yX2_hasRoom, cX2_hasRoom, 2, (some .boolean), 2, []) := rfl
theorem hm40 : mTab[40]? = some (yX2_make, cX2_make, 7, (some .int), 2, []) := rfl
theorem hm41 : mTab[41]? = some (yX2_childOf, cX2_childOf, 5, (some (.object "ChipCard$CardFile")), 2, []) := rfl
theorem hm42 : mTab[42]? = some (yX2_firstOfBytes, cX2_firstOfBytes, 4, (some (.object "ChipCard$CardFile")), 2, []) := rfl
theorem hm43 : mTab[43]? = some (yX3_init, cX3_init, 6, none, 3, []) := rfl
theorem hm44 : mTab[44]? = some (yX3_type, cX3_type, 1, (some .int), 3, []) := rfl
theorem hm45 : mTab[45]? = some (yX3_takesItems, cX3_takesItems, 1, (some .boolean), 3, []) := rfl
theorem hm46 : mTab[46]? = some (yX3_items, cX3_items, 1, (some .int), 3, []) := rfl
theorem hm47 : mTab[47]? = some (yX3_placeOf, cX3_placeOf, 3, (some .int), 3, []) := rfl
theorem hm48 : mTab[48]? = some (yX3_addItem, cX3_addItem, 4, none, 3, []) := rfl
theorem hm49 : mTab[49]? = some (yX3_wayBy, cX3_wayBy, 2, (some .int), 3, []) := rfl
theorem hm50 : mTab[50]? = some (yX3_leadBy, cX3_leadBy, 3, (some .boolean), 3, []) := rfl
theorem hm51 : mTab[51]? = some (yX3_wayByItem, cX3_wayByItem, 2, (some .int), 3, []) := rfl
theorem hm52 : mTab[52]? = some (yX3_leadByItem, cX3_leadByItem, 4, (some .boolean), 3, []) := rfl
theorem hm53 : mTab[53]? = some (yX3_write, cX3_write, 4, none, 3, []) := rfl
theorem hm54 : mTab[54]? = some (yX3_device, cX3_device, 1, (some .int), 3, []) := rfl
theorem hm55 : mTab[55]? = some (yX3_writeShown, cX3_writeShown, 2, none, 3, []) := rfl
theorem hm56 : mTab[56]? = some (yX3_writeRange, cX3_writeRange, 2, none, 3, []) := rfl
theorem hm57 : mTab[57]? = some (yX3_writeTitle, cX3_writeTitle, 3, none, 3, []) := rfl
theorem hm58 : mTab[58]? = some (yX3_writeMessage, cX3_writeMessage, 2, none, 3, []) := rfl
theorem hm59 : mTab[59]? = some (yX3_writeTimer, cX3_writeTimer, 2, none, 3, []) := rfl
theorem hm60 : mTab[60]? = some (yX3_writeItems, cX3_writeItems, 4, none, 3, []) := rfl
theorem hm61 : mTab[61]? = some (yX3_swapped, cX3_swapped, 1, (some .int), 3, []) := rfl
theorem hm62 : mTab[62]? = some (yX4_init, cX4_init, 1, none, 4, []) := rfl
theorem hm63 : mTab[63]? = some (yX4_size, cX4_size, 1, (some .int), 4, []) := rfl
theorem hm64 : mTab[64]? = some (yX4_get, cX4_get, 2, (some (.object "ChipCard$Node")), 4, []) := rfl
theorem hm65 : mTab[65]? = some (yX4_nodeOrMenu, cX4_nodeOrMenu, 2, (some (.object "ChipCard$Node")), 4, []) := rfl
theorem hm66 : mTab[66]? = some (yX4_isNodeOrNone, cX4_isNodeOrNone, 2, (some .boolean), 4, []) := rfl
theorem hm67 : mTab[67]? = some (yX4_make, cX4_make, 5, (some .int), 4, []) := rfl
theorem hm68 : mTab[68]? = some (yX4_wayByEvent, cX4_wayByEvent, 2, (some .int), 4, []) := rfl
theorem hm69 : mTab[69]? = some (yX4_leadByEvent, cX4_leadByEvent, 3, (some .boolean), 4, []) := rfl
theorem hm70 : mTab[70]? = some (yX4_wayByTimer, cX4_wayByTimer, 2, (some .int), 4, []) := rfl
theorem hm71 : mTab[71]? = some (yX4_leadByTimer, cX4_leadByTimer, 3, (some .boolean), 4, []) := rfl
theorem hm72 : mTab[72]? = some (yX4_writeEvents, cX4_writeEvents, 4, none, 4, []) := rfl
theorem hm73 : mTab[73]? = some (yX5_init, cX5_init, 1, none, 5, []) := rfl
theorem hm74 : mTab[74]? = some (yX5_read, cX5_read, 4, (some .boolean), 5, []) := rfl
theorem hm75 : mTab[75]? = some (yX5_hasData, cX5_hasData, 1, (some .boolean), 5, []) := rfl
theorem hm76 : mTab[76]? = some (yX5_wantsBytes, cX5_wantsBytes, 1, (some .boolean), 5, []) := rfl
theorem hm77 : mTab[77]? = some (yX5_place, cX5_place, 1, (some .int), 5, []) := rfl
theorem hm78 : mTab[78]? = some (yX6_init, cX6_init, 2, none, 6, []) := rfl
theorem hm79 : mTab[79]? = some (yX6_length, cX6_length, 1, (some .int), 6, []) := rfl
theorem hm80 : mTab[80]? = some (yX6_get, cX6_get, 2, (some .int), 6, []) := rfl
theorem hm81 : mTab[81]? = some (yX6_getPair, cX6_getPair, 2, (some .int), 6, []) := rfl
theorem hm82 : mTab[82]? = some (yX6_lengthAt, cX6_lengthAt, 4, (some .int), 6, []) := rfl
theorem hm83 : mTab[83]? = some (yX6_clear, cX6_clear, 1, none, 6, []) := rfl
theorem hm84 : mTab[84]? = some (yX6_cut, cX6_cut, 2, (some .boolean), 6, []) := rfl
theorem hm85 : mTab[85]? = some (yX6_add, cX6_add, 2, none, 6, []) := rfl
theorem hm86 : mTab[86]? = some (yX6_addPair, cX6_addPair, 2, none, 6, []) := rfl
theorem hm87 : mTab[87]? = some (yX6_addFour, cX6_addFour, 2, none, 6, []) := rfl
theorem hm88 : mTab[88]? = some (yX6_addLength, cX6_addLength, 2, none, 6, []) := rfl
theorem hm89 : mTab[89]? = some (yX6_addPart, cX6_addPart, 5, none, 6, []) := rfl
theorem hm90 : mTab[90]? = some (yX6_addAll, cX6_addAll, 3, none, 6, []) := rfl
theorem hm91 : mTab[91]? = some (yX6_startsWith, cX6_startsWith, 3, (some .boolean), 6, []) := rfl
theorem hm92 : mTab[92]? = some (yX6_copy, cX6_copy, 2, (some (.object "ChipCard$Row")), 6, []) := rfl
theorem hm93 : mTab[93]? = some (yX7_init, cX7_init, 1, none, 7, []) := rfl
theorem hm94 : mTab[94]? = some (yX7_verify, cX7_verify, 2, (some .int), 7, []) := rfl
theorem hm95 : mTab[95]? = some (yX7_change, cX7_change, 3, (some .int), 7, []) := rfl
theorem hm96 : mTab[96]? = some (yX7_unblock, cX7_unblock, 2, (some .int), 7, []) := rfl
theorem hm97 : mTab[97]? = some (yX7_allow, cX7_allow, 2, (some .boolean), 7, []) := rfl
theorem hm98 : mTab[98]? = some (yX7_namesPin, cX7_namesPin, 1, (some .boolean), 7, []) := rfl
theorem hm99 : mTab[99]? = some (yX7_pinState, cX7_pinState, 1, (some .int), 7, []) := rfl
theorem hm100 : mTab[100]? = some (yX7_tryPin, cX7_tryPin, 2, (some .int), 7, []) := rfl
theorem hm101 : mTab[101]? = some (yX7_takeNewPin, cX7_takeNewPin, 2, none, 7, []) := rfl
theorem hm102 : mTab[102]? = some (yX7_acceptPin, cX7_acceptPin, 1, none, 7, []) := rfl
theorem hm103 : mTab[103]? = some (yX8_init, cX8_init, 2, none, 8, []) := rfl
theorem hm104 : mTab[104]? = some (yX8_restart, cX8_restart, 2, none, 8, []) := rfl
theorem hm105 : mTab[105]? = some (yX8_open, cX8_open, 2, none, 8, []) := rfl
theorem hm106 : mTab[106]? = some (yX8_start, cX8_start, 2, none, 8, []) := rfl
theorem hm107 : mTab[107]? = some (yX8_startNode, cX8_startNode, 4, none, 8, []) := rfl
theorem hm108 : mTab[108]? = some (yX8_repeat, cX8_repeat, 1, (some .boolean), 8, []) := rfl
theorem hm109 : mTab[109]? = some (yX8_finish, cX8_finish, 1, none, 8, []) := rfl
theorem hm110 : mTab[110]? = some (yX8_nodeNumber, cX8_nodeNumber, 1, (some .int), 8, []) := rfl
theorem hm111 : mTab[111]? = some (yX8_commandNumber, cX8_commandNumber, 1, (some .int), 8, []) := rfl
theorem hm112 : mTab[112]? = some (yX8_pendingBody, cX8_pendingBody, 1, (some (.object "ChipCard$Row")), 8, []) := rfl
theorem hm113 : mTab[113]? = some (yX8_pendingSize, cX8_pendingSize, 2, (some .int), 8, []) := rfl
theorem hm114 : mTab[114]? = some (yX8_runs, cX8_runs, 2, (some .boolean), 8, []) := rfl
theorem hm115 : mTab[115]? = some (yX8_run, cX8_run, 3, none, 8, []) := rfl
theorem hm116 : mTab[116]? = some (yX8_pend, cX8_pend, 1, none, 8, []) := rfl
theorem hm117 : mTab[117]? = some (yX8_profileHas, cX8_profileHas, 3, (some .boolean), 8, []) := rfl
theorem hm118 : mTab[118]? = some (yX9_init, cX9_init, 1, none, 9, []) := rfl
theorem hm119 : mTab[119]? = some (yX9_read, cX9_read, 5, (some .boolean), 9, []) := rfl
theorem hm120 : mTab[120]? = some (yX9_has, cX9_has, 2, (some .boolean), 9, []) := rfl
theorem hm121 : mTab[121]? = some (yX9_startOf, cX9_startOf, 2, (some .int), 9, []) := rfl
theorem hm122 : mTab[122]? = some (yX9_lengthOf, cX9_lengthOf, 2, (some .int), 9, []) := rfl
theorem hm123 : mTab[123]? = some (yX9_valueOf, cX9_valueOf, 3, (some .int), 9, []) := rfl
theorem hm124 : mTab[124]? = some (yX9_askMore, cX9_askMore, 3, (some .boolean), 9, []) := rfl
theorem hm125 : mTab[125]? = some (yX9_readOne, cX9_readOne, 7, (some .int), 9, []) := rfl
theorem hm126 : mTab[126]? = some (yX9_note, cX9_note, 4, none, 9, []) := rfl
theorem hm127 : mTab[127]? = some (yX9_isIn, cX9_isIn, 3, (some .boolean), 9, []) := rfl
theorem hm128 : mTab[128]? = some (yX10_init, cX10_init, 5, none, 10, []) := rfl
theorem hm129 : mTab[129]? = some (yX10_terminalProfile, cX10_terminalProfile, 2, (some .int), 10, []) := rfl
theorem hm130 : mTab[130]? = some (yX10_fetch, cX10_fetch, 4, (some .int), 10, []) := rfl
theorem hm131 : mTab[131]? = some (yX10_terminalResponse, cX10_terminalResponse, 8, (some .int), 10, []) := rfl
theorem hm132 : mTab[132]? = some (yX10_envelope, cX10_envelope, 2, (some .int), 10, []) := rfl
theorem hm133 : mTab[133]? = some (yX10_askResponse, cX10_askResponse, 3, (some .int), 10, []) := rfl
theorem hm134 : mTab[134]? = some (yX10_isAbout, cX10_isAbout, 2, (some .boolean), 10, []) := rfl
theorem hm135 : mTab[135]? = some (yX10_outcomeOf, cX10_outcomeOf, 1, (some .int), 10, []) := rfl
theorem hm136 : mTab[136]? = some (yX10_askOk, cX10_askOk, 2, (some .int), 10, []) := rfl
theorem hm137 : mTab[137]? = some (yX10_takeOk, cX10_takeOk, 3, none, 10, []) := rfl
theorem hm138 : mTab[138]? = some (yX10_keepBytes, cX10_keepBytes, 5, none, 10, []) := rfl
theorem hm139 : mTab[139]? = some (yX10_takeTimer, cX10_takeTimer, 2, none, 10, []) := rfl
theorem hm140 : mTab[140]? = some (yX10_readEnvelope, cX10_readEnvelope, 5, (some .boolean), 10, []) := rfl
theorem hm141 : mTab[141]? = some (yX10_askTags, cX10_askTags, 3, (some .int), 10, []) := rfl
theorem hm142 : mTab[142]? = some (yX10_itemOf, cX10_itemOf, 2, (some .int), 10, []) := rfl
theorem hm143 : mTab[143]? = some (yX10_menuSelection, cX10_menuSelection, 3, (some .int), 10, []) := rfl
theorem hm144 : mTab[144]? = some (yX10_event, cX10_event, 2, (some .int), 10, []) := rfl
theorem hm145 : mTab[145]? = some (yX10_timerExpiration, cX10_timerExpiration, 3, (some .int), 10, []) := rfl
theorem hm146 : mTab[146]? = some (yX10_message, cX10_message, 6, (some .int), 10, []) := rfl
theorem hm147 : mTab[147]? = some (yX10_ordersOf, cX10_ordersOf, 8, (some .int), 10, []) := rfl
theorem hm148 : mTab[148]? = some (yX10_askOrders, cX10_askOrders, 8, (some .int), 10, []) := rfl
theorem hm149 : mTab[149]? = some (yX10_nextOrder, cX10_nextOrder, 2, (some .int), 10, []) := rfl
theorem hm150 : mTab[150]? = some (yX10_askOrder, cX10_askOrder, 5, (some .int), 10, []) := rfl
theorem hm151 : mTab[151]? = some (yX10_obeyOrders, cX10_obeyOrders, 7, (some .int), 10, []) := rfl
theorem hm152 : mTab[152]? = some (yX10_obeyWriteOrder, cX10_obeyWriteOrder, 4, none, 10, []) := rfl
theorem hm153 : mTab[153]? = some (yX11_init, cX11_init, 1, none, 11, []) := rfl
theorem hm154 : mTab[154]? = some (yX11_feed, cX11_feed, 6, (some .int), 11, []) := rfl
theorem hm155 : mTab[155]? = some (yX11_end, cX11_end, 2, (some .boolean), 11, []) := rfl
theorem hm156 : mTab[156]? = some (yX11_file, cX11_file, 7, (some .int), 11, []) := rfl
theorem hm157 : mTab[157]? = some (yX11_rights, cX11_rights, 5, (some .boolean), 11, []) := rfl
theorem hm158 : mTab[158]? = some (yX11_fill, cX11_fill, 5, (some .int), 11, []) := rfl
theorem hm159 : mTab[159]? = some (yX11_node, cX11_node, 4, (some .int), 11, []) := rfl
theorem hm160 : mTab[160]? = some (yX11_item, cX11_item, 5, (some .int), 11, []) := rfl
theorem hm161 : mTab[161]? = some (yX11_title, cX11_title, 2, (some .int), 11, []) := rfl
theorem hm162 : mTab[162]? = some (yX11_with, cX11_with, 6, (some .boolean), 11, []) := rfl
theorem hm163 : mTab[163]? = some (yX11_goes, cX11_goes, 5, (some .boolean), 11, []) := rfl
theorem hm164 : mTab[164]? = some (yX11_pick, cX11_pick, 5, (some .boolean), 11, []) := rfl
theorem hm165 : mTab[165]? = some (yX11_by, cX11_by, 4, (some .boolean), 11, []) := rfl
theorem hm166 : mTab[166]? = some (yX11_reset, cX11_reset, 1, none, 11, []) := rfl
theorem hm167 : mTab[167]? = some (yX11_command, cX11_command, 3, (some .int), 11, []) := rfl
theorem hm168 : mTab[168]? = some (yX11_out, cX11_out, 3, (some .int), 11, []) := rfl
theorem hm169 : mTab[169]? = some (yX11_count, cX11_count, 2, (some .int), 11, []) := rfl
theorem hm170 : mTab[170]? = some (yX11_timer, cX11_timer, 2, (some .int), 11, []) := rfl
theorem hm171 : mTab[171]? = some (yX11_byteOf, cX11_byteOf, 4, (some .int), 11, []) := rfl
theorem hm172 : mTab[172]? = some (yX11_takeTape, cX11_takeTape, 2, (some (.object "ChipCard$Row")), 11, []) := rfl
theorem hm173 : mTab[173]? = some (yX11_carryOut, cX11_carryOut, 1, (some .int), 11, []) := rfl
theorem hm174 : mTab[174]? = some (yX11_isByte, cX11_isByte, 1, (some .boolean), 11, []) := rfl
theorem hm175 : mTab[175]? = some (yX11_isRight, cX11_isRight, 1, (some .boolean), 11, []) := rfl
theorem hm176 : mTab[176]? = some (yX11_isTimer, cX11_isTimer, 1, (some .boolean), 11, []) := rfl
theorem hm177 : mTab[177]? = some (yX11_lengthBytes, cX11_lengthBytes, 1, (some .int), 11, []) := rfl
theorem hm178 : mTab[178]? = some (yX12_thrown, cX12_thrown, 1, (some .int), 12, []) := rfl
theorem hm179 : mTab[179]? = some (yX12_in, cX12_in, 6, (some .boolean), 12, []) := rfl
theorem hm180 : mTab[180]? = some (yX12_refuse, cX12_refuse, 2, (some .int), 12, []) := rfl
theorem hm181 : mTab[181]? = some (yX12_feed, cX12_feed, 8, (some .int), 12, []) := rfl
theorem hm182 : mTab[182]? = some (yX12_end, cX12_end, 2, (some .boolean), 12, []) := rfl
theorem hm183 : mTab[183]? = some (yX12_read, cX12_read, 2, (some .int), 12, []) := rfl
theorem hm184 : mTab[184]? = some (yX12_init, cX12_init, 2, none, 12, []) := rfl
theorem hm185 : mTab[185]? = some (yX12_isFile, cX12_isFile, 2, (some .boolean), 12, []) := rfl
theorem hm186 : mTab[186]? = some (yX12_isNode, cX12_isNode, 2, (some .boolean), 12, []) := rfl
theorem hm187 : mTab[187]? = some (yX12_all, cX12_all, 2, (some .int), 12, []) := rfl
theorem hm188 : mTab[188]? = some (yX12_inside, cX12_inside, 4, (some .int), 12, []) := rfl
theorem hm189 : mTab[189]? = some (yX12_file, cX12_file, 9, (some .int), 12, []) := rfl
theorem hm190 : mTab[190]? = some (yX12_rights, cX12_rights, 4, (some .boolean), 12, []) := rfl
theorem hm191 : mTab[191]? = some (yX12_fill, cX12_fill, 5, (some .int), 12, []) := rfl
theorem hm192 : mTab[192]? = some (yX12_node, cX12_node, 6, (some .int), 12, []) := rfl
theorem hm193 : mTab[193]? = some (yX12_itemOf, cX12_itemOf, 4, (some .int), 12, []) := rfl
theorem hm194 : mTab[194]? = some (yX12_item, cX12_item, 7, (some .int), 12, []) := rfl
theorem hm195 : mTab[195]? = some (yX12_title, cX12_title, 3, (some .int), 12, []) := rfl
theorem hm196 : mTab[196]? = some (yX12_with, cX12_with, 5, (some .boolean), 12, []) := rfl
theorem hm197 : mTab[197]? = some (yX12_isTo, cX12_isTo, 2, (some .boolean), 12, []) := rfl
theorem hm198 : mTab[198]? = some (yX12_goes, cX12_goes, 4, (some .boolean), 12, []) := rfl
theorem hm199 : mTab[199]? = some (yX12_pick, cX12_pick, 5, (some .boolean), 12, []) := rfl
theorem hm200 : mTab[200]? = some (yX12_by, cX12_by, 4, (some .boolean), 12, []) := rfl
theorem hm201 : mTab[201]? = some (yX12_off, cX12_off, 1, none, 12, []) := rfl
theorem hm202 : mTab[202]? = some (yX12_idle, cX12_idle, 2, none, 12, []) := rfl
theorem hm203 : mTab[203]? = some (yX12_reset, cX12_reset, 1, none, 12, []) := rfl
theorem hm204 : mTab[204]? = some (yX12_put, cX12_put, 2, none, 12, []) := rfl
theorem hm205 : mTab[205]? = some (yX12_command, cX12_command, 3, (some .int), 12, []) := rfl
theorem hm206 : mTab[206]? = some (yX12_status, cX12_status, 3, (some .int), 12, []) := rfl
theorem hm207 : mTab[207]? = some (yX12_given, cX12_given, 2, (some .int), 12, []) := rfl
theorem hm208 : mTab[208]? = some (yX12_done, cX12_done, 1, (some .int), 12, []) := rfl
theorem hm209 : mTab[209]? = some (yX12_select, cX12_select, 2, (some .int), 12, []) := rfl
theorem hm210 : mTab[210]? = some (yX12_near, cX12_near, 4, (some .int), 12, []) := rfl
theorem hm211 : mTab[211]? = some (yX12_path, cX12_path, 3, (some .int), 12, []) := rfl
theorem hm212 : mTab[212]? = some (yX12_describe, cX12_describe, 2, none, 12, []) := rfl
theorem hm213 : mTab[213]? = some (yX12_may, cX12_may, 2, (some .boolean), 12, []) := rfl
theorem hm214 : mTab[214]? = some (yX12_wrong, cX12_wrong, 4, (some .int), 12, []) := rfl
theorem hm215 : mTab[215]? = some (yX12_readBytes, cX12_readBytes, 5, (some .int), 12, []) := rfl
theorem hm216 : mTab[216]? = some (yX12_writeBytes, cX12_writeBytes, 4, (some .int), 12, []) := rfl
theorem hm217 : mTab[217]? = some (yX12_which, cX12_which, 4, (some .int), 12, []) := rfl
theorem hm218 : mTab[218]? = some (yX12_isWay, cX12_isWay, 1, (some .boolean), 12, []) := rfl
theorem hm219 : mTab[219]? = some (yX12_at, cX12_at, 2, (some .int), 12, []) := rfl
theorem hm220 : mTab[220]? = some (yX12_readRecord, cX12_readRecord, 4, (some .int), 12, []) := rfl
theorem hm221 : mTab[221]? = some (yX12_writeRecord, cX12_writeRecord, 5, (some .int), 12, []) := rfl
theorem hm222 : mTab[222]? = some (yX12_hasData, cX12_hasData, 4, (some .boolean), 12, []) := rfl
theorem hm223 : mTab[223]? = some (yX12_search, cX12_search, 3, (some .int), 12, []) := rfl
theorem hm224 : mTab[224]? = some (yX12_isCode, cX12_isCode, 4, (some .boolean), 12, []) := rfl
theorem hm225 : mTab[225]? = some (yX12_badWay, cX12_badWay, 1, (some .int), 12, []) := rfl
theorem hm226 : mTab[226]? = some (yX12_verify, cX12_verify, 1, (some .int), 12, []) := rfl
theorem hm227 : mTab[227]? = some (yX12_change, cX12_change, 1, (some .int), 12, []) := rfl
theorem hm228 : mTab[228]? = some (yX12_byPin, cX12_byPin, 2, (some .int), 12, []) := rfl
theorem hm229 : mTab[229]? = some (yX12_taken, cX12_taken, 3, (some .int), 12, []) := rfl
theorem hm230 : mTab[230]? = some (yX12_unblock, cX12_unblock, 1, (some .int), 12, []) := rfl
theorem hm231 : mTab[231]? = some (yX12_lengthAt, cX12_lengthAt, 3, (some .int), 12, []) := rfl
theorem hm232 : mTab[232]? = some (yX12_list, cX12_list, 11, (some .boolean), 12, []) := rfl
theorem hm233 : mTab[233]? = some (yX12_bit, cX12_bit, 1, (some .long), 12, []) := rfl
theorem hm234 : mTab[234]? = some (yX12_type, cX12_type, 2, (some .int), 12, []) := rfl
theorem hm235 : mTab[235]? = some (yX12_hasType, cX12_hasType, 2, (some .boolean), 12, []) := rfl
theorem hm236 : mTab[236]? = some (yX12_next, cX12_next, 1, none, 12, []) := rfl
theorem hm237 : mTab[237]? = some (yX12_start, cX12_start, 4, none, 12, []) := rfl
theorem hm238 : mTab[238]? = some (yX12_add, cX12_add, 2, none, 12, []) := rfl
theorem hm239 : mTab[239]? = some (yX12_addTag, cX12_addTag, 3, none, 12, []) := rfl
theorem hm240 : mTab[240]? = some (yX12_addText, cX12_addText, 3, none, 12, []) := rfl
theorem hm241 : mTab[241]? = some (yX12_addItems, cX12_addItems, 4, none, 12, []) := rfl
theorem hm242 : mTab[242]? = some (yX12_decimals, cX12_decimals, 2, none, 12, []) := rfl
theorem hm243 : mTab[243]? = some (yX12_qualifierOf, cX12_qualifierOf, 2, (some .int), 12, []) := rfl
theorem hm244 : mTab[244]? = some (yX12_body, cX12_body, 4, none, 12, []) := rfl
theorem hm245 : mTab[245]? = some (yX12_message, cX12_message, 2, none, 12, []) := rfl
theorem hm246 : mTab[246]? = some (yX12_timer1, cX12_timer1, 2, none, 12, []) := rfl
theorem hm247 : mTab[247]? = some (yX12_events, cX12_events, 3, none, 12, []) := rfl
theorem hm248 : mTab[248]? = some (yX12_length, cX12_length, 1, (some .int), 12, []) := rfl
theorem hm249 : mTab[249]? = some (yX12_profile, cX12_profile, 2, (some .int), 12, []) := rfl
theorem hm250 : mTab[250]? = some (yX12_fetch, cX12_fetch, 3, (some .int), 12, []) := rfl
theorem hm251 : mTab[251]? = some (yX12_response, cX12_response, 3, (some .int), 12, []) := rfl
theorem hm252 : mTab[252]? = some (yX12_over, cX12_over, 2, (some .int), 12, []) := rfl
theorem hm253 : mTab[253]? = some (yX12_fine, cX12_fine, 3, (some .int), 12, []) := rfl
theorem hm254 : mTab[254]? = some (yX12_keep, cX12_keep, 5, none, 12, []) := rfl
theorem hm255 : mTab[255]? = some (yX12_envelope, cX12_envelope, 13, (some .int), 12, []) := rfl
theorem hm256 : mTab[256]? = some (yX12_orders1, cX12_orders1, 4, (some .int), 12, []) := rfl
theorem hm257 : mTab[257]? = some (yX12_orders, cX12_orders, 9, (some .int), 12, []) := rfl
theorem hm258 : mTab[258]? = some (yX12_filed, cX12_filed, 3, (some .int), 12, []) := rfl
theorem hm259 : mTab[259]? = some (yX12_order, cX12_order, 5, (some .int), 12, []) := rfl
theorem hm260 : mTab[260]? = some (yX12_out, cX12_out, 2, (some .int), 12, []) := rfl
theorem hm261 : mTab[261]? = some (yX12_count, cX12_count, 2, (some .int), 12, []) := rfl
theorem hm262 : mTab[262]? = some (yX12_timer, cX12_timer, 2, (some .int), 12, []) := rfl
theorem hm263 : mTab[263]? = some (yX12_byteOf, cX12_byteOf, 3, (some .int), 12, []) := rfl
theorem hm264 : mTab[264]? = some (yJxa1e45_init_da8c8, cJxa1e45_init_da8c8, 1, none, 13, []) := rfl
theorem hm265 : mTab[265]? = some (yJxc12de_init_da8c8, cJxc12de_init_da8c8, 1, none, 14, []) := rfl
theorem hm266 : mTab[266]? = some (yJx4a65c_init_da8c8, cJx4a65c_init_da8c8, 1, none, 15, []) := rfl
theorem hm267 : mTab[267]? = some (yJx4a65c_grow_92f84, cJx4a65c_grow_92f84, 4, (some (.array (.object "java/lang/Object"))), 15, []) := rfl
theorem hm268 : mTab[268]? = some (yJx4a65c_grow_d5877, cJx4a65c_grow_d5877, 1, (some (.array (.object "java/lang/Object"))), 15, []) := rfl
theorem hm269 : mTab[269]? = some (yJx4a65c_size_8abf5, cJx4a65c_size_8abf5, 1, (some .int), 15, []) := rfl
theorem hm270 : mTab[270]? = some (yJx4a65c_elementData_915e3, cJx4a65c_elementData_915e3, 2, (some (.object "java/lang/Object")), 15, []) := rfl
theorem hm271 : mTab[271]? = some (yJx4a65c_get_915e3, cJx4a65c_get_915e3, 2, (some (.object "java/lang/Object")), 15, []) := rfl
theorem hm272 : mTab[272]? = some (yJx4a65c_add_72be8, cJx4a65c_add_72be8, 4, none, 15, []) := rfl
theorem hm273 : mTab[273]? = some (yJx4a65c_add_9ea2d, cJx4a65c_add_9ea2d, 2, (some .boolean), 15, []) := rfl
theorem hm274 : mTab[274]? = some (yJ7_fill_53178, cJ7_fill_53178, 4, none, 16, []) := rfl
theorem hm275 : mTab[275]? = some (yJ7_copyOf_1904c, cJ7_copyOf_1904c, 2, (some (.array (.object "java/lang/Object"))), 16, []) := rfl
theorem hm276 : mTab[276]? = some (yJ7_copyOf_6403c, cJ7_copyOf_6403c, 4, (some (.array (.object "java/lang/Object"))), 16, []) := rfl
theorem hm277 : mTab[277]? = some (yJ15_checkIndex_7cf53, cJ15_checkIndex_7cf53, 2, (some .int), 17, []) := rfl
theorem hm278 : mTab[278]? = some (yJ8_newLength_cabcc, cJ8_newLength_cabcc, 4, (some .int), 18, []) := rfl
theorem hm279 : mTab[279]? = some (yJ8_hugeLength_7cf53, cJ8_hugeLength_7cf53, 3, (some .int), 18, []) := rfl
theorem hm280 : mTab[280]? = some (yJ3_checkIndex_8e157, cJ3_checkIndex_8e157, 3, (some .int), 19, []) := rfl
theorem hm281 : mTab[281]? = some (yL_file, cL_file, 8, (some .int), 20, [(0, 16, 19, 13), (0, 16, 23, 15), (0, 16, 27, 17)]) := rfl
theorem hm282 : mTab[282]? = some (yL_fill, cL_fill, 5, (some .int), 20, [(0, 10, 13, 13), (0, 10, 17, 15)]) := rfl
theorem hm283 : mTab[283]? = some (yL_node, cL_node, 5, (some .int), 20, [(0, 10, 13, 15), (0, 10, 17, 17)]) := rfl
theorem hm284 : mTab[284]? = some (yL_item, cL_item, 5, (some .int), 20, [(0, 10, 13, 13), (0, 10, 17, 15), (0, 10, 21, 17)]) := rfl
theorem hm285 : mTab[285]? = some (yL_title, cL_title, 3, (some .int), 20, [(0, 8, 11, 15)]) := rfl
theorem hm286 : mTab[286]? = some (yL_out, cL_out, 4, (some .int), 20, [(0, 9, 12, 37)]) := rfl
theorem hm287 : mTab[287]? = some (yL_law, cL_law, 7, (some .boolean), 20, []) := rfl
end MRW2
