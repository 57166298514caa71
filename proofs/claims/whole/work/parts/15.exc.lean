/-! Exceptions: their classes, the sites that throw them, the handlers of the law. -/
def mExc : List String := ["java/lang/IndexOutOfBoundsException", "java/lang/IllegalArgumentException", "java/lang/UnsupportedOperationException", "java/util/NoSuchElementException"]
def mExi : List Nat := [98, 115, 129, 276]
def mXnm : List String := ["java/lang/RuntimeException", "java/lang/Exception"]
def mThI : List Nat := [138, 139, 140, 141, 142, 143, 144, 151, 152, 336, 337, 338, 340, 1328, 1329, 1330, 1335, 1336, 1337, 1338, 1339, 1340, 1341, 1342, 1343, 1344, 1345, 1346, 1347, 1348, 1349, 1350, 1351, 1352, 1353, 1354, 1355, 1356, 1357, 1358, 1359, 1360, 1361, 1362, 1363, 1364, 1365, 1366, 1367, 1368, 1369, 1370, 1371, 1372, 1373, 1374, 1375, 1376, 1378, 1379, 1380, 1381, 1382, 1383, 1384, 1385, 1386, 1387, 1388, 1389, 1390, 1391, 1392, 1393, 1394, 1395, 1396, 1397, 1398, 1399, 1400, 1401, 1402, 1410, 1411, 1412, 1413, 1414, 1415, 1416, 1417, 1418, 1420, 1421, 1422, 1423, 1424, 1425, 1434, 1435, 1436, 1437, 1438, 1439, 1440, 1441, 1442, 1444, 1445, 1446, 1447, 1448, 1449, 1522, 1528, 1529, 1530, 1531, 1532, 1533, 1534, 1535, 1536, 1538, 1539, 1540, 1541, 1542, 1543, 2084, 2099, 2100, 2101, 2102, 2103]
def mThW : List Cond := mThI.filterMap (fun i => lw_tbl[i]?)
theorem mThW_in {w : Cond} (h : w ∈ mThW) : w ∈ lw_tbl := by
  obtain ⟨i, -, hi⟩ := List.mem_filterMap.mp h
  exact List.mem_of_getElem? hi
theorem mXw_0 : (vx_atS "ChipCard" 98 "java/lang/IndexOutOfBoundsException" mXnm).all (fun w => mThW.contains w && mGood w && vx_ot w) = true := by decide +kernel
theorem mXw_1 : (vx_atS "ChipCard" 115 "java/lang/IllegalArgumentException" mXnm).all (fun w => mThW.contains w && mGood w && vx_ot w) = true := by decide +kernel
theorem mXw_2 : (vx_atS "ChipCard" 129 "java/lang/UnsupportedOperationException" mXnm).all (fun w => mThW.contains w && mGood w && vx_ot w) = true := by decide +kernel
abbrev mNsc : ByteArray := prog_33_method_4_code
abbrev mNsa : List Cond := (mAtG "ChipCard" 276 "java/util/NoSuchElementException" "java/lang/RuntimeException" 13 mNsc ["java/lang/Exception"]).filter vx_no
theorem mXw_3 : mNsa.all (fun w => mThW.contains w && mGood w && vx_ot w) = true := by decide +kernel
theorem mNs_0 : decode mNsc 0 = .ok (.aload_n 0, 1) := by decide +kernel
theorem mNs_1 : decode mNsc 1 = .ok (.aload_n 1, 1) := by decide +kernel
theorem mNs_2 : decode mNsc 2 = .ok (.invokespecial 13, 3) := by decide +kernel
theorem mNs_5 : decode mNsc 5 = .ok (.return_, 1) := by decide +kernel
theorem mXwA {l : List Cond} (h : l.all (fun w => mThW.contains w && mGood w && vx_ot w) = true) : ∀ w ∈ l, w ∈ lw_tbl ∧ mGood w = true ∧ vx_ot w = true := by
  intro w hw
  have := List.all_eq_true.mp h w hw
  simp only [Bool.and_eq_true] at this
  exact ⟨mThW_in (List.contains_iff_mem.mp this.1.1), this.1.2, this.2⟩
theorem mXw {e : Nat} {E : String} {ic : Nat} (he : e ≠ 3) (h1 : mExc[e]? = some E) (h2 : mExi[e]? = some ic) : ∀ w ∈ vx_atS "ChipCard" ic E mXnm, w ∈ lw_tbl ∧ mGood w = true ∧ vx_ot w = true := by
  match e, h1, h2 with
  | 0, h1, h2 => cases h1; cases h2; exact mXwA mXw_0
  | 1, h1, h2 => cases h1; cases h2; exact mXwA mXw_1
  | 2, h1, h2 => cases h1; cases h2; exact mXwA mXw_2
  | 3, h1, h2 => exact absurd rfl he
  | k + 4, h1, h2 => simp [mExc] at h1
/-- a site: by a wide index or not, pool entries of the class and of the text, the text, places of two words -/
def mXok (q : ((Nat × Nat) × Nat) × (Bool × Nat × Nat × String × Nat × Nat)) : Bool := match mTab[q.1.1.1]?, mExc[q.1.2]?, mExi[q.1.2]? with
  | some M, some E, some ic => q.2.1 == decide (q.1.2 = 3) && M.1.cls == "ChipCard" && M.2.2.2.2.2.isEmpty && decide (decode M.2.1 q.1.1.2 = .ok (.new q.2.2.1, 3)) && decide (decode M.2.1 (q.1.1.2 + 3) = .ok (.dup, 1)) &&
    (if q.2.1 = true then decide (decode M.2.1 (q.1.1.2 + 4) = .ok (.ldc_w q.2.2.2.1, 3)) && decide (decode M.2.1 (q.1.1.2 + 7) = .ok (.invokespecial ic, 3)) && decide (decode M.2.1 (q.1.1.2 + 10) = .ok (.athrow, 1))
      else decide (decode M.2.1 (q.1.1.2 + 4) = .ok (.ldc q.2.2.2.1, 2)) && decide (decode M.2.1 (q.1.1.2 + 6) = .ok (.invokespecial ic, 3)) && decide (decode M.2.1 (q.1.1.2 + 9) = .ok (.athrow, 1))) &&
    mStr.contains ("ChipCard", q.2.2.2.1, q.2.2.2.2.1) && lw_tbl[q.2.2.2.2.2.1]? == some (Cond.classLink "ChipCard" q.2.2.1 E) && lw_tbl[q.2.2.2.2.2.2]? == some (Cond.initialized E) && Bundle.fit E
  | _, _, _ => false
def xTIx : List (Bool × Nat × Nat × String × Nat × Nat) := [(false, 94, 96, "there is no such file above", 1335, 141), (false, 111, 113, "no directory above, or the id can not be had", 1410, 142), (false, 111, 120, "no such kind, or not of this size", 1410, 142), (false, 125, 127, "the card is full", 1434, 143), (false, 94, 147, "there is no such file with bytes", 1335, 141), (false, 111, 152, "the bytes go beyond the file", 1410, 142), (false, 111, 161, "no such sort or qualifier", 1410, 142), (false, 111, 163, "the text is too long", 1410, 142), (false, 125, 168, "there are 40 nodes", 1434, 143), (false, 94, 180, "there is no such node", 1335, 141), (false, 111, 188, "no choice, or no such identifier", 1410, 142), (false, 111, 194, "the identifier is there already, or the text is too long", 1410, 142), (false, 125, 199, "there are 5 items", 1434, 143), (false, 111, 205, "the title is too long", 1410, 142), (true, 272, 274, "the out has no such byte", 1528, 144)]
theorem xT_ok : (xTTab.zip xTIx).all mXok = true := by decide +kernel
def mEn (q : Nat × Nat × Nat × Nat) : ExceptionTableEntry := ⟨q.1, q.2.1, q.2.2.1, q.2.2.2⟩
/-- a handler: its place in the table; the rows ahead: places of their words, their classes; places of its own words -/
def mCatOk (q : ((Nat × Nat × Nat) × (Nat × Nat)) × (Nat × List (Nat × String) × Nat × Nat)) : Bool := match mTab[q.1.1.1]?, mExc[q.1.1.2.2]? with
  | some M, some E => (match M.2.2.2.2.2[q.2.1]? with
    | some x => covers (mEn x) q.1.1.2.1 && decide (x.2.2.2 ≠ 0) && lw_tbl[q.2.2.2.1]? == some (Cond.classLink M.1.cls x.2.2.2 E) && lw_tbl[q.2.2.2.2]? == some (Cond.castable E E) &&
      ((decide (decode M.2.1 x.2.2.1 = .ok (.astore q.1.2.2, 2)) && decide (q.1.2.1 = x.2.2.1 + 2)) || (decide (q.1.2.2 < 4) && decide (decode M.2.1 x.2.2.1 = .ok (.astore_n (Fin.ofNat 4 q.1.2.2), 1)) && decide (q.1.2.1 = x.2.2.1 + 1))) &&
      decide ((M.2.2.2.2.2.take q.2.1).length = q.2.2.1.length) && ((M.2.2.2.2.2.take q.2.1).zip q.2.2.1).all (fun z => decide (z.1.2.2.2 ≠ 0) && mNcs.contains (E, z.2.2) && lw_tbl[z.2.1]? == some (Cond.classLink M.1.cls z.1.2.2.2 z.2.2))
    | none => false)
  | _, _ => false
def mCatIx : List (Nat × List (Nat × String) × Nat × Nat) := [(0, [], 1328, 1337), (1, [(1328, "java/lang/IndexOutOfBoundsException")], 1329, 1412), (2, [(1328, "java/lang/IndexOutOfBoundsException"), (1329, "java/lang/IllegalArgumentException")], 1330, 1436), (0, [], 1328, 1337), (1, [(1328, "java/lang/IndexOutOfBoundsException")], 1329, 1412), (0, [], 1329, 1412), (1, [(1329, "java/lang/IllegalArgumentException")], 1330, 1436), (0, [], 1328, 1337), (1, [(1328, "java/lang/IndexOutOfBoundsException")], 1329, 1412), (2, [(1328, "java/lang/IndexOutOfBoundsException"), (1329, "java/lang/IllegalArgumentException")], 1330, 1436), (0, [], 1329, 1412), (0, [], 1522, 1530)]
theorem mCat_ok : (mCatT.zip mCatIx).all mCatOk = true := by decide +kernel
