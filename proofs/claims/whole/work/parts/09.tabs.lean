/-! What the program's tables rest on: each row of them is a word of the Statement's tables (by its place there), by the kernel. -/
theorem mOwn_ok : ∀ M ∈ mTab, mOwn[M.2.2.2.2.1]? = some M.1.cls := by decide +kernel
theorem mIn {i : Nat} {w : Cond} (h : (tables_1[i]? == some w) = true) : w ∈ lw_tbl := List.mem_append_right _ (List.mem_of_getElem? (eq_of_beq h))
def mFok (q : ((Nat × Nat) × (Nat × Nat)) × (Nat × Nat × Nat)) : Bool := match mOwn[q.1.1.1]?, vwCl[q.1.2.1]? with
  | some own, some (C, T, N) => decide (q.1.2.2 < N) && (match q.2.1 with
    | 0 => tables_1[q.2.2.1]? == some (Cond.fieldLink own q.1.1.2 (T q.1.2.2).1 (T q.1.2.2).2.1 (T q.1.2.2).2.2.1)
    | 1 => tables_1[q.2.2.1]? == some (Cond.fieldLink own q.1.1.2 C (T q.1.2.2).2.1 (T q.1.2.2).2.2.1) && tables_1[q.2.2.2]? == some (Cond.sameField C (T q.1.2.2).1 (T q.1.2.2).2.1 (T q.1.2.2).2.2.1)
    | _ => tables_1[q.2.2.1]? == some (Cond.fieldLinkNest own q.1.1.2 (T q.1.2.2).1 (T q.1.2.2).2.1 (T q.1.2.2).2.2.1 "ChipCard"))
  | _, _ => false
def fTIx : List (Nat × Nat × Nat) := [(0, 151, 0), (0, 154, 0), (0, 131, 0), (0, 134, 0), (0, 137, 0), (0, 142, 0), (0, 145, 0), (0, 148, 0), (0, 150, 0), (0, 322, 0), (0, 323, 0), (0, 324, 0), (0, 325, 0), (0, 326, 0), (0, 327, 0), (2, 132, 0), (2, 69, 0), (2, 72, 0), (2, 63, 0), (2, 153, 0), (2, 146, 0), (2, 76, 0), (2, 156, 0), (2, 139, 0), (2, 149, 0), (2, 136, 0), (2, 144, 0), (0, 241, 0), (2, 143, 0), (0, 242, 0), (2, 133, 0), (2, 135, 0), (2, 140, 0), (0, 368, 0), (0, 380, 0), (0, 361, 0), (0, 364, 0), (0, 366, 0), (0, 373, 0), (0, 369, 0), (0, 370, 0), (0, 371, 0), (0, 372, 0), (0, 379, 0), (0, 408, 0), (0, 409, 0), (0, 412, 0), (0, 413, 0), (2, 362, 0), (0, 60, 0), (0, 74, 0), (0, 64, 0), (0, 66, 0), (0, 68, 0), (0, 71, 0), (0, 44, 0), (0, 45, 0), (0, 271, 0), (0, 272, 0), (0, 273, 0), (0, 275, 0), (2, 62, 0), (0, 277, 0), (2, 70, 0), (2, 73, 0), (0, 432, 0), (0, 433, 0), (0, 434, 0), (0, 437, 0), (0, 431, 0), (0, 435, 0), (0, 442, 0), (0, 441, 0), (0, 444, 0), (2, 363, 0), (0, 477, 0), (0, 478, 0), (0, 479, 0), (0, 480, 0), (0, 494, 0), (0, 490, 0), (0, 491, 0), (0, 492, 0), (0, 493, 0), (2, 61, 0), (2, 410, 0), (2, 438, 0), (2, 75, 0), (2, 440, 0), (2, 365, 0), (2, 436, 0), (2, 443, 0), (2, 367, 0), (2, 375, 0), (2, 141, 0), (2, 378, 0), (2, 147, 0), (0, 506, 0), (0, 507, 0), (0, 508, 0), (0, 509, 0), (0, 510, 0), (0, 511, 0), (0, 512, 0), (0, 513, 0), (0, 514, 0), (0, 515, 0), (2, 138, 0), (2, 152, 0), (2, 155, 0), (2, 411, 0), (2, 374, 0), (2, 377, 0), (2, 381, 0), (2, 376, 0), (2, 278, 0), (0, 516, 0), (2, 439, 0), (2, 274, 0), (2, 276, 0), (2, 328, 0), (2, 243, 0), (2, 65, 0), (2, 67, 0), (0, 1458, 0), (0, 1460, 0), (0, 1459, 0), (0, 1461, 0), (0, 1462, 0), (0, 1463, 0), (0, 1464, 0), (0, 1465, 0), (0, 1466, 0), (0, 1467, 0), (0, 1468, 0), (0, 1469, 0), (0, 1470, 0), (0, 1473, 0), (0, 1474, 0), (0, 1475, 0), (0, 1476, 0), (0, 1477, 0), (0, 1478, 0), (0, 1479, 0), (0, 1480, 0), (0, 1481, 0), (0, 1482, 0), (0, 1483, 0), (0, 1484, 0), (0, 1485, 0), (0, 1486, 0), (0, 1488, 0), (0, 1489, 0), (0, 1490, 0), (0, 1491, 0), (0, 1492, 0), (0, 1493, 0), (0, 1494, 0), (0, 1501, 0), (0, 1507, 0), (0, 1513, 0), (0, 1514, 0), (0, 1517, 0), (0, 1472, 0), (0, 1471, 0), (0, 1487, 0), (0, 1496, 0), (0, 1497, 0), (0, 1498, 0), (0, 1495, 0), (0, 1499, 0), (0, 1502, 0), (0, 1504, 0), (0, 1508, 0), (0, 1506, 0), (0, 1509, 0), (0, 1510, 0), (0, 1511, 0), (0, 1512, 0), (0, 1516, 0), (0, 1515, 0), (0, 1500, 0), (0, 1503, 0), (0, 1505, 0), (0, 1518, 0), (0, 112, 0), (0, 110, 0), (0, 111, 0), (1, 113, 114)]
theorem fT_ok : (fTTab.zip fTIx).all mFok = true := by decide +kernel
def mKok (q : ((Nat × Nat) × Int32) × Nat) : Bool := match mOwn[q.1.1.1]? with
  | some own => tables_1[q.2]? == some (Cond.constant own q.1.1.2 q.1.2)
  | none => false
def kTIx : List Nat := [717, 711, 712, 714, 715, 716, 1293, 920, 924, 940, 957, 958, 257, 270, 835, 906, 1091, 1161, 1162, 1811, 1762, 1935, 198]
theorem kT_ok : (kTTab.zip kTIx).all mKok = true := by decide +kernel
def mJok (q : ((Nat × Nat) × Int64) × Nat) : Bool := match mOwn[q.1.1.1]? with
  | some own => tables_1[q.2]? == some (Cond.constantLong own q.1.1.2 q.1.2)
  | none => false
def jTIx : List Nat := [1654, 1655, 1660, 1661, 1666, 1683, 1720, 1721]
theorem jT_ok : (jTTab.zip jTIx).all mJok = true := by decide +kernel
def mCok (q : ((Nat × Nat) × Nat) × (Nat × Nat × Nat)) : Bool := match mOwn[q.1.1.1]?, vwCl[q.1.2]? with
  | some own, some (C, _, N) => tables_1[q.2.1]? == some (Cond.classLink own q.1.1.2 C) && tables_1[q.2.2.1]? == some (Cond.instantiable C N) && tables_1[q.2.2.2]? == some (Cond.initialized C)
  | _, _ => false
def cTIx : List (Nat × Nat × Nat) := [(96, 97, 7), (122, 123, 8), (359, 39, 2), (348, 97, 7), (350, 351, 18), (352, 39, 2), (58, 39, 2), (1368, 39, 2), (255, 39, 2), (429, 39, 2), (471, 472, 21), (38, 39, 2), (52, 53, 3), (90, 91, 4), (249, 250, 13), (290, 291, 14), (342, 343, 17), (423, 424, 19), (465, 466, 20), (30, 31, 1), (1444, 1445, 22)]
theorem cT_ok : (cTTab.zip cTIx).all mCok = true := by decide +kernel
def mAok (q : ((Nat × Nat) × Nat) × Nat) : Bool := match mOwn[q.1.1.1]? with
  | some own => (decide (q.1.2 = 3) && tables_1[q.2]? == some (Cond.classLink own q.1.1.2 "ChipCard$Row")) || (decide (q.1.2 = 4) && tables_1[q.2]? == some (Cond.classLink own q.1.1.2 "java/lang/Object"))
  | none => false
def aTIx : List Nat := [359, 352, 58, 1368, 255, 429, 38, 240, 232]
theorem aT_ok : (aTTab.zip aTIx).all mAok = true := by decide +kernel
def mSok (q : ((Nat × Nat) × Nat) × (Nat × Nat × Nat)) : Bool := match mOwn[q.1.1.1]?, mSta[q.2.2.2]? with
  | some own, some z => decide (z.1 = q.1.2) && (match q.2.1 with
    | 0 => tables_1[q.2.2.1]? == some (Cond.fieldLink own q.1.1.2 z.2.1 z.2.2.1 z.2.2.2)
    | _ => tables_1[q.2.2.1]? == some (Cond.fieldLinkNest own q.1.1.2 z.2.1 z.2.2.1 z.2.2.2 "ChipCard"))
  | _, _ => false
def sTIx : List (Nat × Nat × Nat) := [(1, 890, 0), (1, 1004, 1), (1, 1096, 2), (1, 1106, 3), (1, 1116, 4), (1, 1130, 5), (0, 108, 6)]
theorem sT_ok : (sTTab.zip sTIx).all mSok = true := by decide +kernel
def mUIx : List (List Nat) := [[119, 115, 117], [157, 159, 161, 163, 165, 167, 169, 171, 173], [329, 331, 333, 335, 337, 339], [244, 246], [382, 384, 386, 388, 390, 392, 394, 396, 398, 400, 402, 404], [414, 416, 418, 420], [77, 79, 81, 83, 85, 87], [46, 48], [279, 281, 283, 285, 287], [445, 447, 449, 451, 453, 455, 457, 459, 461], [481, 483, 485, 487], [495, 497, 499, 501, 503], [517, 519, 521, 523, 525, 527, 529, 531, 533, 535, 537], [1519, 1521, 1523, 1525, 1527, 1529, 1531, 1533, 1535, 1537, 1539, 1541, 1543, 1545, 1547, 1549, 1551, 1553, 1555, 1557, 1559, 1561, 1563, 1565, 1567, 1569, 1571, 1573, 1575, 1577, 1579, 1581, 1583, 1585, 1587, 1589, 1591, 1593, 1595, 1597, 1599, 1601, 1603, 1605, 1607, 1609, 1611, 1613, 1615, 1617, 1619, 1621, 1623, 1625, 1627, 1629, 1631, 1633, 1635, 1637, 1639]]
def mCaIx : List Nat := [1974, 1975, 1977, 1973, 1979, 1978, 1972, 1970, 1976, 1980, 1982, 1981, 1971, 1983]
theorem mU_ok0 : (vwCl.zip mUIx).all (fun q => ((u_ws q.1.1 q.1.2.1 q.1.2.2).zip q.2).all (fun z => tables_1[z.2]? == some z.1 && mGood z.1) && decide ((u_ws q.1.1 q.1.2.1 q.1.2.2).length = q.2.length)) = true := by decide +kernel
theorem mCast_ok0 : (vwCl.zip mCaIx).all (fun q => tables_1[q.2]? == some (Cond.castable q.1.1 "java/lang/Object")) = true := by decide +kernel
theorem zip_all {α β : Type} {l : List α} {l' : List β} {P : α × β → Bool} (hl : l.length ≤ l'.length) (h : (l.zip l').all P = true) {x : α} (hx : x ∈ l) : ∃ y, P (x, y) = true := by
  obtain ⟨i, hi, rfl⟩ := List.getElem_of_mem hx
  exact ⟨l'[i], List.all_eq_true.mp h _ (List.mem_of_getElem? (i := i) (by rw [List.getElem?_zip_eq_some]; exact ⟨List.getElem?_eq_getElem hi, List.getElem?_eq_getElem (by omega)⟩))⟩
theorem mCast_ok : ∀ q ∈ vwCl, Cond.castable q.1 "java/lang/Object" ∈ lw_tbl := by
  intro q hq
  obtain ⟨i, hi⟩ := zip_all (by decide) mCast_ok0 hq
  exact mIn hi
theorem mU_ok : ∀ q ∈ vwCl, ∀ w ∈ u_ws q.1 q.2.1 q.2.2, w ∈ lw_tbl ∧ mGood w = true := by
  intro q hq w hw
  obtain ⟨r, hr⟩ := zip_all (by decide) mU_ok0 hq
  rw [Bool.and_eq_true] at hr
  obtain ⟨i, hi⟩ := zip_all (by rw [of_decide_eq_true hr.2]; exact Nat.le_refl _) hr.1 hw
  rw [Bool.and_eq_true] at hi
  exact ⟨mIn hi.1, hi.2⟩
theorem lookup_mem {β : Type} {l : List ((Nat × Nat) × β)} {k : Nat × Nat} {v : β} (h : l.lookup k = some v) : (k, v) ∈ l := by
  induction l with
  | nil => cases h
  | cons q t ih =>
    obtain ⟨q1, q2⟩ := q
    rw [List.lookup_cons] at h
    split at h
    · rename_i hk
      have := eq_of_beq hk
      cases h
      subst this
      exact List.mem_cons_self
    · exact List.mem_cons_of_mem _ (ih h)
def mRefTy (t : FieldType) : Bool := match t with
  | .object _ => true
  | .array _ => true
  | _ => false
/-- a field of class ci, by the pure machine's table -/
abbrev mFd (ci j : Nat) : Nat × Bool × String := (mFk.getD ci []).getD j (9, false, "")
/-- what the class tables say, class by class -/
def mClOk (ci : Nat) (q : vw_C) (ty : Nat → FieldType) : Prop := (∀ k, k < q.2.2 → parseFieldDescriptor (q.2.1 k).2.2.1 = some (ty k)) ∧ (∀ a, a < q.2.2 → ∀ b, b < q.2.2 → a ≠ b → (q.2.1 a).2.1 ≠ (q.2.1 b).2.1) ∧
  (∀ k, k < q.2.2 → ((mFd ci k).1 = 0 → ty k = .int) ∧ ((mFd ci k).1 = 1 → ty k = .boolean) ∧ ((mFd ci k).1 = 2 → mRefTy (ty k) = true) ∧ (q.2.1 k).2.2.2 = (mFd ci k).2.1 ∧ (q.2.1 k).1 = (mFd ci k).2.2) ∧
  (mDef ci).length = q.2.2 ∧ ∀ k, k < q.2.2 → defaultValue (ty k) = vp_V (mDef ci) k
set_option maxRecDepth 20000 in
theorem mClOk_0 : mClOk 0 (RJx4a65c, TJx4a65c, 3) tyJx4a65c := ⟨tyJx4a65c_ok, nmJx4a65c, by decide +kernel, by decide +kernel, by decide +kernel⟩
set_option maxRecDepth 20000 in
theorem mClOk_1 : mClOk 1 (RX0, TX0, 9) tyX0 := ⟨tyX0_ok, nmX0, by decide +kernel, by decide +kernel, by decide +kernel⟩
set_option maxRecDepth 20000 in
theorem mClOk_2 : mClOk 2 (RX1, TX1, 6) tyX1 := ⟨tyX1_ok, nmX1, by decide +kernel, by decide +kernel, by decide +kernel⟩
set_option maxRecDepth 20000 in
theorem mClOk_3 : mClOk 3 (RX2, TX2, 2) tyX2 := ⟨tyX2_ok, nmX2, by decide +kernel, by decide +kernel, by decide +kernel⟩
set_option maxRecDepth 20000 in
theorem mClOk_4 : mClOk 4 (RX3, TX3, 12) tyX3 := ⟨tyX3_ok, nmX3, by decide +kernel, by decide +kernel, by decide +kernel⟩
set_option maxRecDepth 20000 in
theorem mClOk_5 : mClOk 5 (RX4, TX4, 4) tyX4 := ⟨tyX4_ok, nmX4, by decide +kernel, by decide +kernel, by decide +kernel⟩
set_option maxRecDepth 20000 in
theorem mClOk_6 : mClOk 6 (RX5, TX5, 6) tyX5 := ⟨tyX5_ok, nmX5, by decide +kernel, by decide +kernel, by decide +kernel⟩
set_option maxRecDepth 20000 in
theorem mClOk_7 : mClOk 7 (RX6, TX6, 2) tyX6 := ⟨tyX6_ok, nmX6, by decide +kernel, by decide +kernel, by decide +kernel⟩
set_option maxRecDepth 20000 in
theorem mClOk_8 : mClOk 8 (RX7, TX7, 5) tyX7 := ⟨tyX7_ok, nmX7, by decide +kernel, by decide +kernel, by decide +kernel⟩
set_option maxRecDepth 20000 in
theorem mClOk_9 : mClOk 9 (RX8, TX8, 9) tyX8 := ⟨tyX8_ok, nmX8, by decide +kernel, by decide +kernel, by decide +kernel⟩
set_option maxRecDepth 20000 in
theorem mClOk_10 : mClOk 10 (RX9, TX9, 4) tyX9 := ⟨tyX9_ok, nmX9, by decide +kernel, by decide +kernel, by decide +kernel⟩
set_option maxRecDepth 20000 in
theorem mClOk_11 : mClOk 11 (RX10, TX10, 5) tyX10 := ⟨tyX10_ok, nmX10, by decide +kernel, by decide +kernel, by decide +kernel⟩
set_option maxRecDepth 20000 in
theorem mClOk_12 : mClOk 12 (RX11, TX11, 11) tyX11 := ⟨tyX11_ok, nmX11, by decide +kernel, by decide +kernel, by decide +kernel⟩
set_option maxRecDepth 20000 in
theorem mClOk_13 : mClOk 13 (RX12, TX12, 61) tyX12 := ⟨tyX12_ok, nmX12, by decide +kernel, by decide +kernel, by decide +kernel⟩
theorem mCl_ok {ci : Nat} {q : vw_C} (h : vwCl[ci]? = some q) : ∃ ty, mClOk ci q ty := by
  match ci, h with
  | 0, h => cases h; exact ⟨_, mClOk_0⟩
  | 1, h => cases h; exact ⟨_, mClOk_1⟩
  | 2, h => cases h; exact ⟨_, mClOk_2⟩
  | 3, h => cases h; exact ⟨_, mClOk_3⟩
  | 4, h => cases h; exact ⟨_, mClOk_4⟩
  | 5, h => cases h; exact ⟨_, mClOk_5⟩
  | 6, h => cases h; exact ⟨_, mClOk_6⟩
  | 7, h => cases h; exact ⟨_, mClOk_7⟩
  | 8, h => cases h; exact ⟨_, mClOk_8⟩
  | 9, h => cases h; exact ⟨_, mClOk_9⟩
  | 10, h => cases h; exact ⟨_, mClOk_10⟩
  | 11, h => cases h; exact ⟨_, mClOk_11⟩
  | 12, h => cases h; exact ⟨_, mClOk_12⟩
  | 13, h => cases h; exact ⟨_, mClOk_13⟩
  | k + 14, h => simp [vwCl] at h
theorem mFits_ok {ci j : Nat} {q : vw_C} {ty : Nat → FieldType} {v : Value} (h : mClOk ci q ty) (hj : j < q.2.2) (hv : mFits ci j v = true) : narrow (ty j) v = v ∧ fits (ty j) v = true := by
  obtain ⟨-, -, h3, -⟩ := h
  obtain ⟨h0, h1, h2, -⟩ := h3 j hj
  unfold mFits at hv
  split at hv
  · rename_i hk
    rw [h0 hk]
    exact ⟨rfl, rfl⟩
  · rename_i x hk
    rw [h1 hk]
    rcases of_decide_eq_true hv with rfl | rfl <;> exact ⟨by decide, by decide⟩
  · rename_i hk
    have := h2 hk
    cases ht : ty j <;> rw [ht] at this <;> first | (cases this; done) | exact ⟨rfl, rfl⟩
  · rename_i hk
    have := h2 hk
    cases ht : ty j <;> rw [ht] at this <;> first | (cases this; done) | exact ⟨rfl, rfl⟩
  · cases hv
theorem mTab_own {mi : Nat} {M : mM} (h : mTab[mi]? = some M) : mOwn[M.2.2.2.2.1]? = some M.1.cls := mOwn_ok M (List.mem_of_getElem? h)
theorem mOne {D : va_G} {cl : List vw_C} {q : Nat × va_E} {H : Heap} (h : va_at D cl q H) : va_P D cl [q] H := by
  intro k q' hk
  have hz : k < 1 := (List.getElem?_eq_some_iff.mp hk).1
  rw [show k = 0 by omega] at hk
  cases hk
  exact h
