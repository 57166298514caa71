/-! Class: Row, loops: addPart, addAll, startsWith. -/
section MROW3
variable {G : mG} {h : mH} {n k r p c r2 p2 c2 : Nat} {Q : mR → Prop} {len len2 : Int} {g g2 : Nat → Int}
/-- two rows set -/
theorem rU_comm {h : mH} (h1 : r ≠ r2) (h2 : r ≠ p2) (h3 : p ≠ r2) (h4 : p ≠ p2) : rU (rU h r p c len g) r2 p2 c2 len2 g2 = rU (rU h r2 p2 c2 len2 g2) r p c len g := by
  unfold rU
  rw [mUp_comm (a := r) (b := p2) h2, mUp_comm (a := r) (b := r2) h1, mUp_comm (a := p) (b := p2) h4, mUp_comm (a := p) (b := r2) h3]
/-- n bytes of another row, from a place on, behind -/
def rcp (g : Nat → Int) (len : Int) (f : Int → Int) : Nat → (Nat → Int)
  | 0 => g
  | d + 1 => upE (rcp g len f d) (len + d).toNat (f d % 256)
theorem c89_l {s N : Int} (hg2 : ∀ j, 0 ≤ g2 j ∧ g2 j ≤ 255) (h1 : r ≠ r2) (h2 : r ≠ p2) (h3 : p ≠ r2) (h4 : p ≠ p2) (hne : p ≠ r) (hne2 : p2 ≠ r2) (hb : G.2.2.2 ≤ r) (hb2 : G.2.2.2 ≤ p) (hc : c < 100000) (hc2 : c2 < 100000) (hl2 : 0 ≤ len2 ∧ len2 ≤ c2) (hl : 0 ≤ len) (hN : len + N ≤ c) (hs : 0 ≤ s ∧ s < 100000) : ∀ (d : Nat) (i : Nat), (i : Int) + d = N →
    (mX G 89 3 [.ref r, .ref r2, .int (iI s), .int (iI N), .int (iI i)] [] (rU (rU h r2 p2 c2 len2 g2) r p c (len + i) (rcp g len (fun j => rget len2 g2 (s + j)) i)) n k Q ↔ Q (.inl none, rU (rU h r2 p2 c2 len2 g2) r p c (len + N) (rcp g len (fun j => rget len2 g2 (s + j)) (i + d)), n, k)) := by
  intro d
  induction d with
  | zero =>
    intro i e
    obtain rfl : (i : Int) = N := by omega
    rw [s89_3]
    simp (maxSteps := 1000000) (disch := first | omega | (simp only [updI_at, upA_at, Nat.reduceEqDiff, reduceIte]; omega)) only [↓s89_0, ↓s89_1, ↓s89_5, ↓s89_6, ↓s89_9, ↓s89_10, ↓s89_11, ↓s89_12, ↓s89_14, ↓s89_15, ↓s89_18, ↓s89_21, ↓s89_24, ↓s89_27, wc_1, wc_12, wc_14, wc_29, wc_31, wc_39, wc_4, wc_41, mN1_int, mN1_ref, mN1_null, mN1_U, mN1_rf, mCats_nil, mCats_int, mCats_ref, mCats_null, mCats_long, mCats_rf, mIsRef_ref, mIsRef_null, mIsRef_va, mRf_ref, mRf_null, mRf_rf, true_and, and_true, true_or, or_true, eq_self_iff_true, mK_v, mK_0, Nat.reduceAdd, Nat.reduceLeDiff, Nat.zero_le, iL_0, iL_1, iL_m1, iI_add, iI_sub, iI_mul, iI_neg, updI_at, upA_at, upP_at, upR_at, Nat.reduceEqDiff, reduceIte, Int.reduceAdd, Int.reduceSub, Int.reduceMul, Int.reduceDiv, Int.reduceMod, Int.reduceLT, Int.reduceLE, Int.reduceEq, Int.reduceNeg, not_true_eq_false, not_false_eq_true, Decidable.not_not, iI_le, Int.le_refl]
    rfl
  | succ d ih =>
    intro i e
    rw [s89_3]
    have q := rget_rng (len := len2) hg2 (s + i)
    have ro : mRecv (rU (rU h r2 p2 c2 len2 g2) r p c (len + i) (rcp g len (fun j => rget len2 g2 (s + j)) i)) r2 7 ↔ True := by
      rw [← rU_comm h1 h2 h3 h4]; exact ruR
    have ge : ∀ Q', mX G 80 0 [.ref r2, .int (iI (s + i))] [] (rU (rU h r2 p2 c2 len2 g2) r p c (len + i) (rcp g len (fun j => rget len2 g2 (s + j)) i)) n k Q' ↔ Q' (.inl (some (.int (iI (rget len2 g2 (s + i))))), rU (rU h r2 p2 c2 len2 g2) r p c (len + i) (rcp g len (fun j => rget len2 g2 (s + j)) i), n, k) := by
      intro Q'
      rw [← rU_comm h1 h2 h3 h4, c80 hne2 hc2 hl2 (by omega)]
    simp (maxSteps := 1000000) (disch := first | omega | (simp only [updI_at, upA_at, Nat.reduceEqDiff, reduceIte]; omega)) only [↓s89_0, ↓s89_1, ↓s89_5, ↓s89_6, ↓s89_9, ↓s89_10, ↓s89_11, ↓s89_12, ↓s89_14, ↓s89_15, ↓s89_18, ↓s89_21, ↓s89_24, ↓s89_27, wc_1, wc_12, wc_14, wc_29, wc_31, wc_39, wc_4, wc_41, mN1_int, mN1_ref, mN1_null, mN1_U, mN1_rf, mCats_nil, mCats_int, mCats_ref, mCats_null, mCats_long, mCats_rf, mIsRef_ref, mIsRef_null, mIsRef_va, mRf_ref, mRf_null, mRf_rf, true_and, and_true, true_or, or_true, eq_self_iff_true, mK_v, mK_0, Nat.reduceAdd, Nat.reduceLeDiff, Nat.zero_le, iL_0, iL_1, iL_m1, iI_add, iI_sub, iI_mul, iI_neg, updI_at, upA_at, upP_at, upR_at, Nat.reduceEqDiff, reduceIte, Int.reduceAdd, Int.reduceSub, Int.reduceMul, Int.reduceDiv, Int.reduceMod, Int.reduceLT, Int.reduceLE, Int.reduceEq, Int.reduceNeg, not_true_eq_false, not_false_eq_true, Decidable.not_not, iI_le, ruR, ro, ge, c85]
    rw [if_neg (by omega), Int.add_assoc]
    have e9 := ih (i + 1) (by omega)
    rw [show ((i + 1 : Nat) : Int) = (i : Int) + 1 by omega, show i + 1 + d = i + (d + 1) by omega] at e9
    exact e9
theorem c89 {s N : Int} (hg2 : ∀ j, 0 ≤ g2 j ∧ g2 j ≤ 255) (h1 : r ≠ r2) (h2 : r ≠ p2) (h3 : p ≠ r2) (h4 : p ≠ p2) (hne : p ≠ r) (hne2 : p2 ≠ r2) (hb : G.2.2.2 ≤ r) (hb2 : G.2.2.2 ≤ p) (hc : c < 100000) (hc2 : c2 < 100000) (hl2 : 0 ≤ len2 ∧ len2 ≤ c2) (hl : 0 ≤ len) (hN0 : 0 ≤ N) (hN : len + N ≤ c) (hs : 0 ≤ s ∧ s < 100000) :
    mX G 89 0 [.ref r, .ref r2, .int (iI s), .int (iI N), mU] [] (rU (rU h r2 p2 c2 len2 g2) r p c len g) n k Q ↔ Q (.inl none, rU (rU h r2 p2 c2 len2 g2) r p c (len + N) (rcp g len (fun j => rget len2 g2 (s + j)) N.toNat), n, k) := by
  simp (maxSteps := 1000000) (disch := first | omega | (simp only [updI_at, upA_at, Nat.reduceEqDiff, reduceIte]; omega)) only [↓s89_0, ↓s89_1, mN1_int, mN1_ref, mN1_null, mN1_U, mN1_rf, mCats_nil, mCats_int, mCats_ref, mCats_null, mCats_long, mCats_rf, mIsRef_ref, mIsRef_null, mIsRef_va, mRf_ref, mRf_null, mRf_rf, true_and, and_true, true_or, or_true, eq_self_iff_true, mK_v, mK_0, Nat.reduceAdd, Nat.reduceLeDiff, Nat.zero_le, iL_0, iL_1, iL_m1, iI_add, iI_sub, iI_mul, iI_neg, updI_at, upA_at, upP_at, upR_at, Nat.reduceEqDiff, reduceIte, Int.reduceAdd, Int.reduceSub, Int.reduceMul, Int.reduceDiv, Int.reduceMod, Int.reduceLT, Int.reduceLE, Int.reduceEq, Int.reduceNeg, not_true_eq_false, not_false_eq_true, Decidable.not_not]
  have e := c89_l (h := h) (g := g) (n := n) (k := k) (Q := Q) (s := s) (N := N) hg2 h1 h2 h3 h4 hne hne2 hb hb2 hc hc2 hl2 hl hN hs N.toNat 0 (by omega)
  rw [Nat.zero_add, show ((0 : Nat) : Int) = 0 from rfl, Int.add_zero] at e
  exact e
theorem c90_l (hg2 : ∀ j, 0 ≤ g2 j ∧ g2 j ≤ 255) (h1 : r ≠ r2) (h2 : r ≠ p2) (h3 : p ≠ r2) (h4 : p ≠ p2) (hne : p ≠ r) (hne2 : p2 ≠ r2) (hb : G.2.2.2 ≤ r) (hb2 : G.2.2.2 ≤ p) (hc : c < 100000) (hc2 : c2 < 100000) (hl2 : 0 ≤ len2 ∧ len2 ≤ c2) (hl : 0 ≤ len) (hN : len + len2 ≤ c) : ∀ (d : Nat) (i : Nat), (i : Int) + d = len2 →
    (mX G 90 2 [.ref r, .ref r2, .int (iI i)] [] (rU (rU h r2 p2 c2 len2 g2) r p c (len + i) (rcp g len (fun j => rget len2 g2 j) i)) n k Q ↔ Q (.inl none, rU (rU h r2 p2 c2 len2 g2) r p c (len + len2) (rcp g len (fun j => rget len2 g2 j) (i + d)), n, k)) := by
  intro d
  induction d with
  | zero =>
    intro i e
    have gl : ∀ K, mGet (rU (rU h r2 p2 c2 len2 g2) r p c (len + i) (rcp g len (fun j => rget len2 g2 j) i)) r2 7 1 K ↔ K (.int (iI len2)) := by
      intro K; rw [← rU_comm h1 h2 h3 h4]; exact ru1
    obtain rfl : (i : Int) = len2 := by omega
    rw [s90_2]
    simp (maxSteps := 1000000) (disch := first | omega | (simp only [updI_at, upA_at, Nat.reduceEqDiff, reduceIte]; omega)) only [↓s90_0, ↓s90_1, ↓s90_3, ↓s90_4, ↓s90_7, ↓s90_10, ↓s90_11, ↓s90_12, ↓s90_13, ↓s90_16, ↓s90_19, ↓s90_22, ↓s90_25, wc_1, wc_12, wc_14, wc_29, wc_31, wc_39, wc_4, wc_41, wg_12_1, wg_14_1, wg_1_1, wg_29_1, wg_31_1, wg_39_1, wg_41_1, wg_4_1, mN1_int, mN1_ref, mN1_null, mN1_U, mN1_rf, mCats_nil, mCats_int, mCats_ref, mCats_null, mCats_long, mCats_rf, mIsRef_ref, mIsRef_null, mIsRef_va, mRf_ref, mRf_null, mRf_rf, true_and, and_true, true_or, or_true, eq_self_iff_true, mK_v, mK_0, Nat.reduceAdd, Nat.reduceLeDiff, Nat.zero_le, iL_0, iL_1, iL_m1, iI_add, iI_sub, iI_mul, iI_neg, updI_at, upA_at, upP_at, upR_at, Nat.reduceEqDiff, reduceIte, Int.reduceAdd, Int.reduceSub, Int.reduceMul, Int.reduceDiv, Int.reduceMod, Int.reduceLT, Int.reduceLE, Int.reduceEq, Int.reduceNeg, not_true_eq_false, not_false_eq_true, Decidable.not_not, gl, iI_le, Int.le_refl]
    rfl
  | succ d ih =>
    intro i e
    rw [s90_2]
    have q := rget_rng (len := len2) hg2 i
    have gl : ∀ K, mGet (rU (rU h r2 p2 c2 len2 g2) r p c (len + i) (rcp g len (fun j => rget len2 g2 j) i)) r2 7 1 K ↔ K (.int (iI len2)) := by
      intro K; rw [← rU_comm h1 h2 h3 h4]; exact ru1
    have ro : mRecv (rU (rU h r2 p2 c2 len2 g2) r p c (len + i) (rcp g len (fun j => rget len2 g2 j) i)) r2 7 ↔ True := by
      rw [← rU_comm h1 h2 h3 h4]; exact ruR
    have ge : ∀ Q', mX G 80 0 [.ref r2, .int (iI i)] [] (rU (rU h r2 p2 c2 len2 g2) r p c (len + i) (rcp g len (fun j => rget len2 g2 j) i)) n k Q' ↔ Q' (.inl (some (.int (iI (rget len2 g2 i)))), rU (rU h r2 p2 c2 len2 g2) r p c (len + i) (rcp g len (fun j => rget len2 g2 j) i), n, k) := by
      intro Q'
      rw [← rU_comm h1 h2 h3 h4, c80 hne2 hc2 hl2 (by omega)]
    simp (maxSteps := 1000000) (disch := first | omega | (simp only [updI_at, upA_at, Nat.reduceEqDiff, reduceIte]; omega)) only [↓s90_0, ↓s90_1, ↓s90_3, ↓s90_4, ↓s90_7, ↓s90_10, ↓s90_11, ↓s90_12, ↓s90_13, ↓s90_16, ↓s90_19, ↓s90_22, ↓s90_25, wc_1, wc_12, wc_14, wc_29, wc_31, wc_39, wc_4, wc_41, wg_12_1, wg_14_1, wg_1_1, wg_29_1, wg_31_1, wg_39_1, wg_41_1, wg_4_1, mN1_int, mN1_ref, mN1_null, mN1_U, mN1_rf, mCats_nil, mCats_int, mCats_ref, mCats_null, mCats_long, mCats_rf, mIsRef_ref, mIsRef_null, mIsRef_va, mRf_ref, mRf_null, mRf_rf, true_and, and_true, true_or, or_true, eq_self_iff_true, mK_v, mK_0, Nat.reduceAdd, Nat.reduceLeDiff, Nat.zero_le, iL_0, iL_1, iL_m1, iI_add, iI_sub, iI_mul, iI_neg, updI_at, upA_at, upP_at, upR_at, Nat.reduceEqDiff, reduceIte, Int.reduceAdd, Int.reduceSub, Int.reduceMul, Int.reduceDiv, Int.reduceMod, Int.reduceLT, Int.reduceLE, Int.reduceEq, Int.reduceNeg, not_true_eq_false, not_false_eq_true, Decidable.not_not, gl, iI_le, ruR, ro, ge, c85]
    rw [if_neg (by omega), Int.add_assoc]
    have e9 := ih (i + 1) (by omega)
    rw [show ((i + 1 : Nat) : Int) = (i : Int) + 1 by omega, show i + 1 + d = i + (d + 1) by omega] at e9
    exact e9
theorem c90 (hg2 : ∀ j, 0 ≤ g2 j ∧ g2 j ≤ 255) (h1 : r ≠ r2) (h2 : r ≠ p2) (h3 : p ≠ r2) (h4 : p ≠ p2) (hne : p ≠ r) (hne2 : p2 ≠ r2) (hb : G.2.2.2 ≤ r) (hb2 : G.2.2.2 ≤ p) (hc : c < 100000) (hc2 : c2 < 100000) (hl2 : 0 ≤ len2 ∧ len2 ≤ c2) (hl : 0 ≤ len) (hN : len + len2 ≤ c) :
    mX G 90 0 [.ref r, .ref r2, mU] [] (rU (rU h r2 p2 c2 len2 g2) r p c len g) n k Q ↔ Q (.inl none, rU (rU h r2 p2 c2 len2 g2) r p c (len + len2) (rcp g len (fun j => rget len2 g2 j) len2.toNat), n, k) := by
  simp (maxSteps := 1000000) (disch := first | omega | (simp only [updI_at, upA_at, Nat.reduceEqDiff, reduceIte]; omega)) only [↓s90_0, ↓s90_1, mN1_int, mN1_ref, mN1_null, mN1_U, mN1_rf, mCats_nil, mCats_int, mCats_ref, mCats_null, mCats_long, mCats_rf, mIsRef_ref, mIsRef_null, mIsRef_va, mRf_ref, mRf_null, mRf_rf, true_and, and_true, true_or, or_true, eq_self_iff_true, mK_v, mK_0, Nat.reduceAdd, Nat.reduceLeDiff, Nat.zero_le, iL_0, iL_1, iL_m1, iI_add, iI_sub, iI_mul, iI_neg, updI_at, upA_at, upP_at, upR_at, Nat.reduceEqDiff, reduceIte, Int.reduceAdd, Int.reduceSub, Int.reduceMul, Int.reduceDiv, Int.reduceMod, Int.reduceLT, Int.reduceLE, Int.reduceEq, Int.reduceNeg, not_true_eq_false, not_false_eq_true, Decidable.not_not]
  have e := c90_l (h := h) (g := g) (n := n) (k := k) (Q := Q) hg2 h1 h2 h3 h4 hne hne2 hb hb2 hc hc2 hl2 hl hN len2.toNat 0 (by omega)
  rw [Nat.zero_add, show ((0 : Nat) : Int) = 0 from rfl, Int.add_zero] at e
  exact e
end MROW3
