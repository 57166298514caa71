/-! Class: Row: startsWith, a new one, copy. -/
section MROW4
variable {G : mG} {h : mH} {n k r p c r2 p2 c2 : Nat} {Q : mR → Prop} {len len2 : Int} {g g2 : Nat → Int}
/-- 1 if both answer alike at the d places from i on -/
def samI (f1 f2 : Int → Int) : Nat → Int → Int
  | 0, _ => 1
  | d + 1, i => if f1 i = f2 i then samI f1 f2 d (i + 1) else 0
theorem samI_s (f1 f2 : Int → Int) (d : Nat) (i : Int) : samI f1 f2 (d + 1) i = if f1 i = f2 i then samI f1 f2 d (i + 1) else 0 := rfl
theorem samI_01 (f1 f2 : Int → Int) : ∀ (d : Nat) (i : Int), samI f1 f2 d i = 0 ∨ samI f1 f2 d i = 1
  | 0, _ => Or.inr rfl
  | d + 1, i => by rw [samI_s]; split; exact samI_01 f1 f2 d (i + 1); exact Or.inl rfl
theorem c91_l (hg : ∀ j, 0 ≤ g j ∧ g j ≤ 255) (hg2 : ∀ j, 0 ≤ g2 j ∧ g2 j ≤ 255) (h1 : r ≠ r2) (h2 : r ≠ p2) (h3 : p ≠ r2) (h4 : p ≠ p2) (hne : p ≠ r) (hne2 : p2 ≠ r2) (hc : c < 100000) (hc2 : c2 < 100000) (hl : 0 ≤ len ∧ len ≤ c) (hl2 : 0 ≤ len2 ∧ len2 ≤ c2) : ∀ (d : Nat) (i : Int), 0 ≤ i → i + d = len2 →
    (mX G 91 2 [.ref r, .ref r2, .int (iI i)] [] (rU (rU h r2 p2 c2 len2 g2) r p c len g) n k Q ↔ Q (.inl (some (.int (iI (samI (rget len g) (rget len2 g2) d i)))), rU (rU h r2 p2 c2 len2 g2) r p c len g, n, k)) := by
  have ro : mRecv (rU (rU h r2 p2 c2 len2 g2) r p c len g) r2 7 ↔ True := by
    rw [← rU_comm h1 h2 h3 h4]; exact ruR
  have gl : ∀ Q', mX G 79 0 [.ref r2] [] (rU (rU h r2 p2 c2 len2 g2) r p c len g) n k Q' ↔ Q' (.inl (some (.int (iI len2))), rU (rU h r2 p2 c2 len2 g2) r p c len g, n, k) := by
    intro Q'; rw [← rU_comm h1 h2 h3 h4, c79]
  intro d
  induction d with
  | zero =>
    intro i e1 e2
    rw [s91_2]
    simp (maxSteps := 1000000) (disch := first | omega | (simp only [updI_at, upA_at, Nat.reduceEqDiff, reduceIte]; omega)) only [↓s91_0, ↓s91_1, ↓s91_3, ↓s91_4, ↓s91_7, ↓s91_10, ↓s91_11, ↓s91_12, ↓s91_15, ↓s91_16, ↓s91_17, ↓s91_20, ↓s91_23, ↓s91_24, ↓s91_25, ↓s91_28, ↓s91_31, ↓s91_32, wc_1, wc_12, wc_14, wc_29, wc_31, wc_39, wc_4, wc_41, mN1_int, mN1_ref, mN1_null, mN1_U, mN1_rf, mCats_nil, mCats_int, mCats_ref, mCats_null, mCats_long, mCats_rf, mIsRef_ref, mIsRef_null, mIsRef_va, mRf_ref, mRf_null, mRf_rf, true_and, and_true, true_or, or_true, eq_self_iff_true, mK_v, mK_0, Nat.reduceAdd, Nat.reduceLeDiff, Nat.zero_le, iL_0, iL_1, iL_m1, iI_add, iI_sub, iI_mul, iI_neg, updI_at, upA_at, upP_at, upR_at, Nat.reduceEqDiff, reduceIte, Int.reduceAdd, Int.reduceSub, Int.reduceMul, Int.reduceDiv, Int.reduceMod, Int.reduceLT, Int.reduceLE, Int.reduceEq, Int.reduceNeg, not_true_eq_false, not_false_eq_true, Decidable.not_not, gl, ro, ruR, iI_le]
    rw [if_pos (by omega)]
    rfl
  | succ d ih =>
    intro i e1 e2
    rw [s91_2]
    have q1 := rget_rng (len := len) hg i
    have q2 := rget_rng (len := len2) hg2 i
    have ge : ∀ Q', mX G 80 0 [.ref r2, .int (iI i)] [] (rU (rU h r2 p2 c2 len2 g2) r p c len g) n k Q' ↔ Q' (.inl (some (.int (iI (rget len2 g2 i)))), rU (rU h r2 p2 c2 len2 g2) r p c len g, n, k) := by
      intro Q'
      rw [← rU_comm h1 h2 h3 h4, c80 hne2 hc2 hl2 (by omega)]
    have ge1 : ∀ Q', mX G 80 0 [.ref r, .int (iI i)] [] (rU (rU h r2 p2 c2 len2 g2) r p c len g) n k Q' ↔ Q' (.inl (some (.int (iI (rget len g i)))), rU (rU h r2 p2 c2 len2 g2) r p c len g, n, k) := fun Q' => c80 hne hc hl (by omega)
    simp (maxSteps := 1000000) (disch := first | omega | (simp only [updI_at, upA_at, Nat.reduceEqDiff, reduceIte]; omega)) only [↓s91_0, ↓s91_1, ↓s91_3, ↓s91_4, ↓s91_7, ↓s91_10, ↓s91_11, ↓s91_12, ↓s91_15, ↓s91_16, ↓s91_17, ↓s91_20, ↓s91_23, ↓s91_24, ↓s91_25, ↓s91_28, ↓s91_31, ↓s91_32, wc_1, wc_12, wc_14, wc_29, wc_31, wc_39, wc_4, wc_41, mN1_int, mN1_ref, mN1_null, mN1_U, mN1_rf, mCats_nil, mCats_int, mCats_ref, mCats_null, mCats_long, mCats_rf, mIsRef_ref, mIsRef_null, mIsRef_va, mRf_ref, mRf_null, mRf_rf, true_and, and_true, true_or, or_true, eq_self_iff_true, mK_v, mK_0, Nat.reduceAdd, Nat.reduceLeDiff, Nat.zero_le, iL_0, iL_1, iL_m1, iI_add, iI_sub, iI_mul, iI_neg, updI_at, upA_at, upP_at, upR_at, Nat.reduceEqDiff, reduceIte, Int.reduceAdd, Int.reduceSub, Int.reduceMul, Int.reduceDiv, Int.reduceMod, Int.reduceLT, Int.reduceLE, Int.reduceEq, Int.reduceNeg, not_true_eq_false, not_false_eq_true, Decidable.not_not, gl, ro, ruR, iI_le, ge, ge1, iI_eq]
    rw [if_neg (by omega), ih (i + 1) (by omega) (by omega), samI_s]
    by_cases w : rget len g i = rget len2 g2 i
    · rw [if_pos w, if_pos w]
    · rw [if_neg w, if_neg w]
theorem c91 (hg : ∀ j, 0 ≤ g j ∧ g j ≤ 255) (hg2 : ∀ j, 0 ≤ g2 j ∧ g2 j ≤ 255) (h1 : r ≠ r2) (h2 : r ≠ p2) (h3 : p ≠ r2) (h4 : p ≠ p2) (hne : p ≠ r) (hne2 : p2 ≠ r2) (hc : c < 100000) (hc2 : c2 < 100000) (hl : 0 ≤ len ∧ len ≤ c) (hl2 : 0 ≤ len2 ∧ len2 ≤ c2) :
    mX G 91 0 [.ref r, .ref r2, mU] [] (rU (rU h r2 p2 c2 len2 g2) r p c len g) n k Q ↔ Q (.inl (some (.int (iI (samI (rget len g) (rget len2 g2) len2.toNat 0)))), rU (rU h r2 p2 c2 len2 g2) r p c len g, n, k) := by
  simp (maxSteps := 1000000) (disch := first | omega | (simp only [updI_at, upA_at, Nat.reduceEqDiff, reduceIte]; omega)) only [↓s91_0, ↓s91_1, mN1_int, mN1_ref, mN1_null, mN1_U, mN1_rf, mCats_nil, mCats_int, mCats_ref, mCats_null, mCats_long, mCats_rf, mIsRef_ref, mIsRef_null, mIsRef_va, mRf_ref, mRf_null, mRf_rf, true_and, and_true, true_or, or_true, eq_self_iff_true, mK_v, mK_0, Nat.reduceAdd, Nat.reduceLeDiff, Nat.zero_le, iL_0, iL_1, iL_m1, iI_add, iI_sub, iI_mul, iI_neg, updI_at, upA_at, upP_at, upR_at, Nat.reduceEqDiff, reduceIte, Int.reduceAdd, Int.reduceSub, Int.reduceMul, Int.reduceDiv, Int.reduceMod, Int.reduceLT, Int.reduceLE, Int.reduceEq, Int.reduceNeg, not_true_eq_false, not_false_eq_true, Decidable.not_not]
  exact c91_l hg hg2 h1 h2 h3 h4 hne hne2 hc hc2 hl hl2 len2.toNat 0 (by omega) (by omega)
theorem c78 {H : mH} {N : Int} (hr : r ≠ n) (hb : G.2.2.2 ≤ r) (hN : 0 ≤ N ∧ N ≤ 10000) : mX G 78 0 [.ref r, .int (iI N)] [] (mUp H r (mO 7 [.null, .int 0])) n k Q ↔ Q (.inl none, rU H r n N.toNat 0 zer, n + 1, k + N.toNat) := by
  have f1 : mUp (mUp (mUp H r (mO 7 [.null, .int 0])) n (mI N.toNat (fun _ => 0))) r (mO 7 [.ref n, .int 0]) = rU H r n N.toNat 0 zer := by
    unfold rU
    rw [mUp_comm hr, mUp_mUp]
    rfl
  have f2 : ∀ K, mPut G (mUp (mUp H r (mO 7 [.null, .int 0])) n (mI N.toNat (fun _ => 0))) r 7 0 (.ref n) K ↔ K (rU H r n N.toNat 0 zer) := by
    intro K
    unfold mPut
    rw [mUp_ne hr, mUp_same]
    dsimp only [mO]
    rw [← f1]
    exact ⟨fun q => q.2, fun q => ⟨⟨rfl, Nat.le_of_ble_eq_true rfl, hb, rfl⟩, q⟩⟩
  have f3 : ¬ iI N < iI 0 := by rw [iI_lt (by omega) (by omega) (by omega) (by omega)]; omega
  by_cases q : N ≤ 0
  · obtain rfl : N = 0 := by omega
    simp (maxSteps := 1000000) (disch := first | omega | (simp only [updI_at, upA_at, Nat.reduceEqDiff, reduceIte]; omega)) only [↓s78_0, ↓s78_1, ↓s78_4, ↓s78_5, ↓s78_6, ↓s78_9, ↓s78_10, ↓s78_13, ↓s78_14, ↓s78_16, ↓s78_19, mN1_int, mN1_ref, mN1_null, mN1_U, mN1_rf, mCats_nil, mCats_int, mCats_ref, mCats_null, mCats_long, mCats_rf, mIsRef_ref, mIsRef_null, mIsRef_va, mRf_ref, mRf_null, mRf_rf, true_and, and_true, true_or, or_true, eq_self_iff_true, mK_v, mK_0, Nat.reduceAdd, Nat.reduceLeDiff, Nat.zero_le, iL_0, iL_1, iL_m1, iI_add, iI_sub, iI_mul, iI_neg, updI_at, upA_at, upP_at, upR_at, Nat.reduceEqDiff, reduceIte, Int.reduceAdd, Int.reduceSub, Int.reduceMul, Int.reduceDiv, Int.reduceMod, Int.reduceLT, Int.reduceLE, Int.reduceEq, Int.reduceNeg, not_true_eq_false, not_false_eq_true, Decidable.not_not, iI_le, iI_lt, iI_nat]
    exact (and_iff_right (by decide)).trans (f2 _)
  · simp (maxSteps := 1000000) (disch := first | omega | (simp only [updI_at, upA_at, Nat.reduceEqDiff, reduceIte]; omega)) only [↓s78_0, ↓s78_1, ↓s78_4, ↓s78_5, ↓s78_6, ↓s78_9, ↓s78_10, ↓s78_13, ↓s78_14, ↓s78_16, ↓s78_19, mN1_int, mN1_ref, mN1_null, mN1_U, mN1_rf, mCats_nil, mCats_int, mCats_ref, mCats_null, mCats_long, mCats_rf, mIsRef_ref, mIsRef_null, mIsRef_va, mRf_ref, mRf_null, mRf_rf, true_and, and_true, true_or, or_true, eq_self_iff_true, mK_v, mK_0, Nat.reduceAdd, Nat.reduceLeDiff, Nat.zero_le, iL_0, iL_1, iL_m1, iI_add, iI_sub, iI_mul, iI_neg, updI_at, upA_at, upP_at, upR_at, Nat.reduceEqDiff, reduceIte, Int.reduceAdd, Int.reduceSub, Int.reduceMul, Int.reduceDiv, Int.reduceMod, Int.reduceLT, Int.reduceLE, Int.reduceEq, Int.reduceNeg, not_true_eq_false, not_false_eq_true, Decidable.not_not, iI_le, iI_lt, iI_nat, q]
    exact (and_iff_right (by omega)).trans (f2 _)
end MROW4
