/-! Class: Row, longer ones; the rows of the world. -/
section MROW2
variable {G : mG} {h h0 : mH} {n k r p c b : Nat} {Q : mR → Prop} {len : Int} {g : Nat → Int} {I : Nat → Int} {A : Nat → Nat → Int} {P : Nat → Nat} {R : Nat → Option Nat} {o : Nat → Int64}
theorem wr_1 : wH h0 b I A P R o = rU (wH h0 b I A P R o) (b + 1) (b + 2) 256 (I 1) (A 0) := (rU_of (fx_get (j := 1) (l := wL b I A P R o) rfl) (fx_get (j := 2) (l := wL b I A P R o) rfl)).symm
theorem rw_1 : rU (wH h0 b I A P R o) (b + 1) (b + 2) 256 len g = wH h0 b (updI I 1 len) (upA A 0 g) P R o := by
  unfold rU
  rw [show mUp (wH h0 b I A P R o) (b + 2) (mI 256 (fun j => iI (g j))) = wH h0 b I (upA A 0 g) P R o from fx_set (l := wL b I A P R o) (l' := wL b I (upA A 0 g) P R o) rfl rfl]
  exact fx_set (l := wL b I (upA A 0 g) P R o) (l' := wL b (updI I 1 len) (upA A 0 g) P R o) rfl rfl
theorem wr_4 : wH h0 b I A P R o = rU (wH h0 b I A P R o) (b + 4) (b + 5) 255 (I 7) (A 1) := (rU_of (fx_get (j := 4) (l := wL b I A P R o) rfl) (fx_get (j := 5) (l := wL b I A P R o) rfl)).symm
theorem rw_4 : rU (wH h0 b I A P R o) (b + 4) (b + 5) 255 len g = wH h0 b (updI I 7 len) (upA A 1 g) P R o := by
  unfold rU
  rw [show mUp (wH h0 b I A P R o) (b + 5) (mI 255 (fun j => iI (g j))) = wH h0 b I (upA A 1 g) P R o from fx_set (l := wL b I A P R o) (l' := wL b I (upA A 1 g) P R o) rfl rfl]
  exact fx_set (l := wL b I (upA A 1 g) P R o) (l' := wL b (updI I 7 len) (upA A 1 g) P R o) rfl rfl
theorem wr_12 : wH h0 b I A P R o = rU (wH h0 b I A P R o) (b + 12) (b + 13) 8 (I 14) (A 2) := (rU_of (fx_get (j := 12) (l := wL b I A P R o) rfl) (fx_get (j := 13) (l := wL b I A P R o) rfl)).symm
theorem rw_12 : rU (wH h0 b I A P R o) (b + 12) (b + 13) 8 len g = wH h0 b (updI I 14 len) (upA A 2 g) P R o := by
  unfold rU
  rw [show mUp (wH h0 b I A P R o) (b + 13) (mI 8 (fun j => iI (g j))) = wH h0 b I (upA A 2 g) P R o from fx_set (l := wL b I A P R o) (l' := wL b I (upA A 2 g) P R o) rfl rfl]
  exact fx_set (l := wL b I (upA A 2 g) P R o) (l' := wL b (updI I 14 len) (upA A 2 g) P R o) rfl rfl
theorem wr_14 : wH h0 b I A P R o = rU (wH h0 b I A P R o) (b + 14) (b + 15) 8 (I 15) (A 3) := (rU_of (fx_get (j := 14) (l := wL b I A P R o) rfl) (fx_get (j := 15) (l := wL b I A P R o) rfl)).symm
theorem rw_14 : rU (wH h0 b I A P R o) (b + 14) (b + 15) 8 len g = wH h0 b (updI I 15 len) (upA A 3 g) P R o := by
  unfold rU
  rw [show mUp (wH h0 b I A P R o) (b + 15) (mI 8 (fun j => iI (g j))) = wH h0 b I (upA A 3 g) P R o from fx_set (l := wL b I A P R o) (l' := wL b I (upA A 3 g) P R o) rfl rfl]
  exact fx_set (l := wL b I (upA A 3 g) P R o) (l' := wL b (updI I 15 len) (upA A 3 g) P R o) rfl rfl
theorem wr_29 : wH h0 b I A P R o = rU (wH h0 b I A P R o) (b + 29) (b + 30) 255 (I 23) (A 6) := (rU_of (fx_get (j := 29) (l := wL b I A P R o) rfl) (fx_get (j := 30) (l := wL b I A P R o) rfl)).symm
theorem rw_29 : rU (wH h0 b I A P R o) (b + 29) (b + 30) 255 len g = wH h0 b (updI I 23 len) (upA A 6 g) P R o := by
  unfold rU
  rw [show mUp (wH h0 b I A P R o) (b + 30) (mI 255 (fun j => iI (g j))) = wH h0 b I (upA A 6 g) P R o from fx_set (l := wL b I A P R o) (l' := wL b I (upA A 6 g) P R o) rfl rfl]
  exact fx_set (l := wL b I (upA A 6 g) P R o) (l' := wL b (updI I 23 len) (upA A 6 g) P R o) rfl rfl
theorem wr_31 : wH h0 b I A P R o = rU (wH h0 b I A P R o) (b + 31) (b + 32) 255 (I 24) (A 7) := (rU_of (fx_get (j := 31) (l := wL b I A P R o) rfl) (fx_get (j := 32) (l := wL b I A P R o) rfl)).symm
theorem rw_31 : rU (wH h0 b I A P R o) (b + 31) (b + 32) 255 len g = wH h0 b (updI I 24 len) (upA A 7 g) P R o := by
  unfold rU
  rw [show mUp (wH h0 b I A P R o) (b + 32) (mI 255 (fun j => iI (g j))) = wH h0 b I (upA A 7 g) P R o from fx_set (l := wL b I A P R o) (l' := wL b I (upA A 7 g) P R o) rfl rfl]
  exact fx_set (l := wL b I (upA A 7 g) P R o) (l' := wL b (updI I 24 len) (upA A 7 g) P R o) rfl rfl
theorem wr_39 : wH h0 b I A P R o = rU (wH h0 b I A P R o) (b + 39) (b + 40) 300 (I 25) (A 12) := (rU_of (fx_get (j := 39) (l := wL b I A P R o) rfl) (fx_get (j := 40) (l := wL b I A P R o) rfl)).symm
theorem rw_39 : rU (wH h0 b I A P R o) (b + 39) (b + 40) 300 len g = wH h0 b (updI I 25 len) (upA A 12 g) P R o := by
  unfold rU
  rw [show mUp (wH h0 b I A P R o) (b + 40) (mI 300 (fun j => iI (g j))) = wH h0 b I (upA A 12 g) P R o from fx_set (l := wL b I A P R o) (l' := wL b I (upA A 12 g) P R o) rfl rfl]
  exact fx_set (l := wL b I (upA A 12 g) P R o) (l' := wL b (updI I 25 len) (upA A 12 g) P R o) rfl rfl
theorem wr_41 : wH h0 b I A P R o = rU (wH h0 b I A P R o) (b + 41) (b + 42) 300 (I 26) (A 13) := (rU_of (fx_get (j := 41) (l := wL b I A P R o) rfl) (fx_get (j := 42) (l := wL b I A P R o) rfl)).symm
theorem rw_41 : rU (wH h0 b I A P R o) (b + 41) (b + 42) 300 len g = wH h0 b (updI I 26 len) (upA A 13 g) P R o := by
  unfold rU
  rw [show mUp (wH h0 b I A P R o) (b + 42) (mI 300 (fun j => iI (g j))) = wH h0 b I (upA A 13 g) P R o from fx_set (l := wL b I A P R o) (l' := wL b I (upA A 13 g) P R o) rfl rfl]
  exact fx_set (l := wL b I (upA A 13 g) P R o) (l' := wL b (updI I 26 len) (upA A 13 g) P R o) rfl rfl
theorem c81 {i : Int} (hne : p ≠ r) (hc : c < 100000) (hl : 0 ≤ len ∧ len ≤ c) (hi : -2147483648 ≤ i ∧ i < 2147483647) : mX G 81 0 [.ref r, .int (iI i)] [] (rU h r p c len g) n k Q ↔ Q (.inl (some (.int (iI (rget len g i * 256 + rget len g (i + 1))))), rU h r p c len g, n, k) := by
  simp (maxSteps := 1000000) (disch := first | omega | (simp only [updI_at, upA_at, Nat.reduceEqDiff, reduceIte]; omega)) only [↓s81_0, ↓s81_1, ↓s81_2, ↓s81_5, ↓s81_8, ↓s81_9, ↓s81_10, ↓s81_11, ↓s81_12, ↓s81_13, ↓s81_16, ↓s81_17, iL_256, wc_1, wc_12, wc_14, wc_29, wc_31, wc_39, wc_4, wc_41, mN1_int, mN1_ref, mN1_null, mN1_U, mN1_rf, mCats_nil, mCats_int, mCats_ref, mCats_null, mCats_long, mCats_rf, mIsRef_ref, mIsRef_null, mIsRef_va, mRf_ref, mRf_null, mRf_rf, true_and, and_true, true_or, or_true, eq_self_iff_true, mK_v, mK_0, Nat.reduceAdd, Nat.reduceLeDiff, Nat.zero_le, iL_0, iL_1, iL_m1, iI_add, iI_sub, iI_mul, iI_neg, updI_at, upA_at, upP_at, upR_at, Nat.reduceEqDiff, reduceIte, Int.reduceAdd, Int.reduceSub, Int.reduceMul, Int.reduceDiv, Int.reduceMod, Int.reduceLT, Int.reduceLE, Int.reduceEq, Int.reduceNeg, not_true_eq_false, not_false_eq_true, Decidable.not_not, ruR, c80]
/-- a length of TLVS at a place; -1 if there is none -/
def rlen (len : Int) (g : Nat → Int) (i : Int) : Int := if rget len g i < 128 then rget len g i else if rget len g i = 129 ∧ 128 ≤ rget len g (i + 1) then rget len g (i + 1) else -1
theorem rget_rng {len : Int} {g : Nat → Int} (hg : ∀ j, 0 ≤ g j ∧ g j ≤ 255) (i : Int) : -1 ≤ rget len g i ∧ rget len g i ≤ 255 := by
  unfold rget; split
  · have := hg i.toNat; omega
  · omega
theorem c82 {i : Int} (hg : ∀ j, 0 ≤ g j ∧ g j ≤ 255) (hne : p ≠ r) (hc : c < 100000) (hl : 0 ≤ len ∧ len ≤ c) (hi : -2147483648 ≤ i ∧ i < 2147483647) : mX G 82 0 [.ref r, .int (iI i), mU, mU] [] (rU h r p c len g) n k Q ↔ Q (.inl (some (.int (iI (rlen len g i)))), rU h r p c len g, n, k) := by
  have q1 := rget_rng (len := len) hg i
  have q2 := rget_rng (len := len) hg (i + 1)
  unfold rlen
  by_cases w1 : rget len g i < 128
  · rw [if_pos w1]
    simp (maxSteps := 1000000) (disch := first | omega | (simp only [updI_at, upA_at, Nat.reduceEqDiff, reduceIte]; omega)) only [↓s82_0, ↓s82_1, ↓s82_2, ↓s82_5, ↓s82_6, ↓s82_7, ↓s82_10, ↓s82_13, ↓s82_14, ↓s82_15, ↓s82_16, ↓s82_17, ↓s82_18, ↓s82_19, ↓s82_22, ↓s82_23, ↓s82_24, ↓s82_27, ↓s82_30, ↓s82_31, ↓s82_34, ↓s82_37, ↓s82_38, ↓s82_41, ↓s82_42, iL_128, iL_129, wc_1, wc_12, wc_14, wc_29, wc_31, wc_39, wc_4, wc_41, mN1_int, mN1_ref, mN1_null, mN1_U, mN1_rf, mCats_nil, mCats_int, mCats_ref, mCats_null, mCats_long, mCats_rf, mIsRef_ref, mIsRef_null, mIsRef_va, mRf_ref, mRf_null, mRf_rf, true_and, and_true, true_or, or_true, eq_self_iff_true, mK_v, mK_0, Nat.reduceAdd, Nat.reduceLeDiff, Nat.zero_le, iL_0, iL_1, iL_m1, iI_add, iI_sub, iI_mul, iI_neg, updI_at, upA_at, upP_at, upR_at, Nat.reduceEqDiff, reduceIte, Int.reduceAdd, Int.reduceSub, Int.reduceMul, Int.reduceDiv, Int.reduceMod, Int.reduceLT, Int.reduceLE, Int.reduceEq, Int.reduceNeg, not_true_eq_false, not_false_eq_true, Decidable.not_not, ruR, c80, iI_le, iI_lt, iI_eq, Int.not_le.mpr w1]
  · rw [if_neg w1]
    by_cases w2 : rget len g i = 129
    · by_cases w3 : 128 ≤ rget len g (i + 1)
      · rw [if_pos ⟨w2, w3⟩]
        simp (maxSteps := 1000000) (disch := first | omega | (simp only [updI_at, upA_at, Nat.reduceEqDiff, reduceIte]; omega)) only [↓s82_0, ↓s82_1, ↓s82_2, ↓s82_5, ↓s82_6, ↓s82_7, ↓s82_10, ↓s82_13, ↓s82_14, ↓s82_15, ↓s82_16, ↓s82_17, ↓s82_18, ↓s82_19, ↓s82_22, ↓s82_23, ↓s82_24, ↓s82_27, ↓s82_30, ↓s82_31, ↓s82_34, ↓s82_37, ↓s82_38, ↓s82_41, ↓s82_42, iL_128, iL_129, wc_1, wc_12, wc_14, wc_29, wc_31, wc_39, wc_4, wc_41, mN1_int, mN1_ref, mN1_null, mN1_U, mN1_rf, mCats_nil, mCats_int, mCats_ref, mCats_null, mCats_long, mCats_rf, mIsRef_ref, mIsRef_null, mIsRef_va, mRf_ref, mRf_null, mRf_rf, true_and, and_true, true_or, or_true, eq_self_iff_true, mK_v, mK_0, Nat.reduceAdd, Nat.reduceLeDiff, Nat.zero_le, iL_0, iL_1, iL_m1, iI_add, iI_sub, iI_mul, iI_neg, updI_at, upA_at, upP_at, upR_at, Nat.reduceEqDiff, reduceIte, Int.reduceAdd, Int.reduceSub, Int.reduceMul, Int.reduceDiv, Int.reduceMod, Int.reduceLT, Int.reduceLE, Int.reduceEq, Int.reduceNeg, not_true_eq_false, not_false_eq_true, Decidable.not_not, ruR, c80, iI_le, iI_lt, iI_eq, Int.not_lt.mp w1, w2, Int.not_lt.mpr w3]
      · rw [if_neg (fun t => w3 t.2)]
        simp (maxSteps := 1000000) (disch := first | omega | (simp only [updI_at, upA_at, Nat.reduceEqDiff, reduceIte]; omega)) only [↓s82_0, ↓s82_1, ↓s82_2, ↓s82_5, ↓s82_6, ↓s82_7, ↓s82_10, ↓s82_13, ↓s82_14, ↓s82_15, ↓s82_16, ↓s82_17, ↓s82_18, ↓s82_19, ↓s82_22, ↓s82_23, ↓s82_24, ↓s82_27, ↓s82_30, ↓s82_31, ↓s82_34, ↓s82_37, ↓s82_38, ↓s82_41, ↓s82_42, iL_128, iL_129, wc_1, wc_12, wc_14, wc_29, wc_31, wc_39, wc_4, wc_41, mN1_int, mN1_ref, mN1_null, mN1_U, mN1_rf, mCats_nil, mCats_int, mCats_ref, mCats_null, mCats_long, mCats_rf, mIsRef_ref, mIsRef_null, mIsRef_va, mRf_ref, mRf_null, mRf_rf, true_and, and_true, true_or, or_true, eq_self_iff_true, mK_v, mK_0, Nat.reduceAdd, Nat.reduceLeDiff, Nat.zero_le, iL_0, iL_1, iL_m1, iI_add, iI_sub, iI_mul, iI_neg, updI_at, upA_at, upP_at, upR_at, Nat.reduceEqDiff, reduceIte, Int.reduceAdd, Int.reduceSub, Int.reduceMul, Int.reduceDiv, Int.reduceMod, Int.reduceLT, Int.reduceLE, Int.reduceEq, Int.reduceNeg, not_true_eq_false, not_false_eq_true, Decidable.not_not, ruR, c80, iI_le, iI_lt, iI_eq, Int.not_lt.mp w1, w2, Int.not_le.mp w3]
    · rw [if_neg (fun t => w2 t.1)]
      simp (maxSteps := 1000000) (disch := first | omega | (simp only [updI_at, upA_at, Nat.reduceEqDiff, reduceIte]; omega)) only [↓s82_0, ↓s82_1, ↓s82_2, ↓s82_5, ↓s82_6, ↓s82_7, ↓s82_10, ↓s82_13, ↓s82_14, ↓s82_15, ↓s82_16, ↓s82_17, ↓s82_18, ↓s82_19, ↓s82_22, ↓s82_23, ↓s82_24, ↓s82_27, ↓s82_30, ↓s82_31, ↓s82_34, ↓s82_37, ↓s82_38, ↓s82_41, ↓s82_42, iL_128, iL_129, wc_1, wc_12, wc_14, wc_29, wc_31, wc_39, wc_4, wc_41, mN1_int, mN1_ref, mN1_null, mN1_U, mN1_rf, mCats_nil, mCats_int, mCats_ref, mCats_null, mCats_long, mCats_rf, mIsRef_ref, mIsRef_null, mIsRef_va, mRf_ref, mRf_null, mRf_rf, true_and, and_true, true_or, or_true, eq_self_iff_true, mK_v, mK_0, Nat.reduceAdd, Nat.reduceLeDiff, Nat.zero_le, iL_0, iL_1, iL_m1, iI_add, iI_sub, iI_mul, iI_neg, updI_at, upA_at, upP_at, upR_at, Nat.reduceEqDiff, reduceIte, Int.reduceAdd, Int.reduceSub, Int.reduceMul, Int.reduceDiv, Int.reduceMod, Int.reduceLT, Int.reduceLE, Int.reduceEq, Int.reduceNeg, not_true_eq_false, not_false_eq_true, Decidable.not_not, ruR, c80, iI_le, iI_lt, iI_eq, Int.not_lt.mp w1, w2]
theorem c88 {x : Int} (hne : p ≠ r) (hb : G.2.2.2 ≤ r) (hb2 : G.2.2.2 ≤ p) (hc : c < 100000) (hl : 0 ≤ len) (hl2 : len + 1 < c) (hx : -2147483648 ≤ x ∧ x < 2147483648) : mX G 88 0 [.ref r, .int (iI x)] [] (rU h r p c len g) n k Q ↔
    if x < 128 then Q (.inl none, rU h r p c (len + 1) (upE g len.toNat (x % 256)), n, k) else Q (.inl none, rU h r p c (len + 2) (putL g len [129, x % 256]), n, k) := by
  by_cases w : x < 128
  · rw [if_pos w]
    simp (maxSteps := 1000000) (disch := first | omega | (simp only [updI_at, upA_at, Nat.reduceEqDiff, reduceIte]; omega)) only [↓s88_0, ↓s88_1, ↓s88_4, ↓s88_5, ↓s88_8, ↓s88_9, ↓s88_12, ↓s88_15, ↓s88_16, ↓s88_17, ↓s88_20, iL_129, iL_2, wc_1, wc_12, wc_14, wc_29, wc_31, wc_39, wc_4, wc_41, mN1_int, mN1_ref, mN1_null, mN1_U, mN1_rf, mCats_nil, mCats_int, mCats_ref, mCats_null, mCats_long, mCats_rf, mIsRef_ref, mIsRef_null, mIsRef_va, mRf_ref, mRf_null, mRf_rf, true_and, and_true, true_or, or_true, eq_self_iff_true, mK_v, mK_0, Nat.reduceAdd, Nat.reduceLeDiff, Nat.zero_le, iL_0, iL_1, iL_m1, iI_add, iI_sub, iI_mul, iI_neg, updI_at, upA_at, upP_at, upR_at, Nat.reduceEqDiff, reduceIte, Int.reduceAdd, Int.reduceSub, Int.reduceMul, Int.reduceDiv, Int.reduceMod, Int.reduceLT, Int.reduceLE, Int.reduceEq, Int.reduceNeg, not_true_eq_false, not_false_eq_true, Decidable.not_not, ruR, c85, c177, iI_eq, w]
  · rw [if_neg w]
    simp (maxSteps := 1000000) (disch := first | omega | (simp only [updI_at, upA_at, Nat.reduceEqDiff, reduceIte]; omega)) only [↓s88_0, ↓s88_1, ↓s88_4, ↓s88_5, ↓s88_8, ↓s88_9, ↓s88_12, ↓s88_15, ↓s88_16, ↓s88_17, ↓s88_20, iL_129, iL_2, wc_1, wc_12, wc_14, wc_29, wc_31, wc_39, wc_4, wc_41, mN1_int, mN1_ref, mN1_null, mN1_U, mN1_rf, mCats_nil, mCats_int, mCats_ref, mCats_null, mCats_long, mCats_rf, mIsRef_ref, mIsRef_null, mIsRef_va, mRf_ref, mRf_null, mRf_rf, true_and, and_true, true_or, or_true, eq_self_iff_true, mK_v, mK_0, Nat.reduceAdd, Nat.reduceLeDiff, Nat.zero_le, iL_0, iL_1, iL_m1, iI_add, iI_sub, iI_mul, iI_neg, updI_at, upA_at, upP_at, upR_at, Nat.reduceEqDiff, reduceIte, Int.reduceAdd, Int.reduceSub, Int.reduceMul, Int.reduceDiv, Int.reduceMod, Int.reduceLT, Int.reduceLE, Int.reduceEq, Int.reduceNeg, not_true_eq_false, not_false_eq_true, Decidable.not_not, ruR, c85, c177, iI_eq, w, putL, Int.add_assoc]
end MROW2
