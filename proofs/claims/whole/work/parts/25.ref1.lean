/-! The smallest methods of the reference: thrown, in, refuse, read, isFile, isNode. -/
section MREF1
variable {G : mG} {h h0 : mH} {n k b : Nat} {Q : mR → Prop} {I : Nat → Int} {A : Nat → Nat → Int} {P : Nat → Nat} {R : Nat → Option Nat} {o : Nat → Int64}
theorem lg_lt {a b : Int} (h1 : -4611686018427387904 ≤ a) (h2 : a < 4611686018427387904) (h3 : -4611686018427387904 ≤ b) (h4 : b < 4611686018427387904) : (lg_cmp (lI a) (lI b) < iI 0) ↔ a < b := by
  unfold lg_cmp
  simp only [GT.gt, lI_lt h3 h4 h1 h2, lI_eq h1 h2 h3 h4]
  by_cases p : b < a
  · rw [if_pos p]; exact ⟨fun q => absurd q (by decide), fun q => by omega⟩
  · rw [if_neg p]
    by_cases q : a = b
    · rw [if_pos q]; exact ⟨fun q => absurd q (by decide), fun q => by omega⟩
    · rw [if_neg q]; exact ⟨fun _ => by omega, fun _ => by decide⟩
theorem lg_gt {a b : Int} (h1 : -4611686018427387904 ≤ a) (h2 : a < 4611686018427387904) (h3 : -4611686018427387904 ≤ b) (h4 : b < 4611686018427387904) : (iI 0 < lg_cmp (lI a) (lI b)) ↔ b < a := by
  unfold lg_cmp
  simp only [GT.gt, lI_lt h3 h4 h1 h2, lI_eq h1 h2 h3 h4]
  by_cases p : b < a
  · rw [if_pos p]; exact ⟨fun _ => p, fun _ => by decide⟩
  · rw [if_neg p]
    by_cases q : a = b
    · rw [if_pos q]; exact ⟨fun q => absurd q (by decide), fun q => by omega⟩
    · rw [if_neg q]; exact ⟨fun q => absurd q (by decide), fun q => by omega⟩
/-- in(v, low, high) -/
theorem c179 {v l u : Int} (h1 : -4611686018427387904 ≤ v) (h2 : v < 4611686018427387904) (h3 : -4611686018427387904 ≤ l) (h4 : l < 4611686018427387904) (h5 : -4611686018427387904 ≤ u) (h6 : u < 4611686018427387904) :
    mX G 179 0 [.long (lI v), mU, .long (lI l), mU, .long (lI u), mU] [] h n k Q ↔ Q (.inl (some (.int (iI (bI (l ≤ v ∧ v ≤ u))))), h, n, k) := by
  simp (disch := omega) only [↓s179_0, ↓s179_1, ↓s179_2, ↓s179_3, ↓s179_6, ↓s179_7, ↓s179_9, ↓s179_10, ↓s179_13, ↓s179_14, ↓s179_17, ↓s179_18, mN1_int, mN1_ref, mN1_null, mN1_U, mN1_rf, mCats_nil, mCats_int, mCats_ref, mCats_null, mCats_long, mCats_rf, mIsRef_ref, mIsRef_null, mIsRef_va, mRf_ref, mRf_null, mRf_rf, true_and, and_true, true_or, or_true, eq_self_iff_true, mK_v, mK_0, Nat.reduceAdd, Nat.reduceLeDiff, Nat.zero_le, iL_0, iL_1, iL_m1, iI_add, iI_sub, iI_mul, iI_neg, updI_at, upA_at, upP_at, upR_at, Nat.reduceEqDiff, reduceIte, Int.reduceAdd, Int.reduceSub, Int.reduceMul, Int.reduceDiv, Int.reduceMod, Int.reduceLT, Int.reduceLE, Int.reduceEq, Int.reduceNeg, not_true_eq_false, not_false_eq_true, Decidable.not_not, lg_lt, lg_gt]
  by_cases p : v < l
  · rw [if_pos p, bI_f (by omega)]
  · rw [if_neg p]
    by_cases q : u < v
    · rw [if_pos q, bI_f (by omega)]
    · rw [if_neg q, bI_t (by omega)]
theorem c178 : mX G 178 0 [.ref (b + 43)] [] (wH h0 b I A P R o) n k Q ↔ Q (.inl (some (.int (iI (I 27)))), wH h0 b I A P R o, n, k) := by
  simp (disch := omega) only [↓s178_0, ↓s178_1, ↓s178_4, wg_43_0, mN1_int, mN1_ref, mN1_null, mN1_U, mN1_rf, mCats_nil, mCats_int, mCats_ref, mCats_null, mCats_long, mCats_rf, mIsRef_ref, mIsRef_null, mIsRef_va, mRf_ref, mRf_null, mRf_rf, true_and, and_true, true_or, or_true, eq_self_iff_true, mK_v, mK_0, Nat.reduceAdd, Nat.reduceLeDiff, Nat.zero_le, iL_0, iL_1, iL_m1, iI_add, iI_sub, iI_mul, iI_neg, updI_at, upA_at, upP_at, upR_at, Nat.reduceEqDiff, reduceIte, Int.reduceAdd, Int.reduceSub, Int.reduceMul, Int.reduceDiv, Int.reduceMod, Int.reduceLT, Int.reduceLE, Int.reduceEq, Int.reduceNeg, not_true_eq_false, not_false_eq_true, Decidable.not_not]
theorem c180 {x : Int} (hb : G.2.2.2 ≤ b) : mX G 180 0 [.ref (b + 43), .int (iI x)] [] (wH h0 b I A P R o) n k Q ↔ Q (.inl (some (.int (iI 0))), wH h0 b (updI I 27 x) A P R o, n, k) := by
  simp (disch := omega) only [↓s180_0, ↓s180_1, ↓s180_2, ↓s180_5, ↓s180_6, wp_43_0, mN1_int, mN1_ref, mN1_null, mN1_U, mN1_rf, mCats_nil, mCats_int, mCats_ref, mCats_null, mCats_long, mCats_rf, mIsRef_ref, mIsRef_null, mIsRef_va, mRf_ref, mRf_null, mRf_rf, true_and, and_true, true_or, or_true, eq_self_iff_true, mK_v, mK_0, Nat.reduceAdd, Nat.reduceLeDiff, Nat.zero_le, iL_0, iL_1, iL_m1, iI_add, iI_sub, iI_mul, iI_neg, updI_at, upA_at, upP_at, upR_at, Nat.reduceEqDiff, reduceIte, Int.reduceAdd, Int.reduceSub, Int.reduceMul, Int.reduceDiv, Int.reduceMod, Int.reduceLT, Int.reduceLE, Int.reduceEq, Int.reduceNeg, not_true_eq_false, not_false_eq_true, Decidable.not_not]
theorem c183 (hb : G.2.2.2 ≤ b) : mX G 183 0 [.ref (b + 43), mU] [] (wH h0 b I A P R o) n k Q ↔ Q (.inl (some (.int (iI (I 28)))), wH h0 b (updI I 28 0) A P R o, n, k) := by
  simp (disch := omega) only [↓s183_0, ↓s183_1, ↓s183_4, ↓s183_5, ↓s183_6, ↓s183_7, ↓s183_10, ↓s183_11, wg_43_2, wp_43_2, mN1_int, mN1_ref, mN1_null, mN1_U, mN1_rf, mCats_nil, mCats_int, mCats_ref, mCats_null, mCats_long, mCats_rf, mIsRef_ref, mIsRef_null, mIsRef_va, mRf_ref, mRf_null, mRf_rf, true_and, and_true, true_or, or_true, eq_self_iff_true, mK_v, mK_0, Nat.reduceAdd, Nat.reduceLeDiff, Nat.zero_le, iL_0, iL_1, iL_m1, iI_add, iI_sub, iI_mul, iI_neg, updI_at, upA_at, upP_at, upR_at, Nat.reduceEqDiff, reduceIte, Int.reduceAdd, Int.reduceSub, Int.reduceMul, Int.reduceDiv, Int.reduceMod, Int.reduceLT, Int.reduceLE, Int.reduceEq, Int.reduceNeg, not_true_eq_false, not_false_eq_true, Decidable.not_not]
theorem c185 {x : Int} (hx : -2147483648 ≤ x ∧ x < 2147483648) (hf : 0 ≤ I 29 ∧ I 29 ≤ 40) : mX G 185 0 [.ref (b + 43), .int (iI x)] [] (wH h0 b I A P R o) n k Q ↔ Q (.inl (some (.int (iI (bI (0 ≤ x ∧ x ≤ I 29 - 1))))), wH h0 b I A P R o, n, k) := by
  simp (disch := omega) only [↓s185_0, ↓s185_1, ↓s185_2, ↓s185_3, ↓s185_4, ↓s185_7, ↓s185_8, ↓s185_9, ↓s185_10, ↓s185_13, lL_0, wg_43_3, mN1_int, mN1_ref, mN1_null, mN1_U, mN1_rf, mCats_nil, mCats_int, mCats_ref, mCats_null, mCats_long, mCats_rf, mIsRef_ref, mIsRef_null, mIsRef_va, mRf_ref, mRf_null, mRf_rf, true_and, and_true, true_or, or_true, eq_self_iff_true, mK_v, mK_0, Nat.reduceAdd, Nat.reduceLeDiff, Nat.zero_le, iL_0, iL_1, iL_m1, iI_add, iI_sub, iI_mul, iI_neg, updI_at, upA_at, upP_at, upR_at, Nat.reduceEqDiff, reduceIte, Int.reduceAdd, Int.reduceSub, Int.reduceMul, Int.reduceDiv, Int.reduceMod, Int.reduceLT, Int.reduceLE, Int.reduceEq, Int.reduceNeg, not_true_eq_false, not_false_eq_true, Decidable.not_not, iI_l, c179, bI_01]
theorem c186 {x : Int} (hx : -2147483648 ≤ x ∧ x < 2147483648) (hf : 0 ≤ I 31 ∧ I 31 ≤ 40) : mX G 186 0 [.ref (b + 43), .int (iI x)] [] (wH h0 b I A P R o) n k Q ↔ Q (.inl (some (.int (iI (bI (0 ≤ x ∧ x ≤ I 31 - 1))))), wH h0 b I A P R o, n, k) := by
  simp (disch := omega) only [↓s186_0, ↓s186_1, ↓s186_2, ↓s186_3, ↓s186_4, ↓s186_7, ↓s186_8, ↓s186_9, ↓s186_10, ↓s186_13, lL_0, wg_43_14, mN1_int, mN1_ref, mN1_null, mN1_U, mN1_rf, mCats_nil, mCats_int, mCats_ref, mCats_null, mCats_long, mCats_rf, mIsRef_ref, mIsRef_null, mIsRef_va, mRf_ref, mRf_null, mRf_rf, true_and, and_true, true_or, or_true, eq_self_iff_true, mK_v, mK_0, Nat.reduceAdd, Nat.reduceLeDiff, Nat.zero_le, iL_0, iL_1, iL_m1, iI_add, iI_sub, iI_mul, iI_neg, updI_at, upA_at, upP_at, upR_at, Nat.reduceEqDiff, reduceIte, Int.reduceAdd, Int.reduceSub, Int.reduceMul, Int.reduceDiv, Int.reduceMod, Int.reduceLT, Int.reduceLE, Int.reduceEq, Int.reduceNeg, not_true_eq_false, not_false_eq_true, Decidable.not_not, iI_l, c179, bI_01]
theorem c187 {x : Int} (hx : 0 ≤ x ∧ x < 40) : mX G 187 0 [.ref (b + 43), .int (iI x)] [] (wH h0 b I A P R o) n k Q ↔ Q (.inl (some (.int (iI (A 18 x.toNat * A 19 x.toNat)))), wH h0 b I A P R o, n, k) := by
  simp (disch := omega) only [↓s187_0, ↓s187_1, ↓s187_4, ↓s187_5, ↓s187_6, ↓s187_7, ↓s187_10, ↓s187_11, ↓s187_12, ↓s187_13, wg_43_7, wg_43_8, wl_48, wl_49, wn_48, wn_49, ws_48, ws_49, mN1_int, mN1_ref, mN1_null, mN1_U, mN1_rf, mCats_nil, mCats_int, mCats_ref, mCats_null, mCats_long, mCats_rf, mIsRef_ref, mIsRef_null, mIsRef_va, mRf_ref, mRf_null, mRf_rf, true_and, and_true, true_or, or_true, eq_self_iff_true, mK_v, mK_0, Nat.reduceAdd, Nat.reduceLeDiff, Nat.zero_le, iL_0, iL_1, iL_m1, iI_add, iI_sub, iI_mul, iI_neg, updI_at, upA_at, upP_at, upR_at, Nat.reduceEqDiff, reduceIte, Int.reduceAdd, Int.reduceSub, Int.reduceMul, Int.reduceDiv, Int.reduceMod, Int.reduceLT, Int.reduceLE, Int.reduceEq, Int.reduceNeg, not_true_eq_false, not_false_eq_true, Decidable.not_not]
end MREF1
