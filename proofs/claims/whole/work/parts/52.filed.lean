/-! Reference: filed. -/
section MFILED
variable {G : mG} {h h0 : mH} {n k b : Nat} {Q : mR → Prop} {I : Nat → Int} {A : Nat → Nat → Int} {P : Nat → Nat} {R : Nat → Option Nat} {o : Nat → Int64}
theorem c258_l {y : Int} (hA : RgA A) (hy : -2147483648 ≤ y ∧ y < 2147483648) (hf : I 29 ≤ 40) : ∀ (d : Nat) (f : Int), 0 ≤ f → f + d = I 29 →
    (mX G 258 2 [.ref (b + 43), .int (iI y), .int (iI f)] [] (wH h0 b I A P R o) n k Q ↔ Q (.inl (some (.int (iI (seek (fun j => A 17 j.toNat = 1 ∧ A 15 j.toNat = y) d f)))), wH h0 b I A P R o, n, k)) := by
  intro d
  induction d with
  | zero =>
    intro f h1 h2
    rw [s258_2]
    simp (maxSteps := 1000000) (disch := first | omega | exact hA | (simp only [updI_at, upA_at, Nat.reduceEqDiff, reduceIte]; omega) | exact (hA _ _).1 | exact (hA _ _).2) only [↓s258_0, ↓s258_1, ↓s258_3, ↓s258_4, ↓s258_7, ↓s258_10, ↓s258_11, ↓s258_14, ↓s258_15, ↓s258_16, ↓s258_17, ↓s258_20, ↓s258_21, ↓s258_24, ↓s258_25, ↓s258_26, ↓s258_27, ↓s258_30, ↓s258_31, ↓s258_32, ↓s258_35, ↓s258_38, ↓s258_39, wg_43_3, wg_43_4, wg_43_6, wl_45, wl_47, wn_45, wn_47, ws_45, ws_47, mN1_int, mN1_ref, mN1_null, mN1_U, mN1_rf, mCats_nil, mCats_int, mCats_ref, mCats_null, mCats_long, mCats_rf, mIsRef_ref, mIsRef_null, mIsRef_va, mRf_ref, mRf_null, mRf_rf, true_and, and_true, true_or, or_true, eq_self_iff_true, mK_v, mK_0, Nat.reduceAdd, Nat.reduceLeDiff, Nat.zero_le, iL_0, iL_1, iL_m1, iI_add, iI_sub, iI_mul, iI_neg, updI_at, upA_at, upP_at, upR_at, Nat.reduceEqDiff, reduceIte, Int.reduceAdd, Int.reduceSub, Int.reduceMul, Int.reduceDiv, Int.reduceMod, Int.reduceLT, Int.reduceLE, Int.reduceEq, Int.reduceNeg, not_true_eq_false, not_false_eq_true, Decidable.not_not, iI_le]
    rw [if_pos (by omega)]
    rfl
  | succ d ih =>
    intro f h1 h2
    rw [s258_2]
    simp (maxSteps := 1000000) (disch := first | omega | exact hA | (simp only [updI_at, upA_at, Nat.reduceEqDiff, reduceIte]; omega) | exact (hA _ _).1 | exact (hA _ _).2) only [↓s258_0, ↓s258_1, ↓s258_3, ↓s258_4, ↓s258_7, ↓s258_10, ↓s258_11, ↓s258_14, ↓s258_15, ↓s258_16, ↓s258_17, ↓s258_20, ↓s258_21, ↓s258_24, ↓s258_25, ↓s258_26, ↓s258_27, ↓s258_30, ↓s258_31, ↓s258_32, ↓s258_35, ↓s258_38, ↓s258_39, wg_43_3, wg_43_4, wg_43_6, wl_45, wl_47, wn_45, wn_47, ws_45, ws_47, mN1_int, mN1_ref, mN1_null, mN1_U, mN1_rf, mCats_nil, mCats_int, mCats_ref, mCats_null, mCats_long, mCats_rf, mIsRef_ref, mIsRef_null, mIsRef_va, mRf_ref, mRf_null, mRf_rf, true_and, and_true, true_or, or_true, eq_self_iff_true, mK_v, mK_0, Nat.reduceAdd, Nat.reduceLeDiff, Nat.zero_le, iL_0, iL_1, iL_m1, iI_add, iI_sub, iI_mul, iI_neg, updI_at, upA_at, upP_at, upR_at, Nat.reduceEqDiff, reduceIte, Int.reduceAdd, Int.reduceSub, Int.reduceMul, Int.reduceDiv, Int.reduceMod, Int.reduceLT, Int.reduceLE, Int.reduceEq, Int.reduceNeg, not_true_eq_false, not_false_eq_true, Decidable.not_not, iI_le, iI_eq]
    rw [if_neg (by omega), ih (f + 1) (by omega) (by omega), seek_s]
    by_cases p : A 17 f.toNat = 1
    · by_cases q : A 15 f.toNat = y
      · rw [if_neg (fun t => t p), if_neg (fun t => t q), if_pos ⟨p, q⟩]
      · rw [if_neg (fun t => t p), if_pos q, if_neg (fun t => q t.2)]
    · rw [if_pos p, if_neg (fun t => p t.1)]
theorem c258 {y : Int} (hA : RgA A) (hy : -2147483648 ≤ y ∧ y < 2147483648) (hf : 1 ≤ I 29 ∧ I 29 ≤ 40) :
    mX G 258 0 [.ref (b + 43), .int (iI y), mU] [] (wH h0 b I A P R o) n k Q ↔ Q (.inl (some (.int (iI (seek (fun j => A 17 j.toNat = 1 ∧ A 15 j.toNat = y) (I 29).toNat 0)))), wH h0 b I A P R o, n, k) := by
  simp (maxSteps := 1000000) (disch := first | omega | exact hA | (simp only [updI_at, upA_at, Nat.reduceEqDiff, reduceIte]; omega) | exact (hA _ _).1 | exact (hA _ _).2) only [↓s258_0, ↓s258_1, mN1_int, mN1_ref, mN1_null, mN1_U, mN1_rf, mCats_nil, mCats_int, mCats_ref, mCats_null, mCats_long, mCats_rf, mIsRef_ref, mIsRef_null, mIsRef_va, mRf_ref, mRf_null, mRf_rf, true_and, and_true, true_or, or_true, eq_self_iff_true, mK_v, mK_0, Nat.reduceAdd, Nat.reduceLeDiff, Nat.zero_le, iL_0, iL_1, iL_m1, iI_add, iI_sub, iI_mul, iI_neg, updI_at, upA_at, upP_at, upR_at, Nat.reduceEqDiff, reduceIte, Int.reduceAdd, Int.reduceSub, Int.reduceMul, Int.reduceDiv, Int.reduceMod, Int.reduceLT, Int.reduceLE, Int.reduceEq, Int.reduceNeg, not_true_eq_false, not_false_eq_true, Decidable.not_not]
  exact c258_l hA hy hf.2 _ _ (by omega) (by omega)
end MFILED
