/-! Reference: searches, single bytes out, end, rights. -/
section MREF2
variable {G : mG} {h h0 : mH} {n k b : Nat} {Q : mR → Prop} {I : Nat → Int} {A : Nat → Nat → Int} {P : Nat → Nat} {R : Nat → Option Nat} {o : Nat → Int64}
def rI (z : Int) : Prop := -2147483648 ≤ z ∧ z < 2147483648
abbrev RgI (I : Nat → Int) : Prop := ∀ i, -2147483648 ≤ I i ∧ I i < 2147483648
abbrev RgA (A : Nat → Nat → Int) : Prop := ∀ i j, -2147483648 ≤ A i j ∧ A i j < 2147483648
/-- the first place from i on, among d, that has p; -1 if none -/
def seek (p : Int → Prop) [DecidablePred p] : Nat → Int → Int
  | 0, _ => -1
  | d + 1, i => if p i then i else seek p d (i + 1)
theorem seek_s (p : Int → Prop) [DecidablePred p] (d : Nat) (i : Int) : seek p (d + 1) i = if p i then i else seek p d (i + 1) := rfl
theorem c204 {x : Int} (hb : G.2.2.2 ≤ b) (hx : -2147483648 ≤ x ∧ x < 2147483648) (ho : 0 ≤ I 46 ∧ I 46 < 300) : mX G 204 0 [.ref (b + 43), .int (iI x)] [] (wH h0 b I A P R o) n k Q ↔ Q (.inl none, wH h0 b (updI I 46 (I 46 + 1)) (upA A 44 (upE (A 44) (I 46).toNat (x % 256))) P R o, n, k) := by
  simp (disch := omega) only [↓s204_0, ↓s204_1, ↓s204_4, ↓s204_5, ↓s204_8, ↓s204_9, ↓s204_12, ↓s204_13, ↓s204_14, ↓s204_15, ↓s204_16, ↓s204_19, ↓s204_20, ↓s204_21, ↓s204_24, iL_255, wg_43_49, wg_43_50, wl_74, wn_74, wp_43_50, ws_74, mN1_int, mN1_ref, mN1_null, mN1_U, mN1_rf, mCats_nil, mCats_int, mCats_ref, mCats_null, mCats_long, mCats_rf, mIsRef_ref, mIsRef_null, mIsRef_va, mRf_ref, mRf_null, mRf_rf, true_and, and_true, true_or, or_true, eq_self_iff_true, mK_v, mK_0, Nat.reduceAdd, Nat.reduceLeDiff, Nat.zero_le, iL_0, iL_1, iL_m1, iI_add, iI_sub, iI_mul, iI_neg, updI_at, upA_at, upP_at, upR_at, Nat.reduceEqDiff, reduceIte, Int.reduceAdd, Int.reduceSub, Int.reduceMul, Int.reduceDiv, Int.reduceMod, Int.reduceLT, Int.reduceLE, Int.reduceEq, Int.reduceNeg, not_true_eq_false, not_false_eq_true, Decidable.not_not, iI_and255, iI_toInt]
theorem c238 {x : Int} (hb : G.2.2.2 ≤ b) (hx : -2147483648 ≤ x ∧ x < 2147483648) (ho : 0 ≤ I 53 ∧ I 53 < 300) : mX G 238 0 [.ref (b + 43), .int (iI x)] [] (wH h0 b I A P R o) n k Q ↔ Q (.inl none, wH h0 b (updI I 53 (I 53 + 1)) (upA A 47 (upE (A 47) (I 53).toNat (x % 256))) P R o, n, k) := by
  simp (disch := omega) only [↓s238_0, ↓s238_1, ↓s238_4, ↓s238_5, ↓s238_8, ↓s238_9, ↓s238_12, ↓s238_13, ↓s238_14, ↓s238_15, ↓s238_16, ↓s238_19, ↓s238_20, ↓s238_21, ↓s238_24, iL_255, wg_43_59, wg_43_60, wl_77, wn_77, wp_43_60, ws_77, mN1_int, mN1_ref, mN1_null, mN1_U, mN1_rf, mCats_nil, mCats_int, mCats_ref, mCats_null, mCats_long, mCats_rf, mIsRef_ref, mIsRef_null, mIsRef_va, mRf_ref, mRf_null, mRf_rf, true_and, and_true, true_or, or_true, eq_self_iff_true, mK_v, mK_0, Nat.reduceAdd, Nat.reduceLeDiff, Nat.zero_le, iL_0, iL_1, iL_m1, iI_add, iI_sub, iI_mul, iI_neg, updI_at, upA_at, upP_at, upR_at, Nat.reduceEqDiff, reduceIte, Int.reduceAdd, Int.reduceSub, Int.reduceMul, Int.reduceDiv, Int.reduceMod, Int.reduceLT, Int.reduceLE, Int.reduceEq, Int.reduceNeg, not_true_eq_false, not_false_eq_true, Decidable.not_not, iI_and255, iI_toInt]
theorem c188_l {x y : Int} (hA : RgA A) (hx : -2147483648 ≤ x ∧ x < 2147483648) (hy : -2147483648 ≤ y ∧ y < 2147483648) (hf : I 29 ≤ 40) : ∀ (d : Nat) (f : Int), 0 ≤ f → f + d = I 29 →
    (mX G 188 2 [.ref (b + 43), .int (iI x), .int (iI y), .int (iI f)] [] (wH h0 b I A P R o) n k Q ↔ Q (.inl (some (.int (iI (seek (fun j => A 16 j.toNat = x ∧ A 15 j.toNat = y) d f)))), wH h0 b I A P R o, n, k)) := by
  intro d
  induction d with
  | zero =>
    intro f h1 h2
    rw [s188_2]
    simp (disch := first | omega | exact hA | (simp only [updI_at, upA_at, Nat.reduceEqDiff, reduceIte]; omega) | exact (hA _ _).1 | exact (hA _ _).2) only [↓s188_0, ↓s188_1, ↓s188_3, ↓s188_4, ↓s188_7, ↓s188_10, ↓s188_11, ↓s188_14, ↓s188_15, ↓s188_16, ↓s188_17, ↓s188_20, ↓s188_21, ↓s188_24, ↓s188_25, ↓s188_26, ↓s188_27, ↓s188_30, ↓s188_31, ↓s188_32, ↓s188_35, ↓s188_38, ↓s188_39, wg_43_3, wg_43_4, wg_43_5, wl_45, wl_46, wn_45, wn_46, ws_45, ws_46, mN1_int, mN1_ref, mN1_null, mN1_U, mN1_rf, mCats_nil, mCats_int, mCats_ref, mCats_null, mCats_long, mCats_rf, mIsRef_ref, mIsRef_null, mIsRef_va, mRf_ref, mRf_null, mRf_rf, true_and, and_true, true_or, or_true, eq_self_iff_true, mK_v, mK_0, Nat.reduceAdd, Nat.reduceLeDiff, Nat.zero_le, iL_0, iL_1, iL_m1, iI_add, iI_sub, iI_mul, iI_neg, updI_at, upA_at, upP_at, upR_at, Nat.reduceEqDiff, reduceIte, Int.reduceAdd, Int.reduceSub, Int.reduceMul, Int.reduceDiv, Int.reduceMod, Int.reduceLT, Int.reduceLE, Int.reduceEq, Int.reduceNeg, not_true_eq_false, not_false_eq_true, Decidable.not_not, iI_le]
    rw [if_pos (by omega)]
    rfl
  | succ d ih =>
    intro f h1 h2
    rw [s188_2]
    simp (disch := first | omega | exact hA | (simp only [updI_at, upA_at, Nat.reduceEqDiff, reduceIte]; omega) | exact (hA _ _).1 | exact (hA _ _).2) only [↓s188_0, ↓s188_1, ↓s188_3, ↓s188_4, ↓s188_7, ↓s188_10, ↓s188_11, ↓s188_14, ↓s188_15, ↓s188_16, ↓s188_17, ↓s188_20, ↓s188_21, ↓s188_24, ↓s188_25, ↓s188_26, ↓s188_27, ↓s188_30, ↓s188_31, ↓s188_32, ↓s188_35, ↓s188_38, ↓s188_39, wg_43_3, wg_43_4, wg_43_5, wl_45, wl_46, wn_45, wn_46, ws_45, ws_46, mN1_int, mN1_ref, mN1_null, mN1_U, mN1_rf, mCats_nil, mCats_int, mCats_ref, mCats_null, mCats_long, mCats_rf, mIsRef_ref, mIsRef_null, mIsRef_va, mRf_ref, mRf_null, mRf_rf, true_and, and_true, true_or, or_true, eq_self_iff_true, mK_v, mK_0, Nat.reduceAdd, Nat.reduceLeDiff, Nat.zero_le, iL_0, iL_1, iL_m1, iI_add, iI_sub, iI_mul, iI_neg, updI_at, upA_at, upP_at, upR_at, Nat.reduceEqDiff, reduceIte, Int.reduceAdd, Int.reduceSub, Int.reduceMul, Int.reduceDiv, Int.reduceMod, Int.reduceLT, Int.reduceLE, Int.reduceEq, Int.reduceNeg, not_true_eq_false, not_false_eq_true, Decidable.not_not, iI_le, iI_eq]
    rw [if_neg (by omega), ih (f + 1) (by omega) (by omega)]
    rw [seek_s]
    by_cases p : A 16 f.toNat = x
    · by_cases q : A 15 f.toNat = y
      · rw [if_neg (fun t => t p), if_neg (fun t => t q), if_pos ⟨p, q⟩]
      · rw [if_neg (fun t => t p), if_pos q, if_neg (fun t => q t.2)]
    · rw [if_pos p, if_neg (fun t => p t.1)]
theorem c188 {x y : Int} (hA : RgA A) (hx : -2147483648 ≤ x ∧ x < 2147483648) (hy : -2147483648 ≤ y ∧ y < 2147483648) (hf : 1 ≤ I 29 ∧ I 29 ≤ 40) :
    mX G 188 0 [.ref (b + 43), .int (iI x), .int (iI y), mU] [] (wH h0 b I A P R o) n k Q ↔ Q (.inl (some (.int (iI (seek (fun j => A 16 j.toNat = x ∧ A 15 j.toNat = y) (I 29 - 1).toNat 1)))), wH h0 b I A P R o, n, k) := by
  simp (disch := first | omega | exact hA | (simp only [updI_at, upA_at, Nat.reduceEqDiff, reduceIte]; omega) | exact (hA _ _).1 | exact (hA _ _).2) only [↓s188_0, ↓s188_1, mN1_int, mN1_ref, mN1_null, mN1_U, mN1_rf, mCats_nil, mCats_int, mCats_ref, mCats_null, mCats_long, mCats_rf, mIsRef_ref, mIsRef_null, mIsRef_va, mRf_ref, mRf_null, mRf_rf, true_and, and_true, true_or, or_true, eq_self_iff_true, mK_v, mK_0, Nat.reduceAdd, Nat.reduceLeDiff, Nat.zero_le, iL_0, iL_1, iL_m1, iI_add, iI_sub, iI_mul, iI_neg, updI_at, upA_at, upP_at, upR_at, Nat.reduceEqDiff, reduceIte, Int.reduceAdd, Int.reduceSub, Int.reduceMul, Int.reduceDiv, Int.reduceMod, Int.reduceLT, Int.reduceLE, Int.reduceEq, Int.reduceNeg, not_true_eq_false, not_false_eq_true, Decidable.not_not]
  exact c188_l hA hx hy hf.2 _ _ (by omega) (by omega)
theorem c182 {x : Int} (hb : G.2.2.2 ≤ b) (hA : RgA A) (h9 : 0 ≤ I 28 ∧ I 28 ≤ 300) (hx : -2147483648 ≤ x ∧ x < 2147483648) : mX G 182 0 [.ref (b + 43), .int (iI x)] [] (wH h0 b I A P R o) n k Q ↔
    if 0 ≤ x ∧ x ≤ I 28 then Q (.inl (some (.int (iI 1))), wH h0 b (updI (updI I 27 0) 28 x) A P R o, n, k) else Q (.inl (some (.int (iI 0))), wH h0 b (updI I 27 0) A P R o, n, k) := by
  simp (disch := first | omega | exact hA | (simp only [updI_at, upA_at, Nat.reduceEqDiff, reduceIte]; omega) | exact (hA _ _).1 | exact (hA _ _).2) only [↓s182_0, ↓s182_1, ↓s182_2, ↓s182_5, ↓s182_6, ↓s182_7, ↓s182_8, ↓s182_9, ↓s182_12, ↓s182_13, ↓s182_16, ↓s182_19, ↓s182_20, ↓s182_21, ↓s182_22, ↓s182_23, ↓s182_26, ↓s182_27, lL_0, wg_43_2, wp_43_0, wp_43_2, mN1_int, mN1_ref, mN1_null, mN1_U, mN1_rf, mCats_nil, mCats_int, mCats_ref, mCats_null, mCats_long, mCats_rf, mIsRef_ref, mIsRef_null, mIsRef_va, mRf_ref, mRf_null, mRf_rf, true_and, and_true, true_or, or_true, eq_self_iff_true, mK_v, mK_0, Nat.reduceAdd, Nat.reduceLeDiff, Nat.zero_le, iL_0, iL_1, iL_m1, iI_add, iI_sub, iI_mul, iI_neg, updI_at, upA_at, upP_at, upR_at, Nat.reduceEqDiff, reduceIte, Int.reduceAdd, Int.reduceSub, Int.reduceMul, Int.reduceDiv, Int.reduceMod, Int.reduceLT, Int.reduceLE, Int.reduceEq, Int.reduceNeg, not_true_eq_false, not_false_eq_true, Decidable.not_not, iI_l, c179, bI_01, bI_e0]
end MREF2
