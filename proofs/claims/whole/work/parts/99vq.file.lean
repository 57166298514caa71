/-! The call: file; its parts. -/
section MFILE1
variable {G : mG} {h h0 : mH} {n k b : Nat} {Q : mR → Prop} {I : Nat → Int} {A : Nat → Nat → Int} {P : Nat → Nat} {R : Nat → Option Nat} {o : Nat → Int64}
theorem shp_mul {c s y : Int} (h : shp c s y) : 0 ≤ s * y ∧ s * y ≤ 65025 := by
  rcases h with ⟨_, rfl, rfl⟩ | ⟨_, h1, rfl⟩ | ⟨_, _, h1, h2⟩
  · omega
  · omega
  · have a1 := Int.mul_nonneg (show 0 ≤ s by omega) (show 0 ≤ y by omega)
    have a2 := Int.mul_le_mul h1.2 h2.2 (show 0 ≤ y by omega) (show (0 : Int) ≤ 255 by omega)
    omega
def shpD (c s y : Int) : Decidable (shp c s y) := inferInstanceAs (Decidable ((c = 0 ∧ s = 0 ∧ y = 0) ∨ (c = 1 ∧ (1 ≤ s ∧ s ≤ 1000) ∧ y = 1) ∨ (¬ c = 0 ∧ ¬ c = 1 ∧ (1 ≤ s ∧ s ≤ 255) ∧ (1 ≤ y ∧ y ≤ 255))))
theorem c189' {a c d s y : Int} [Decidable (shp c s y)] (hb : G.2.2.2 ≤ b) (hA : RgA A) (ha : -2147483648 ≤ a ∧ a < 2147483648) (hc : -2147483648 ≤ c ∧ c < 2147483648) (hd : -2147483648 ≤ d ∧ d < 2147483648) (hs : -2147483648 ≤ s ∧ s < 2147483648) (hy : -2147483648 ≤ y ∧ y < 2147483648) (h1 : 1 ≤ (I 29) ∧ (I 29) ≤ 40) (h2 : 0 ≤ (I 30) ∧ (I 30) ≤ 8000) :
    mX G 189 0 [.ref (b + 43), .int (iI a), .int (iI c), .int (iI d), .int (iI s), .int (iI y), mU, mU, mU] [] (wH h0 b I A P R o) n k Q ↔
      if 0 ≤ a ∧ a ≤ (I 29) - 1 then
        if ((A 17) a.toNat = 0 ∧ (0 ≤ c ∧ c ≤ 3) ∧ (0 ≤ d ∧ d ≤ 65535) ∧ ¬ d = 16128 ∧ ¬ d = (A 15) a.toNat ∧ seek (fun j => (A 16) j.toNat = a ∧ (A 15) j.toNat = d) ((I 29) - 1).toNat 1 < 0) ∧ shp c s y then
          if (I 29) = 40 ∨ 8000 < (I 30) + s * y then Q (.inl (some (.int (iI 0))), wH h0 b (updI (updI I 27 0) 27 3) A P R o, n, k)
          else Q (.inl (some (.int (iI (I 29)))), wH h0 b (updI (updI (updI I 27 0) 29 ((I 29) + 1)) 30 ((I 30) + s * y)) (upA (upA (upA (upA (upA (upA (upA A 16 (upE (A 16) ((I 29)).toNat a)) 17 (upE (A 17) ((I 29)).toNat c)) 15 (upE (A 15) ((I 29)).toNat d)) 18 (upE (A 18) ((I 29)).toNat s)) 19 (upE (A 19) ((I 29)).toNat y)) 22 (upE (A 22) ((I 29)).toNat (I 30))) 23 (cpE (A 23) ff (I 30) (s * y))) P R o, n, k)
        else Q (.inl (some (.int (iI 0))), wH h0 b (updI (updI I 27 0) 27 2) A P R o, n, k)
      else Q (.inl (some (.int (iI 0))), wH h0 b (updI (updI I 27 0) 27 1) A P R o, n, k) := by
  rw [c189 hb hA ha hc hd h1]
  by_cases p : 0 ≤ a ∧ a ≤ (I 29) - 1
  · rw [if_pos p, if_pos p]
    by_cases q : (A 17) a.toNat = 0 ∧ (0 ≤ c ∧ c ≤ 3) ∧ (0 ≤ d ∧ d ≤ 65535) ∧ ¬ d = 16128 ∧ ¬ d = (A 15) a.toNat ∧ seek (fun j => (A 16) j.toNat = a ∧ (A 15) j.toNat = d) ((I 29) - 1).toNat 1 < 0
    · rw [bI_t q, c189_s (f := 1) hb hA hc hs hy (Or.inr rfl)]
      by_cases u : shp c s y
      · have uu : (1 : Int) = 1 ∧ shp c s y := ⟨rfl, u⟩
        have qu : ((A 17) a.toNat = 0 ∧ (0 ≤ c ∧ c ≤ 3) ∧ (0 ≤ d ∧ d ≤ 65535) ∧ ¬ d = 16128 ∧ ¬ d = (A 15) a.toNat ∧ seek (fun j => (A 16) j.toNat = a ∧ (A 15) j.toNat = d) ((I 29) - 1).toNat 1 < 0) ∧ shp c s y := ⟨q, u⟩
        rw [bI_t uu, c189_b (I := updI I 27 0) (f := 1) hb h1 h2 (fun _ => shp_mul u) (Or.inr rfl), if_pos rfl, if_pos qu]
        exact Iff.rfl
      · have uu : ¬ ((1 : Int) = 1 ∧ shp c s y) := fun t => u t.2
        rw [bI_f uu, c189_b (I := updI I 27 0) (f := 0) hb h1 h2 (fun t => by omega) (Or.inl rfl), if_neg (by omega), if_neg (fun t => u t.2)]
    · rw [bI_f q, c189_s (f := 0) hb hA hc hs hy (Or.inl rfl)]
      have uu : ¬ ((0 : Int) = 1 ∧ shp c s y) := fun t => by omega
      rw [bI_f uu, c189_b (I := updI I 27 0) (f := 0) hb h1 h2 (fun t => by omega) (Or.inl rfl), if_neg (by omega), if_neg (fun t => q t.1)]
  · rw [if_neg p, if_neg p]
theorem d34 {c s y : Int} [Decidable (shp c s y)] (hc : -2147483648 ≤ c ∧ c < 2147483648) (hs : -2147483648 ≤ s ∧ s < 2147483648) (hy : -2147483648 ≤ y ∧ y < 2147483648) : mX G 34 0 [.int (iI c), .int (iI s), .int (iI y)] [] h n k Q ↔ Q (.inl (some (.int (iI (bI ((0 ≤ c ∧ c ≤ 3) ∧ shp c s y))))), h, n, k) := by
  by_cases c0 : c = 0
  · by_cases p1 : s = 0
    · by_cases p2 : y = 0
      · rw [bI_t ⟨by omega, by unfold shp; omega⟩]
        simp (maxSteps := 1000000) (disch := first | omega | (simp only [updI_at, upA_at, Nat.reduceEqDiff, reduceIte]; omega) | exact mIsRef_rf _ | exact rfl) only [↓s34_0, ↓s34_1, ↓s34_32, ↓s34_33, ↓s34_36, ↓s34_37, ↓s34_40, ↓s34_41, ↓s34_44, ↓s34_45, ↓s34_46, ↓s34_47, ↓s34_48, ↓s34_51, ↓s34_52, ↓s34_55, ↓s34_58, ↓s34_59, ↓s34_60, ↓s34_63, ↓s34_64, ↓s34_67, ↓s34_68, ↓s34_69, ↓s34_70, ↓s34_71, ↓s34_74, ↓s34_75, ↓s34_78, ↓s34_81, ↓s34_82, ↓s34_83, ↓s34_86, ↓s34_87, ↓s34_90, ↓s34_93, ↓s34_94, ↓s34_97, ↓s34_98, ↓s34_99, ↓s34_100, iL_1000, iL_2, iL_255, iL_3, mN1_int, mN1_ref, mN1_null, mN1_U, mN1_rf, mCats_nil, mCats_int, mCats_ref, mCats_null, mCats_long, mCats_rf, mIsRef_ref, mIsRef_null, mIsRef_va, mRf_ref, mRf_null, mRf_rf, true_and, and_true, true_or, or_true, eq_self_iff_true, mK_v, mK_0, Nat.reduceAdd, Nat.reduceLeDiff, Nat.zero_le, iL_0, iL_1, iL_m1, iI_add, iI_sub, iI_mul, iI_neg, updI_at, upA_at, upP_at, upR_at, Nat.reduceEqDiff, reduceIte, Int.reduceAdd, Int.reduceSub, Int.reduceMul, Int.reduceDiv, Int.reduceMod, Int.reduceLT, Int.reduceLE, Int.reduceEq, Int.reduceNeg, not_true_eq_false, not_false_eq_true, Decidable.not_not, iI_eq, iI_lt, c0, p1, p2]
      · rw [bI_f (fun t => by have := t.2; unfold shp at this; omega)]
        simp (maxSteps := 1000000) (disch := first | omega | (simp only [updI_at, upA_at, Nat.reduceEqDiff, reduceIte]; omega) | exact mIsRef_rf _ | exact rfl) only [↓s34_0, ↓s34_1, ↓s34_32, ↓s34_33, ↓s34_36, ↓s34_37, ↓s34_40, ↓s34_41, ↓s34_44, ↓s34_45, ↓s34_46, ↓s34_47, ↓s34_48, ↓s34_51, ↓s34_52, ↓s34_55, ↓s34_58, ↓s34_59, ↓s34_60, ↓s34_63, ↓s34_64, ↓s34_67, ↓s34_68, ↓s34_69, ↓s34_70, ↓s34_71, ↓s34_74, ↓s34_75, ↓s34_78, ↓s34_81, ↓s34_82, ↓s34_83, ↓s34_86, ↓s34_87, ↓s34_90, ↓s34_93, ↓s34_94, ↓s34_97, ↓s34_98, ↓s34_99, ↓s34_100, iL_1000, iL_2, iL_255, iL_3, mN1_int, mN1_ref, mN1_null, mN1_U, mN1_rf, mCats_nil, mCats_int, mCats_ref, mCats_null, mCats_long, mCats_rf, mIsRef_ref, mIsRef_null, mIsRef_va, mRf_ref, mRf_null, mRf_rf, true_and, and_true, true_or, or_true, eq_self_iff_true, mK_v, mK_0, Nat.reduceAdd, Nat.reduceLeDiff, Nat.zero_le, iL_0, iL_1, iL_m1, iI_add, iI_sub, iI_mul, iI_neg, updI_at, upA_at, upP_at, upR_at, Nat.reduceEqDiff, reduceIte, Int.reduceAdd, Int.reduceSub, Int.reduceMul, Int.reduceDiv, Int.reduceMod, Int.reduceLT, Int.reduceLE, Int.reduceEq, Int.reduceNeg, not_true_eq_false, not_false_eq_true, Decidable.not_not, iI_eq, iI_lt, c0, p1, p2]
    · rw [bI_f (fun t => by have := t.2; unfold shp at this; omega)]
      simp (maxSteps := 1000000) (disch := first | omega | (simp only [updI_at, upA_at, Nat.reduceEqDiff, reduceIte]; omega) | exact mIsRef_rf _ | exact rfl) only [↓s34_0, ↓s34_1, ↓s34_32, ↓s34_33, ↓s34_36, ↓s34_37, ↓s34_40, ↓s34_41, ↓s34_44, ↓s34_45, ↓s34_46, ↓s34_47, ↓s34_48, ↓s34_51, ↓s34_52, ↓s34_55, ↓s34_58, ↓s34_59, ↓s34_60, ↓s34_63, ↓s34_64, ↓s34_67, ↓s34_68, ↓s34_69, ↓s34_70, ↓s34_71, ↓s34_74, ↓s34_75, ↓s34_78, ↓s34_81, ↓s34_82, ↓s34_83, ↓s34_86, ↓s34_87, ↓s34_90, ↓s34_93, ↓s34_94, ↓s34_97, ↓s34_98, ↓s34_99, ↓s34_100, iL_1000, iL_2, iL_255, iL_3, mN1_int, mN1_ref, mN1_null, mN1_U, mN1_rf, mCats_nil, mCats_int, mCats_ref, mCats_null, mCats_long, mCats_rf, mIsRef_ref, mIsRef_null, mIsRef_va, mRf_ref, mRf_null, mRf_rf, true_and, and_true, true_or, or_true, eq_self_iff_true, mK_v, mK_0, Nat.reduceAdd, Nat.reduceLeDiff, Nat.zero_le, iL_0, iL_1, iL_m1, iI_add, iI_sub, iI_mul, iI_neg, updI_at, upA_at, upP_at, upR_at, Nat.reduceEqDiff, reduceIte, Int.reduceAdd, Int.reduceSub, Int.reduceMul, Int.reduceDiv, Int.reduceMod, Int.reduceLT, Int.reduceLE, Int.reduceEq, Int.reduceNeg, not_true_eq_false, not_false_eq_true, Decidable.not_not, iI_eq, iI_lt, c0, p1]
  · by_cases c1 : c = 1
    · by_cases p1 : s < 1
      · rw [bI_f (fun t => by have := t.2; unfold shp at this; omega)]
        simp (maxSteps := 1000000) (disch := first | omega | (simp only [updI_at, upA_at, Nat.reduceEqDiff, reduceIte]; omega) | exact mIsRef_rf _ | exact rfl) only [↓s34_0, ↓s34_1, ↓s34_32, ↓s34_33, ↓s34_36, ↓s34_37, ↓s34_40, ↓s34_41, ↓s34_44, ↓s34_45, ↓s34_46, ↓s34_47, ↓s34_48, ↓s34_51, ↓s34_52, ↓s34_55, ↓s34_58, ↓s34_59, ↓s34_60, ↓s34_63, ↓s34_64, ↓s34_67, ↓s34_68, ↓s34_69, ↓s34_70, ↓s34_71, ↓s34_74, ↓s34_75, ↓s34_78, ↓s34_81, ↓s34_82, ↓s34_83, ↓s34_86, ↓s34_87, ↓s34_90, ↓s34_93, ↓s34_94, ↓s34_97, ↓s34_98, ↓s34_99, ↓s34_100, iL_1000, iL_2, iL_255, iL_3, mN1_int, mN1_ref, mN1_null, mN1_U, mN1_rf, mCats_nil, mCats_int, mCats_ref, mCats_null, mCats_long, mCats_rf, mIsRef_ref, mIsRef_null, mIsRef_va, mRf_ref, mRf_null, mRf_rf, true_and, and_true, true_or, or_true, eq_self_iff_true, mK_v, mK_0, Nat.reduceAdd, Nat.reduceLeDiff, Nat.zero_le, iL_0, iL_1, iL_m1, iI_add, iI_sub, iI_mul, iI_neg, updI_at, upA_at, upP_at, upR_at, Nat.reduceEqDiff, reduceIte, Int.reduceAdd, Int.reduceSub, Int.reduceMul, Int.reduceDiv, Int.reduceMod, Int.reduceLT, Int.reduceLE, Int.reduceEq, Int.reduceNeg, not_true_eq_false, not_false_eq_true, Decidable.not_not, iI_eq, iI_lt, c1, p1]
      · by_cases p2 : 1000 < s
        · rw [bI_f (fun t => by have := t.2; unfold shp at this; omega)]
          simp (maxSteps := 1000000) (disch := first | omega | (simp only [updI_at, upA_at, Nat.reduceEqDiff, reduceIte]; omega) | exact mIsRef_rf _ | exact rfl) only [↓s34_0, ↓s34_1, ↓s34_32, ↓s34_33, ↓s34_36, ↓s34_37, ↓s34_40, ↓s34_41, ↓s34_44, ↓s34_45, ↓s34_46, ↓s34_47, ↓s34_48, ↓s34_51, ↓s34_52, ↓s34_55, ↓s34_58, ↓s34_59, ↓s34_60, ↓s34_63, ↓s34_64, ↓s34_67, ↓s34_68, ↓s34_69, ↓s34_70, ↓s34_71, ↓s34_74, ↓s34_75, ↓s34_78, ↓s34_81, ↓s34_82, ↓s34_83, ↓s34_86, ↓s34_87, ↓s34_90, ↓s34_93, ↓s34_94, ↓s34_97, ↓s34_98, ↓s34_99, ↓s34_100, iL_1000, iL_2, iL_255, iL_3, mN1_int, mN1_ref, mN1_null, mN1_U, mN1_rf, mCats_nil, mCats_int, mCats_ref, mCats_null, mCats_long, mCats_rf, mIsRef_ref, mIsRef_null, mIsRef_va, mRf_ref, mRf_null, mRf_rf, true_and, and_true, true_or, or_true, eq_self_iff_true, mK_v, mK_0, Nat.reduceAdd, Nat.reduceLeDiff, Nat.zero_le, iL_0, iL_1, iL_m1, iI_add, iI_sub, iI_mul, iI_neg, updI_at, upA_at, upP_at, upR_at, Nat.reduceEqDiff, reduceIte, Int.reduceAdd, Int.reduceSub, Int.reduceMul, Int.reduceDiv, Int.reduceMod, Int.reduceLT, Int.reduceLE, Int.reduceEq, Int.reduceNeg, not_true_eq_false, not_false_eq_true, Decidable.not_not, iI_eq, iI_lt, c1, p1, p2]
        · by_cases p3 : y = 1
          · rw [bI_t ⟨by omega, by unfold shp; omega⟩]
            simp (maxSteps := 1000000) (disch := first | omega | (simp only [updI_at, upA_at, Nat.reduceEqDiff, reduceIte]; omega) | exact mIsRef_rf _ | exact rfl) only [↓s34_0, ↓s34_1, ↓s34_32, ↓s34_33, ↓s34_36, ↓s34_37, ↓s34_40, ↓s34_41, ↓s34_44, ↓s34_45, ↓s34_46, ↓s34_47, ↓s34_48, ↓s34_51, ↓s34_52, ↓s34_55, ↓s34_58, ↓s34_59, ↓s34_60, ↓s34_63, ↓s34_64, ↓s34_67, ↓s34_68, ↓s34_69, ↓s34_70, ↓s34_71, ↓s34_74, ↓s34_75, ↓s34_78, ↓s34_81, ↓s34_82, ↓s34_83, ↓s34_86, ↓s34_87, ↓s34_90, ↓s34_93, ↓s34_94, ↓s34_97, ↓s34_98, ↓s34_99, ↓s34_100, iL_1000, iL_2, iL_255, iL_3, mN1_int, mN1_ref, mN1_null, mN1_U, mN1_rf, mCats_nil, mCats_int, mCats_ref, mCats_null, mCats_long, mCats_rf, mIsRef_ref, mIsRef_null, mIsRef_va, mRf_ref, mRf_null, mRf_rf, true_and, and_true, true_or, or_true, eq_self_iff_true, mK_v, mK_0, Nat.reduceAdd, Nat.reduceLeDiff, Nat.zero_le, iL_0, iL_1, iL_m1, iI_add, iI_sub, iI_mul, iI_neg, updI_at, upA_at, upP_at, upR_at, Nat.reduceEqDiff, reduceIte, Int.reduceAdd, Int.reduceSub, Int.reduceMul, Int.reduceDiv, Int.reduceMod, Int.reduceLT, Int.reduceLE, Int.reduceEq, Int.reduceNeg, not_true_eq_false, not_false_eq_true, Decidable.not_not, iI_eq, iI_lt, c1, p1, p2, p3]
          · rw [bI_f (fun t => by have := t.2; unfold shp at this; omega)]
            simp (maxSteps := 1000000) (disch := first | omega | (simp only [updI_at, upA_at, Nat.reduceEqDiff, reduceIte]; omega) | exact mIsRef_rf _ | exact rfl) only [↓s34_0, ↓s34_1, ↓s34_32, ↓s34_33, ↓s34_36, ↓s34_37, ↓s34_40, ↓s34_41, ↓s34_44, ↓s34_45, ↓s34_46, ↓s34_47, ↓s34_48, ↓s34_51, ↓s34_52, ↓s34_55, ↓s34_58, ↓s34_59, ↓s34_60, ↓s34_63, ↓s34_64, ↓s34_67, ↓s34_68, ↓s34_69, ↓s34_70, ↓s34_71, ↓s34_74, ↓s34_75, ↓s34_78, ↓s34_81, ↓s34_82, ↓s34_83, ↓s34_86, ↓s34_87, ↓s34_90, ↓s34_93, ↓s34_94, ↓s34_97, ↓s34_98, ↓s34_99, ↓s34_100, iL_1000, iL_2, iL_255, iL_3, mN1_int, mN1_ref, mN1_null, mN1_U, mN1_rf, mCats_nil, mCats_int, mCats_ref, mCats_null, mCats_long, mCats_rf, mIsRef_ref, mIsRef_null, mIsRef_va, mRf_ref, mRf_null, mRf_rf, true_and, and_true, true_or, or_true, eq_self_iff_true, mK_v, mK_0, Nat.reduceAdd, Nat.reduceLeDiff, Nat.zero_le, iL_0, iL_1, iL_m1, iI_add, iI_sub, iI_mul, iI_neg, updI_at, upA_at, upP_at, upR_at, Nat.reduceEqDiff, reduceIte, Int.reduceAdd, Int.reduceSub, Int.reduceMul, Int.reduceDiv, Int.reduceMod, Int.reduceLT, Int.reduceLE, Int.reduceEq, Int.reduceNeg, not_true_eq_false, not_false_eq_true, Decidable.not_not, iI_eq, iI_lt, c1, p1, p2, p3]
    · by_cases c2 : c = 2 ∨ c = 3
      · have st : mX G 34 0 [.int (iI c), .int (iI s), .int (iI y)] [] h n k Q ↔ mX G 34 69 [.int (iI c), .int (iI s), .int (iI y)] [] h n k Q := by
          rcases c2 with rfl | rfl <;> simp (maxSteps := 1000000) (disch := first | omega | (simp only [updI_at, upA_at, Nat.reduceEqDiff, reduceIte]; omega) | exact mIsRef_rf _ | exact rfl) only [↓s34_0, ↓s34_1, ↓s34_32, ↓s34_33, ↓s34_36, ↓s34_37, ↓s34_40, ↓s34_41, ↓s34_44, ↓s34_45, ↓s34_46, ↓s34_47, ↓s34_48, ↓s34_51, ↓s34_52, ↓s34_55, ↓s34_58, ↓s34_59, ↓s34_60, ↓s34_63, ↓s34_64, ↓s34_67, ↓s34_68, ↓s34_70, ↓s34_71, ↓s34_74, ↓s34_75, ↓s34_78, ↓s34_81, ↓s34_82, ↓s34_83, ↓s34_86, ↓s34_87, ↓s34_90, ↓s34_93, ↓s34_94, ↓s34_97, ↓s34_98, ↓s34_99, ↓s34_100, iL_1000, iL_2, iL_255, iL_3, mN1_int, mN1_ref, mN1_null, mN1_U, mN1_rf, mCats_nil, mCats_int, mCats_ref, mCats_null, mCats_long, mCats_rf, mIsRef_ref, mIsRef_null, mIsRef_va, mRf_ref, mRf_null, mRf_rf, true_and, and_true, true_or, or_true, eq_self_iff_true, mK_v, mK_0, Nat.reduceAdd, Nat.reduceLeDiff, Nat.zero_le, iL_0, iL_1, iL_m1, iI_add, iI_sub, iI_mul, iI_neg, updI_at, upA_at, upP_at, upR_at, Nat.reduceEqDiff, reduceIte, Int.reduceAdd, Int.reduceSub, Int.reduceMul, Int.reduceDiv, Int.reduceMod, Int.reduceLT, Int.reduceLE, Int.reduceEq, Int.reduceNeg, not_true_eq_false, not_false_eq_true, Decidable.not_not, iI_eq]
        rw [st]
        by_cases p1 : s < 1
        · rw [bI_f (fun t => by have := t.2; unfold shp at this; omega)]
          simp (maxSteps := 1000000) (disch := first | omega | (simp only [updI_at, upA_at, Nat.reduceEqDiff, reduceIte]; omega) | exact mIsRef_rf _ | exact rfl) only [↓s34_0, ↓s34_1, ↓s34_32, ↓s34_33, ↓s34_36, ↓s34_37, ↓s34_40, ↓s34_41, ↓s34_44, ↓s34_45, ↓s34_46, ↓s34_47, ↓s34_48, ↓s34_51, ↓s34_52, ↓s34_55, ↓s34_58, ↓s34_59, ↓s34_60, ↓s34_63, ↓s34_64, ↓s34_67, ↓s34_68, ↓s34_69, ↓s34_70, ↓s34_71, ↓s34_74, ↓s34_75, ↓s34_78, ↓s34_81, ↓s34_82, ↓s34_83, ↓s34_86, ↓s34_87, ↓s34_90, ↓s34_93, ↓s34_94, ↓s34_97, ↓s34_98, ↓s34_99, ↓s34_100, iL_1000, iL_2, iL_255, iL_3, mN1_int, mN1_ref, mN1_null, mN1_U, mN1_rf, mCats_nil, mCats_int, mCats_ref, mCats_null, mCats_long, mCats_rf, mIsRef_ref, mIsRef_null, mIsRef_va, mRf_ref, mRf_null, mRf_rf, true_and, and_true, true_or, or_true, eq_self_iff_true, mK_v, mK_0, Nat.reduceAdd, Nat.reduceLeDiff, Nat.zero_le, iL_0, iL_1, iL_m1, iI_add, iI_sub, iI_mul, iI_neg, updI_at, upA_at, upP_at, upR_at, Nat.reduceEqDiff, reduceIte, Int.reduceAdd, Int.reduceSub, Int.reduceMul, Int.reduceDiv, Int.reduceMod, Int.reduceLT, Int.reduceLE, Int.reduceEq, Int.reduceNeg, not_true_eq_false, not_false_eq_true, Decidable.not_not, iI_eq, iI_lt, p1]
        · by_cases p2 : 255 < s
          · rw [bI_f (fun t => by have := t.2; unfold shp at this; omega)]
            simp (maxSteps := 1000000) (disch := first | omega | (simp only [updI_at, upA_at, Nat.reduceEqDiff, reduceIte]; omega) | exact mIsRef_rf _ | exact rfl) only [↓s34_0, ↓s34_1, ↓s34_32, ↓s34_33, ↓s34_36, ↓s34_37, ↓s34_40, ↓s34_41, ↓s34_44, ↓s34_45, ↓s34_46, ↓s34_47, ↓s34_48, ↓s34_51, ↓s34_52, ↓s34_55, ↓s34_58, ↓s34_59, ↓s34_60, ↓s34_63, ↓s34_64, ↓s34_67, ↓s34_68, ↓s34_69, ↓s34_70, ↓s34_71, ↓s34_74, ↓s34_75, ↓s34_78, ↓s34_81, ↓s34_82, ↓s34_83, ↓s34_86, ↓s34_87, ↓s34_90, ↓s34_93, ↓s34_94, ↓s34_97, ↓s34_98, ↓s34_99, ↓s34_100, iL_1000, iL_2, iL_255, iL_3, mN1_int, mN1_ref, mN1_null, mN1_U, mN1_rf, mCats_nil, mCats_int, mCats_ref, mCats_null, mCats_long, mCats_rf, mIsRef_ref, mIsRef_null, mIsRef_va, mRf_ref, mRf_null, mRf_rf, true_and, and_true, true_or, or_true, eq_self_iff_true, mK_v, mK_0, Nat.reduceAdd, Nat.reduceLeDiff, Nat.zero_le, iL_0, iL_1, iL_m1, iI_add, iI_sub, iI_mul, iI_neg, updI_at, upA_at, upP_at, upR_at, Nat.reduceEqDiff, reduceIte, Int.reduceAdd, Int.reduceSub, Int.reduceMul, Int.reduceDiv, Int.reduceMod, Int.reduceLT, Int.reduceLE, Int.reduceEq, Int.reduceNeg, not_true_eq_false, not_false_eq_true, Decidable.not_not, iI_eq, iI_lt, p1, p2]
          · by_cases p3 : y < 1
            · rw [bI_f (fun t => by have := t.2; unfold shp at this; omega)]
              simp (maxSteps := 1000000) (disch := first | omega | (simp only [updI_at, upA_at, Nat.reduceEqDiff, reduceIte]; omega) | exact mIsRef_rf _ | exact rfl) only [↓s34_0, ↓s34_1, ↓s34_32, ↓s34_33, ↓s34_36, ↓s34_37, ↓s34_40, ↓s34_41, ↓s34_44, ↓s34_45, ↓s34_46, ↓s34_47, ↓s34_48, ↓s34_51, ↓s34_52, ↓s34_55, ↓s34_58, ↓s34_59, ↓s34_60, ↓s34_63, ↓s34_64, ↓s34_67, ↓s34_68, ↓s34_69, ↓s34_70, ↓s34_71, ↓s34_74, ↓s34_75, ↓s34_78, ↓s34_81, ↓s34_82, ↓s34_83, ↓s34_86, ↓s34_87, ↓s34_90, ↓s34_93, ↓s34_94, ↓s34_97, ↓s34_98, ↓s34_99, ↓s34_100, iL_1000, iL_2, iL_255, iL_3, mN1_int, mN1_ref, mN1_null, mN1_U, mN1_rf, mCats_nil, mCats_int, mCats_ref, mCats_null, mCats_long, mCats_rf, mIsRef_ref, mIsRef_null, mIsRef_va, mRf_ref, mRf_null, mRf_rf, true_and, and_true, true_or, or_true, eq_self_iff_true, mK_v, mK_0, Nat.reduceAdd, Nat.reduceLeDiff, Nat.zero_le, iL_0, iL_1, iL_m1, iI_add, iI_sub, iI_mul, iI_neg, updI_at, upA_at, upP_at, upR_at, Nat.reduceEqDiff, reduceIte, Int.reduceAdd, Int.reduceSub, Int.reduceMul, Int.reduceDiv, Int.reduceMod, Int.reduceLT, Int.reduceLE, Int.reduceEq, Int.reduceNeg, not_true_eq_false, not_false_eq_true, Decidable.not_not, iI_eq, iI_lt, p1, p2, p3]
            · by_cases p4 : 255 < y
              · rw [bI_f (fun t => by have := t.2; unfold shp at this; omega)]
                simp (maxSteps := 1000000) (disch := first | omega | (simp only [updI_at, upA_at, Nat.reduceEqDiff, reduceIte]; omega) | exact mIsRef_rf _ | exact rfl) only [↓s34_0, ↓s34_1, ↓s34_32, ↓s34_33, ↓s34_36, ↓s34_37, ↓s34_40, ↓s34_41, ↓s34_44, ↓s34_45, ↓s34_46, ↓s34_47, ↓s34_48, ↓s34_51, ↓s34_52, ↓s34_55, ↓s34_58, ↓s34_59, ↓s34_60, ↓s34_63, ↓s34_64, ↓s34_67, ↓s34_68, ↓s34_69, ↓s34_70, ↓s34_71, ↓s34_74, ↓s34_75, ↓s34_78, ↓s34_81, ↓s34_82, ↓s34_83, ↓s34_86, ↓s34_87, ↓s34_90, ↓s34_93, ↓s34_94, ↓s34_97, ↓s34_98, ↓s34_99, ↓s34_100, iL_1000, iL_2, iL_255, iL_3, mN1_int, mN1_ref, mN1_null, mN1_U, mN1_rf, mCats_nil, mCats_int, mCats_ref, mCats_null, mCats_long, mCats_rf, mIsRef_ref, mIsRef_null, mIsRef_va, mRf_ref, mRf_null, mRf_rf, true_and, and_true, true_or, or_true, eq_self_iff_true, mK_v, mK_0, Nat.reduceAdd, Nat.reduceLeDiff, Nat.zero_le, iL_0, iL_1, iL_m1, iI_add, iI_sub, iI_mul, iI_neg, updI_at, upA_at, upP_at, upR_at, Nat.reduceEqDiff, reduceIte, Int.reduceAdd, Int.reduceSub, Int.reduceMul, Int.reduceDiv, Int.reduceMod, Int.reduceLT, Int.reduceLE, Int.reduceEq, Int.reduceNeg, not_true_eq_false, not_false_eq_true, Decidable.not_not, iI_eq, iI_lt, p1, p2, p3, p4]
              · rw [bI_t ⟨by omega, by unfold shp; omega⟩]
                simp (maxSteps := 1000000) (disch := first | omega | (simp only [updI_at, upA_at, Nat.reduceEqDiff, reduceIte]; omega) | exact mIsRef_rf _ | exact rfl) only [↓s34_0, ↓s34_1, ↓s34_32, ↓s34_33, ↓s34_36, ↓s34_37, ↓s34_40, ↓s34_41, ↓s34_44, ↓s34_45, ↓s34_46, ↓s34_47, ↓s34_48, ↓s34_51, ↓s34_52, ↓s34_55, ↓s34_58, ↓s34_59, ↓s34_60, ↓s34_63, ↓s34_64, ↓s34_67, ↓s34_68, ↓s34_69, ↓s34_70, ↓s34_71, ↓s34_74, ↓s34_75, ↓s34_78, ↓s34_81, ↓s34_82, ↓s34_83, ↓s34_86, ↓s34_87, ↓s34_90, ↓s34_93, ↓s34_94, ↓s34_97, ↓s34_98, ↓s34_99, ↓s34_100, iL_1000, iL_2, iL_255, iL_3, mN1_int, mN1_ref, mN1_null, mN1_U, mN1_rf, mCats_nil, mCats_int, mCats_ref, mCats_null, mCats_long, mCats_rf, mIsRef_ref, mIsRef_null, mIsRef_va, mRf_ref, mRf_null, mRf_rf, true_and, and_true, true_or, or_true, eq_self_iff_true, mK_v, mK_0, Nat.reduceAdd, Nat.reduceLeDiff, Nat.zero_le, iL_0, iL_1, iL_m1, iI_add, iI_sub, iI_mul, iI_neg, updI_at, upA_at, upP_at, upR_at, Nat.reduceEqDiff, reduceIte, Int.reduceAdd, Int.reduceSub, Int.reduceMul, Int.reduceDiv, Int.reduceMod, Int.reduceLT, Int.reduceLE, Int.reduceEq, Int.reduceNeg, not_true_eq_false, not_false_eq_true, Decidable.not_not, iI_eq, iI_lt, p1, p2, p3, p4]
      · rw [bI_f (fun t => by omega)]
        have c3 : ¬ c = 2 := by omega
        have c4 : ¬ c = 3 := by omega
        simp (maxSteps := 1000000) (disch := first | omega | (simp only [updI_at, upA_at, Nat.reduceEqDiff, reduceIte]; omega) | exact mIsRef_rf _ | exact rfl) only [↓s34_0, ↓s34_1, ↓s34_32, ↓s34_33, ↓s34_36, ↓s34_37, ↓s34_40, ↓s34_41, ↓s34_44, ↓s34_45, ↓s34_46, ↓s34_47, ↓s34_48, ↓s34_51, ↓s34_52, ↓s34_55, ↓s34_58, ↓s34_59, ↓s34_60, ↓s34_63, ↓s34_64, ↓s34_67, ↓s34_68, ↓s34_69, ↓s34_70, ↓s34_71, ↓s34_74, ↓s34_75, ↓s34_78, ↓s34_81, ↓s34_82, ↓s34_83, ↓s34_86, ↓s34_87, ↓s34_90, ↓s34_93, ↓s34_94, ↓s34_97, ↓s34_98, ↓s34_99, ↓s34_100, iL_1000, iL_2, iL_255, iL_3, mN1_int, mN1_ref, mN1_null, mN1_U, mN1_rf, mCats_nil, mCats_int, mCats_ref, mCats_null, mCats_long, mCats_rf, mIsRef_ref, mIsRef_null, mIsRef_va, mRf_ref, mRf_null, mRf_rf, true_and, and_true, true_or, or_true, eq_self_iff_true, mK_v, mK_0, Nat.reduceAdd, Nat.reduceLeDiff, Nat.zero_le, iL_0, iL_1, iL_m1, iI_add, iI_sub, iI_mul, iI_neg, updI_at, upA_at, upP_at, upR_at, Nat.reduceEqDiff, reduceIte, Int.reduceAdd, Int.reduceSub, Int.reduceMul, Int.reduceDiv, Int.reduceMod, Int.reduceLT, Int.reduceLE, Int.reduceEq, Int.reduceNeg, not_true_eq_false, not_false_eq_true, Decidable.not_not, iI_eq, iI_lt, c0, c1, c3, c4]
def flW (h0 : mH) (n : Nat) (num : Int) (ab : Nat) (kd id sz mn : Int) : mH := mUp (mUp h0 n (mO 1 [.int (iI num), .ref ab, .int (iI kd), .int (iI id), .int (iI sz), .int (iI mn), .ref (n + 1), .int (iI 0), .int (iI 0)])) (n + 1) (mI (sz * mn).toNat (fun j => iI (cpE zer (fun _ => 255) 0 (sz * mn).toNat j)))
theorem flW_ne {num kd id sz mn : Int} {ab y : Nat} (h : y < n ∨ n + 2 ≤ y) : flW h0 n num ab kd id sz mn y = h0 y := by
  unfold flW
  rw [mUp_ne (by omega), mUp_ne (by omega)]
theorem flW_0 {num kd id sz mn : Int} {ab : Nat} : flW h0 n num ab kd id sz mn n = some (mO 1 [.int (iI num), .ref ab, .int (iI kd), .int (iI id), .int (iI sz), .int (iI mn), .ref (n + 1), .int (iI 0), .int (iI 0)]) := by
  unfold flW
  rw [mUp_ne (by omega), mUp_same]
theorem flW_1 {num kd id sz mn : Int} {ab : Nat} : flW h0 n num ab kd id sz mn (n + 1) = some (mI (sz * mn).toNat (fun j => iI (cpE zer (fun _ => 255) 0 (sz * mn).toNat j))) := mUp_same _ _ _
section
variable {fcap : Nat} {fg : Nat → Option Nat}
theorem d40 {c kd id sz mn : Int} {ab : Nat} (hb : G.2.2.2 ≤ b) (hN0 : 0 ≤ sz * mn ∧ sz * mn ≤ 8000) (hp : G.2.2.2 ≤ P 2) (hcc : c ≤ fcap) (hh : h0 (P 2) = some (mA 4 fcap fg)) (hcap : fcap ≤ 100) (hl : hol b (P 2)) (hc : (I 10) = c) (hN : 1 ≤ c ∧ c < 40) (hn : b + 79 ≤ n) (hz : ∀ y, n ≤ y → h0 y = none)
    (hob : ∀ i : Nat, (i : Int) < c → ∃ q ci fs, fg i = some q ∧ hol b q ∧ h0 q = some (mO ci fs)) : ∃ (p2 cap' : Nat) (fg' : Nat → Option Nat) (n' d : Nat), (∀ k Q, mX G 40 0 [.ref (b + 6), .ref ab, .int (iI kd), .int (iI id), .int (iI sz), .int (iI mn), mU] [] (wH h0 b I A P R o) n k Q ↔ Q (.inl (some (.int (iI c))), wH (mUp (flW h0 n c ab kd id sz mn) p2 (mA 4 cap' fg')) b (updI (updI (updI I 9 ((I 9) + 1)) 10 (c + 1)) 8 ((I 8) + sz * mn)) A (upP P 2 p2) R o, n', k + d)) ∧
      ((p2 = P 2 ∧ n' = n + 2 ∧ h0 p2 = some (mA 4 fcap fg)) ∨ (p2 = n + 2 ∧ n' = n + 3)) ∧ d ≤ 8200 ∧ ((∀ i : Nat, (i : Int) < c → fg' i = fg i) ∧ fg' c.toNat = some n) ∧ ((c + 1 ≤ cap' ∧ 1 ≤ cap') ∧ cap' ≤ 100) ∧ (G.2.2.2 ≤ p2 ∧ hol b p2) := by
  have hp2 : P 2 < n := hLt hz hh
  have w0 : ∀ (h : mH) (e : mE), mUp (wH h b I A P R o) n e = wH (mUp h n e) b I A P R o := fun h e => wH_put (Or.inr (Or.inl (by omega)))
  have w1 : ∀ (h : mH) (e : mE), mUp (wH h b I A P R o) (n + 1) e = wH (mUp h (n + 1) e) b I A P R o := fun h e => wH_put (Or.inr (Or.inl (by omega)))
  have z0 : ∀ k Q, mX G 0 0 [.ref n, .int (iI c), .ref ab, .int (iI kd), .int (iI id), .int (iI sz), .int (iI mn), mU] [] (wH (mUp h0 n (mO 1 [.int (iI 0), .null, .int (iI 0), .int (iI 0), .int (iI 0), .int (iI 0), .null, .int (iI 0), .int (iI 0)])) b I A P R o) (n + 1) k Q ↔ Q (.inl none, wH (flW h0 n c ab kd id sz mn) b I A P R o, n + 2, k + (sz * mn).toNat) := by
    intro k Q
    have e := r0 (G := G) (H := wH h0 b I A P R o) (a := n) (ab := some ab) (n := n + 1) (k := k) (Q := Q) (num := c) (kd := kd) (id := id) (sz := sz) (mn := mn) (by omega) (by omega) (by omega)
    simp only [Nat.add_assoc, Nat.reduceAdd, w0, w1, va_some] at e
    exact e
  have hpe : flW h0 n c ab kd id sz mn (P 2) = h0 (P 2) := flW_ne (Or.inl hp2)
  have z269 := fun k Q => d269f (G := G) (b := b) (h0 := mUp h0 n (mO 1 [.int (iI 0), .null, .int (iI 0), .int (iI 0), .int (iI 0), .int (iI 0), .null, .int (iI 0), .int (iI 0)])) (n := n + 1) (k := k) (Q := Q) (I := I) (A := A) (P := P) (R := R) (o := o)
  rw [hc] at z269
  obtain ⟨p2, cap', fg', n', d, z273, a1, a2, a3, a4, a5⟩ := add_f (I := I) (A := A) (R := R) (o := o) (h0 := flW h0 n c ab kd id sz mn) (n := n + 2) (y := n) (lo := 1) (c := c) (cap := fcap) (ng := fg) hb (by omega) (Or.inr ⟨hp, ⟨hcc, by omega⟩, by rw [hpe]; exact hh⟩) hcap hl hc (by omega) flW_0 (Or.inr (Or.inl hn)) (by omega) (by omega) (by omega) (fun i hi => by
    obtain ⟨q', ci, fs, q1, q2, q3⟩ := hob i hi
    have lt := hLt hz q3
    exact ⟨q', ci, fs, q1, by omega, q2, by rw [flW_ne (Or.inl lt)]; exact q3⟩)
  refine ⟨p2, cap', fg', n', 9 + (sz * mn).toNat + d, ?_, ?_, by omega, a3, a4, a5⟩
  · intro k Q
    have hpn : n ≠ p2 ∧ n + 1 ≠ p2 := by
      rcases a1 with ⟨e, _⟩ | ⟨e, _⟩ <;> omega
    have g0 : mUp (flW h0 n c ab kd id sz mn) p2 (mA 4 cap' fg') n = some (mO 1 [.int (iI c), .ref ab, .int (iI kd), .int (iI id), .int (iI sz), .int (iI mn), .ref (n + 1), .int (iI 0), .int (iI 0)]) := by rw [mUp_ne hpn.1]; exact flW_0
    have g1 : mUp (flW h0 n c ab kd id sz mn) p2 (mA 4 cap' fg') (n + 1) = some (mI (sz * mn).toNat (fun j => iI (cpE zer (fun _ => 255) 0 (sz * mn).toNat j))) := by rw [mUp_ne hpn.2]; exact flW_1
    generalize mUp (flW h0 n c ab kd id sz mn) p2 (mA 4 cap' fg') = h2 at *
    have e0 : ∀ (I' : Nat → Int), wH h2 b I' A (upP P 2 p2) R o n = some (mO 1 [.int (iI c), .ref ab, .int (iI kd), .int (iI id), .int (iI sz), .int (iI mn), .ref (n + 1), .int (iI 0), .int (iI 0)]) := fun I' => by rw [wH_hole (Or.inr (Or.inl hn))]; exact g0
    have e1 : ∀ (I' : Nat → Int), wH h2 b I' A (upP P 2 p2) R o (n + 1) = some (mI (sz * mn).toNat (fun j => iI (cpE zer (fun _ => 255) 0 (sz * mn).toNat j))) := fun I' => by rw [wH_hole (Or.inr (Or.inl (by omega)))]; exact g1
    have zg0 : ∀ I' K, mGet (wH h2 b I' A (upP P 2 p2) R o) n 1 0 K ↔ K (.int (iI c)) := fun I' K => hGet (e0 I') rfl
    have zg6 : ∀ I' K, mGet (wH h2 b I' A (upP P 2 p2) R o) n 1 6 K ↔ K (.ref (n + 1)) := fun I' K => hGet (e0 I') rfl
    have zrc : ∀ I', mRecv (wH h2 b I' A (upP P 2 p2) R o) n 1 ↔ True := fun I' => hRecv (e0 I')
    have zl : ∀ I' K, mLen (wH h2 b I' A (upP P 2 p2) R o) (n + 1) K ↔ K (sz * mn).toNat := fun I' K => hLen (e1 I')
    have eN : ((sz * mn).toNat : Int) = sz * mn := by omega
    generalize hNN : (sz * mn).toNat = NN at *
    simp (maxSteps := 1000000) (disch := first | omega | (simp only [updI_at, upA_at, Nat.reduceEqDiff, reduceIte]; omega) | exact mIsRef_rf _ | exact rfl) only [↓s40_0, ↓s40_3, ↓s40_4, ↓s40_5, ↓s40_8, ↓s40_11, ↓s40_12, ↓s40_13, ↓s40_14, ↓s40_16, ↓s40_18r, ↓s40_21, ↓s40_23, ↓s40_24, ↓s40_27, ↓s40_29r, ↓s40_32, ↓s40_33, ↓s40_34, ↓s40_35, ↓s40_38, ↓s40_40, ↓s40_43, ↓s40_44, ↓s40_47, ↓s40_49, ↓s40_52, wc_18, wc_7, wg_6_0, wg_6_1, wp_6_1, ↓s1_0, ↓s1_1, ↓s1_4, ↓s1_5, mN1_int, mN1_ref, mN1_null, mN1_U, mN1_rf, mCats_nil, mCats_int, mCats_ref, mCats_null, mCats_long, mCats_rf, mIsRef_ref, mIsRef_null, mIsRef_va, mRf_ref, mRf_null, mRf_rf, true_and, and_true, true_or, or_true, eq_self_iff_true, mK_v, mK_0, Nat.reduceAdd, Nat.reduceLeDiff, Nat.zero_le, iL_0, iL_1, iL_m1, iI_add, iI_sub, iI_mul, iI_neg, updI_at, upA_at, upP_at, upR_at, Nat.reduceEqDiff, reduceIte, Int.reduceAdd, Int.reduceSub, Int.reduceMul, Int.reduceDiv, Int.reduceMod, Int.reduceLT, Int.reduceLE, Int.reduceEq, Int.reduceNeg, not_true_eq_false, not_false_eq_true, Decidable.not_not, w0, z269, z0, z273, zg0, zg6, zrc, zl, iI_nI, eN, Nat.add_assoc]
  · rcases a1 with ⟨e, e2, e3⟩ | ⟨e, e2⟩
    · left
      refine ⟨e, e2, ?_⟩
      rw [e]
      exact hh
    · exact Or.inr ⟨e, e2⟩
end
theorem iM_file {a c d s y : Int} {F : Nat} {g : Nat → Int} (h : iM I A) (hri : ri I A) (hF : (F : Int) = (I 29)) (hF4 : F < 40) (ha : 0 ≤ a ∧ a < (I 29)) (hk : (A 17) a.toNat = 0) (hc : 0 ≤ c ∧ c ≤ 3) (hd : 0 ≤ d ∧ d ≤ 65535) (hs : shp c s y) (hu : (I 30) + s * y ≤ 8000) (hg : ∀ j, 0 ≤ g j ∧ g j ≤ 255) : iM (updI (updI (updI I 27 0) 29 ((I 29) + 1)) 30 ((I 30) + s * y)) (upA (upA (upA (upA (upA (upA (upA A 16 (upE (A 16) F a)) 17 (upE (A 17) F c)) 15 (upE (A 15) F d)) 18 (upE (A 18) F s)) 19 (upE (A 19) F y)) 22 (upE (A 22) F (I 30))) 23 g) := by
  obtain ⟨hA, ⟨f1, f2, f3, f4, f5, f6⟩, hH, hN, hS, hT⟩ := h
  have sm := shp_mul hs
  have sz := shp_sz hs
  refine ⟨RgA_upA (RgA_upA (RgA_upA (RgA_upA (RgA_upA (RgA_upA (RgA_upA hA ?_) ?_) ?_) ?_) ?_) ?_) (fun j => by have := hg j; omega), ⟨?_, ?_, ?_, ?_, ?_, hg⟩, ?_, ?_, hS, hT⟩
  · exact fun j => upE_P (p := fun x => -2147483648 ≤ x ∧ x < 2147483648) (hA _) (by omega) j
  · exact fun j => upE_P (p := fun x => -2147483648 ≤ x ∧ x < 2147483648) (hA _) (by omega) j
  · exact fun j => upE_P (p := fun x => -2147483648 ≤ x ∧ x < 2147483648) (hA _) (by omega) j
  · exact fun j => upE_P (p := fun x => -2147483648 ≤ x ∧ x < 2147483648) (hA _) (by omega) j
  · exact fun j => upE_P (p := fun x => -2147483648 ≤ x ∧ x < 2147483648) (hA _) (by omega) j
  · exact fun j => upE_P (p := fun x => -2147483648 ≤ x ∧ x < 2147483648) (hA _) (by omega) j
  · show 1 ≤ (I 29) + 1 ∧ (I 29) + 1 ≤ 40
    omega
  · show 0 ≤ (I 30) + s * y ∧ (I 30) + s * y ≤ 8000
    omega
  · intro f hf
    have hf' : (f : Int) < (I 29) + 1 := hf
    show (0 ≤ upE (A 17) F c f ∧ upE (A 17) F c f ≤ 3) ∧ shp (upE (A 17) F c f) (upE (A 18) F s f) (upE (A 19) F y f) ∧ (0 ≤ upE (A 15) F d f ∧ upE (A 15) F d f ≤ 65535) ∧ (0 ≤ upE (A 22) F (I 30) f ∧ upE (A 22) F (I 30) f + upE (A 18) F s f * upE (A 19) F y f ≤ (I 30) + s * y) ∧ (0 ≤ (A 20) f ∧ (A 20) f ≤ 2) ∧ (0 ≤ (A 21) f ∧ (A 21) f ≤ 2) ∧ (-1 ≤ upE (A 16) F a f ∧ upE (A 16) F a f < f) ∧ (0 < f → 0 ≤ upE (A 16) F a f ∧ upE (A 17) F c (upE (A 16) F a f).toNat = 0)
    by_cases e : f = F
    · subst e
      have r0 := hri f (by omega)
      simp only [upE_same]
      refine ⟨hc, hs, hd, ⟨by omega, by omega⟩, by omega, by omega, by omega, ?_⟩
      intro _
      rw [upE_ne (by omega)]
      exact ⟨ha.1, hk⟩
    · obtain ⟨k1, k2, k3, k4, k5, k6, k7, k8⟩ := f3 f (by omega)
      simp only [upE_ne e]
      refine ⟨k1, k2, k3, ⟨by omega, by omega⟩, k5, k6, k7, ?_⟩
      intro hf0
      have k8' := k8 hf0
      rw [upE_ne (by omega)]
      exact k8'
  · intro f g' h1 h2
    have h2' : (g' : Int) < (I 29) + 1 := h2
    show upE (A 22) F (I 30) f + upE (A 18) F s f * upE (A 19) F y f ≤ upE (A 22) F (I 30) g'
    have e1 : f ≠ F := by omega
    rw [upE_ne e1, upE_ne e1, upE_ne e1]
    by_cases e : g' = F
    · subst e
      rw [upE_same]
      exact (f3 f (by omega)).2.2.2.1.2
    · rw [upE_ne e]
      exact f4 f g' h1 (by omega)
  · show upE (A 16) F a 0 = -1 ∧ upE (A 15) F d 0 = 16128 ∧ upE (A 17) F c 0 = 0
    rw [upE_ne (by omega), upE_ne (by omega), upE_ne (by omega)]
    exact f5
  · obtain ⟨d1, d2, d3, d4, d5⟩ := hH
    refine ⟨?_, ?_, d3, ?_, d5⟩
    · show 0 ≤ (I 36) ∧ (I 36) < (I 29) + 1
      omega
    · show -1 ≤ (I 37) ∧ (I 37) < (I 29) + 1
      omega
    · intro w
      have w' : 0 ≤ (I 37) := w
      show 1 ≤ upE (A 17) F c ((I 37)).toNat ∧ (2 ≤ upE (A 17) F c ((I 37)).toNat → (I 38) ≤ upE (A 19) F y ((I 37)).toNat)
      rw [upE_ne (by omega), upE_ne (by omega)]
      exact d4 w'
  · obtain ⟨n1, n2, n3⟩ := hN
    refine ⟨n1, ?_, n3⟩
    intro x hx
    obtain ⟨k1, k2, k3, k4, k5, k6⟩ := n2 x hx
    refine ⟨k1, k2, k3, k4, ?_, k6⟩
    show -1 ≤ (A 28) x ∧ (A 28) x < (I 29) + 1
    omega
end MFILE1
