/-! Class: Tlvs.isIn, askMore. -/
section MISIN
variable {G : mG} {h h0 : mH} {n k b : Nat} {Q : mR → Prop} {I : Nat → Int} {A : Nat → Nat → Int} {P : Nat → Nat} {R : Nat → Option Nat} {o : Nat → Int64}
variable {a N : Nat} {f : Nat → Int}
theorem ld2 {K : Int32 → Prop} {z : Int} (ha : h a = some (.inl (2, N, fun j => iI (f j)))) (hN : N < 100) (h1 : 0 ≤ z) (h2 : z < N) : mLdI h a (iI z) K ↔ K (iI (f z.toNat)) := by
  unfold mLdI; rw [ha]
  have q := iI_ix h1 h2 (by omega)
  rw [iI_nat (by omega) (by omega)] at q ⊢
  exact ⟨fun q => q.2, fun w => ⟨⟨Or.inr rfl, q.1, q.2⟩, w⟩⟩
theorem ln2 {K : Nat → Prop} (ha : h a = some (.inl (2, N, fun j => iI (f j)))) : mLen h a K ↔ K N := by
  unfold mLen; rw [ha]
theorem c127_l {x : Int} (ha : h a = some (.inl (2, N, fun j => iI (f j)))) (hN : N < 100) (hf : ∀ j, 0 ≤ f j ∧ f j ≤ 255) (hx : 0 ≤ x ∧ x < 1000) : ∀ (d : Nat) (i : Int), 0 ≤ i → i + d = N →
    (mX G 127 2 [.ref a, .int (iI x), .int (iI i)] [] h n k Q ↔ Q (.inl (some (.int (iI (bI (0 ≤ seek (fun j => f j.toNat = x) d i))))), h, n, k)) := by
  intro d
  induction d with
  | zero =>
    intro i h1 h2
    rw [s127_2]
    simp (maxSteps := 1000000) (disch := first | omega | (simp only [updI_at, upA_at, Nat.reduceEqDiff, reduceIte]; omega) | exact mIsRef_rf _ | exact rfl) only [↓s127_0, ↓s127_1, ↓s127_3, ↓s127_4, ↓s127_5, ↓s127_8, ↓s127_9, ↓s127_10, ↓s127_11, ↓s127_12, ↓s127_15, ↓s127_16, ↓s127_17, ↓s127_20, ↓s127_23, ↓s127_24, mN1_int, mN1_ref, mN1_null, mN1_U, mN1_rf, mCats_nil, mCats_int, mCats_ref, mCats_null, mCats_long, mCats_rf, mIsRef_ref, mIsRef_null, mIsRef_va, mRf_ref, mRf_null, mRf_rf, true_and, and_true, true_or, or_true, eq_self_iff_true, mK_v, mK_0, Nat.reduceAdd, Nat.reduceLeDiff, Nat.zero_le, iL_0, iL_1, iL_m1, iI_add, iI_sub, iI_mul, iI_neg, updI_at, upA_at, upP_at, upR_at, Nat.reduceEqDiff, reduceIte, Int.reduceAdd, Int.reduceSub, Int.reduceMul, Int.reduceDiv, Int.reduceMod, Int.reduceLT, Int.reduceLE, Int.reduceEq, Int.reduceNeg, not_true_eq_false, not_false_eq_true, Decidable.not_not, ln2 ha, iI_nI, iI_le]
    rw [if_pos (by omega), bI_f (by unfold seek; omega)]
  | succ d ih =>
    intro i h1 h2
    rw [s127_2]
    have q := hf i.toNat
    have el : ∀ K, mLdI h a (iI i) K ↔ K (iI (f i.toNat)) := fun K => ld2 ha hN h1 (by omega)
    simp (maxSteps := 1000000) (disch := first | omega | (simp only [updI_at, upA_at, Nat.reduceEqDiff, reduceIte]; omega) | exact mIsRef_rf _ | exact rfl) only [↓s127_0, ↓s127_1, ↓s127_3, ↓s127_4, ↓s127_5, ↓s127_8, ↓s127_9, ↓s127_10, ↓s127_11, ↓s127_12, ↓s127_15, ↓s127_16, ↓s127_17, ↓s127_20, ↓s127_23, ↓s127_24, mN1_int, mN1_ref, mN1_null, mN1_U, mN1_rf, mCats_nil, mCats_int, mCats_ref, mCats_null, mCats_long, mCats_rf, mIsRef_ref, mIsRef_null, mIsRef_va, mRf_ref, mRf_null, mRf_rf, true_and, and_true, true_or, or_true, eq_self_iff_true, mK_v, mK_0, Nat.reduceAdd, Nat.reduceLeDiff, Nat.zero_le, iL_0, iL_1, iL_m1, iI_add, iI_sub, iI_mul, iI_neg, updI_at, upA_at, upP_at, upR_at, Nat.reduceEqDiff, reduceIte, Int.reduceAdd, Int.reduceSub, Int.reduceMul, Int.reduceDiv, Int.reduceMod, Int.reduceLT, Int.reduceLE, Int.reduceEq, Int.reduceNeg, not_true_eq_false, not_false_eq_true, Decidable.not_not, ln2 ha, el, iI_nI, iI_le, iI_eq]
    rw [if_neg (by omega), ih (i + 1) (by omega) (by omega), seek_s]
    by_cases p : f i.toNat = x
    · rw [if_neg (fun t => t p), if_pos p, bI_t h1]
    · rw [if_pos p, if_neg p]
theorem c127 {x : Int} (ha : h a = some (.inl (2, N, fun j => iI (f j)))) (hN : N < 100) (hf : ∀ j, 0 ≤ f j ∧ f j ≤ 255) (hx : 0 ≤ x ∧ x < 1000) :
    mX G 127 0 [.ref a, .int (iI x), mU] [] h n k Q ↔ Q (.inl (some (.int (iI (bI (0 ≤ seek (fun j => f j.toNat = x) N 0))))), h, n, k) := by
  simp (maxSteps := 1000000) (disch := first | omega | (simp only [updI_at, upA_at, Nat.reduceEqDiff, reduceIte]; omega) | exact mIsRef_rf _ | exact rfl) only [↓s127_0, ↓s127_1, mN1_int, mN1_ref, mN1_null, mN1_U, mN1_rf, mCats_nil, mCats_int, mCats_ref, mCats_null, mCats_long, mCats_rf, mIsRef_ref, mIsRef_null, mIsRef_va, mRf_ref, mRf_null, mRf_rf, true_and, and_true, true_or, or_true, eq_self_iff_true, mK_v, mK_0, Nat.reduceAdd, Nat.reduceLeDiff, Nat.zero_le, iL_0, iL_1, iL_m1, iI_add, iI_sub, iI_mul, iI_neg, updI_at, upA_at, upP_at, upR_at, Nat.reduceEqDiff, reduceIte, Int.reduceAdd, Int.reduceSub, Int.reduceMul, Int.reduceDiv, Int.reduceMod, Int.reduceLT, Int.reduceLE, Int.reduceEq, Int.reduceNeg, not_true_eq_false, not_false_eq_true, Decidable.not_not]
  exact c127_l ha hN hf hx N 0 (by omega) (by omega)
theorem d124_l (ha : wH h0 b I A P R o a = some (.inl (2, N, fun j => iI (f j)))) (hN : N < 100) (hf : ∀ j, 0 ≤ f j ∧ f j ≤ 255) (hm : ∀ j, 0 ≤ A 11 j ∧ A 11 j ≤ 1) : ∀ (d : Nat) (i : Int), 0 ≤ i → i + d = 128 →
    (mX G 124 2 [.ref (b + 35), .ref a, .int (iI i)] [] (wH h0 b I A P R o) n k Q ↔ Q (.inl (some (.int (iI (bI (0 ≤ seek (fun j => ¬ A 11 j.toNat = 0 ∧ ¬ 0 ≤ seek (fun l => f l.toNat = j) N 0) d i))))), wH h0 b I A P R o, n, k)) := by
  intro d
  induction d with
  | zero =>
    intro i h1 h2
    rw [s124_2]
    simp (maxSteps := 1000000) (disch := first | omega | (simp only [updI_at, upA_at, Nat.reduceEqDiff, reduceIte]; omega) | exact mIsRef_rf _ | exact rfl) only [↓s124_0, ↓s124_1, ↓s124_3, ↓s124_6, ↓s124_9, ↓s124_10, ↓s124_13, ↓s124_14, ↓s124_15, ↓s124_18, ↓s124_19, ↓s124_20r, ↓s124_23, ↓s124_26, ↓s124_27, ↓s124_28, ↓s124_31, ↓s124_34, ↓s124_35, iL_128, wg_35_2, wl_38, wn_38, ws_38, mN1_int, mN1_ref, mN1_null, mN1_U, mN1_rf, mCats_nil, mCats_int, mCats_ref, mCats_null, mCats_long, mCats_rf, mIsRef_ref, mIsRef_null, mIsRef_va, mRf_ref, mRf_null, mRf_rf, true_and, and_true, true_or, or_true, eq_self_iff_true, mK_v, mK_0, Nat.reduceAdd, Nat.reduceLeDiff, Nat.zero_le, iL_0, iL_1, iL_m1, iI_add, iI_sub, iI_mul, iI_neg, updI_at, upA_at, upP_at, upR_at, Nat.reduceEqDiff, reduceIte, Int.reduceAdd, Int.reduceSub, Int.reduceMul, Int.reduceDiv, Int.reduceMod, Int.reduceLT, Int.reduceLE, Int.reduceEq, Int.reduceNeg, not_true_eq_false, not_false_eq_true, Decidable.not_not, iI_le]
    rw [if_pos (by omega), bI_f (by unfold seek; omega)]
  | succ d ih =>
    intro i h1 h2
    rw [s124_2]
    have q := hm i.toNat
    have hc : ¬ 128 ≤ i := by omega
    have e := fun Q' => c127 (G := G) (n := n) (k := k) (Q := Q') (x := i) ha hN hf (by omega)
    rw [seek_s]
    by_cases p : A 11 i.toNat = 0
    · simp (maxSteps := 1000000) (disch := first | omega | (simp only [updI_at, upA_at, Nat.reduceEqDiff, reduceIte]; omega) | exact mIsRef_rf _ | exact rfl) only [↓s124_0, ↓s124_1, ↓s124_3, ↓s124_6, ↓s124_9, ↓s124_10, ↓s124_13, ↓s124_14, ↓s124_15, ↓s124_18, ↓s124_19, ↓s124_20r, ↓s124_23, ↓s124_26, ↓s124_27, ↓s124_28, ↓s124_31, ↓s124_34, ↓s124_35, iL_128, wg_35_2, wl_38, wn_38, ws_38, mN1_int, mN1_ref, mN1_null, mN1_U, mN1_rf, mCats_nil, mCats_int, mCats_ref, mCats_null, mCats_long, mCats_rf, mIsRef_ref, mIsRef_null, mIsRef_va, mRf_ref, mRf_null, mRf_rf, true_and, and_true, true_or, or_true, eq_self_iff_true, mK_v, mK_0, Nat.reduceAdd, Nat.reduceLeDiff, Nat.zero_le, iL_0, iL_1, iL_m1, iI_add, iI_sub, iI_mul, iI_neg, updI_at, upA_at, upP_at, upR_at, Nat.reduceEqDiff, reduceIte, Int.reduceAdd, Int.reduceSub, Int.reduceMul, Int.reduceDiv, Int.reduceMod, Int.reduceLT, Int.reduceLE, Int.reduceEq, Int.reduceNeg, not_true_eq_false, not_false_eq_true, Decidable.not_not, iI_le, iI_eq, hc, p]
      rw [ih (i + 1) (by omega) (by omega), if_neg (fun t => t.1)]
    · by_cases s : 0 ≤ seek (fun l => f l.toNat = i) N 0
      · rw [if_neg (fun t => t.2 s)]
        simp (maxSteps := 1000000) (disch := first | omega | (simp only [updI_at, upA_at, Nat.reduceEqDiff, reduceIte]; omega) | exact mIsRef_rf _ | exact rfl) only [↓s124_0, ↓s124_1, ↓s124_3, ↓s124_6, ↓s124_9, ↓s124_10, ↓s124_13, ↓s124_14, ↓s124_15, ↓s124_18, ↓s124_19, ↓s124_20r, ↓s124_23, ↓s124_26, ↓s124_27, ↓s124_28, ↓s124_31, ↓s124_34, ↓s124_35, iL_128, wg_35_2, wl_38, wn_38, ws_38, mN1_int, mN1_ref, mN1_null, mN1_U, mN1_rf, mCats_nil, mCats_int, mCats_ref, mCats_null, mCats_long, mCats_rf, mIsRef_ref, mIsRef_null, mIsRef_va, mRf_ref, mRf_null, mRf_rf, true_and, and_true, true_or, or_true, eq_self_iff_true, mK_v, mK_0, Nat.reduceAdd, Nat.reduceLeDiff, Nat.zero_le, iL_0, iL_1, iL_m1, iI_add, iI_sub, iI_mul, iI_neg, updI_at, upA_at, upP_at, upR_at, Nat.reduceEqDiff, reduceIte, Int.reduceAdd, Int.reduceSub, Int.reduceMul, Int.reduceDiv, Int.reduceMod, Int.reduceLT, Int.reduceLE, Int.reduceEq, Int.reduceNeg, not_true_eq_false, not_false_eq_true, Decidable.not_not, iI_le, iI_eq, hc, p, e, bI_e0, s]
        rw [ih (i + 1) (by omega) (by omega)]
      · rw [if_pos ⟨p, s⟩, bI_t h1]
        simp (maxSteps := 1000000) (disch := first | omega | (simp only [updI_at, upA_at, Nat.reduceEqDiff, reduceIte]; omega) | exact mIsRef_rf _ | exact rfl) only [↓s124_0, ↓s124_1, ↓s124_3, ↓s124_6, ↓s124_9, ↓s124_10, ↓s124_13, ↓s124_14, ↓s124_15, ↓s124_18, ↓s124_19, ↓s124_20r, ↓s124_23, ↓s124_26, ↓s124_27, ↓s124_28, ↓s124_31, ↓s124_34, ↓s124_35, iL_128, wg_35_2, wl_38, wn_38, ws_38, mN1_int, mN1_ref, mN1_null, mN1_U, mN1_rf, mCats_nil, mCats_int, mCats_ref, mCats_null, mCats_long, mCats_rf, mIsRef_ref, mIsRef_null, mIsRef_va, mRf_ref, mRf_null, mRf_rf, true_and, and_true, true_or, or_true, eq_self_iff_true, mK_v, mK_0, Nat.reduceAdd, Nat.reduceLeDiff, Nat.zero_le, iL_0, iL_1, iL_m1, iI_add, iI_sub, iI_mul, iI_neg, updI_at, upA_at, upP_at, upR_at, Nat.reduceEqDiff, reduceIte, Int.reduceAdd, Int.reduceSub, Int.reduceMul, Int.reduceDiv, Int.reduceMod, Int.reduceLT, Int.reduceLE, Int.reduceEq, Int.reduceNeg, not_true_eq_false, not_false_eq_true, Decidable.not_not, iI_le, iI_eq, hc, p, e, bI_e0, s]
end MISIN
