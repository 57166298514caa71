/-! Class: readRecord, writeRecord. -/
section MRECC
variable {G : mG} {h h0 : mH} {n k b : Nat} {Q : mR → Prop} {I : Nat → Int} {A : Nat → Nat → Int} {P : Nat → Nat} {R : Nat → Option Nat} {o : Nat → Int64}
section
variable {J : Nat → Int} {B : Nat → Nat → Int} {fa : Nat → Nat} {fb : Nat → Nat → Int} {cap : Nat} {fg : Nat → Option Nat}
theorem chC_wh {kd m : Int} (q1 : (I 4) = J 47) (q2 : (I 5) = J 48) (q8 : (I 16) = J 38) (hm : m = B 19 (J 37).toNat) (hk : kd = B 17 (J 37).toNat) (h1 : 0 ≤ J 47) (hr : 0 ≤ J 38 ∧ J 38 ≤ m) (hm1 : 1 ≤ m) (hw : isW J) : chC I m kd = if whF J B = 0 then -1 else whF J B := by
  unfold chC whF
  rw [q1, q2, q8, ← hm, ← hk]
  unfold isW at hw
  repeat' split
  all_goals omega
def rrC (I : Nat → Int) (A : Nat → Nat → Int) (J : Nat → Int) (B : Nat → Nat → Int) : Z3 :=
  if J 50 < 0 then (26368, I, A) else if ¬ wrF J B 2 3 0 = 0 then (wrF J B 2 3 0, I, A)
  else if ¬ isW J then (27270, I, A) else if whF J B = 0 then (27267, I, A)
  else if ¬ J 50 = 256 ∧ ¬ J 50 = B 18 (J 37).toNat then (27648 + B 18 (J 37).toNat, I, A)
  else (36864, (if J 48 = 4 then lwI I 1 (txtL (B 23) (B 18 (J 37).toNat).toNat (B 22 (J 37).toNat + B 18 (J 37).toNat * (whF J B - 1)).toNat) else updI (lwI I 1 (txtL (B 23) (B 18 (J 37).toNat).toNat (B 22 (J 37).toNat + B 18 (J 37).toNat * (whF J B - 1)).toNat)) 16 (whF J B)), lwA I A 1 0 (txtL (B 23) (B 18 (J 37).toNat).toNat (B 22 (J 37).toNat + B 18 (J 37).toNat * (whF J B - 1)).toNat))
theorem d18 (hb : G.2.2.2 ≤ b) (hd : dFl G h0 b (P 2) J B fa fb cap fg) (hM : iM J B) (hC : iCm J) (hq : cq I A J B) (hR : R 1 = rfV fa (J 37)) : mX G 18 0 [.ref (b + 16), .ref (b + 3), mU, mU, mU] [] (wH h0 b I A P R o) n k Q ↔ Q (.inl (some (.int (iI (rrC I A J B).1))), wH h0 b (rrC I A J B).2.1 (rrC I A J B).2.2 P R o, n, k) := by
  obtain ⟨⟨⟨q1, q2⟩, q3, q4⟩, ⟨q5, q6⟩, ⟨q7, q8⟩, q9, q10⟩ := hq
  obtain ⟨c1, c2, c3, c4, c5⟩ := hC
  have d2 := hM.2.2.1.2.1
  have d3 := hM.2.2.1.2.2.1
  have dv := hM.2.2.1.2.2.2.2.1
  have f1 := hM.2.1.1
  have zw := fun Q' => d76 (G := G) (h0 := h0) (b := b) (n := n) (k := k) (Q := Q') (I := I) (A := A) (P := P) (R := R) (o := o) (by omega)
  have z30 := fun Q' => d30 (G := G) (h0 := h0) (b := b) (n := n) (k := k) (Q := Q') (I := I) (A := A) (P := P) (R := R) (o := o) (by omega) (by omega)
  have iw : isWc I = isW J := by unfold isWc isW; rw [q1, q2]
  unfold rrC
  by_cases p1 : J 50 < 0
  · rw [if_pos p1]
    simp only [bI_f (show ¬ ¬ (I 6) = -1 by omega)] at zw
    simp (maxSteps := 1000000) (disch := first | omega | (simp only [updI_at, upA_at, Nat.reduceEqDiff, reduceIte]; omega) | exact mIsRef_rf _ | exact rfl) only [↓s18_0, ↓s18_1, ↓s18_4, ↓s18_7, ↓s18_10, ↓s18_11, ↓s18_12, ↓s18_15, ↓s18_16, ↓s18_17, ↓s18_20, ↓s18_23, ↓s18_24, ↓s18_25, ↓s18_26, ↓s18_27, ↓s18_30r, ↓s18_33, ↓s18_34, ↓s18_35, ↓s18_37, ↓s18_40, ↓s18_41, ↓s18_42, ↓s18_43r, ↓s18_46, ↓s18_49, ↓s18_52, ↓s18_53, ↓s18_54, ↓s18_55, ↓s18_56r, ↓s18_59, ↓s18_61, ↓s18_63, ↓s18_64, ↓s18_67, ↓s18_70, ↓s18_71, ↓s18_72, ↓s18_75, ↓s18_78, ↓s18_81, ↓s18_82, ↓s18_85, ↓s18_86, ↓s18_89, ↓s18_92, ↓s18_95, ↓s18_96, ↓s18_99, ↓s18_100, ↓s18_101, ↓s18_102, ↓s18_103, ↓s18_104, ↓s18_106, ↓s18_109, ↓s18_110, ↓s18_113r, ↓s18_116, ↓s18_117, ↓s18_118, ↓s18_120r, ↓s18_123, ↓s18_125, iL_256, iL_26368, iL_27014, iL_27267, iL_27270, iL_27648, iL_36864, wc_16, wc_3, wg_16_4, wg_3_5, mN1_int, mN1_ref, mN1_null, mN1_U, mN1_rf, mCats_nil, mCats_int, mCats_ref, mCats_null, mCats_long, mCats_rf, mIsRef_ref, mIsRef_null, mIsRef_va, mRf_ref, mRf_null, mRf_rf, true_and, and_true, true_or, or_true, eq_self_iff_true, mK_v, mK_0, Nat.reduceAdd, Nat.reduceLeDiff, Nat.zero_le, iL_0, iL_1, iL_m1, iI_add, iI_sub, iI_mul, iI_neg, updI_at, upA_at, upP_at, upR_at, Nat.reduceEqDiff, reduceIte, Int.reduceAdd, Int.reduceSub, Int.reduceMul, Int.reduceDiv, Int.reduceMod, Int.reduceLT, Int.reduceLE, Int.reduceEq, Int.reduceNeg, not_true_eq_false, not_false_eq_true, Decidable.not_not, zw, iI_eq]
  · rw [if_neg p1]
    simp only [bI_t (show ¬ (I 6) = -1 by omega)] at zw
    by_cases p2 : J 37 < 0
    · rw [wrF_n p2, if_pos (by decide)]
      have e1 : R 1 = none := by rw [hR]; exact if_pos p2
      simp (maxSteps := 1000000) (disch := first | omega | (simp only [updI_at, upA_at, Nat.reduceEqDiff, reduceIte]; omega) | exact mIsRef_rf _ | exact rfl) only [↓s18_0, ↓s18_1, ↓s18_4, ↓s18_7, ↓s18_10, ↓s18_11, ↓s18_12, ↓s18_15, ↓s18_16, ↓s18_17, ↓s18_20, ↓s18_23, ↓s18_24, ↓s18_25, ↓s18_26, ↓s18_27, ↓s18_30r, ↓s18_33, ↓s18_34, ↓s18_35, ↓s18_37, ↓s18_40, ↓s18_41, ↓s18_42, ↓s18_43r, ↓s18_46, ↓s18_49, ↓s18_52, ↓s18_53, ↓s18_54, ↓s18_55, ↓s18_56r, ↓s18_59, ↓s18_61, ↓s18_63, ↓s18_64, ↓s18_67, ↓s18_70, ↓s18_71, ↓s18_72, ↓s18_75, ↓s18_78, ↓s18_81, ↓s18_82, ↓s18_85, ↓s18_86, ↓s18_89, ↓s18_92, ↓s18_95, ↓s18_96, ↓s18_99, ↓s18_100, ↓s18_101, ↓s18_102, ↓s18_103, ↓s18_104, ↓s18_106, ↓s18_109, ↓s18_110, ↓s18_113r, ↓s18_116, ↓s18_117, ↓s18_118, ↓s18_120r, ↓s18_123, ↓s18_125, iL_256, iL_26368, iL_27014, iL_27267, iL_27270, iL_27648, iL_36864, wc_16, wc_3, wg_16_4, wg_3_5, mN1_int, mN1_ref, mN1_null, mN1_U, mN1_rf, mCats_nil, mCats_int, mCats_ref, mCats_null, mCats_long, mCats_rf, mIsRef_ref, mIsRef_null, mIsRef_va, mRf_ref, mRf_null, mRf_rf, true_and, and_true, true_or, or_true, eq_self_iff_true, mK_v, mK_0, Nat.reduceAdd, Nat.reduceLeDiff, Nat.zero_le, iL_0, iL_1, iL_m1, iI_add, iI_sub, iI_mul, iI_neg, updI_at, upA_at, upP_at, upR_at, Nat.reduceEqDiff, reduceIte, Int.reduceAdd, Int.reduceSub, Int.reduceMul, Int.reduceDiv, Int.reduceMod, Int.reduceLT, Int.reduceLE, Int.reduceEq, Int.reduceNeg, not_true_eq_false, not_false_eq_true, Decidable.not_not, zw, iI_eq, e1, va_none]
    · have e1 : R 1 = some (fa (J 37).toNat) := by rw [hR]; exact if_neg p2
      obtain ⟨i1, i2, i3, i4, i5⟩ := hd.2.2.1 (J 37).toNat (by omega)
      obtain ⟨o1, o2, o3, o4, o5, o6, o7⟩ := hM.2.1.2.2.1 (J 37).toNat (by omega)
      have o8 := shp_sz o2
      have e2 : fF B (J 37).toNat 2 = B 17 (J 37).toNat := rfl
      have e4 : fF B (J 37).toNat 4 = B 18 (J 37).toNat := rfl
      have e5 : fF B (J 37).toNat 5 = B 19 (J 37).toNat := rfl
      have e7 : fF B (J 37).toNat 7 = B 20 (J 37).toNat := rfl
      have z29 := fun Q' => d29 (n := n) (k := k) (Q := Q') (I := I) (A := A) (P := P) (R := R) (o := o) (x := B 20 (J 37).toNat) i2 i3 o1 o5 (by omega)
      rw [e2] at z29
      by_cases p3 : B 17 (J 37).toNat = 2 ∨ B 17 (J 37).toNat = 3
      · by_cases p4 : B 20 (J 37).toNat = 0 ∨ B 20 (J 37).toNat = 1 ∧ ¬ J 35 = 0
        · rw [wrF_o0 p2 (by omega) p4, if_neg (fun t => t rfl)]
          have p4' : okR I (B 20 (J 37).toNat) := by unfold okR; rw [q9]; exact p4
          simp only [eq_true p3, not_true_eq_false, if_false, eq_true p4'] at z29
          obtain ⟨o9, o10⟩ := shp_2 o2 (by omega)
          have dr := (hM.2.2.1.2.2.2.1 (by omega)).2 (by omega)
          have wr := whF_rng (I := J) (A := B) c1 ⟨d3.1, dr⟩ o10.1
          have z31 := fun Q' => d31 (n := n) (k := k) (Q := Q') (I := I) (A := A) (P := P) (R := R) (o := o) i2 o1 (by rw [e5]; omega) (by omega) (by omega) (by omega)
          by_cases p5 : isW J
          · rw [if_neg (fun t => t p5)]
            have p5' : isWc I := by rw [iw]; exact p5
            simp only [bI_t p5'] at z30
            rw [e5, e2, chC_wh (J := J) (B := B) q1 q2 q8 rfl rfl c1.1 ⟨d3.1, dr⟩ o10.1 p5] at z31
            by_cases p6 : whF J B = 0
            · rw [if_pos p6]
              simp only [eq_true p6, if_true] at z31
              simp (maxSteps := 1000000) (disch := first | omega | (simp only [updI_at, upA_at, Nat.reduceEqDiff, reduceIte]; omega) | exact mIsRef_rf _ | exact rfl) only [↓s18_0, ↓s18_1, ↓s18_4, ↓s18_7, ↓s18_10, ↓s18_11, ↓s18_12, ↓s18_15, ↓s18_16, ↓s18_17, ↓s18_20, ↓s18_23, ↓s18_24, ↓s18_25, ↓s18_26, ↓s18_27, ↓s18_30r, ↓s18_33, ↓s18_34, ↓s18_35, ↓s18_37, ↓s18_40, ↓s18_41, ↓s18_42, ↓s18_43r, ↓s18_46, ↓s18_49, ↓s18_52, ↓s18_53, ↓s18_54, ↓s18_55, ↓s18_56r, ↓s18_59, ↓s18_61, ↓s18_63, ↓s18_64, ↓s18_67, ↓s18_70, ↓s18_71, ↓s18_72, ↓s18_75, ↓s18_78, ↓s18_81, ↓s18_82, ↓s18_85, ↓s18_86, ↓s18_89, ↓s18_92, ↓s18_95, ↓s18_96, ↓s18_99, ↓s18_100, ↓s18_101, ↓s18_102, ↓s18_103, ↓s18_104, ↓s18_106, ↓s18_109, ↓s18_110, ↓s18_113r, ↓s18_116, ↓s18_117, ↓s18_118, ↓s18_120r, ↓s18_123, ↓s18_125, iL_256, iL_26368, iL_27014, iL_27267, iL_27270, iL_27648, iL_36864, wc_16, wc_3, wg_16_4, wg_3_5, mN1_int, mN1_ref, mN1_null, mN1_U, mN1_rf, mCats_nil, mCats_int, mCats_ref, mCats_null, mCats_long, mCats_rf, mIsRef_ref, mIsRef_null, mIsRef_va, mRf_ref, mRf_null, mRf_rf, true_and, and_true, true_or, or_true, eq_self_iff_true, mK_v, mK_0, Nat.reduceAdd, Nat.reduceLeDiff, Nat.zero_le, iL_0, iL_1, iL_m1, iI_add, iI_sub, iI_mul, iI_neg, updI_at, upA_at, upP_at, upR_at, Nat.reduceEqDiff, reduceIte, Int.reduceAdd, Int.reduceSub, Int.reduceMul, Int.reduceDiv, Int.reduceMod, Int.reduceLT, Int.reduceLE, Int.reduceEq, Int.reduceNeg, not_true_eq_false, not_false_eq_true, Decidable.not_not, zw, iI_eq, e1, va_some, reduceCtorEq, gg_7 i2, e7, z29, z30, z31]
            · rw [if_neg p6]
              simp only [p6, if_false] at z31
              have p6' : ¬ whF J B = -1 := by omega
              by_cases p7 : ¬ J 50 = 256 ∧ ¬ J 50 = B 18 (J 37).toNat
              · rw [if_pos p7]
                simp (maxSteps := 1000000) (disch := first | omega | (simp only [updI_at, upA_at, Nat.reduceEqDiff, reduceIte]; omega) | exact mIsRef_rf _ | exact rfl) only [↓s18_0, ↓s18_1, ↓s18_4, ↓s18_7, ↓s18_10, ↓s18_11, ↓s18_12, ↓s18_15, ↓s18_16, ↓s18_17, ↓s18_20, ↓s18_23, ↓s18_24, ↓s18_25, ↓s18_26, ↓s18_27, ↓s18_30r, ↓s18_33, ↓s18_34, ↓s18_35, ↓s18_37, ↓s18_40, ↓s18_41, ↓s18_42, ↓s18_43r, ↓s18_46, ↓s18_49, ↓s18_52, ↓s18_53, ↓s18_54, ↓s18_55, ↓s18_56r, ↓s18_59, ↓s18_61, ↓s18_63, ↓s18_64, ↓s18_67, ↓s18_70, ↓s18_71, ↓s18_72, ↓s18_75, ↓s18_78, ↓s18_81, ↓s18_82, ↓s18_85, ↓s18_86, ↓s18_89, ↓s18_92, ↓s18_95, ↓s18_96, ↓s18_99, ↓s18_100, ↓s18_101, ↓s18_102, ↓s18_103, ↓s18_104, ↓s18_106, ↓s18_109, ↓s18_110, ↓s18_113r, ↓s18_116, ↓s18_117, ↓s18_118, ↓s18_120r, ↓s18_123, ↓s18_125, iL_256, iL_26368, iL_27014, iL_27267, iL_27270, iL_27648, iL_36864, wc_16, wc_3, wg_16_4, wg_3_5, mN1_int, mN1_ref, mN1_null, mN1_U, mN1_rf, mCats_nil, mCats_int, mCats_ref, mCats_null, mCats_long, mCats_rf, mIsRef_ref, mIsRef_null, mIsRef_va, mRf_ref, mRf_null, mRf_rf, true_and, and_true, true_or, or_true, eq_self_iff_true, mK_v, mK_0, Nat.reduceAdd, Nat.reduceLeDiff, Nat.zero_le, iL_0, iL_1, iL_m1, iI_add, iI_sub, iI_mul, iI_neg, updI_at, upA_at, upP_at, upR_at, Nat.reduceEqDiff, reduceIte, Int.reduceAdd, Int.reduceSub, Int.reduceMul, Int.reduceDiv, Int.reduceMod, Int.reduceLT, Int.reduceLE, Int.reduceEq, Int.reduceNeg, not_true_eq_false, not_false_eq_true, Decidable.not_not, zw, iI_eq, e1, va_some, reduceCtorEq, gg_7 i2, gg_4 i2, e4, e7, z29, z30, z31, p6', q3, p7.1, p7.2]
              · rw [if_neg p7]
                have rb := recB (s := B 18 (J 37).toNat) (m := B 19 (J 37).toNat) (r := whF J B) (by omega) (by omega) wr.2
                have fn := fN_eq (x := (J 37).toNat) hM.2.1 (by omega)
                have cm : (whF J B - 1) * B 18 (J 37).toNat = B 18 (J 37).toNat * (whF J B - 1) := Int.mul_comm _ _
                have zt := fun Q' => d27 (n := n) (k := k) (Q := Q') (I := I) (A := A) (P := P) (R := R) (o := o) (t := B 18 (J 37).toNat * (whF J B - 1)) (m := B 18 (J 37).toNat) hb i2 i3 (by omega) i5 (by omega) (by omega) q7
                have et : txtL (fb (J 37).toNat) (B 18 (J 37).toNat).toNat (B 18 (J 37).toNat * (whF J B - 1)).toNat = txtL (B 23) (B 18 (J 37).toNat).toNat (B 22 (J 37).toNat + B 18 (J 37).toNat * (whF J B - 1)).toNat := by
                  refine txtL_eq _ _ _ (fun j hj => ?_)
                  rw [i4 _ (by omega)]
                  congr 1
                  omega
                rw [et] at zt
                have z6 := fun Q' => d6' (n := n) (k := k) (Q := Q') (I := I) (A := A) (P := P) (R := R) (o := o) (z := whF J B) i2
                rw [e4, cm] at z6
                generalize txtL (B 23) (B 18 (J 37).toNat).toNat (B 22 (J 37).toNat + B 18 (J 37).toNat * (whF J B - 1)).toNat = l at *
                have zk := fun Q' => d32 (n := n) (k := k) (Q := Q') (h0 := h0) (I := lwI I 1 l) (A := lwA I A 1 0 l) (P := P) (R := R) (o := o) (x := whF J B) hb (by rw [lwI_at, if_neg (by decide)]; omega)
                rw [show lwI I 1 l 5 = J 48 from q2] at zk
                by_cases p8 : J 50 = 256
                · simp (maxSteps := 1000000) (disch := first | omega | (simp only [updI_at, upA_at, Nat.reduceEqDiff, reduceIte]; omega) | exact mIsRef_rf _ | exact rfl) only [↓s18_0, ↓s18_1, ↓s18_4, ↓s18_7, ↓s18_10, ↓s18_11, ↓s18_12, ↓s18_15, ↓s18_16, ↓s18_17, ↓s18_20, ↓s18_23, ↓s18_24, ↓s18_25, ↓s18_26, ↓s18_27, ↓s18_30r, ↓s18_33, ↓s18_34, ↓s18_35, ↓s18_37, ↓s18_40, ↓s18_41, ↓s18_42, ↓s18_43r, ↓s18_46, ↓s18_49, ↓s18_52, ↓s18_53, ↓s18_54, ↓s18_55, ↓s18_56r, ↓s18_59, ↓s18_61, ↓s18_63, ↓s18_64, ↓s18_67, ↓s18_70, ↓s18_71, ↓s18_72, ↓s18_75, ↓s18_78, ↓s18_81, ↓s18_82, ↓s18_85, ↓s18_86, ↓s18_89, ↓s18_92, ↓s18_95, ↓s18_96, ↓s18_99, ↓s18_100, ↓s18_101, ↓s18_102, ↓s18_103, ↓s18_104, ↓s18_106, ↓s18_109, ↓s18_110, ↓s18_113r, ↓s18_116, ↓s18_117, ↓s18_118, ↓s18_120r, ↓s18_123, ↓s18_125, iL_256, iL_26368, iL_27014, iL_27267, iL_27270, iL_27648, iL_36864, wc_16, wc_3, wg_16_4, wg_3_5, mN1_int, mN1_ref, mN1_null, mN1_U, mN1_rf, mCats_nil, mCats_int, mCats_ref, mCats_null, mCats_long, mCats_rf, mIsRef_ref, mIsRef_null, mIsRef_va, mRf_ref, mRf_null, mRf_rf, true_and, and_true, true_or, or_true, eq_self_iff_true, mK_v, mK_0, Nat.reduceAdd, Nat.reduceLeDiff, Nat.zero_le, iL_0, iL_1, iL_m1, iI_add, iI_sub, iI_mul, iI_neg, updI_at, upA_at, upP_at, upR_at, Nat.reduceEqDiff, reduceIte, Int.reduceAdd, Int.reduceSub, Int.reduceMul, Int.reduceDiv, Int.reduceMod, Int.reduceLT, Int.reduceLE, Int.reduceEq, Int.reduceNeg, not_true_eq_false, not_false_eq_true, Decidable.not_not, zw, iI_eq, e1, va_some, reduceCtorEq, gg_c i2, gg_7 i2, gg_4 i2, e4, e7, z29, z30, z31, p6', q3, eq_true p8, z6, zt, zk]
                · have p9 : J 50 = B 18 (J 37).toNat := by omega
                  simp (maxSteps := 1000000) (disch := first | omega | (simp only [updI_at, upA_at, Nat.reduceEqDiff, reduceIte]; omega) | exact mIsRef_rf _ | exact rfl) only [↓s18_0, ↓s18_1, ↓s18_4, ↓s18_7, ↓s18_10, ↓s18_11, ↓s18_12, ↓s18_15, ↓s18_16, ↓s18_17, ↓s18_20, ↓s18_23, ↓s18_24, ↓s18_25, ↓s18_26, ↓s18_27, ↓s18_30r, ↓s18_33, ↓s18_34, ↓s18_35, ↓s18_37, ↓s18_40, ↓s18_41, ↓s18_42, ↓s18_43r, ↓s18_46, ↓s18_49, ↓s18_52, ↓s18_53, ↓s18_54, ↓s18_55, ↓s18_56r, ↓s18_59, ↓s18_61, ↓s18_63, ↓s18_64, ↓s18_67, ↓s18_70, ↓s18_71, ↓s18_72, ↓s18_75, ↓s18_78, ↓s18_81, ↓s18_82, ↓s18_85, ↓s18_86, ↓s18_89, ↓s18_92, ↓s18_95, ↓s18_96, ↓s18_99, ↓s18_100, ↓s18_101, ↓s18_102, ↓s18_103, ↓s18_104, ↓s18_106, ↓s18_109, ↓s18_110, ↓s18_113r, ↓s18_116, ↓s18_117, ↓s18_118, ↓s18_120r, ↓s18_123, ↓s18_125, iL_256, iL_26368, iL_27014, iL_27267, iL_27270, iL_27648, iL_36864, wc_16, wc_3, wg_16_4, wg_3_5, mN1_int, mN1_ref, mN1_null, mN1_U, mN1_rf, mCats_nil, mCats_int, mCats_ref, mCats_null, mCats_long, mCats_rf, mIsRef_ref, mIsRef_null, mIsRef_va, mRf_ref, mRf_null, mRf_rf, true_and, and_true, true_or, or_true, eq_self_iff_true, mK_v, mK_0, Nat.reduceAdd, Nat.reduceLeDiff, Nat.zero_le, iL_0, iL_1, iL_m1, iI_add, iI_sub, iI_mul, iI_neg, updI_at, upA_at, upP_at, upR_at, Nat.reduceEqDiff, reduceIte, Int.reduceAdd, Int.reduceSub, Int.reduceMul, Int.reduceDiv, Int.reduceMod, Int.reduceLT, Int.reduceLE, Int.reduceEq, Int.reduceNeg, not_true_eq_false, not_false_eq_true, Decidable.not_not, zw, iI_eq, e1, va_some, reduceCtorEq, gg_c i2, gg_7 i2, gg_4 i2, e4, e7, z29, z30, z31, p6', q3, p8, eq_true p9, z6, zt, zk]
          · rw [if_pos p5]
            have p5' : ¬ isWc I := by rw [iw]; exact p5
            simp only [bI_f p5'] at z30
            simp (maxSteps := 1000000) (disch := first | omega | (simp only [updI_at, upA_at, Nat.reduceEqDiff, reduceIte]; omega) | exact mIsRef_rf _ | exact rfl) only [↓s18_0, ↓s18_1, ↓s18_4, ↓s18_7, ↓s18_10, ↓s18_11, ↓s18_12, ↓s18_15, ↓s18_16, ↓s18_17, ↓s18_20, ↓s18_23, ↓s18_24, ↓s18_25, ↓s18_26, ↓s18_27, ↓s18_30r, ↓s18_33, ↓s18_34, ↓s18_35, ↓s18_37, ↓s18_40, ↓s18_41, ↓s18_42, ↓s18_43r, ↓s18_46, ↓s18_49, ↓s18_52, ↓s18_53, ↓s18_54, ↓s18_55, ↓s18_56r, ↓s18_59, ↓s18_61, ↓s18_63, ↓s18_64, ↓s18_67, ↓s18_70, ↓s18_71, ↓s18_72, ↓s18_75, ↓s18_78, ↓s18_81, ↓s18_82, ↓s18_85, ↓s18_86, ↓s18_89, ↓s18_92, ↓s18_95, ↓s18_96, ↓s18_99, ↓s18_100, ↓s18_101, ↓s18_102, ↓s18_103, ↓s18_104, ↓s18_106, ↓s18_109, ↓s18_110, ↓s18_113r, ↓s18_116, ↓s18_117, ↓s18_118, ↓s18_120r, ↓s18_123, ↓s18_125, iL_256, iL_26368, iL_27014, iL_27267, iL_27270, iL_27648, iL_36864, wc_16, wc_3, wg_16_4, wg_3_5, mN1_int, mN1_ref, mN1_null, mN1_U, mN1_rf, mCats_nil, mCats_int, mCats_ref, mCats_null, mCats_long, mCats_rf, mIsRef_ref, mIsRef_null, mIsRef_va, mRf_ref, mRf_null, mRf_rf, true_and, and_true, true_or, or_true, eq_self_iff_true, mK_v, mK_0, Nat.reduceAdd, Nat.reduceLeDiff, Nat.zero_le, iL_0, iL_1, iL_m1, iI_add, iI_sub, iI_mul, iI_neg, updI_at, upA_at, upP_at, upR_at, Nat.reduceEqDiff, reduceIte, Int.reduceAdd, Int.reduceSub, Int.reduceMul, Int.reduceDiv, Int.reduceMod, Int.reduceLT, Int.reduceLE, Int.reduceEq, Int.reduceNeg, not_true_eq_false, not_false_eq_true, Decidable.not_not, zw, iI_eq, e1, va_some, reduceCtorEq, gg_7 i2, e7, z29, z30]
        · rw [wrF_r0 p2 (by omega) p4, if_pos (by decide)]
          have p4' : ¬ okR I (B 20 (J 37).toNat) := by unfold okR; rw [q9]; exact p4
          simp only [eq_true p3, not_true_eq_false, if_false, p4', not_false_eq_true, if_true] at z29
          simp (maxSteps := 1000000) (disch := first | omega | (simp only [updI_at, upA_at, Nat.reduceEqDiff, reduceIte]; omega) | exact mIsRef_rf _ | exact rfl) only [↓s18_0, ↓s18_1, ↓s18_4, ↓s18_7, ↓s18_10, ↓s18_11, ↓s18_12, ↓s18_15, ↓s18_16, ↓s18_17, ↓s18_20, ↓s18_23, ↓s18_24, ↓s18_25, ↓s18_26, ↓s18_27, ↓s18_30r, ↓s18_33, ↓s18_34, ↓s18_35, ↓s18_37, ↓s18_40, ↓s18_41, ↓s18_42, ↓s18_43r, ↓s18_46, ↓s18_49, ↓s18_52, ↓s18_53, ↓s18_54, ↓s18_55, ↓s18_56r, ↓s18_59, ↓s18_61, ↓s18_63, ↓s18_64, ↓s18_67, ↓s18_70, ↓s18_71, ↓s18_72, ↓s18_75, ↓s18_78, ↓s18_81, ↓s18_82, ↓s18_85, ↓s18_86, ↓s18_89, ↓s18_92, ↓s18_95, ↓s18_96, ↓s18_99, ↓s18_100, ↓s18_101, ↓s18_102, ↓s18_103, ↓s18_104, ↓s18_106, ↓s18_109, ↓s18_110, ↓s18_113r, ↓s18_116, ↓s18_117, ↓s18_118, ↓s18_120r, ↓s18_123, ↓s18_125, iL_256, iL_26368, iL_27014, iL_27267, iL_27270, iL_27648, iL_36864, wc_16, wc_3, wg_16_4, wg_3_5, mN1_int, mN1_ref, mN1_null, mN1_U, mN1_rf, mCats_nil, mCats_int, mCats_ref, mCats_null, mCats_long, mCats_rf, mIsRef_ref, mIsRef_null, mIsRef_va, mRf_ref, mRf_null, mRf_rf, true_and, and_true, true_or, or_true, eq_self_iff_true, mK_v, mK_0, Nat.reduceAdd, Nat.reduceLeDiff, Nat.zero_le, iL_0, iL_1, iL_m1, iI_add, iI_sub, iI_mul, iI_neg, updI_at, upA_at, upP_at, upR_at, Nat.reduceEqDiff, reduceIte, Int.reduceAdd, Int.reduceSub, Int.reduceMul, Int.reduceDiv, Int.reduceMod, Int.reduceLT, Int.reduceLE, Int.reduceEq, Int.reduceNeg, not_true_eq_false, not_false_eq_true, Decidable.not_not, zw, iI_eq, e1, va_some, reduceCtorEq, gg_7 i2, e7, z29]
      · rw [wrF_k p2 (by omega), if_pos (by decide)]
        simp only [p3, not_false_eq_true, if_true] at z29
        simp (maxSteps := 1000000) (disch := first | omega | (simp only [updI_at, upA_at, Nat.reduceEqDiff, reduceIte]; omega) | exact mIsRef_rf _ | exact rfl) only [↓s18_0, ↓s18_1, ↓s18_4, ↓s18_7, ↓s18_10, ↓s18_11, ↓s18_12, ↓s18_15, ↓s18_16, ↓s18_17, ↓s18_20, ↓s18_23, ↓s18_24, ↓s18_25, ↓s18_26, ↓s18_27, ↓s18_30r, ↓s18_33, ↓s18_34, ↓s18_35, ↓s18_37, ↓s18_40, ↓s18_41, ↓s18_42, ↓s18_43r, ↓s18_46, ↓s18_49, ↓s18_52, ↓s18_53, ↓s18_54, ↓s18_55, ↓s18_56r, ↓s18_59, ↓s18_61, ↓s18_63, ↓s18_64, ↓s18_67, ↓s18_70, ↓s18_71, ↓s18_72, ↓s18_75, ↓s18_78, ↓s18_81, ↓s18_82, ↓s18_85, ↓s18_86, ↓s18_89, ↓s18_92, ↓s18_95, ↓s18_96, ↓s18_99, ↓s18_100, ↓s18_101, ↓s18_102, ↓s18_103, ↓s18_104, ↓s18_106, ↓s18_109, ↓s18_110, ↓s18_113r, ↓s18_116, ↓s18_117, ↓s18_118, ↓s18_120r, ↓s18_123, ↓s18_125, iL_256, iL_26368, iL_27014, iL_27267, iL_27270, iL_27648, iL_36864, wc_16, wc_3, wg_16_4, wg_3_5, mN1_int, mN1_ref, mN1_null, mN1_U, mN1_rf, mCats_nil, mCats_int, mCats_ref, mCats_null, mCats_long, mCats_rf, mIsRef_ref, mIsRef_null, mIsRef_va, mRf_ref, mRf_null, mRf_rf, true_and, and_true, true_or, or_true, eq_self_iff_true, mK_v, mK_0, Nat.reduceAdd, Nat.reduceLeDiff, Nat.zero_le, iL_0, iL_1, iL_m1, iI_add, iI_sub, iI_mul, iI_neg, updI_at, upA_at, upP_at, upR_at, Nat.reduceEqDiff, reduceIte, Int.reduceAdd, Int.reduceSub, Int.reduceMul, Int.reduceDiv, Int.reduceMod, Int.reduceLT, Int.reduceLE, Int.reduceEq, Int.reduceNeg, not_true_eq_false, not_false_eq_true, Decidable.not_not, zw, iI_eq, e1, va_some, reduceCtorEq, gg_7 i2, e7, z29]
end
end MRECC
