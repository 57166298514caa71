/-! Class: writeToRing, writeToRecords, writeRecord. -/
section MWREC
variable {G : mG} {h h0 : mH} {n k b : Nat} {Q : mR → Prop} {I : Nat → Int} {A : Nat → Nat → Int} {P : Nat → Nat} {R : Nat → Option Nat} {o : Nat → Int64}
section
variable {J : Nat → Int} {B : Nat → Nat → Int} {fa : Nat → Nat} {fb : Nat → Nat → Int} {cap : Nat} {fg : Nat → Option Nat}
def wcS (J : Nat → Int) (B : Nat → Nat → Int) : Int :=
  if J 49 = 0 then 26368 else if ¬ wrF J B 2 3 1 = 0 then wrF J B 2 3 1
  else if B 17 (J 37).toNat = 3 then
    (if ¬ (J 48 = 3 ∧ J 47 = 0) then 27270 else if ¬ J 49 = B 18 (J 37).toNat then 26368 else 36864)
  else (if ¬ isW J then 27270 else if whF J B = 0 then 27267 else if ¬ J 49 = B 18 (J 37).toNat then 26368 else 36864)
/-- the file's bytes after a record was written -/
def wcG (I : Nat → Int) (A : Nat → Nat → Int) (J : Nat → Int) (B : Nat → Nat → Int) (g : Nat → Int) : Nat → Int :=
  if B 17 (J 37).toNat = 3 then cpE (cpE g (fun j => g j) (B 18 (J 37).toNat) (fN B (J 37).toNat - B 18 (J 37).toNat)) (fun j => rget (I 7) (A 1) j % 256) 0 (B 18 (J 37).toNat)
  else cpE g (fun j => rget (I 7) (A 1) (0 + j) % 256) (B 18 (J 37).toNat * (whF J B - 1)) (B 18 (J 37).toNat)
def wcI (I : Nat → Int) (J : Nat → Int) (B : Nat → Nat → Int) : Nat → Int := if B 17 (J 37).toNat = 3 then updI I 16 1 else if J 48 = 4 then I else updI I 16 (whF J B)
def wcH (h0 : mH) (I : Nat → Int) (A : Nat → Nat → Int) (J : Nat → Int) (B : Nat → Nat → Int) (fa : Nat → Nat) (fb : Nat → Nat → Int) : mH := if wcS J B = 36864 then fW h0 (fa (J 37).toNat) (fN B (J 37).toNat) (wcG I A J B (fb (J 37).toNat)) else h0
def wcJ (I : Nat → Int) (J : Nat → Int) (B : Nat → Nat → Int) : Nat → Int := if wcS J B = 36864 then wcI I J B else I
theorem d21 (hb : G.2.2.2 ≤ b) (hd : dFl G h0 b (P 2) J B fa fb cap fg) (hM : iM J B) (hC : iCm J) (hq : cq I A J B) (hf : 0 ≤ J 37) (hk : B 17 (J 37).toNat = 3) : mX G 21 0 [.ref (b + 16), .ref (fa (J 37).toNat), .ref (b + 3)] [] (wH h0 b I A P R o) n k Q ↔
    if ¬ (J 48 = 3 ∧ J 47 = 0) then Q (.inl (some (.int (iI 27270))), wH h0 b I A P R o, n, k) else if ¬ J 49 = B 18 (J 37).toNat then Q (.inl (some (.int (iI 26368))), wH h0 b I A P R o, n, k)
    else Q (.inl (some (.int (iI 36864))), wH (fW h0 (fa (J 37).toNat) (fN B (J 37).toNat) (wcG I A J B (fb (J 37).toNat))) b (wcI I J B) A P R o, n, k) := by
  obtain ⟨⟨⟨q1, q2⟩, q3, q4⟩, ⟨q5, q6⟩, ⟨q7, q8⟩, q9, q10⟩ := hq
  obtain ⟨c1, c2, c3, c4, c5⟩ := hC
  have d2 := hM.2.2.1.2.1
  obtain ⟨i1, i2, i3, i4, i5⟩ := hd.2.2.1 (J 37).toNat (by omega)
  obtain ⟨o1, o2, o3, o4, o5, o6, o7⟩ := hM.2.1.2.2.1 (J 37).toNat (by omega)
  obtain ⟨o9, o10⟩ := shp_2 o2 (by omega)
  have e4 : fF B (J 37).toNat 4 = B 18 (J 37).toNat := rfl
  by_cases p1 : J 48 = 3
  · by_cases p2 : J 47 = 0
    · rw [if_neg (fun t => t ⟨p1, p2⟩)]
      by_cases p3 : J 49 = B 18 (J 37).toNat
      · rw [if_neg (fun t => t p3)]
        have fn := fN_eq (x := (J 37).toNat) hM.2.1 (by omega)
        have rb := recB (s := B 18 (J 37).toNat) (m := B 19 (J 37).toNat) (r := 1) (by omega) (by omega) (by omega)
        rw [show (1 : Int) - 1 = 0 from rfl, Int.mul_zero] at rb
        have rr := rget_rng (len := (I 7)) q6
        have z7 := fun Q' => d7 (n := n) (k := k) (Q := Q') (I := I) (A := A) (P := P) (R := R) (o := o) (g := fb (J 37).toNat) (N := fN B (J 37).toNat) i2 (by omega) (rG_4 (by omega)) rC_4 rr (by rw [e4]; omega)
        rw [fW_self i3, e4] at z7
        unfold wcG wcI
        rw [if_pos hk, if_pos hk]
        simp (maxSteps := 1000000) (disch := first | omega | (simp only [updI_at, upA_at, Nat.reduceEqDiff, reduceIte]; omega) | exact mIsRef_rf _ | exact rfl) only [↓s21_0, ↓s21_1, ↓s21_4, ↓s21_5, ↓s21_8, ↓s21_9, ↓s21_12, ↓s21_15, ↓s21_18, ↓s21_19, ↓s21_20, ↓s21_23, ↓s21_26, ↓s21_27, ↓s21_30, ↓s21_33, ↓s21_36, ↓s21_37, ↓s21_38, ↓s21_39, ↓s21_42r, ↓s21_45, ↓s21_46, ↓s21_47, ↓s21_50, ↓s21_52, iL_26368, iL_27270, iL_3, iL_36864, wc_1, wc_12, wc_14, wc_29, wc_31, wc_39, wc_4, wc_41, wg_3_0, wg_3_3, wg_3_4, wp_16_5, mN1_int, mN1_ref, mN1_null, mN1_U, mN1_rf, mCats_nil, mCats_int, mCats_ref, mCats_null, mCats_long, mCats_rf, mIsRef_ref, mIsRef_null, mIsRef_va, mRf_ref, mRf_null, mRf_rf, true_and, and_true, true_or, or_true, eq_self_iff_true, mK_v, mK_0, Nat.reduceAdd, Nat.reduceLeDiff, Nat.zero_le, iL_0, iL_1, iL_m1, iI_add, iI_sub, iI_mul, iI_neg, updI_at, upA_at, upP_at, upR_at, Nat.reduceEqDiff, reduceIte, Int.reduceAdd, Int.reduceSub, Int.reduceMul, Int.reduceDiv, Int.reduceMod, Int.reduceLT, Int.reduceLE, Int.reduceEq, Int.reduceNeg, not_true_eq_false, not_false_eq_true, Decidable.not_not, q1, q2, q4, iI_eq, p1, p2, eq_true p3, d79_4, gg_c i2, gg_4 i2, e4, z7]
      · rw [if_pos p3]
        simp (maxSteps := 1000000) (disch := first | omega | (simp only [updI_at, upA_at, Nat.reduceEqDiff, reduceIte]; omega) | exact mIsRef_rf _ | exact rfl) only [↓s21_0, ↓s21_1, ↓s21_4, ↓s21_5, ↓s21_8, ↓s21_9, ↓s21_12, ↓s21_15, ↓s21_18, ↓s21_19, ↓s21_20, ↓s21_23, ↓s21_26, ↓s21_27, ↓s21_30, ↓s21_33, ↓s21_36, ↓s21_37, ↓s21_38, ↓s21_39, ↓s21_42r, ↓s21_45, ↓s21_46, ↓s21_47, ↓s21_50, ↓s21_52, iL_26368, iL_27270, iL_3, iL_36864, wc_1, wc_12, wc_14, wc_29, wc_31, wc_39, wc_4, wc_41, wg_3_0, wg_3_3, wg_3_4, wp_16_5, mN1_int, mN1_ref, mN1_null, mN1_U, mN1_rf, mCats_nil, mCats_int, mCats_ref, mCats_null, mCats_long, mCats_rf, mIsRef_ref, mIsRef_null, mIsRef_va, mRf_ref, mRf_null, mRf_rf, true_and, and_true, true_or, or_true, eq_self_iff_true, mK_v, mK_0, Nat.reduceAdd, Nat.reduceLeDiff, Nat.zero_le, iL_0, iL_1, iL_m1, iI_add, iI_sub, iI_mul, iI_neg, updI_at, upA_at, upP_at, upR_at, Nat.reduceEqDiff, reduceIte, Int.reduceAdd, Int.reduceSub, Int.reduceMul, Int.reduceDiv, Int.reduceMod, Int.reduceLT, Int.reduceLE, Int.reduceEq, Int.reduceNeg, not_true_eq_false, not_false_eq_true, Decidable.not_not, q1, q2, q4, iI_eq, p1, p2, p3, d79_4, gg_4 i2, e4]
    · rw [if_pos (fun t => p2 t.2)]
      simp (maxSteps := 1000000) (disch := first | omega | (simp only [updI_at, upA_at, Nat.reduceEqDiff, reduceIte]; omega) | exact mIsRef_rf _ | exact rfl) only [↓s21_0, ↓s21_1, ↓s21_4, ↓s21_5, ↓s21_8, ↓s21_9, ↓s21_12, ↓s21_15, ↓s21_18, ↓s21_19, ↓s21_20, ↓s21_23, ↓s21_26, ↓s21_27, ↓s21_30, ↓s21_33, ↓s21_36, ↓s21_37, ↓s21_38, ↓s21_39, ↓s21_42r, ↓s21_45, ↓s21_46, ↓s21_47, ↓s21_50, ↓s21_52, iL_26368, iL_27270, iL_3, iL_36864, wc_1, wc_12, wc_14, wc_29, wc_31, wc_39, wc_4, wc_41, wg_3_0, wg_3_3, wg_3_4, wp_16_5, mN1_int, mN1_ref, mN1_null, mN1_U, mN1_rf, mCats_nil, mCats_int, mCats_ref, mCats_null, mCats_long, mCats_rf, mIsRef_ref, mIsRef_null, mIsRef_va, mRf_ref, mRf_null, mRf_rf, true_and, and_true, true_or, or_true, eq_self_iff_true, mK_v, mK_0, Nat.reduceAdd, Nat.reduceLeDiff, Nat.zero_le, iL_0, iL_1, iL_m1, iI_add, iI_sub, iI_mul, iI_neg, updI_at, upA_at, upP_at, upR_at, Nat.reduceEqDiff, reduceIte, Int.reduceAdd, Int.reduceSub, Int.reduceMul, Int.reduceDiv, Int.reduceMod, Int.reduceLT, Int.reduceLE, Int.reduceEq, Int.reduceNeg, not_true_eq_false, not_false_eq_true, Decidable.not_not, q1, q2, iI_eq, p1, p2]
  · rw [if_pos (fun t => p1 t.1)]
    simp (maxSteps := 1000000) (disch := first | omega | (simp only [updI_at, upA_at, Nat.reduceEqDiff, reduceIte]; omega) | exact mIsRef_rf _ | exact rfl) only [↓s21_0, ↓s21_1, ↓s21_4, ↓s21_5, ↓s21_8, ↓s21_9, ↓s21_12, ↓s21_15, ↓s21_18, ↓s21_19, ↓s21_20, ↓s21_23, ↓s21_26, ↓s21_27, ↓s21_30, ↓s21_33, ↓s21_36, ↓s21_37, ↓s21_38, ↓s21_39, ↓s21_42r, ↓s21_45, ↓s21_46, ↓s21_47, ↓s21_50, ↓s21_52, iL_26368, iL_27270, iL_3, iL_36864, wc_1, wc_12, wc_14, wc_29, wc_31, wc_39, wc_4, wc_41, wg_3_0, wg_3_3, wg_3_4, wp_16_5, mN1_int, mN1_ref, mN1_null, mN1_U, mN1_rf, mCats_nil, mCats_int, mCats_ref, mCats_null, mCats_long, mCats_rf, mIsRef_ref, mIsRef_null, mIsRef_va, mRf_ref, mRf_null, mRf_rf, true_and, and_true, true_or, or_true, eq_self_iff_true, mK_v, mK_0, Nat.reduceAdd, Nat.reduceLeDiff, Nat.zero_le, iL_0, iL_1, iL_m1, iI_add, iI_sub, iI_mul, iI_neg, updI_at, upA_at, upP_at, upR_at, Nat.reduceEqDiff, reduceIte, Int.reduceAdd, Int.reduceSub, Int.reduceMul, Int.reduceDiv, Int.reduceMod, Int.reduceLT, Int.reduceLE, Int.reduceEq, Int.reduceNeg, not_true_eq_false, not_false_eq_true, Decidable.not_not, q1, q2, iI_eq, p1]
theorem d22 (hb : G.2.2.2 ≤ b) (hd : dFl G h0 b (P 2) J B fa fb cap fg) (hM : iM J B) (hC : iCm J) (hq : cq I A J B) (hf : 0 ≤ J 37) (hk : B 17 (J 37).toNat = 2) : mX G 22 0 [.ref (b + 16), .ref (fa (J 37).toNat), .ref (b + 3), mU] [] (wH h0 b I A P R o) n k Q ↔
    if ¬ isW J then Q (.inl (some (.int (iI 27270))), wH h0 b I A P R o, n, k) else if whF J B = 0 then Q (.inl (some (.int (iI 27267))), wH h0 b I A P R o, n, k) else if ¬ J 49 = B 18 (J 37).toNat then Q (.inl (some (.int (iI 26368))), wH h0 b I A P R o, n, k)
    else Q (.inl (some (.int (iI 36864))), wH (fW h0 (fa (J 37).toNat) (fN B (J 37).toNat) (wcG I A J B (fb (J 37).toNat))) b (wcI I J B) A P R o, n, k) := by
  obtain ⟨⟨⟨q1, q2⟩, q3, q4⟩, ⟨q5, q6⟩, ⟨q7, q8⟩, q9, q10⟩ := hq
  obtain ⟨c1, c2, c3, c4, c5⟩ := hC
  have d2 := hM.2.2.1.2.1
  have d3 := hM.2.2.1.2.2.1
  obtain ⟨i1, i2, i3, i4, i5⟩ := hd.2.2.1 (J 37).toNat (by omega)
  obtain ⟨o1, o2, o3, o4, o5, o6, o7⟩ := hM.2.1.2.2.1 (J 37).toNat (by omega)
  obtain ⟨o9, o10⟩ := shp_2 o2 (by omega)
  have e2 : fF B (J 37).toNat 2 = B 17 (J 37).toNat := rfl
  have e4 : fF B (J 37).toNat 4 = B 18 (J 37).toNat := rfl
  have e5 : fF B (J 37).toNat 5 = B 19 (J 37).toNat := rfl
  have dr := (hM.2.2.1.2.2.2.1 hf).2 (by omega)
  have wr := whF_rng (I := J) (A := B) c1 ⟨d3.1, dr⟩ o10.1
  have iw : isWc I = isW J := by unfold isWc isW; rw [q1, q2]
  have z30 := fun Q' => d30 (G := G) (h0 := h0) (b := b) (n := n) (k := k) (Q := Q') (I := I) (A := A) (P := P) (R := R) (o := o) (by omega) (by omega)
  have z31 := fun Q' => d31 (n := n) (k := k) (Q := Q') (I := I) (A := A) (P := P) (R := R) (o := o) i2 o1 (by rw [e5]; omega) (by omega) (by omega) (by omega)
  by_cases p5 : isW J
  · rw [if_neg (fun t => t p5)]
    have p5' : isWc I := by rw [iw]; exact p5
    simp only [bI_t p5'] at z30
    rw [e5, e2, chC_wh (J := J) (B := B) q1 q2 q8 rfl rfl c1.1 ⟨d3.1, dr⟩ o10.1 p5] at z31
    by_cases p6 : whF J B = 0
    · rw [if_pos p6]
      simp only [eq_true p6, if_true] at z31
      simp (maxSteps := 1000000) (disch := first | omega | (simp only [updI_at, upA_at, Nat.reduceEqDiff, reduceIte]; omega) | exact mIsRef_rf _ | exact rfl) only [↓s22_0, ↓s22_1r, ↓s22_4, ↓s22_7, ↓s22_10, ↓s22_11, ↓s22_12, ↓s22_13, ↓s22_14r, ↓s22_17, ↓s22_18, ↓s22_19, ↓s22_20, ↓s22_23, ↓s22_26, ↓s22_27, ↓s22_28, ↓s22_31, ↓s22_34, ↓s22_35, ↓s22_38, ↓s22_41, ↓s22_44, ↓s22_45, ↓s22_46, ↓s22_47, ↓s22_48, ↓s22_51, ↓s22_52, ↓s22_55, ↓s22_56, ↓s22_57, ↓s22_60r, ↓s22_63, ↓s22_64, ↓s22_65, ↓s22_66r, ↓s22_69, ↓s22_71, iL_26368, iL_27267, iL_27270, iL_36864, wc_1, wc_12, wc_14, wc_16, wc_29, wc_31, wc_39, wc_4, wc_41, wg_3_0, mN1_int, mN1_ref, mN1_null, mN1_U, mN1_rf, mCats_nil, mCats_int, mCats_ref, mCats_null, mCats_long, mCats_rf, mIsRef_ref, mIsRef_null, mIsRef_va, mRf_ref, mRf_null, mRf_rf, true_and, and_true, true_or, or_true, eq_self_iff_true, mK_v, mK_0, Nat.reduceAdd, Nat.reduceLeDiff, Nat.zero_le, iL_0, iL_1, iL_m1, iI_add, iI_sub, iI_mul, iI_neg, updI_at, upA_at, upP_at, upR_at, Nat.reduceEqDiff, reduceIte, Int.reduceAdd, Int.reduceSub, Int.reduceMul, Int.reduceDiv, Int.reduceMod, Int.reduceLT, Int.reduceLE, Int.reduceEq, Int.reduceNeg, not_true_eq_false, not_false_eq_true, Decidable.not_not, iI_eq, z30, z31]
    · rw [if_neg p6]
      simp only [p6, if_false] at z31
      have p6' : ¬ whF J B = -1 := by omega
      by_cases p7 : J 49 = B 18 (J 37).toNat
      · rw [if_neg (fun t => t p7)]
        have rb := recB (s := B 18 (J 37).toNat) (m := B 19 (J 37).toNat) (r := whF J B) (by omega) (by omega) wr.2
        have fn := fN_eq (x := (J 37).toNat) hM.2.1 (by omega)
        have cm : (whF J B - 1) * B 18 (J 37).toNat = B 18 (J 37).toNat * (whF J B - 1) := Int.mul_comm _ _
        have rr := rget_rng (len := (I 7)) q6
        have z4 := fun Q' => d4 (n := n) (k := k) (Q := Q') (I := I) (A := A) (P := P) (R := R) (o := o) (g := fb (J 37).toNat) (N := fN B (J 37).toNat) (t := B 18 (J 37).toNat * (whF J B - 1)) (s := 0) (m := B 18 (J 37).toNat) i2 (by omega) (rG_4 (by omega)) rC_4 rr (by omega) (by omega) (by omega)
        rw [fW_self i3] at z4
        have z6 := fun Q' => d6' (n := n) (k := k) (Q := Q') (I := I) (A := A) (P := P) (R := R) (o := o) (z := whF J B) i2
        rw [e4, cm] at z6
        have k3 : ¬ B 17 (J 37).toNat = 3 := by omega
        unfold wcG wcI
        rw [if_neg k3, if_neg k3]
        have zk := fun Q' h => d32 (n := n) (k := k) (Q := Q') (h0 := h) (b := b) (I := I) (A := A) (P := P) (R := R) (o := o) (x := whF J B) hb (by omega)
        rw [q2] at zk
        simp (maxSteps := 1000000) (disch := first | omega | (simp only [updI_at, upA_at, Nat.reduceEqDiff, reduceIte]; omega) | exact mIsRef_rf _ | exact rfl) only [↓s22_0, ↓s22_1r, ↓s22_4, ↓s22_7, ↓s22_10, ↓s22_11, ↓s22_12, ↓s22_13, ↓s22_14r, ↓s22_17, ↓s22_18, ↓s22_19, ↓s22_20, ↓s22_23, ↓s22_26, ↓s22_27, ↓s22_28, ↓s22_31, ↓s22_34, ↓s22_35, ↓s22_38, ↓s22_41, ↓s22_44, ↓s22_45, ↓s22_46, ↓s22_47, ↓s22_48, ↓s22_51, ↓s22_52, ↓s22_55, ↓s22_56, ↓s22_57, ↓s22_60r, ↓s22_63, ↓s22_64, ↓s22_65, ↓s22_66r, ↓s22_69, ↓s22_71, iL_26368, iL_27267, iL_27270, iL_36864, wc_1, wc_12, wc_14, wc_16, wc_29, wc_31, wc_39, wc_4, wc_41, wg_3_0, mN1_int, mN1_ref, mN1_null, mN1_U, mN1_rf, mCats_nil, mCats_int, mCats_ref, mCats_null, mCats_long, mCats_rf, mIsRef_ref, mIsRef_null, mIsRef_va, mRf_ref, mRf_null, mRf_rf, true_and, and_true, true_or, or_true, eq_self_iff_true, mK_v, mK_0, Nat.reduceAdd, Nat.reduceLeDiff, Nat.zero_le, iL_0, iL_1, iL_m1, iI_add, iI_sub, iI_mul, iI_neg, updI_at, upA_at, upP_at, upR_at, Nat.reduceEqDiff, reduceIte, Int.reduceAdd, Int.reduceSub, Int.reduceMul, Int.reduceDiv, Int.reduceMod, Int.reduceLT, Int.reduceLE, Int.reduceEq, Int.reduceNeg, not_true_eq_false, not_false_eq_true, Decidable.not_not, q4, iI_eq, z30, z31, p6', eq_true p7, d79_4, gg_c i2, gg_4 i2, e4, z6, z4, zk]
      · rw [if_pos p7]
        simp (maxSteps := 1000000) (disch := first | omega | (simp only [updI_at, upA_at, Nat.reduceEqDiff, reduceIte]; omega) | exact mIsRef_rf _ | exact rfl) only [↓s22_0, ↓s22_1r, ↓s22_4, ↓s22_7, ↓s22_10, ↓s22_11, ↓s22_12, ↓s22_13, ↓s22_14r, ↓s22_17, ↓s22_18, ↓s22_19, ↓s22_20, ↓s22_23, ↓s22_26, ↓s22_27, ↓s22_28, ↓s22_31, ↓s22_34, ↓s22_35, ↓s22_38, ↓s22_41, ↓s22_44, ↓s22_45, ↓s22_46, ↓s22_47, ↓s22_48, ↓s22_51, ↓s22_52, ↓s22_55, ↓s22_56, ↓s22_57, ↓s22_60r, ↓s22_63, ↓s22_64, ↓s22_65, ↓s22_66r, ↓s22_69, ↓s22_71, iL_26368, iL_27267, iL_27270, iL_36864, wc_1, wc_12, wc_14, wc_16, wc_29, wc_31, wc_39, wc_4, wc_41, wg_3_0, mN1_int, mN1_ref, mN1_null, mN1_U, mN1_rf, mCats_nil, mCats_int, mCats_ref, mCats_null, mCats_long, mCats_rf, mIsRef_ref, mIsRef_null, mIsRef_va, mRf_ref, mRf_null, mRf_rf, true_and, and_true, true_or, or_true, eq_self_iff_true, mK_v, mK_0, Nat.reduceAdd, Nat.reduceLeDiff, Nat.zero_le, iL_0, iL_1, iL_m1, iI_add, iI_sub, iI_mul, iI_neg, updI_at, upA_at, upP_at, upR_at, Nat.reduceEqDiff, reduceIte, Int.reduceAdd, Int.reduceSub, Int.reduceMul, Int.reduceDiv, Int.reduceMod, Int.reduceLT, Int.reduceLE, Int.reduceEq, Int.reduceNeg, not_true_eq_false, not_false_eq_true, Decidable.not_not, q4, iI_eq, z30, z31, p6', p7, d79_4, gg_4 i2, e4]
  · rw [if_pos p5]
    have p5' : ¬ isWc I := by rw [iw]; exact p5
    simp only [bI_f p5'] at z30
    simp (maxSteps := 1000000) (disch := first | omega | (simp only [updI_at, upA_at, Nat.reduceEqDiff, reduceIte]; omega) | exact mIsRef_rf _ | exact rfl) only [↓s22_0, ↓s22_1r, ↓s22_4, ↓s22_7, ↓s22_10, ↓s22_11, ↓s22_12, ↓s22_13, ↓s22_14r, ↓s22_17, ↓s22_18, ↓s22_19, ↓s22_20, ↓s22_23, ↓s22_26, ↓s22_27, ↓s22_28, ↓s22_31, ↓s22_34, ↓s22_35, ↓s22_38, ↓s22_41, ↓s22_44, ↓s22_45, ↓s22_46, ↓s22_47, ↓s22_48, ↓s22_51, ↓s22_52, ↓s22_55, ↓s22_56, ↓s22_57, ↓s22_60r, ↓s22_63, ↓s22_64, ↓s22_65, ↓s22_66r, ↓s22_69, ↓s22_71, iL_26368, iL_27267, iL_27270, iL_36864, wc_1, wc_12, wc_14, wc_16, wc_29, wc_31, wc_39, wc_4, wc_41, wg_3_0, mN1_int, mN1_ref, mN1_null, mN1_U, mN1_rf, mCats_nil, mCats_int, mCats_ref, mCats_null, mCats_long, mCats_rf, mIsRef_ref, mIsRef_null, mIsRef_va, mRf_ref, mRf_null, mRf_rf, true_and, and_true, true_or, or_true, eq_self_iff_true, mK_v, mK_0, Nat.reduceAdd, Nat.reduceLeDiff, Nat.zero_le, iL_0, iL_1, iL_m1, iI_add, iI_sub, iI_mul, iI_neg, updI_at, upA_at, upP_at, upR_at, Nat.reduceEqDiff, reduceIte, Int.reduceAdd, Int.reduceSub, Int.reduceMul, Int.reduceDiv, Int.reduceMod, Int.reduceLT, Int.reduceLE, Int.reduceEq, Int.reduceNeg, not_true_eq_false, not_false_eq_true, Decidable.not_not, iI_eq, z30]
theorem d19 (hb : G.2.2.2 ≤ b) (hd : dFl G h0 b (P 2) J B fa fb cap fg) (hM : iM J B) (hC : iCm J) (hq : cq I A J B) (hR : R 1 = rfV fa (J 37)) : mX G 19 0 [.ref (b + 16), .ref (b + 3), mU, mU] [] (wH h0 b I A P R o) n k Q ↔ Q (.inl (some (.int (iI (wcS J B)))), wH (wcH h0 I A J B fa fb) b (wcJ I J B) A P R o, n, k) := by
  have z21 := fun Q' => d21 (n := n) (k := k) (Q := Q') (R := R) (o := o) hb hd hM hC hq
  have z22 := fun Q' => d22 (n := n) (k := k) (Q := Q') (R := R) (o := o) hb hd hM hC hq
  obtain ⟨⟨⟨q1, q2⟩, q3, q4⟩, ⟨q5, q6⟩, ⟨q7, q8⟩, q9, q10⟩ := hq
  obtain ⟨c1, c2, c3, c4, c5⟩ := hC
  have d2 := hM.2.2.1.2.1
  have dv := hM.2.2.1.2.2.2.2.1
  have f1 := hM.2.1.1
  have zw := fun Q' => d75 (G := G) (h0 := h0) (b := b) (n := n) (k := k) (Q := Q') (I := I) (A := A) (P := P) (R := R) (o := o) (by omega)
  unfold wcH wcJ
  unfold wcS
  by_cases p1 : J 49 = 0
  · rw [if_pos p1, if_neg (by decide), if_neg (by decide)]
    simp only [bI_f (show ¬ 0 < (I 7) by omega)] at zw
    simp (maxSteps := 1000000) (disch := first | omega | (simp only [updI_at, upA_at, Nat.reduceEqDiff, reduceIte]; omega) | exact mIsRef_rf _ | exact rfl) only [↓s19_0, ↓s19_1, ↓s19_4, ↓s19_7, ↓s19_10, ↓s19_11, ↓s19_12, ↓s19_15, ↓s19_16, ↓s19_17, ↓s19_20, ↓s19_23, ↓s19_24, ↓s19_25, ↓s19_26, ↓s19_27, ↓s19_30r, ↓s19_33, ↓s19_34, ↓s19_35, ↓s19_37, ↓s19_40, ↓s19_41, ↓s19_42, ↓s19_43, ↓s19_46, ↓s19_47, ↓s19_50, ↓s19_51, ↓s19_52, ↓s19_53r, ↓s19_56, ↓s19_59, ↓s19_60, ↓s19_61, ↓s19_62r, ↓s19_65, iL_26368, iL_27014, iL_3, iL_36864, wc_16, wc_3, wg_16_4, mN1_int, mN1_ref, mN1_null, mN1_U, mN1_rf, mCats_nil, mCats_int, mCats_ref, mCats_null, mCats_long, mCats_rf, mIsRef_ref, mIsRef_null, mIsRef_va, mRf_ref, mRf_null, mRf_rf, true_and, and_true, true_or, or_true, eq_self_iff_true, mK_v, mK_0, Nat.reduceAdd, Nat.reduceLeDiff, Nat.zero_le, iL_0, iL_1, iL_m1, iI_add, iI_sub, iI_mul, iI_neg, updI_at, upA_at, upP_at, upR_at, Nat.reduceEqDiff, reduceIte, Int.reduceAdd, Int.reduceSub, Int.reduceMul, Int.reduceDiv, Int.reduceMod, Int.reduceLT, Int.reduceLE, Int.reduceEq, Int.reduceNeg, not_true_eq_false, not_false_eq_true, Decidable.not_not, zw, iI_eq]
  · rw [if_neg p1]
    simp only [bI_t (show 0 < (I 7) by omega)] at zw
    by_cases p2 : J 37 < 0
    · rw [wrF_n p2, if_pos (by decide), if_neg (by decide), if_neg (by decide)]
      have e1 : R 1 = none := by rw [hR]; exact if_pos p2
      simp (maxSteps := 1000000) (disch := first | omega | (simp only [updI_at, upA_at, Nat.reduceEqDiff, reduceIte]; omega) | exact mIsRef_rf _ | exact rfl) only [↓s19_0, ↓s19_1, ↓s19_4, ↓s19_7, ↓s19_10, ↓s19_11, ↓s19_12, ↓s19_15, ↓s19_16, ↓s19_17, ↓s19_20, ↓s19_23, ↓s19_24, ↓s19_25, ↓s19_26, ↓s19_27, ↓s19_30r, ↓s19_33, ↓s19_34, ↓s19_35, ↓s19_37, ↓s19_40, ↓s19_41, ↓s19_42, ↓s19_43, ↓s19_46, ↓s19_47, ↓s19_50, ↓s19_51, ↓s19_52, ↓s19_53r, ↓s19_56, ↓s19_59, ↓s19_60, ↓s19_61, ↓s19_62r, ↓s19_65, iL_26368, iL_27014, iL_3, iL_36864, wc_16, wc_3, wg_16_4, mN1_int, mN1_ref, mN1_null, mN1_U, mN1_rf, mCats_nil, mCats_int, mCats_ref, mCats_null, mCats_long, mCats_rf, mIsRef_ref, mIsRef_null, mIsRef_va, mRf_ref, mRf_null, mRf_rf, true_and, and_true, true_or, or_true, eq_self_iff_true, mK_v, mK_0, Nat.reduceAdd, Nat.reduceLeDiff, Nat.zero_le, iL_0, iL_1, iL_m1, iI_add, iI_sub, iI_mul, iI_neg, updI_at, upA_at, upP_at, upR_at, Nat.reduceEqDiff, reduceIte, Int.reduceAdd, Int.reduceSub, Int.reduceMul, Int.reduceDiv, Int.reduceMod, Int.reduceLT, Int.reduceLE, Int.reduceEq, Int.reduceNeg, not_true_eq_false, not_false_eq_true, Decidable.not_not, zw, iI_eq, e1, va_none]
    · have e1 : R 1 = some (fa (J 37).toNat) := by rw [hR]; exact if_neg p2
      obtain ⟨i1, i2, i3, i4, i5⟩ := hd.2.2.1 (J 37).toNat (by omega)
      obtain ⟨o1, o2, o3, o4, o5, o6, o7⟩ := hM.2.1.2.2.1 (J 37).toNat (by omega)
      have e2 : fF B (J 37).toNat 2 = B 17 (J 37).toNat := rfl
      have e8 : fF B (J 37).toNat 8 = B 21 (J 37).toNat := rfl
      have z29 := fun Q' => d29 (n := n) (k := k) (Q := Q') (I := I) (A := A) (P := P) (R := R) (o := o) (x := B 21 (J 37).toNat) i2 i3 o1 o6 (by omega)
      rw [e2] at z29
      by_cases p3 : B 17 (J 37).toNat = 2 ∨ B 17 (J 37).toNat = 3
      · by_cases p4 : B 21 (J 37).toNat = 0 ∨ B 21 (J 37).toNat = 1 ∧ ¬ J 35 = 0
        · rw [wrF_o1 p2 (by omega) p4, if_neg (fun t => t rfl)]
          have p4' : okR I (B 21 (J 37).toNat) := by unfold okR; rw [q9]; exact p4
          simp only [eq_true p3, not_true_eq_false, if_false, eq_true p4'] at z29
          by_cases p5 : B 17 (J 37).toNat = 3
          · rw [if_pos p5]
            have z := fun Q' => z21 Q' (by omega) p5
            by_cases r1 : J 48 = 3 ∧ J 47 = 0
            · by_cases r2 : J 49 = B 18 (J 37).toNat
              · rw [if_neg (fun t => t r1), if_neg (fun t => t r2), if_pos rfl, if_pos rfl]
                simp only [eq_true r1, eq_true r2, not_true_eq_false, if_false] at z
                simp (maxSteps := 1000000) (disch := first | omega | (simp only [updI_at, upA_at, Nat.reduceEqDiff, reduceIte]; omega) | exact mIsRef_rf _ | exact rfl) only [↓s19_0, ↓s19_1, ↓s19_4, ↓s19_7, ↓s19_10, ↓s19_11, ↓s19_12, ↓s19_15, ↓s19_16, ↓s19_17, ↓s19_20, ↓s19_23, ↓s19_24, ↓s19_25, ↓s19_26, ↓s19_27, ↓s19_30r, ↓s19_33, ↓s19_34, ↓s19_35, ↓s19_37, ↓s19_40, ↓s19_41, ↓s19_42, ↓s19_43, ↓s19_46, ↓s19_47, ↓s19_50, ↓s19_51, ↓s19_52, ↓s19_53r, ↓s19_56, ↓s19_59, ↓s19_60, ↓s19_61, ↓s19_62r, ↓s19_65, iL_26368, iL_27014, iL_3, iL_36864, wc_16, wc_3, wg_16_4, mN1_int, mN1_ref, mN1_null, mN1_U, mN1_rf, mCats_nil, mCats_int, mCats_ref, mCats_null, mCats_long, mCats_rf, mIsRef_ref, mIsRef_null, mIsRef_va, mRf_ref, mRf_null, mRf_rf, true_and, and_true, true_or, or_true, eq_self_iff_true, mK_v, mK_0, Nat.reduceAdd, Nat.reduceLeDiff, Nat.zero_le, iL_0, iL_1, iL_m1, iI_add, iI_sub, iI_mul, iI_neg, updI_at, upA_at, upP_at, upR_at, Nat.reduceEqDiff, reduceIte, Int.reduceAdd, Int.reduceSub, Int.reduceMul, Int.reduceDiv, Int.reduceMod, Int.reduceLT, Int.reduceLE, Int.reduceEq, Int.reduceNeg, not_true_eq_false, not_false_eq_true, Decidable.not_not, zw, iI_eq, e1, va_some, reduceCtorEq, gg_8 i2, gg_2 i2, e2, e8, z29, eq_true p5, z]
              · rw [if_neg (fun t => t r1), if_pos r2, if_neg (by decide), if_neg (by decide)]
                simp only [eq_true r1, r2, not_true_eq_false, not_false_eq_true, if_false, if_true] at z
                simp (maxSteps := 1000000) (disch := first | omega | (simp only [updI_at, upA_at, Nat.reduceEqDiff, reduceIte]; omega) | exact mIsRef_rf _ | exact rfl) only [↓s19_0, ↓s19_1, ↓s19_4, ↓s19_7, ↓s19_10, ↓s19_11, ↓s19_12, ↓s19_15, ↓s19_16, ↓s19_17, ↓s19_20, ↓s19_23, ↓s19_24, ↓s19_25, ↓s19_26, ↓s19_27, ↓s19_30r, ↓s19_33, ↓s19_34, ↓s19_35, ↓s19_37, ↓s19_40, ↓s19_41, ↓s19_42, ↓s19_43, ↓s19_46, ↓s19_47, ↓s19_50, ↓s19_51, ↓s19_52, ↓s19_53r, ↓s19_56, ↓s19_59, ↓s19_60, ↓s19_61, ↓s19_62r, ↓s19_65, iL_26368, iL_27014, iL_3, iL_36864, wc_16, wc_3, wg_16_4, mN1_int, mN1_ref, mN1_null, mN1_U, mN1_rf, mCats_nil, mCats_int, mCats_ref, mCats_null, mCats_long, mCats_rf, mIsRef_ref, mIsRef_null, mIsRef_va, mRf_ref, mRf_null, mRf_rf, true_and, and_true, true_or, or_true, eq_self_iff_true, mK_v, mK_0, Nat.reduceAdd, Nat.reduceLeDiff, Nat.zero_le, iL_0, iL_1, iL_m1, iI_add, iI_sub, iI_mul, iI_neg, updI_at, upA_at, upP_at, upR_at, Nat.reduceEqDiff, reduceIte, Int.reduceAdd, Int.reduceSub, Int.reduceMul, Int.reduceDiv, Int.reduceMod, Int.reduceLT, Int.reduceLE, Int.reduceEq, Int.reduceNeg, not_true_eq_false, not_false_eq_true, Decidable.not_not, zw, iI_eq, e1, va_some, reduceCtorEq, gg_8 i2, gg_2 i2, e2, e8, z29, eq_true p5, z]
            · rw [if_pos r1, if_neg (by decide), if_neg (by decide)]
              simp only [r1, not_false_eq_true, if_true] at z
              simp (maxSteps := 1000000) (disch := first | omega | (simp only [updI_at, upA_at, Nat.reduceEqDiff, reduceIte]; omega) | exact mIsRef_rf _ | exact rfl) only [↓s19_0, ↓s19_1, ↓s19_4, ↓s19_7, ↓s19_10, ↓s19_11, ↓s19_12, ↓s19_15, ↓s19_16, ↓s19_17, ↓s19_20, ↓s19_23, ↓s19_24, ↓s19_25, ↓s19_26, ↓s19_27, ↓s19_30r, ↓s19_33, ↓s19_34, ↓s19_35, ↓s19_37, ↓s19_40, ↓s19_41, ↓s19_42, ↓s19_43, ↓s19_46, ↓s19_47, ↓s19_50, ↓s19_51, ↓s19_52, ↓s19_53r, ↓s19_56, ↓s19_59, ↓s19_60, ↓s19_61, ↓s19_62r, ↓s19_65, iL_26368, iL_27014, iL_3, iL_36864, wc_16, wc_3, wg_16_4, mN1_int, mN1_ref, mN1_null, mN1_U, mN1_rf, mCats_nil, mCats_int, mCats_ref, mCats_null, mCats_long, mCats_rf, mIsRef_ref, mIsRef_null, mIsRef_va, mRf_ref, mRf_null, mRf_rf, true_and, and_true, true_or, or_true, eq_self_iff_true, mK_v, mK_0, Nat.reduceAdd, Nat.reduceLeDiff, Nat.zero_le, iL_0, iL_1, iL_m1, iI_add, iI_sub, iI_mul, iI_neg, updI_at, upA_at, upP_at, upR_at, Nat.reduceEqDiff, reduceIte, Int.reduceAdd, Int.reduceSub, Int.reduceMul, Int.reduceDiv, Int.reduceMod, Int.reduceLT, Int.reduceLE, Int.reduceEq, Int.reduceNeg, not_true_eq_false, not_false_eq_true, Decidable.not_not, zw, iI_eq, e1, va_some, reduceCtorEq, gg_8 i2, gg_2 i2, e2, e8, z29, eq_true p5, z]
          · rw [if_neg p5]
            have z := fun Q' => z22 Q' (by omega) (by omega)
            by_cases r1 : isW J
            · by_cases r3 : whF J B = 0
              · rw [if_neg (fun t => t r1), if_pos r3, if_neg (by decide), if_neg (by decide)]
                simp only [eq_true r1, eq_true r3, not_true_eq_false, if_false, if_true] at z
                simp (maxSteps := 1000000) (disch := first | omega | (simp only [updI_at, upA_at, Nat.reduceEqDiff, reduceIte]; omega) | exact mIsRef_rf _ | exact rfl) only [↓s19_0, ↓s19_1, ↓s19_4, ↓s19_7, ↓s19_10, ↓s19_11, ↓s19_12, ↓s19_15, ↓s19_16, ↓s19_17, ↓s19_20, ↓s19_23, ↓s19_24, ↓s19_25, ↓s19_26, ↓s19_27, ↓s19_30r, ↓s19_33, ↓s19_34, ↓s19_35, ↓s19_37, ↓s19_40, ↓s19_41, ↓s19_42, ↓s19_43, ↓s19_46, ↓s19_47, ↓s19_50, ↓s19_51, ↓s19_52, ↓s19_53r, ↓s19_56, ↓s19_59, ↓s19_60, ↓s19_61, ↓s19_62r, ↓s19_65, iL_26368, iL_27014, iL_3, iL_36864, wc_16, wc_3, wg_16_4, mN1_int, mN1_ref, mN1_null, mN1_U, mN1_rf, mCats_nil, mCats_int, mCats_ref, mCats_null, mCats_long, mCats_rf, mIsRef_ref, mIsRef_null, mIsRef_va, mRf_ref, mRf_null, mRf_rf, true_and, and_true, true_or, or_true, eq_self_iff_true, mK_v, mK_0, Nat.reduceAdd, Nat.reduceLeDiff, Nat.zero_le, iL_0, iL_1, iL_m1, iI_add, iI_sub, iI_mul, iI_neg, updI_at, upA_at, upP_at, upR_at, Nat.reduceEqDiff, reduceIte, Int.reduceAdd, Int.reduceSub, Int.reduceMul, Int.reduceDiv, Int.reduceMod, Int.reduceLT, Int.reduceLE, Int.reduceEq, Int.reduceNeg, not_true_eq_false, not_false_eq_true, Decidable.not_not, zw, iI_eq, e1, va_some, reduceCtorEq, gg_8 i2, gg_2 i2, e2, e8, z29, p5, z]
              · by_cases r2 : J 49 = B 18 (J 37).toNat
                · rw [if_neg (fun t => t r1), if_neg r3, if_neg (fun t => t r2), if_pos rfl, if_pos rfl]
                  simp only [eq_true r1, r3, eq_true r2, not_true_eq_false, if_false] at z
                  simp (maxSteps := 1000000) (disch := first | omega | (simp only [updI_at, upA_at, Nat.reduceEqDiff, reduceIte]; omega) | exact mIsRef_rf _ | exact rfl) only [↓s19_0, ↓s19_1, ↓s19_4, ↓s19_7, ↓s19_10, ↓s19_11, ↓s19_12, ↓s19_15, ↓s19_16, ↓s19_17, ↓s19_20, ↓s19_23, ↓s19_24, ↓s19_25, ↓s19_26, ↓s19_27, ↓s19_30r, ↓s19_33, ↓s19_34, ↓s19_35, ↓s19_37, ↓s19_40, ↓s19_41, ↓s19_42, ↓s19_43, ↓s19_46, ↓s19_47, ↓s19_50, ↓s19_51, ↓s19_52, ↓s19_53r, ↓s19_56, ↓s19_59, ↓s19_60, ↓s19_61, ↓s19_62r, ↓s19_65, iL_26368, iL_27014, iL_3, iL_36864, wc_16, wc_3, wg_16_4, mN1_int, mN1_ref, mN1_null, mN1_U, mN1_rf, mCats_nil, mCats_int, mCats_ref, mCats_null, mCats_long, mCats_rf, mIsRef_ref, mIsRef_null, mIsRef_va, mRf_ref, mRf_null, mRf_rf, true_and, and_true, true_or, or_true, eq_self_iff_true, mK_v, mK_0, Nat.reduceAdd, Nat.reduceLeDiff, Nat.zero_le, iL_0, iL_1, iL_m1, iI_add, iI_sub, iI_mul, iI_neg, updI_at, upA_at, upP_at, upR_at, Nat.reduceEqDiff, reduceIte, Int.reduceAdd, Int.reduceSub, Int.reduceMul, Int.reduceDiv, Int.reduceMod, Int.reduceLT, Int.reduceLE, Int.reduceEq, Int.reduceNeg, not_true_eq_false, not_false_eq_true, Decidable.not_not, zw, iI_eq, e1, va_some, reduceCtorEq, gg_8 i2, gg_2 i2, e2, e8, z29, p5, z]
                · rw [if_neg (fun t => t r1), if_neg r3, if_pos r2, if_neg (by decide), if_neg (by decide)]
                  simp only [eq_true r1, r3, r2, not_true_eq_false, not_false_eq_true, if_false, if_true] at z
                  simp (maxSteps := 1000000) (disch := first | omega | (simp only [updI_at, upA_at, Nat.reduceEqDiff, reduceIte]; omega) | exact mIsRef_rf _ | exact rfl) only [↓s19_0, ↓s19_1, ↓s19_4, ↓s19_7, ↓s19_10, ↓s19_11, ↓s19_12, ↓s19_15, ↓s19_16, ↓s19_17, ↓s19_20, ↓s19_23, ↓s19_24, ↓s19_25, ↓s19_26, ↓s19_27, ↓s19_30r, ↓s19_33, ↓s19_34, ↓s19_35, ↓s19_37, ↓s19_40, ↓s19_41, ↓s19_42, ↓s19_43, ↓s19_46, ↓s19_47, ↓s19_50, ↓s19_51, ↓s19_52, ↓s19_53r, ↓s19_56, ↓s19_59, ↓s19_60, ↓s19_61, ↓s19_62r, ↓s19_65, iL_26368, iL_27014, iL_3, iL_36864, wc_16, wc_3, wg_16_4, mN1_int, mN1_ref, mN1_null, mN1_U, mN1_rf, mCats_nil, mCats_int, mCats_ref, mCats_null, mCats_long, mCats_rf, mIsRef_ref, mIsRef_null, mIsRef_va, mRf_ref, mRf_null, mRf_rf, true_and, and_true, true_or, or_true, eq_self_iff_true, mK_v, mK_0, Nat.reduceAdd, Nat.reduceLeDiff, Nat.zero_le, iL_0, iL_1, iL_m1, iI_add, iI_sub, iI_mul, iI_neg, updI_at, upA_at, upP_at, upR_at, Nat.reduceEqDiff, reduceIte, Int.reduceAdd, Int.reduceSub, Int.reduceMul, Int.reduceDiv, Int.reduceMod, Int.reduceLT, Int.reduceLE, Int.reduceEq, Int.reduceNeg, not_true_eq_false, not_false_eq_true, Decidable.not_not, zw, iI_eq, e1, va_some, reduceCtorEq, gg_8 i2, gg_2 i2, e2, e8, z29, p5, z]
            · rw [if_pos r1, if_neg (by decide), if_neg (by decide)]
              simp only [r1, not_false_eq_true, if_true] at z
              simp (maxSteps := 1000000) (disch := first | omega | (simp only [updI_at, upA_at, Nat.reduceEqDiff, reduceIte]; omega) | exact mIsRef_rf _ | exact rfl) only [↓s19_0, ↓s19_1, ↓s19_4, ↓s19_7, ↓s19_10, ↓s19_11, ↓s19_12, ↓s19_15, ↓s19_16, ↓s19_17, ↓s19_20, ↓s19_23, ↓s19_24, ↓s19_25, ↓s19_26, ↓s19_27, ↓s19_30r, ↓s19_33, ↓s19_34, ↓s19_35, ↓s19_37, ↓s19_40, ↓s19_41, ↓s19_42, ↓s19_43, ↓s19_46, ↓s19_47, ↓s19_50, ↓s19_51, ↓s19_52, ↓s19_53r, ↓s19_56, ↓s19_59, ↓s19_60, ↓s19_61, ↓s19_62r, ↓s19_65, iL_26368, iL_27014, iL_3, iL_36864, wc_16, wc_3, wg_16_4, mN1_int, mN1_ref, mN1_null, mN1_U, mN1_rf, mCats_nil, mCats_int, mCats_ref, mCats_null, mCats_long, mCats_rf, mIsRef_ref, mIsRef_null, mIsRef_va, mRf_ref, mRf_null, mRf_rf, true_and, and_true, true_or, or_true, eq_self_iff_true, mK_v, mK_0, Nat.reduceAdd, Nat.reduceLeDiff, Nat.zero_le, iL_0, iL_1, iL_m1, iI_add, iI_sub, iI_mul, iI_neg, updI_at, upA_at, upP_at, upR_at, Nat.reduceEqDiff, reduceIte, Int.reduceAdd, Int.reduceSub, Int.reduceMul, Int.reduceDiv, Int.reduceMod, Int.reduceLT, Int.reduceLE, Int.reduceEq, Int.reduceNeg, not_true_eq_false, not_false_eq_true, Decidable.not_not, zw, iI_eq, e1, va_some, reduceCtorEq, gg_8 i2, gg_2 i2, e2, e8, z29, p5, z]
        · rw [wrF_r1 p2 (by omega) p4, if_pos (by decide), if_neg (by decide), if_neg (by decide)]
          have p4' : ¬ okR I (B 21 (J 37).toNat) := by unfold okR; rw [q9]; exact p4
          simp only [eq_true p3, not_true_eq_false, if_false, p4', not_false_eq_true, if_true] at z29
          simp (maxSteps := 1000000) (disch := first | omega | (simp only [updI_at, upA_at, Nat.reduceEqDiff, reduceIte]; omega) | exact mIsRef_rf _ | exact rfl) only [↓s19_0, ↓s19_1, ↓s19_4, ↓s19_7, ↓s19_10, ↓s19_11, ↓s19_12, ↓s19_15, ↓s19_16, ↓s19_17, ↓s19_20, ↓s19_23, ↓s19_24, ↓s19_25, ↓s19_26, ↓s19_27, ↓s19_30r, ↓s19_33, ↓s19_34, ↓s19_35, ↓s19_37, ↓s19_40, ↓s19_41, ↓s19_42, ↓s19_43, ↓s19_46, ↓s19_47, ↓s19_50, ↓s19_51, ↓s19_52, ↓s19_53r, ↓s19_56, ↓s19_59, ↓s19_60, ↓s19_61, ↓s19_62r, ↓s19_65, iL_26368, iL_27014, iL_3, iL_36864, wc_16, wc_3, wg_16_4, mN1_int, mN1_ref, mN1_null, mN1_U, mN1_rf, mCats_nil, mCats_int, mCats_ref, mCats_null, mCats_long, mCats_rf, mIsRef_ref, mIsRef_null, mIsRef_va, mRf_ref, mRf_null, mRf_rf, true_and, and_true, true_or, or_true, eq_self_iff_true, mK_v, mK_0, Nat.reduceAdd, Nat.reduceLeDiff, Nat.zero_le, iL_0, iL_1, iL_m1, iI_add, iI_sub, iI_mul, iI_neg, updI_at, upA_at, upP_at, upR_at, Nat.reduceEqDiff, reduceIte, Int.reduceAdd, Int.reduceSub, Int.reduceMul, Int.reduceDiv, Int.reduceMod, Int.reduceLT, Int.reduceLE, Int.reduceEq, Int.reduceNeg, not_true_eq_false, not_false_eq_true, Decidable.not_not, zw, iI_eq, e1, va_some, reduceCtorEq, gg_8 i2, e8, z29]
      · rw [wrF_k p2 (by omega), if_pos (by decide), if_neg (by decide), if_neg (by decide)]
        simp only [p3, not_false_eq_true, if_true] at z29
        simp (maxSteps := 1000000) (disch := first | omega | (simp only [updI_at, upA_at, Nat.reduceEqDiff, reduceIte]; omega) | exact mIsRef_rf _ | exact rfl) only [↓s19_0, ↓s19_1, ↓s19_4, ↓s19_7, ↓s19_10, ↓s19_11, ↓s19_12, ↓s19_15, ↓s19_16, ↓s19_17, ↓s19_20, ↓s19_23, ↓s19_24, ↓s19_25, ↓s19_26, ↓s19_27, ↓s19_30r, ↓s19_33, ↓s19_34, ↓s19_35, ↓s19_37, ↓s19_40, ↓s19_41, ↓s19_42, ↓s19_43, ↓s19_46, ↓s19_47, ↓s19_50, ↓s19_51, ↓s19_52, ↓s19_53r, ↓s19_56, ↓s19_59, ↓s19_60, ↓s19_61, ↓s19_62r, ↓s19_65, iL_26368, iL_27014, iL_3, iL_36864, wc_16, wc_3, wg_16_4, mN1_int, mN1_ref, mN1_null, mN1_U, mN1_rf, mCats_nil, mCats_int, mCats_ref, mCats_null, mCats_long, mCats_rf, mIsRef_ref, mIsRef_null, mIsRef_va, mRf_ref, mRf_null, mRf_rf, true_and, and_true, true_or, or_true, eq_self_iff_true, mK_v, mK_0, Nat.reduceAdd, Nat.reduceLeDiff, Nat.zero_le, iL_0, iL_1, iL_m1, iI_add, iI_sub, iI_mul, iI_neg, updI_at, upA_at, upP_at, upR_at, Nat.reduceEqDiff, reduceIte, Int.reduceAdd, Int.reduceSub, Int.reduceMul, Int.reduceDiv, Int.reduceMod, Int.reduceLT, Int.reduceLE, Int.reduceEq, Int.reduceNeg, not_true_eq_false, not_false_eq_true, Decidable.not_not, zw, iI_eq, e1, va_some, reduceCtorEq, gg_8 i2, e8, z29]
end
end MWREC
