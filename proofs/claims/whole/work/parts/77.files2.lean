/-! Class: Files.childOf, firstOfBytes, isShape, isFreeId, hasRoom. -/
section MFILES2
variable {G : mG} {h h0 : mH} {n k b : Nat} {Q : mR → Prop} {I : Nat → Int} {A : Nat → Nat → Int} {P : Nat → Nat} {R : Nat → Option Nat} {o : Nat → Int64}
section
variable {J : Nat → Int} {B : Nat → Nat → Int} {fa : Nat → Nat} {fb : Nat → Nat → Int} {cap : Nat} {fg : Nat → Option Nat}
/-- the file of a number, or null -/
def rfV (fa : Nat → Nat) (z : Int) : Option Nat := if z < 0 then none else some (fa z.toNat)
theorem fAb_iff {i x : Nat} (hd : dFl G h0 b (P 2) J B fa fb cap fg) (hF : iFl J B) (hi : (i : Int) < J 29) (hx : (x : Int) < J 29) : fAb fa B i = some (fa x) ↔ B 16 i = x := by
  have ok := (hF.2.2.1 i hi).2.2.2.2.2.2.1
  unfold fAb
  by_cases q : B 16 i < 0
  · rw [if_pos q]
    constructor
    · intro h; cases h
    · intro h; omega
  · rw [if_neg q]
    constructor
    · intro h
      have h2 := Option.some.inj h
      have := hd.2.2.2 _ _ (by omega) hx h2
      omega
    · intro h
      rw [h]
      congr 2
theorem d41_l {x : Nat} {y : Int} (hd : dFl G h0 b (P 2) J B fa fb cap fg) (hn : (I 10) = J 29) (hF : iFl J B) (hx : (x : Int) < J 29) (hy : -2147483648 ≤ y ∧ y < 2147483648) : ∀ (d : Nat) (c : Int) (v : Value), 0 ≤ c → c + d = J 29 →
    (mX G 41 2 [.ref (b + 6), .ref (fa x), .int (iI y), .int (iI c), v] [] (wH h0 b I A P R o) n k Q ↔ Q (.inl (some (va_rf (rfV fa (seek (fun j => B 16 j.toNat = x ∧ B 15 j.toNat = y) d c)))), wH h0 b I A P R o, n, k)) := by
  have f1 := hF.1
  intro d
  induction d with
  | zero =>
    intro c v h1 h2
    have hc : (I 10) ≤ c := by omega
    rw [s41_2]
    simp (maxSteps := 1000000) (disch := first | omega | (simp only [updI_at, upA_at, Nat.reduceEqDiff, reduceIte]; omega) | exact mIsRef_rf _ | exact rfl) only [↓s41_0, ↓s41_1, ↓s41_3, ↓s41_4, ↓s41_7, ↓s41_10, ↓s41_13, ↓s41_14, ↓s41_17, ↓s41_18, ↓s41_21, ↓s41_21n, ↓s41_24, ↓s41_26, ↓s41_28, ↓s41_31, ↓s41_32, ↓s41_35, ↓s41_37, ↓s41_40, ↓s41_41, ↓s41_44, ↓s41_46, ↓s41_47, ↓s41_50, ↓s41_53, ↓s41_54, wc_18, wc_7, wg_6_0, mN1_int, mN1_ref, mN1_null, mN1_U, mN1_rf, mCats_nil, mCats_int, mCats_ref, mCats_null, mCats_long, mCats_rf, mIsRef_ref, mIsRef_null, mIsRef_va, mRf_ref, mRf_null, mRf_rf, true_and, and_true, true_or, or_true, eq_self_iff_true, mK_v, mK_0, Nat.reduceAdd, Nat.reduceLeDiff, Nat.zero_le, iL_0, iL_1, iL_m1, iI_add, iI_sub, iI_mul, iI_neg, updI_at, upA_at, upP_at, upR_at, Nat.reduceEqDiff, reduceIte, Int.reduceAdd, Int.reduceSub, Int.reduceMul, Int.reduceDiv, Int.reduceMod, Int.reduceLT, Int.reduceLE, Int.reduceEq, Int.reduceNeg, not_true_eq_false, not_false_eq_true, Decidable.not_not, iI_le, d269f, hc, seek, rfV, va_rf, Int.reduceLT]
  | succ d ih =>
    intro c v h1 h2
    have hc : ¬ (I 10) ≤ c := by omega
    obtain ⟨⟨l1, l2, l3⟩, ⟨c1, c2⟩, hi, inj⟩ := id hd
    obtain ⟨i1, i2, i3, i4⟩ := hi c.toNat (by omega)
    obtain ⟨o1, o2, o3, o4⟩ := hF.2.2.1 c.toNat (by omega)
    have ai := fAb_iff (i := c.toNat) (x := x) hd hF (by omega) hx
    have zg := fun Q' => d271f (G := G) (h0 := h0) (b := b) (n := n) (k := k) (Q := Q') (I := I) (A := A) (P := P) (R := R) (o := o) (z := c) l1 l3 c2 (by omega) (by omega) (by omega)
    rw [i1] at zg
    have zg' : ∀ Q' : mR → Prop, mX G 271 0 [.ref (b + 7), .int (iI c)] [] (wH h0 b I A P R o) n k Q' ↔ Q' (.inl (some (.ref (fa c.toNat))), wH h0 b I A P R o, n, k) := zg
    rw [s41_2, seek_s]
    have e3 : fF B c.toNat 3 = B 15 c.toNat := rfl
    by_cases q1 : B 16 c.toNat = x
    · have q1' := ai.mpr q1
      by_cases q2 : B 15 c.toNat = y
      · rw [if_pos ⟨q1, q2⟩]
        have e4 : rfV fa c = some (fa c.toNat) := if_neg (by omega)
        simp (maxSteps := 1000000) (disch := first | omega | (simp only [updI_at, upA_at, Nat.reduceEqDiff, reduceIte]; omega) | exact mIsRef_rf _ | exact rfl) only [↓s41_0, ↓s41_1, ↓s41_3, ↓s41_4, ↓s41_7, ↓s41_10, ↓s41_13, ↓s41_14, ↓s41_17, ↓s41_18, ↓s41_21, ↓s41_21n, ↓s41_24, ↓s41_26, ↓s41_28, ↓s41_31, ↓s41_32, ↓s41_35, ↓s41_37, ↓s41_40, ↓s41_41, ↓s41_44, ↓s41_46, ↓s41_47, ↓s41_50, ↓s41_53, ↓s41_54, wc_18, wc_7, wg_6_0, mN1_int, mN1_ref, mN1_null, mN1_U, mN1_rf, mCats_nil, mCats_int, mCats_ref, mCats_null, mCats_long, mCats_rf, mIsRef_ref, mIsRef_null, mIsRef_va, mRf_ref, mRf_null, mRf_rf, true_and, and_true, true_or, or_true, eq_self_iff_true, mK_v, mK_0, Nat.reduceAdd, Nat.reduceLeDiff, Nat.zero_le, iL_0, iL_1, iL_m1, iI_add, iI_sub, iI_mul, iI_neg, updI_at, upA_at, upP_at, upR_at, Nat.reduceEqDiff, reduceIte, Int.reduceAdd, Int.reduceSub, Int.reduceMul, Int.reduceDiv, Int.reduceMod, Int.reduceLT, Int.reduceLE, Int.reduceEq, Int.reduceNeg, not_true_eq_false, not_false_eq_true, Decidable.not_not, iI_le, iI_eq, d269f, hc, zg, va_rf, gg_c i2, gg_1 i2, gg_3 i2, e3, e4, q1', q2]
      · rw [if_neg (fun t => q2 t.2), ← ih (c + 1) (.ref (fa c.toNat)) (by omega) (by omega)]
        simp (maxSteps := 1000000) (disch := first | omega | (simp only [updI_at, upA_at, Nat.reduceEqDiff, reduceIte]; omega) | exact mIsRef_rf _ | exact rfl) only [↓s41_0, ↓s41_1, ↓s41_3, ↓s41_4, ↓s41_7, ↓s41_10, ↓s41_13, ↓s41_14, ↓s41_17, ↓s41_18, ↓s41_21, ↓s41_21n, ↓s41_24, ↓s41_26, ↓s41_28, ↓s41_31, ↓s41_32, ↓s41_35, ↓s41_37, ↓s41_40, ↓s41_41, ↓s41_44, ↓s41_46, ↓s41_47, ↓s41_50, ↓s41_53, ↓s41_54, wc_18, wc_7, wg_6_0, mN1_int, mN1_ref, mN1_null, mN1_U, mN1_rf, mCats_nil, mCats_int, mCats_ref, mCats_null, mCats_long, mCats_rf, mIsRef_ref, mIsRef_null, mIsRef_va, mRf_ref, mRf_null, mRf_rf, true_and, and_true, true_or, or_true, eq_self_iff_true, mK_v, mK_0, Nat.reduceAdd, Nat.reduceLeDiff, Nat.zero_le, iL_0, iL_1, iL_m1, iI_add, iI_sub, iI_mul, iI_neg, updI_at, upA_at, upP_at, upR_at, Nat.reduceEqDiff, reduceIte, Int.reduceAdd, Int.reduceSub, Int.reduceMul, Int.reduceDiv, Int.reduceMod, Int.reduceLT, Int.reduceLE, Int.reduceEq, Int.reduceNeg, not_true_eq_false, not_false_eq_true, Decidable.not_not, iI_le, iI_eq, d269f, hc, zg, va_rf, gg_c i2, gg_1 i2, gg_3 i2, e3, q1', q2]
    · have q1' : ¬ fAb fa B c.toNat = some (fa x) := fun t => q1 (ai.mp t)
      rw [if_neg (fun t => q1 t.1), ← ih (c + 1) (.ref (fa c.toNat)) (by omega) (by omega)]
      simp (maxSteps := 1000000) (disch := first | omega | (simp only [updI_at, upA_at, Nat.reduceEqDiff, reduceIte]; omega) | exact mIsRef_rf _ | exact rfl) only [↓s41_0, ↓s41_1, ↓s41_3, ↓s41_4, ↓s41_7, ↓s41_10, ↓s41_13, ↓s41_14, ↓s41_17, ↓s41_18, ↓s41_21, ↓s41_21n, ↓s41_24, ↓s41_26, ↓s41_28, ↓s41_31, ↓s41_32, ↓s41_35, ↓s41_37, ↓s41_40, ↓s41_41, ↓s41_44, ↓s41_46, ↓s41_47, ↓s41_50, ↓s41_53, ↓s41_54, wc_18, wc_7, wg_6_0, mN1_int, mN1_ref, mN1_null, mN1_U, mN1_rf, mCats_nil, mCats_int, mCats_ref, mCats_null, mCats_long, mCats_rf, mIsRef_ref, mIsRef_null, mIsRef_va, mRf_ref, mRf_null, mRf_rf, true_and, and_true, true_or, or_true, eq_self_iff_true, mK_v, mK_0, Nat.reduceAdd, Nat.reduceLeDiff, Nat.zero_le, iL_0, iL_1, iL_m1, iI_add, iI_sub, iI_mul, iI_neg, updI_at, upA_at, upP_at, upR_at, Nat.reduceEqDiff, reduceIte, Int.reduceAdd, Int.reduceSub, Int.reduceMul, Int.reduceDiv, Int.reduceMod, Int.reduceLT, Int.reduceLE, Int.reduceEq, Int.reduceNeg, not_true_eq_false, not_false_eq_true, Decidable.not_not, iI_le, iI_eq, d269f, hc, zg', gg_c i2, gg_1 i2, gg_3 i2, q1']
theorem d41 {x : Nat} {y : Int} (hd : dFl G h0 b (P 2) J B fa fb cap fg) (hn : (I 10) = J 29) (hF : iFl J B) (hx : (x : Int) < J 29) (hy : -2147483648 ≤ y ∧ y < 2147483648) :
    mX G 41 0 [.ref (b + 6), .ref (fa x), .int (iI y), mU, mU] [] (wH h0 b I A P R o) n k Q ↔ Q (.inl (some (va_rf (rfV fa (fIn J B x y)))), wH h0 b I A P R o, n, k) := by
  have f1 := hF.1
  have z := d41_l (n := n) (k := k) (Q := Q) (I := I) (A := A) (R := R) (o := o) (x := x) (y := y) hd hn hF hx hy (J 29).toNat 0 mU (by omega) (by omega)
  have e : seek (fun j => B 16 j.toNat = x ∧ B 15 j.toNat = y) (J 29).toNat 0 = fIn J B x y := by
    unfold fIn
    rw [show (J 29).toNat = (J 29 - 1).toNat + 1 by omega, seek_s, if_neg]
    · rfl
    · intro t
      have := t.1
      rw [show (0 : Int).toNat = 0 from rfl, hF.2.2.2.2.1.1] at this
      omega
  rw [e] at z
  rw [← z]
  simp (maxSteps := 1000000) (disch := first | omega | (simp only [updI_at, upA_at, Nat.reduceEqDiff, reduceIte]; omega) | exact mIsRef_rf _ | exact rfl) only [↓s41_0, ↓s41_1, mN1_int, mN1_ref, mN1_null, mN1_U, mN1_rf, mCats_nil, mCats_int, mCats_ref, mCats_null, mCats_long, mCats_rf, mIsRef_ref, mIsRef_null, mIsRef_va, mRf_ref, mRf_null, mRf_rf, true_and, and_true, true_or, or_true, eq_self_iff_true, mK_v, mK_0, Nat.reduceAdd, Nat.reduceLeDiff, Nat.zero_le, iL_0, iL_1, iL_m1, iI_add, iI_sub, iI_mul, iI_neg, updI_at, upA_at, upP_at, upR_at, Nat.reduceEqDiff, reduceIte, Int.reduceAdd, Int.reduceSub, Int.reduceMul, Int.reduceDiv, Int.reduceMod, Int.reduceLT, Int.reduceLE, Int.reduceEq, Int.reduceNeg, not_true_eq_false, not_false_eq_true, Decidable.not_not]
theorem d42_l {y : Int} (hd : dFl G h0 b (P 2) J B fa fb cap fg) (hn : (I 10) = J 29) (hF : iFl J B) (hy : -2147483648 ≤ y ∧ y < 2147483648) : ∀ (d : Nat) (c : Int) (v : Value), 0 ≤ c → c + d = J 29 →
    (mX G 42 2 [.ref (b + 6), .int (iI y), .int (iI c), v] [] (wH h0 b I A P R o) n k Q ↔ Q (.inl (some (va_rf (rfV fa (seek (fun j => B 17 j.toNat = 1 ∧ B 15 j.toNat = y) d c)))), wH h0 b I A P R o, n, k)) := by
  have f1 := hF.1
  intro d
  induction d with
  | zero =>
    intro c v h1 h2
    have hc : (I 10) ≤ c := by omega
    rw [s42_2]
    simp (maxSteps := 1000000) (disch := first | omega | (simp only [updI_at, upA_at, Nat.reduceEqDiff, reduceIte]; omega) | exact mIsRef_rf _ | exact rfl) only [↓s42_0, ↓s42_1, ↓s42_3, ↓s42_4, ↓s42_7, ↓s42_10, ↓s42_13, ↓s42_14, ↓s42_17, ↓s42_18, ↓s42_21, ↓s42_21n, ↓s42_24, ↓s42_25, ↓s42_26, ↓s42_29, ↓s42_30, ↓s42_33, ↓s42_34, ↓s42_37, ↓s42_38, ↓s42_41, ↓s42_42, ↓s42_43, ↓s42_46, ↓s42_49, ↓s42_50, wc_18, wc_7, wg_6_0, mN1_int, mN1_ref, mN1_null, mN1_U, mN1_rf, mCats_nil, mCats_int, mCats_ref, mCats_null, mCats_long, mCats_rf, mIsRef_ref, mIsRef_null, mIsRef_va, mRf_ref, mRf_null, mRf_rf, true_and, and_true, true_or, or_true, eq_self_iff_true, mK_v, mK_0, Nat.reduceAdd, Nat.reduceLeDiff, Nat.zero_le, iL_0, iL_1, iL_m1, iI_add, iI_sub, iI_mul, iI_neg, updI_at, upA_at, upP_at, upR_at, Nat.reduceEqDiff, reduceIte, Int.reduceAdd, Int.reduceSub, Int.reduceMul, Int.reduceDiv, Int.reduceMod, Int.reduceLT, Int.reduceLE, Int.reduceEq, Int.reduceNeg, not_true_eq_false, not_false_eq_true, Decidable.not_not, iI_le, d269f, hc, seek, rfV, va_rf, Int.reduceLT]
  | succ d ih =>
    intro c v h1 h2
    have hc : ¬ (I 10) ≤ c := by omega
    obtain ⟨⟨l1, l2, l3⟩, ⟨c1, c2⟩, hi, inj⟩ := id hd
    obtain ⟨i1, i2, i3, i4⟩ := hi c.toNat (by omega)
    obtain ⟨o1, o2, o3, o4⟩ := hF.2.2.1 c.toNat (by omega)
    have zg := fun Q' => d271f (G := G) (h0 := h0) (b := b) (n := n) (k := k) (Q := Q') (I := I) (A := A) (P := P) (R := R) (o := o) (z := c) l1 l3 c2 (by omega) (by omega) (by omega)
    rw [i1] at zg
    rw [s42_2, seek_s]
    have e3 : fF B c.toNat 3 = B 15 c.toNat := rfl
    have e2 : fF B c.toNat 2 = B 17 c.toNat := rfl
    by_cases q1 : B 17 c.toNat = 1
    · by_cases q2 : B 15 c.toNat = y
      · rw [if_pos ⟨q1, q2⟩]
        have e4 : rfV fa c = some (fa c.toNat) := if_neg (by omega)
        simp (maxSteps := 1000000) (disch := first | omega | (simp only [updI_at, upA_at, Nat.reduceEqDiff, reduceIte]; omega) | exact mIsRef_rf _ | exact rfl) only [↓s42_0, ↓s42_1, ↓s42_3, ↓s42_4, ↓s42_7, ↓s42_10, ↓s42_13, ↓s42_14, ↓s42_17, ↓s42_18, ↓s42_21, ↓s42_21n, ↓s42_24, ↓s42_25, ↓s42_26, ↓s42_29, ↓s42_30, ↓s42_33, ↓s42_34, ↓s42_37, ↓s42_38, ↓s42_41, ↓s42_42, ↓s42_43, ↓s42_46, ↓s42_49, ↓s42_50, wc_18, wc_7, wg_6_0, mN1_int, mN1_ref, mN1_null, mN1_U, mN1_rf, mCats_nil, mCats_int, mCats_ref, mCats_null, mCats_long, mCats_rf, mIsRef_ref, mIsRef_null, mIsRef_va, mRf_ref, mRf_null, mRf_rf, true_and, and_true, true_or, or_true, eq_self_iff_true, mK_v, mK_0, Nat.reduceAdd, Nat.reduceLeDiff, Nat.zero_le, iL_0, iL_1, iL_m1, iI_add, iI_sub, iI_mul, iI_neg, updI_at, upA_at, upP_at, upR_at, Nat.reduceEqDiff, reduceIte, Int.reduceAdd, Int.reduceSub, Int.reduceMul, Int.reduceDiv, Int.reduceMod, Int.reduceLT, Int.reduceLE, Int.reduceEq, Int.reduceNeg, not_true_eq_false, not_false_eq_true, Decidable.not_not, iI_le, iI_eq, d269f, hc, zg, va_rf, gg_c i2, gg_2 i2, gg_3 i2, e2, e3, e4, q1, q2]
      · rw [if_neg (fun t => q2 t.2), ← ih (c + 1) (.ref (fa c.toNat)) (by omega) (by omega)]
        simp (maxSteps := 1000000) (disch := first | omega | (simp only [updI_at, upA_at, Nat.reduceEqDiff, reduceIte]; omega) | exact mIsRef_rf _ | exact rfl) only [↓s42_0, ↓s42_1, ↓s42_3, ↓s42_4, ↓s42_7, ↓s42_10, ↓s42_13, ↓s42_14, ↓s42_17, ↓s42_18, ↓s42_21, ↓s42_21n, ↓s42_24, ↓s42_25, ↓s42_26, ↓s42_29, ↓s42_30, ↓s42_33, ↓s42_34, ↓s42_37, ↓s42_38, ↓s42_41, ↓s42_42, ↓s42_43, ↓s42_46, ↓s42_49, ↓s42_50, wc_18, wc_7, wg_6_0, mN1_int, mN1_ref, mN1_null, mN1_U, mN1_rf, mCats_nil, mCats_int, mCats_ref, mCats_null, mCats_long, mCats_rf, mIsRef_ref, mIsRef_null, mIsRef_va, mRf_ref, mRf_null, mRf_rf, true_and, and_true, true_or, or_true, eq_self_iff_true, mK_v, mK_0, Nat.reduceAdd, Nat.reduceLeDiff, Nat.zero_le, iL_0, iL_1, iL_m1, iI_add, iI_sub, iI_mul, iI_neg, updI_at, upA_at, upP_at, upR_at, Nat.reduceEqDiff, reduceIte, Int.reduceAdd, Int.reduceSub, Int.reduceMul, Int.reduceDiv, Int.reduceMod, Int.reduceLT, Int.reduceLE, Int.reduceEq, Int.reduceNeg, not_true_eq_false, not_false_eq_true, Decidable.not_not, iI_le, iI_eq, d269f, hc, zg, va_rf, gg_c i2, gg_2 i2, gg_3 i2, e2, e3, q1, q2]
    · rw [if_neg (fun t => q1 t.1), ← ih (c + 1) (.ref (fa c.toNat)) (by omega) (by omega)]
      simp (maxSteps := 1000000) (disch := first | omega | (simp only [updI_at, upA_at, Nat.reduceEqDiff, reduceIte]; omega) | exact mIsRef_rf _ | exact rfl) only [↓s42_0, ↓s42_1, ↓s42_3, ↓s42_4, ↓s42_7, ↓s42_10, ↓s42_13, ↓s42_14, ↓s42_17, ↓s42_18, ↓s42_21, ↓s42_21n, ↓s42_24, ↓s42_25, ↓s42_26, ↓s42_29, ↓s42_30, ↓s42_33, ↓s42_34, ↓s42_37, ↓s42_38, ↓s42_41, ↓s42_42, ↓s42_43, ↓s42_46, ↓s42_49, ↓s42_50, wc_18, wc_7, wg_6_0, mN1_int, mN1_ref, mN1_null, mN1_U, mN1_rf, mCats_nil, mCats_int, mCats_ref, mCats_null, mCats_long, mCats_rf, mIsRef_ref, mIsRef_null, mIsRef_va, mRf_ref, mRf_null, mRf_rf, true_and, and_true, true_or, or_true, eq_self_iff_true, mK_v, mK_0, Nat.reduceAdd, Nat.reduceLeDiff, Nat.zero_le, iL_0, iL_1, iL_m1, iI_add, iI_sub, iI_mul, iI_neg, updI_at, upA_at, upP_at, upR_at, Nat.reduceEqDiff, reduceIte, Int.reduceAdd, Int.reduceSub, Int.reduceMul, Int.reduceDiv, Int.reduceMod, Int.reduceLT, Int.reduceLE, Int.reduceEq, Int.reduceNeg, not_true_eq_false, not_false_eq_true, Decidable.not_not, iI_le, iI_eq, d269f, hc, zg, va_rf, gg_c i2, gg_2 i2, gg_3 i2, e2, e3, q1]
theorem d42 {y : Int} (hd : dFl G h0 b (P 2) J B fa fb cap fg) (hn : (I 10) = J 29) (hF : iFl J B) (hy : -2147483648 ≤ y ∧ y < 2147483648) :
    mX G 42 0 [.ref (b + 6), .int (iI y), mU, mU] [] (wH h0 b I A P R o) n k Q ↔ Q (.inl (some (va_rf (rfV fa (flF J B y)))), wH h0 b I A P R o, n, k) := by
  have f1 := hF.1
  have z := d42_l (n := n) (k := k) (Q := Q) (I := I) (A := A) (R := R) (o := o) (y := y) hd hn hF hy (J 29).toNat 0 mU (by omega) (by omega)
  unfold flF
  rw [← z]
  simp (maxSteps := 1000000) (disch := first | omega | (simp only [updI_at, upA_at, Nat.reduceEqDiff, reduceIte]; omega) | exact mIsRef_rf _ | exact rfl) only [↓s42_0, ↓s42_1, mN1_int, mN1_ref, mN1_null, mN1_U, mN1_rf, mCats_nil, mCats_int, mCats_ref, mCats_null, mCats_long, mCats_rf, mIsRef_ref, mIsRef_null, mIsRef_va, mRf_ref, mRf_null, mRf_rf, true_and, and_true, true_or, or_true, eq_self_iff_true, mK_v, mK_0, Nat.reduceAdd, Nat.reduceLeDiff, Nat.zero_le, iL_0, iL_1, iL_m1, iI_add, iI_sub, iI_mul, iI_neg, updI_at, upA_at, upP_at, upR_at, Nat.reduceEqDiff, reduceIte, Int.reduceAdd, Int.reduceSub, Int.reduceMul, Int.reduceDiv, Int.reduceMod, Int.reduceLT, Int.reduceLE, Int.reduceEq, Int.reduceNeg, not_true_eq_false, not_false_eq_true, Decidable.not_not]
theorem d38 {x : Nat} {y : Int} (hd : dFl G h0 b (P 2) J B fa fb cap fg) (hn : (I 10) = J 29) (hF : iFl J B) (hx : (x : Int) < J 29) (hy : -2147483648 ≤ y ∧ y < 2147483648) :
    mX G 38 0 [.ref (b + 6), .ref (fa x), .int (iI y), mU] [] (wH h0 b I A P R o) n k Q ↔ Q (.inl (some (.int (iI (bI ((0 ≤ y ∧ y ≤ 65535) ∧ ¬ y = 16128 ∧ ¬ y = B 15 x ∧ fIn J B x y < 0))))), wH h0 b I A P R o, n, k) := by
  obtain ⟨i1, i2, i3, i4⟩ := hd.2.2.1 x hx
  have o3 := (hF.2.2.1 x hx).2.2.1
  have e3 : fF B x 3 = B 15 x := rfl
  have z := fun Q' => d41 (n := n) (k := k) (Q := Q') (I := I) (A := A) (R := R) (o := o) (x := x) (y := y) hd hn hF hx hy
  by_cases p1 : y < 0
  · rw [bI_f (by omega)]
    simp (maxSteps := 1000000) (disch := first | omega | (simp only [updI_at, upA_at, Nat.reduceEqDiff, reduceIte]; omega) | exact mIsRef_rf _ | exact rfl) only [↓s38_0, ↓s38_1, ↓s38_4, ↓s38_5, ↓s38_7, ↓s38_10, ↓s38_11, ↓s38_14, ↓s38_15, ↓s38_16, ↓s38_17, ↓s38_20, ↓s38_21, ↓s38_24, ↓s38_27, ↓s38_28, ↓s38_29, ↓s38_32, ↓s38_35, ↓s38_36, ↓s38_37, ↓s38_38r, ↓s38_41, ↓s38_44, ↓s38_45, ↓s38_48, ↓s38_49, iL_16128, iL_65535, wc_6, mN1_int, mN1_ref, mN1_null, mN1_U, mN1_rf, mCats_nil, mCats_int, mCats_ref, mCats_null, mCats_long, mCats_rf, mIsRef_ref, mIsRef_null, mIsRef_va, mRf_ref, mRf_null, mRf_rf, true_and, and_true, true_or, or_true, eq_self_iff_true, mK_v, mK_0, Nat.reduceAdd, Nat.reduceLeDiff, Nat.zero_le, iL_0, iL_1, iL_m1, iI_add, iI_sub, iI_mul, iI_neg, updI_at, upA_at, upP_at, upR_at, Nat.reduceEqDiff, reduceIte, Int.reduceAdd, Int.reduceSub, Int.reduceMul, Int.reduceDiv, Int.reduceMod, Int.reduceLT, Int.reduceLE, Int.reduceEq, Int.reduceNeg, not_true_eq_false, not_false_eq_true, Decidable.not_not, iI_lt, iI_eq, p1]
  · by_cases p2 : 65535 < y
    · rw [bI_f (by omega)]
      simp (maxSteps := 1000000) (disch := first | omega | (simp only [updI_at, upA_at, Nat.reduceEqDiff, reduceIte]; omega) | exact mIsRef_rf _ | exact rfl) only [↓s38_0, ↓s38_1, ↓s38_4, ↓s38_5, ↓s38_7, ↓s38_10, ↓s38_11, ↓s38_14, ↓s38_15, ↓s38_16, ↓s38_17, ↓s38_20, ↓s38_21, ↓s38_24, ↓s38_27, ↓s38_28, ↓s38_29, ↓s38_32, ↓s38_35, ↓s38_36, ↓s38_37, ↓s38_38r, ↓s38_41, ↓s38_44, ↓s38_45, ↓s38_48, ↓s38_49, iL_16128, iL_65535, wc_6, mN1_int, mN1_ref, mN1_null, mN1_U, mN1_rf, mCats_nil, mCats_int, mCats_ref, mCats_null, mCats_long, mCats_rf, mIsRef_ref, mIsRef_null, mIsRef_va, mRf_ref, mRf_null, mRf_rf, true_and, and_true, true_or, or_true, eq_self_iff_true, mK_v, mK_0, Nat.reduceAdd, Nat.reduceLeDiff, Nat.zero_le, iL_0, iL_1, iL_m1, iI_add, iI_sub, iI_mul, iI_neg, updI_at, upA_at, upP_at, upR_at, Nat.reduceEqDiff, reduceIte, Int.reduceAdd, Int.reduceSub, Int.reduceMul, Int.reduceDiv, Int.reduceMod, Int.reduceLT, Int.reduceLE, Int.reduceEq, Int.reduceNeg, not_true_eq_false, not_false_eq_true, Decidable.not_not, iI_lt, iI_eq, p1, p2]
    · by_cases p3 : y = 16128
      · rw [bI_f (by omega)]
        simp (maxSteps := 1000000) (disch := first | omega | (simp only [updI_at, upA_at, Nat.reduceEqDiff, reduceIte]; omega) | exact mIsRef_rf _ | exact rfl) only [↓s38_0, ↓s38_1, ↓s38_4, ↓s38_5, ↓s38_7, ↓s38_10, ↓s38_11, ↓s38_14, ↓s38_15, ↓s38_16, ↓s38_17, ↓s38_20, ↓s38_21, ↓s38_24, ↓s38_27, ↓s38_28, ↓s38_29, ↓s38_32, ↓s38_35, ↓s38_36, ↓s38_37, ↓s38_38r, ↓s38_41, ↓s38_44, ↓s38_45, ↓s38_48, ↓s38_49, iL_16128, iL_65535, wc_6, mN1_int, mN1_ref, mN1_null, mN1_U, mN1_rf, mCats_nil, mCats_int, mCats_ref, mCats_null, mCats_long, mCats_rf, mIsRef_ref, mIsRef_null, mIsRef_va, mRf_ref, mRf_null, mRf_rf, true_and, and_true, true_or, or_true, eq_self_iff_true, mK_v, mK_0, Nat.reduceAdd, Nat.reduceLeDiff, Nat.zero_le, iL_0, iL_1, iL_m1, iI_add, iI_sub, iI_mul, iI_neg, updI_at, upA_at, upP_at, upR_at, Nat.reduceEqDiff, reduceIte, Int.reduceAdd, Int.reduceSub, Int.reduceMul, Int.reduceDiv, Int.reduceMod, Int.reduceLT, Int.reduceLE, Int.reduceEq, Int.reduceNeg, not_true_eq_false, not_false_eq_true, Decidable.not_not, iI_lt, iI_eq, p1, p2, p3, Int.reduceLT]
      · by_cases p4 : y = B 15 x
        · rw [bI_f (by omega)]
          simp (maxSteps := 1000000) (disch := first | omega | (simp only [updI_at, upA_at, Nat.reduceEqDiff, reduceIte]; omega) | exact mIsRef_rf _ | exact rfl) only [↓s38_0, ↓s38_1, ↓s38_4, ↓s38_5, ↓s38_7, ↓s38_10, ↓s38_11, ↓s38_14, ↓s38_15, ↓s38_16, ↓s38_17, ↓s38_20, ↓s38_21, ↓s38_24, ↓s38_27, ↓s38_28, ↓s38_29, ↓s38_32, ↓s38_35, ↓s38_36, ↓s38_37, ↓s38_38r, ↓s38_41, ↓s38_44, ↓s38_45, ↓s38_48, ↓s38_49, iL_16128, iL_65535, wc_6, mN1_int, mN1_ref, mN1_null, mN1_U, mN1_rf, mCats_nil, mCats_int, mCats_ref, mCats_null, mCats_long, mCats_rf, mIsRef_ref, mIsRef_null, mIsRef_va, mRf_ref, mRf_null, mRf_rf, true_and, and_true, true_or, or_true, eq_self_iff_true, mK_v, mK_0, Nat.reduceAdd, Nat.reduceLeDiff, Nat.zero_le, iL_0, iL_1, iL_m1, iI_add, iI_sub, iI_mul, iI_neg, updI_at, upA_at, upP_at, upR_at, Nat.reduceEqDiff, reduceIte, Int.reduceAdd, Int.reduceSub, Int.reduceMul, Int.reduceDiv, Int.reduceMod, Int.reduceLT, Int.reduceLE, Int.reduceEq, Int.reduceNeg, not_true_eq_false, not_false_eq_true, Decidable.not_not, iI_lt, iI_eq, p1, p2, p3, gg_3 i2, e3, eq_true p4]
        · by_cases p5 : fIn J B x y < 0
          · rw [bI_t ⟨by omega, p3, p4, p5⟩]
            have e : rfV fa (fIn J B x y) = none := if_pos p5
            simp (maxSteps := 1000000) (disch := first | omega | (simp only [updI_at, upA_at, Nat.reduceEqDiff, reduceIte]; omega) | exact mIsRef_rf _ | exact rfl) only [↓s38_0, ↓s38_1, ↓s38_4, ↓s38_5, ↓s38_7, ↓s38_10, ↓s38_11, ↓s38_14, ↓s38_15, ↓s38_16, ↓s38_17, ↓s38_20, ↓s38_21, ↓s38_24, ↓s38_27, ↓s38_28, ↓s38_29, ↓s38_32, ↓s38_35, ↓s38_36, ↓s38_37, ↓s38_38r, ↓s38_41, ↓s38_44, ↓s38_45, ↓s38_48, ↓s38_49, iL_16128, iL_65535, wc_6, mN1_int, mN1_ref, mN1_null, mN1_U, mN1_rf, mCats_nil, mCats_int, mCats_ref, mCats_null, mCats_long, mCats_rf, mIsRef_ref, mIsRef_null, mIsRef_va, mRf_ref, mRf_null, mRf_rf, true_and, and_true, true_or, or_true, eq_self_iff_true, mK_v, mK_0, Nat.reduceAdd, Nat.reduceLeDiff, Nat.zero_le, iL_0, iL_1, iL_m1, iI_add, iI_sub, iI_mul, iI_neg, updI_at, upA_at, upP_at, upR_at, Nat.reduceEqDiff, reduceIte, Int.reduceAdd, Int.reduceSub, Int.reduceMul, Int.reduceDiv, Int.reduceMod, Int.reduceLT, Int.reduceLE, Int.reduceEq, Int.reduceNeg, not_true_eq_false, not_false_eq_true, Decidable.not_not, iI_lt, iI_eq, p1, p2, p3, gg_3 i2, e3, p4, z, e]
          · rw [bI_f (by omega)]
            have e : rfV fa (fIn J B x y) = some (fa (fIn J B x y).toNat) := if_neg p5
            simp (maxSteps := 1000000) (disch := first | omega | (simp only [updI_at, upA_at, Nat.reduceEqDiff, reduceIte]; omega) | exact mIsRef_rf _ | exact rfl) only [↓s38_0, ↓s38_1, ↓s38_4, ↓s38_5, ↓s38_7, ↓s38_10, ↓s38_11, ↓s38_14, ↓s38_15, ↓s38_16, ↓s38_17, ↓s38_20, ↓s38_21, ↓s38_24, ↓s38_27, ↓s38_28, ↓s38_29, ↓s38_32, ↓s38_35, ↓s38_36, ↓s38_37, ↓s38_38r, ↓s38_41, ↓s38_44, ↓s38_45, ↓s38_48, ↓s38_49, iL_16128, iL_65535, wc_6, mN1_int, mN1_ref, mN1_null, mN1_U, mN1_rf, mCats_nil, mCats_int, mCats_ref, mCats_null, mCats_long, mCats_rf, mIsRef_ref, mIsRef_null, mIsRef_va, mRf_ref, mRf_null, mRf_rf, true_and, and_true, true_or, or_true, eq_self_iff_true, mK_v, mK_0, Nat.reduceAdd, Nat.reduceLeDiff, Nat.zero_le, iL_0, iL_1, iL_m1, iI_add, iI_sub, iI_mul, iI_neg, updI_at, upA_at, upP_at, upR_at, Nat.reduceEqDiff, reduceIte, Int.reduceAdd, Int.reduceSub, Int.reduceMul, Int.reduceDiv, Int.reduceMod, Int.reduceLT, Int.reduceLE, Int.reduceEq, Int.reduceNeg, not_true_eq_false, not_false_eq_true, Decidable.not_not, iI_lt, iI_eq, p1, p2, p3, gg_3 i2, e3, p4, z, e, reduceCtorEq]
end
theorem d39 {x : Int} (hn : 0 ≤ (I 10) ∧ (I 10) ≤ 40) (hb : 0 ≤ (I 8) ∧ (I 8) ≤ 8000) (hx : 0 ≤ x ∧ x ≤ 100000) : mX G 39 0 [.ref (b + 6), .int (iI x)] [] (wH h0 b I A P R o) n k Q ↔ Q (.inl (some (.int (iI (bI ((I 10) < 40 ∧ (I 8) + x ≤ 8000))))), wH h0 b I A P R o, n, k) := by
  by_cases p1 : 40 ≤ (I 10)
  · rw [bI_f (by omega)]
    simp (maxSteps := 1000000) (disch := first | omega | (simp only [updI_at, upA_at, Nat.reduceEqDiff, reduceIte]; omega) | exact mIsRef_rf _ | exact rfl) only [↓s39_0, ↓s39_1, ↓s39_4, ↓s39_7, ↓s39_9, ↓s39_12, ↓s39_13, ↓s39_16, ↓s39_17, ↓s39_18, ↓s39_21, ↓s39_24, ↓s39_25, ↓s39_28, ↓s39_29, iL_40, iL_8000, wc_18, wc_7, wg_6_0, wg_6_1, mN1_int, mN1_ref, mN1_null, mN1_U, mN1_rf, mCats_nil, mCats_int, mCats_ref, mCats_null, mCats_long, mCats_rf, mIsRef_ref, mIsRef_null, mIsRef_va, mRf_ref, mRf_null, mRf_rf, true_and, and_true, true_or, or_true, eq_self_iff_true, mK_v, mK_0, Nat.reduceAdd, Nat.reduceLeDiff, Nat.zero_le, iL_0, iL_1, iL_m1, iI_add, iI_sub, iI_mul, iI_neg, updI_at, upA_at, upP_at, upR_at, Nat.reduceEqDiff, reduceIte, Int.reduceAdd, Int.reduceSub, Int.reduceMul, Int.reduceDiv, Int.reduceMod, Int.reduceLT, Int.reduceLE, Int.reduceEq, Int.reduceNeg, not_true_eq_false, not_false_eq_true, Decidable.not_not, iI_le, iI_lt, d269f, p1]
  · by_cases p2 : 8000 < (I 8) + x
    · rw [bI_f (by omega)]
      simp (maxSteps := 1000000) (disch := first | omega | (simp only [updI_at, upA_at, Nat.reduceEqDiff, reduceIte]; omega) | exact mIsRef_rf _ | exact rfl) only [↓s39_0, ↓s39_1, ↓s39_4, ↓s39_7, ↓s39_9, ↓s39_12, ↓s39_13, ↓s39_16, ↓s39_17, ↓s39_18, ↓s39_21, ↓s39_24, ↓s39_25, ↓s39_28, ↓s39_29, iL_40, iL_8000, wc_18, wc_7, wg_6_0, wg_6_1, mN1_int, mN1_ref, mN1_null, mN1_U, mN1_rf, mCats_nil, mCats_int, mCats_ref, mCats_null, mCats_long, mCats_rf, mIsRef_ref, mIsRef_null, mIsRef_va, mRf_ref, mRf_null, mRf_rf, true_and, and_true, true_or, or_true, eq_self_iff_true, mK_v, mK_0, Nat.reduceAdd, Nat.reduceLeDiff, Nat.zero_le, iL_0, iL_1, iL_m1, iI_add, iI_sub, iI_mul, iI_neg, updI_at, upA_at, upP_at, upR_at, Nat.reduceEqDiff, reduceIte, Int.reduceAdd, Int.reduceSub, Int.reduceMul, Int.reduceDiv, Int.reduceMod, Int.reduceLT, Int.reduceLE, Int.reduceEq, Int.reduceNeg, not_true_eq_false, not_false_eq_true, Decidable.not_not, iI_le, iI_lt, d269f, p1, p2]
    · rw [bI_t (by omega)]
      simp (maxSteps := 1000000) (disch := first | omega | (simp only [updI_at, upA_at, Nat.reduceEqDiff, reduceIte]; omega) | exact mIsRef_rf _ | exact rfl) only [↓s39_0, ↓s39_1, ↓s39_4, ↓s39_7, ↓s39_9, ↓s39_12, ↓s39_13, ↓s39_16, ↓s39_17, ↓s39_18, ↓s39_21, ↓s39_24, ↓s39_25, ↓s39_28, ↓s39_29, iL_40, iL_8000, wc_18, wc_7, wg_6_0, wg_6_1, mN1_int, mN1_ref, mN1_null, mN1_U, mN1_rf, mCats_nil, mCats_int, mCats_ref, mCats_null, mCats_long, mCats_rf, mIsRef_ref, mIsRef_null, mIsRef_va, mRf_ref, mRf_null, mRf_rf, true_and, and_true, true_or, or_true, eq_self_iff_true, mK_v, mK_0, Nat.reduceAdd, Nat.reduceLeDiff, Nat.zero_le, iL_0, iL_1, iL_m1, iI_add, iI_sub, iI_mul, iI_neg, updI_at, upA_at, upP_at, upR_at, Nat.reduceEqDiff, reduceIte, Int.reduceAdd, Int.reduceSub, Int.reduceMul, Int.reduceDiv, Int.reduceMod, Int.reduceLT, Int.reduceLE, Int.reduceEq, Int.reduceNeg, not_true_eq_false, not_false_eq_true, Decidable.not_not, iI_le, iI_lt, d269f, p1, p2]
end MFILES2
