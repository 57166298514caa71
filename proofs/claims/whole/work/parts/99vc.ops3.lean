/-! The calls: rights, with, goes, pick. -/
section MOPS3
variable {G : mG} {h h0 : mH} {n k b : Nat} {Q : mR → Prop} {I : Nat → Int} {A : Nat → Nat → Int} {P : Nat → Nat} {R : Nat → Option Nat} {o : Nat → Int64}
theorem d174 {x : Int} (hx : -2147483648 ≤ x ∧ x < 2147483648) : mX G 174 0 [.int (iI x)] [] h n k Q ↔ Q (.inl (some (.int (iI (bI (0 ≤ x ∧ x ≤ 255))))), h, n, k) := by
  by_cases p : x < 0
  · rw [bI_f (by omega)]
    simp (maxSteps := 1000000) (disch := first | omega | (simp only [updI_at, upA_at, Nat.reduceEqDiff, reduceIte]; omega) | exact mIsRef_rf _ | exact rfl) only [↓s174_0, ↓s174_1, ↓s174_4, ↓s174_5, ↓s174_8, ↓s174_11, ↓s174_12, ↓s174_15, ↓s174_16, iL_255, mN1_int, mN1_ref, mN1_null, mN1_U, mN1_rf, mCats_nil, mCats_int, mCats_ref, mCats_null, mCats_long, mCats_rf, mIsRef_ref, mIsRef_null, mIsRef_va, mRf_ref, mRf_null, mRf_rf, true_and, and_true, true_or, or_true, eq_self_iff_true, mK_v, mK_0, Nat.reduceAdd, Nat.reduceLeDiff, Nat.zero_le, iL_0, iL_1, iL_m1, iI_add, iI_sub, iI_mul, iI_neg, updI_at, upA_at, upP_at, upR_at, Nat.reduceEqDiff, reduceIte, Int.reduceAdd, Int.reduceSub, Int.reduceMul, Int.reduceDiv, Int.reduceMod, Int.reduceLT, Int.reduceLE, Int.reduceEq, Int.reduceNeg, not_true_eq_false, not_false_eq_true, Decidable.not_not, iI_lt, p]
  · by_cases q : 255 < x
    · rw [bI_f (by omega)]
      simp (maxSteps := 1000000) (disch := first | omega | (simp only [updI_at, upA_at, Nat.reduceEqDiff, reduceIte]; omega) | exact mIsRef_rf _ | exact rfl) only [↓s174_0, ↓s174_1, ↓s174_4, ↓s174_5, ↓s174_8, ↓s174_11, ↓s174_12, ↓s174_15, ↓s174_16, iL_255, mN1_int, mN1_ref, mN1_null, mN1_U, mN1_rf, mCats_nil, mCats_int, mCats_ref, mCats_null, mCats_long, mCats_rf, mIsRef_ref, mIsRef_null, mIsRef_va, mRf_ref, mRf_null, mRf_rf, true_and, and_true, true_or, or_true, eq_self_iff_true, mK_v, mK_0, Nat.reduceAdd, Nat.reduceLeDiff, Nat.zero_le, iL_0, iL_1, iL_m1, iI_add, iI_sub, iI_mul, iI_neg, updI_at, upA_at, upP_at, upR_at, Nat.reduceEqDiff, reduceIte, Int.reduceAdd, Int.reduceSub, Int.reduceMul, Int.reduceDiv, Int.reduceMod, Int.reduceLT, Int.reduceLE, Int.reduceEq, Int.reduceNeg, not_true_eq_false, not_false_eq_true, Decidable.not_not, iI_lt, p, q]
    · rw [bI_t (by omega)]
      simp (maxSteps := 1000000) (disch := first | omega | (simp only [updI_at, upA_at, Nat.reduceEqDiff, reduceIte]; omega) | exact mIsRef_rf _ | exact rfl) only [↓s174_0, ↓s174_1, ↓s174_4, ↓s174_5, ↓s174_8, ↓s174_11, ↓s174_12, ↓s174_15, ↓s174_16, iL_255, mN1_int, mN1_ref, mN1_null, mN1_U, mN1_rf, mCats_nil, mCats_int, mCats_ref, mCats_null, mCats_long, mCats_rf, mIsRef_ref, mIsRef_null, mIsRef_va, mRf_ref, mRf_null, mRf_rf, true_and, and_true, true_or, or_true, eq_self_iff_true, mK_v, mK_0, Nat.reduceAdd, Nat.reduceLeDiff, Nat.zero_le, iL_0, iL_1, iL_m1, iI_add, iI_sub, iI_mul, iI_neg, updI_at, upA_at, upP_at, upR_at, Nat.reduceEqDiff, reduceIte, Int.reduceAdd, Int.reduceSub, Int.reduceMul, Int.reduceDiv, Int.reduceMod, Int.reduceLT, Int.reduceLE, Int.reduceEq, Int.reduceNeg, not_true_eq_false, not_false_eq_true, Decidable.not_not, iI_lt, p, q]
theorem d175 {x : Int} (hx : -2147483648 ≤ x ∧ x < 2147483648) : mX G 175 0 [.int (iI x)] [] h n k Q ↔ Q (.inl (some (.int (iI (bI (0 ≤ x ∧ x ≤ 2))))), h, n, k) := by
  by_cases p : x < 0
  · rw [bI_f (by omega)]
    simp (maxSteps := 1000000) (disch := first | omega | (simp only [updI_at, upA_at, Nat.reduceEqDiff, reduceIte]; omega) | exact mIsRef_rf _ | exact rfl) only [↓s175_0, ↓s175_1, ↓s175_4, ↓s175_5, ↓s175_6, ↓s175_9, ↓s175_10, ↓s175_13, ↓s175_14, iL_2, mN1_int, mN1_ref, mN1_null, mN1_U, mN1_rf, mCats_nil, mCats_int, mCats_ref, mCats_null, mCats_long, mCats_rf, mIsRef_ref, mIsRef_null, mIsRef_va, mRf_ref, mRf_null, mRf_rf, true_and, and_true, true_or, or_true, eq_self_iff_true, mK_v, mK_0, Nat.reduceAdd, Nat.reduceLeDiff, Nat.zero_le, iL_0, iL_1, iL_m1, iI_add, iI_sub, iI_mul, iI_neg, updI_at, upA_at, upP_at, upR_at, Nat.reduceEqDiff, reduceIte, Int.reduceAdd, Int.reduceSub, Int.reduceMul, Int.reduceDiv, Int.reduceMod, Int.reduceLT, Int.reduceLE, Int.reduceEq, Int.reduceNeg, not_true_eq_false, not_false_eq_true, Decidable.not_not, iI_lt, p]
  · by_cases q : 2 < x
    · rw [bI_f (by omega)]
      simp (maxSteps := 1000000) (disch := first | omega | (simp only [updI_at, upA_at, Nat.reduceEqDiff, reduceIte]; omega) | exact mIsRef_rf _ | exact rfl) only [↓s175_0, ↓s175_1, ↓s175_4, ↓s175_5, ↓s175_6, ↓s175_9, ↓s175_10, ↓s175_13, ↓s175_14, iL_2, mN1_int, mN1_ref, mN1_null, mN1_U, mN1_rf, mCats_nil, mCats_int, mCats_ref, mCats_null, mCats_long, mCats_rf, mIsRef_ref, mIsRef_null, mIsRef_va, mRf_ref, mRf_null, mRf_rf, true_and, and_true, true_or, or_true, eq_self_iff_true, mK_v, mK_0, Nat.reduceAdd, Nat.reduceLeDiff, Nat.zero_le, iL_0, iL_1, iL_m1, iI_add, iI_sub, iI_mul, iI_neg, updI_at, upA_at, upP_at, upR_at, Nat.reduceEqDiff, reduceIte, Int.reduceAdd, Int.reduceSub, Int.reduceMul, Int.reduceDiv, Int.reduceMod, Int.reduceLT, Int.reduceLE, Int.reduceEq, Int.reduceNeg, not_true_eq_false, not_false_eq_true, Decidable.not_not, iI_lt, p, q]
    · rw [bI_t (by omega)]
      simp (maxSteps := 1000000) (disch := first | omega | (simp only [updI_at, upA_at, Nat.reduceEqDiff, reduceIte]; omega) | exact mIsRef_rf _ | exact rfl) only [↓s175_0, ↓s175_1, ↓s175_4, ↓s175_5, ↓s175_6, ↓s175_9, ↓s175_10, ↓s175_13, ↓s175_14, iL_2, mN1_int, mN1_ref, mN1_null, mN1_U, mN1_rf, mCats_nil, mCats_int, mCats_ref, mCats_null, mCats_long, mCats_rf, mIsRef_ref, mIsRef_null, mIsRef_va, mRf_ref, mRf_null, mRf_rf, true_and, and_true, true_or, or_true, eq_self_iff_true, mK_v, mK_0, Nat.reduceAdd, Nat.reduceLeDiff, Nat.zero_le, iL_0, iL_1, iL_m1, iI_add, iI_sub, iI_mul, iI_neg, updI_at, upA_at, upP_at, upR_at, Nat.reduceEqDiff, reduceIte, Int.reduceAdd, Int.reduceSub, Int.reduceMul, Int.reduceDiv, Int.reduceMod, Int.reduceLT, Int.reduceLE, Int.reduceEq, Int.reduceNeg, not_true_eq_false, not_false_eq_true, Decidable.not_not, iI_lt, p, q]
section
variable {p : Nat} {F : Nat → Int} {ab : Option Nat} {K : mH → Prop} {r : Int}
theorem gp_7 (hc : cO G h0 b p ab F) : mPut G (wH h0 b I A P R o) p 1 7 (.int (iI r)) K ↔ K (wH (mUp h0 p (fO p ab (upE F 7 r))) b I A P R o) := by
  rw [hPut (gg_at hc) (show 7 < 9 by decide) hc.2.1 rfl, wH_put hc.1.1]
  exact Iff.rfl
theorem gp_8 (hc : cO G h0 b p ab F) : mPut G (wH h0 b I A P R o) p 1 8 (.int (iI r)) K ↔ K (wH (mUp h0 p (fO p ab (upE F 8 r))) b I A P R o) := by
  rw [hPut (gg_at hc) (show 8 < 9 by decide) hc.2.1 rfl, wH_put hc.1.1]
  exact Iff.rfl
theorem cO_up (hc : cO G h0 b p ab F) (F' : Nat → Int) : cO G (mUp h0 p (fO p ab F')) b p ab F' := ⟨hc.1, hc.2.1, mUp_same _ _ _⟩
def nOb (w t : Nat) (fl : Option Nat) (F : Nat → Int) : mE := mO 4 [.int (iI (F 0)), .int (iI (F 1)), .int (iI (F 2)), .ref w, .ref (w + 1), .ref (w + 2), .ref (w + 3), .int (iI (F 7)), .ref t, va_rf fl, .int (iI (F 10)), .int (iI (F 11))]
variable {w t : Nat} {fl fl' : Option Nat}
theorem np_7 (hn : nO G h0 b p w t fl F) : mPut G (wH h0 b I A P R o) p 4 7 (.int (iI r)) K ↔ K (wH (mUp h0 p (nOb w t fl (upE F 7 r))) b I A P R o) := by
  rw [hPut (ng_at hn) (show 7 < 12 by decide) hn.2.1.1 rfl, wH_put hn.1.1]
  exact Iff.rfl
theorem np_10 (hn : nO G h0 b p w t fl F) : mPut G (wH h0 b I A P R o) p 4 10 (.int (iI r)) K ↔ K (wH (mUp h0 p (nOb w t fl (upE F 10 r))) b I A P R o) := by
  rw [hPut (ng_at hn) (show 10 < 12 by decide) hn.2.1.1 rfl, wH_put hn.1.1]
  exact Iff.rfl
theorem np_11 (hn : nO G h0 b p w t fl F) : mPut G (wH h0 b I A P R o) p 4 11 (.int (iI r)) K ↔ K (wH (mUp h0 p (nOb w t fl (upE F 11 r))) b I A P R o) := by
  rw [hPut (ng_at hn) (show 11 < 12 by decide) hn.2.1.1 rfl, wH_put hn.1.1]
  exact Iff.rfl
theorem np_9 {v : Value} (hn : nO G h0 b p w t fl F) (hv : v = va_rf fl') : mPut G (wH h0 b I A P R o) p 4 9 v K ↔ K (wH (mUp h0 p (nOb w t fl' F)) b I A P R o) := by
  subst hv
  rw [hPut (ng_at hn) (show 9 < 12 by decide) hn.2.1.1 (by cases fl' <;> rfl), wH_put hn.1.1]
  exact Iff.rfl
theorem np_8 {t' : Nat} (hn : nO G h0 b p w t fl F) : mPut G (wH h0 b I A P R o) p 4 8 (.ref t') K ↔ K (wH (mUp h0 p (nOb w t' fl F)) b I A P R o) := by
  rw [hPut (ng_at hn) (show 8 < 12 by decide) hn.2.1.1 rfl, wH_put hn.1.1]
  exact Iff.rfl
theorem nO_up {t' : Nat} (hn : nO G h0 b p w t fl F) (F' : Nat → Int) : nO G (mUp h0 p (nOb w t' fl' F')) b p w t' fl' F' := ⟨hn.1, hn.2.1, mUp_same _ _ _⟩
end
section
variable {fa : Nat → Nat} {fb : Nat → Nat → Int} {fcap : Nat} {fg : Nat → Option Nat} {W : Nat → Nat → Nat → Nat} {V : Nat → Nat → Nat → Nat → Int} {X : Nat → Nat → Option Nat} {cap : Nat} {ng : Nat → Option Nat} {h1 : mH}
theorem iM_rw {i : Nat} {r w : Int} (h : iM I A) (hr : 0 ≤ r ∧ r ≤ 2) (hw : 0 ≤ w ∧ w ≤ 2) : iM (updI I 27 0) (upA (upA A 20 (upE (A 20) i r)) 21 (upE (A 21) i w)) := by
  obtain ⟨hA, ⟨f1, f2, f3, f4, f5, f6⟩, hH, hN, hS, hT⟩ := h
  refine ⟨RgA_upA (RgA_upA hA (fun j => upE_P (p := fun x => -2147483648 ≤ x ∧ x < 2147483648) (hA _) (by omega) j)) (fun j => upE_P (p := fun x => -2147483648 ≤ x ∧ x < 2147483648) (hA _) (by omega) j), ⟨f1, f2, ?_, f4, f5, f6⟩, hH, hN, hS, hT⟩
  intro f hf
  obtain ⟨k1, k2, k3, k4, k5, k6, k7⟩ := f3 f hf
  refine ⟨k1, k2, k3, k4, ?_, ?_, k7⟩
  · show 0 ≤ upE (A 20) i r f ∧ upE (A 20) i r f ≤ 2
    unfold upE
    split
    · exact hr
    · exact k5
  · show 0 ≤ upE (A 21) i w f ∧ upE (A 21) i w f ≤ 2
    unfold upE
    split
    · exact hw
    · exact k6
theorem ri_rw {x : Nat} {r w : Int} (h : ri I A) (hx : (x : Int) < (I 29)) : ri (updI I 27 0) (upA (upA A 20 (upE (A 20) x r)) 21 (upE (A 21) x w)) := by
  intro f hf
  have hf' : (I 29) ≤ f := hf
  have e : f ≠ x := by omega
  show upE (A 20) x r f = 0 ∧ upE (A 21) x w f = 0
  rw [upE_ne e, upE_ne e]
  exact h f hf'
theorem op_rights {x r w : Int} (hb : G.2.2.2 ≤ b) (hM : iM I A) (hr : rst G h0 b I A P R I A fa fb fcap fg W V X cap ng) (hf : fre P b n W) (hri : ri I A) (hx : -2147483648 ≤ x ∧ x < 2147483648) (hrr : -2147483648 ≤ r ∧ r < 2147483648) (hw : -2147483648 ≤ w ∧ w < 2147483648) :
    op1 G b n (fun n k Q => mX G 157 0 [.ref b, .int (iI x), .int (iI r), .int (iI w), mU] [] (wH h0 b I A P R o) n k Q) (fun h n k Q => mX G 190 0 [.ref (b + 43), .int (iI x), .int (iI r), .int (iI w)] [] h n k Q) := by
  have f1 := hM.2.1.1
  have z36 := fun k Q => d36 (n := n) (k := k) (Q := Q) (I := I) (A := A) (R := R) (o := o) (z := x) hr.1.1 hr.1.2.1 f1 hx
  have zr := fun k Q => d175 (G := G) (h := wH h0 b I A P R o) (n := n) (k := k) (Q := Q) hrr
  have zw := fun k Q => d175 (G := G) (h := wH h0 b I A P R o) (n := n) (k := k) (Q := Q) hw
  have c := fun h1 X1 Y k Q (hA : RgA (gm Y A)) => c190 (G := G) (h0 := h1) (n := n) (k := k) (Q := Q) (I := gl X1 I) (A := gm Y A) (P := P) (R := R) (o := o) hb hA hx hrr hw f1
  simp (disch := decide) only [gl_at, gm_at, gl_up, gm_up] at c
  have no : ∀ (hn : ¬ ((0 ≤ x ∧ x ≤ (I 29) - 1) ∧ (0 ≤ r ∧ r ≤ 2) ∧ (0 ≤ w ∧ w ≤ 2))), (∀ k Q, mX G 157 0 [.ref b, .int (iI x), .int (iI r), .int (iI w), mU] [] (wH h0 b I A P R o) n k Q ↔ Q (.inl (some (.int (iI 0))), wH h0 b I A P R o, n, k)) → op1 G b n (fun n k Q => mX G 157 0 [.ref b, .int (iI x), .int (iI r), .int (iI w), mU] [] (wH h0 b I A P R o) n k Q) (fun h n k Q => mX G 190 0 [.ref (b + 43), .int (iI x), .int (iI r), .int (iI w)] [] h n k Q) := by
    intro hn zc
    refine op_ro (o := o) (v := 0) hM hr hf hri zc ?_
    intro X1 Y hi k Q
    rw [c _ _ _ _ _ hi.1, if_neg hn, gl_up (by decide)]
  by_cases p1 : 0 ≤ x ∧ x < (I 29)
  · simp only [eq_true p1, if_true] at z36
    obtain ⟨i1, i2, i3, i4, i5⟩ := hr.1.1.2.2.1 x.toNat (by omega)
    by_cases p2 : 0 ≤ r ∧ r ≤ 2
    · simp only [bI_t p2] at zr
      by_cases p3 : 0 ≤ w ∧ w ≤ 2
      · simp only [bI_t p3] at zw
        obtain ⟨⟨b1, b1'⟩, b2, b3, b4, b5, b6, b7, b8, b9, b10, b11, z1, z2, ⟨ow, ho⟩, z4⟩ := id hr
        have oo : oW ow P I A fa W := ho
        have ot := (ho.1 x.toNat (by omega)).1
        have hcell := i2.2.2
        have hne : ∀ k N f, 2 ≤ k → fO (fa x.toNat) (fAb fa A x.toNat) (fF A x.toNat) ≠ .inl (k, N, f) := fun k N f _ q => by cases q
        have hk := ow_up (h0 := h0) (e1 := fO (fa x.toNat) (fAb fa A x.toNat) (upE (upE (fF A x.toNat) 7 r) 8 w)) ot
        have hr1 : rst G (mUp h0 (fa x.toNat) (fO (fa x.toNat) (fAb fa A x.toNat) (upE (upE (fF A x.toNat) 7 r) 8 w))) b I A P R (updI I 27 0) (upA (upA A 20 (upE (A 20) x.toNat r)) 21 (upE (A 21) x.toNat w)) fa fb fcap fg W V X cap ng := by
          refine ⟨⟨?_, b1'⟩, ⟨?_, b2.2⟩, keep_T hcell hne b3, b4, b5, b6, b7, b8, b9, b10, b11, keep_G ho.2.2.2 (by omega) z1, keep_Sc hcell hne z2, ⟨ow, ho⟩, keep_0 hcell z4⟩
          · obtain ⟨⟨l1, l2, l3⟩, l4, hi, inj⟩ := b1
            refine ⟨⟨l1, l2, by rw [hk _ (by rw [ho.2.2.1]; omega)]; exact l3⟩, l4, ?_, inj⟩
            intro i hi'
            obtain ⟨j1, j2, j3, j4, j5⟩ := hi i hi'
            have oi := ho.1 i hi'
            refine ⟨j1, ?_, by rw [hk _ (by omega)]; exact j3, j4, j5⟩
            by_cases q : i = x.toNat
            · refine ⟨j2.1, j2.2.1, ?_⟩
              have e7 : fF (upA (upA A 20 (upE (A 20) x.toNat r)) 21 (upE (A 21) x.toNat w)) x.toNat 7 = r := upE_same _ _ _
              have e8 : fF (upA (upA A 20 (upE (A 20) x.toNat r)) 21 (upE (A 21) x.toNat w)) x.toNat 8 = w := upE_same _ _ _
              rw [q, mUp_same]
              unfold fO
              rw [e7, e8]
              rfl
            · have e7 : fF (upA (upA A 20 (upE (A 20) x.toNat r)) 21 (upE (A 21) x.toNat w)) i 7 = fF A i 7 := upE_ne q
              have e8 : fF (upA (upA A 20 (upE (A 20) x.toNat r)) 21 (upE (A 21) x.toNat w)) i 8 = fF A i 8 := upE_ne q
              refine ⟨j2.1, j2.2.1, ?_⟩
              rw [hk _ (by omega), j2.2.2]
              unfold fO
              rw [e7, e8]
              rfl
          · obtain ⟨⟨l1, l3⟩, l4, m1, hi, hN⟩ := b2.1
            refine ⟨⟨l1, fun q => by rw [hk _ (by rw [ho.2.2.2]; omega)]; exact l3 q⟩, l4, m1, hi, ?_⟩
            intro i hi'
            have n40 := hM.2.2.2.1.1
            have hi2 : (i : Int) < (I 31) ∨ i = 40 := hi'
            exact keep_n oo hk hi2 (by omega) (hM.2.2.2.1.2.2.1 i (by omega)) (hN i hi')
        obtain ⟨A2, e1, e2, e3⟩ := op_end (o := o) hr1 kpM_refl hM (iM_rw hM p2 p3) hf (ri_rw hri (by omega))
        refine ⟨1, _, I, A, P, R, o, _, ?_, hr1.2.2.2.2.2.2.2.2.2.2.2.2.1, ?_, e3⟩
        · intro k Q
          have hc2 := cO_up i2 (upE (fF A x.toNat) 7 r)
          have g7 := fun K => gp_7 (I := I) (A := A) (P := P) (R := R) (o := o) (K := K) (r := r) i2
          have g8 := fun K => gp_8 (I := I) (A := A) (P := P) (R := R) (o := o) (K := K) (r := w) hc2
          rw [mUp_mUp] at g8
          simp (maxSteps := 1000000) (disch := first | omega | (simp only [updI_at, upA_at, Nat.reduceEqDiff, reduceIte]; omega) | exact mIsRef_rf _ | exact rfl) only [↓s157_0, ↓s157_1, ↓s157_4, ↓s157_5, ↓s157_8, ↓s157_10, ↓s157_12, ↓s157_15, ↓s157_16, ↓s157_19, ↓s157_22, ↓s157_23, ↓s157_26, ↓s157_29, ↓s157_30, ↓s157_31, ↓s157_33, ↓s157_34, ↓s157_37, ↓s157_39, ↓s157_40, ↓s157_43, ↓s157_44, wc_6, wg_0_2, mN1_int, mN1_ref, mN1_null, mN1_U, mN1_rf, mCats_nil, mCats_int, mCats_ref, mCats_null, mCats_long, mCats_rf, mIsRef_ref, mIsRef_null, mIsRef_va, mRf_ref, mRf_null, mRf_rf, true_and, and_true, true_or, or_true, eq_self_iff_true, mK_v, mK_0, Nat.reduceAdd, Nat.reduceLeDiff, Nat.zero_le, iL_0, iL_1, iL_m1, iI_add, iI_sub, iI_mul, iI_neg, updI_at, upA_at, upP_at, upR_at, Nat.reduceEqDiff, reduceIte, Int.reduceAdd, Int.reduceSub, Int.reduceMul, Int.reduceDiv, Int.reduceMod, Int.reduceLT, Int.reduceLE, Int.reduceEq, Int.reduceNeg, not_true_eq_false, not_false_eq_true, Decidable.not_not, z36, zr, zw, iI_eq, reduceCtorEq, g7, g8]
        · intro k Q
          dsimp only
          rw [e1, c _ _ _ _ _ e2.1, if_pos ⟨by omega, p2, p3⟩]
      · refine no (by omega) ?_
        intro k Q
        simp only [bI_f p3] at zw
        simp (maxSteps := 1000000) (disch := first | omega | (simp only [updI_at, upA_at, Nat.reduceEqDiff, reduceIte]; omega) | exact mIsRef_rf _ | exact rfl) only [↓s157_0, ↓s157_1, ↓s157_4, ↓s157_5, ↓s157_8, ↓s157_10, ↓s157_12, ↓s157_15, ↓s157_16, ↓s157_19, ↓s157_22, ↓s157_23, ↓s157_26, ↓s157_29, ↓s157_30, ↓s157_31, ↓s157_33, ↓s157_34, ↓s157_37, ↓s157_39, ↓s157_40, ↓s157_43, ↓s157_44, wc_6, wg_0_2, mN1_int, mN1_ref, mN1_null, mN1_U, mN1_rf, mCats_nil, mCats_int, mCats_ref, mCats_null, mCats_long, mCats_rf, mIsRef_ref, mIsRef_null, mIsRef_va, mRf_ref, mRf_null, mRf_rf, true_and, and_true, true_or, or_true, eq_self_iff_true, mK_v, mK_0, Nat.reduceAdd, Nat.reduceLeDiff, Nat.zero_le, iL_0, iL_1, iL_m1, iI_add, iI_sub, iI_mul, iI_neg, updI_at, upA_at, upP_at, upR_at, Nat.reduceEqDiff, reduceIte, Int.reduceAdd, Int.reduceSub, Int.reduceMul, Int.reduceDiv, Int.reduceMod, Int.reduceLT, Int.reduceLE, Int.reduceEq, Int.reduceNeg, not_true_eq_false, not_false_eq_true, Decidable.not_not, z36, zr, zw, iI_eq, reduceCtorEq]
    · refine no (by omega) ?_
      intro k Q
      simp only [bI_f p2] at zr
      simp (maxSteps := 1000000) (disch := first | omega | (simp only [updI_at, upA_at, Nat.reduceEqDiff, reduceIte]; omega) | exact mIsRef_rf _ | exact rfl) only [↓s157_0, ↓s157_1, ↓s157_4, ↓s157_5, ↓s157_8, ↓s157_10, ↓s157_12, ↓s157_15, ↓s157_16, ↓s157_19, ↓s157_22, ↓s157_23, ↓s157_26, ↓s157_29, ↓s157_30, ↓s157_31, ↓s157_33, ↓s157_34, ↓s157_37, ↓s157_39, ↓s157_40, ↓s157_43, ↓s157_44, wc_6, wg_0_2, mN1_int, mN1_ref, mN1_null, mN1_U, mN1_rf, mCats_nil, mCats_int, mCats_ref, mCats_null, mCats_long, mCats_rf, mIsRef_ref, mIsRef_null, mIsRef_va, mRf_ref, mRf_null, mRf_rf, true_and, and_true, true_or, or_true, eq_self_iff_true, mK_v, mK_0, Nat.reduceAdd, Nat.reduceLeDiff, Nat.zero_le, iL_0, iL_1, iL_m1, iI_add, iI_sub, iI_mul, iI_neg, updI_at, upA_at, upP_at, upR_at, Nat.reduceEqDiff, reduceIte, Int.reduceAdd, Int.reduceSub, Int.reduceMul, Int.reduceDiv, Int.reduceMod, Int.reduceLT, Int.reduceLE, Int.reduceEq, Int.reduceNeg, not_true_eq_false, not_false_eq_true, Decidable.not_not, z36, zr, iI_eq, reduceCtorEq]
  · refine no (by omega) ?_
    intro k Q
    simp only [p1, if_false] at z36
    simp (maxSteps := 1000000) (disch := first | omega | (simp only [updI_at, upA_at, Nat.reduceEqDiff, reduceIte]; omega) | exact mIsRef_rf _ | exact rfl) only [↓s157_0, ↓s157_1, ↓s157_4, ↓s157_5, ↓s157_8, ↓s157_10, ↓s157_12, ↓s157_15, ↓s157_16, ↓s157_19, ↓s157_22, ↓s157_23, ↓s157_26, ↓s157_29, ↓s157_30, ↓s157_31, ↓s157_33, ↓s157_34, ↓s157_37, ↓s157_39, ↓s157_40, ↓s157_43, ↓s157_44, wc_6, wg_0_2, mN1_int, mN1_ref, mN1_null, mN1_U, mN1_rf, mCats_nil, mCats_int, mCats_ref, mCats_null, mCats_long, mCats_rf, mIsRef_ref, mIsRef_null, mIsRef_va, mRf_ref, mRf_null, mRf_rf, true_and, and_true, true_or, or_true, eq_self_iff_true, mK_v, mK_0, Nat.reduceAdd, Nat.reduceLeDiff, Nat.zero_le, iL_0, iL_1, iL_m1, iI_add, iI_sub, iI_mul, iI_neg, updI_at, upA_at, upP_at, upR_at, Nat.reduceEqDiff, reduceIte, Int.reduceAdd, Int.reduceSub, Int.reduceMul, Int.reduceDiv, Int.reduceMod, Int.reduceLT, Int.reduceLE, Int.reduceEq, Int.reduceNeg, not_true_eq_false, not_false_eq_true, Decidable.not_not, z36, iI_eq]
end
end MOPS3
