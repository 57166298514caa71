/-! The calls: by, reset, count, timer, byteOf. -/
section MOPS2
variable {G : mG} {h h0 : mH} {n k b : Nat} {Q : mR → Prop} {I : Nat → Int} {A : Nat → Nat → Int} {P : Nat → Nat} {R : Nat → Option Nat} {o : Nat → Int64}
section
variable {fa : Nat → Nat} {fb : Nat → Nat → Int} {fcap : Nat} {fg : Nat → Option Nat} {W : Nat → Nat → Nat → Nat} {V : Nat → Nat → Nat → Nat → Int} {X : Nat → Nat → Option Nat} {cap : Nat} {ng : Nat → Option Nat} {h1 : mH}
theorem op_ro {v : Int} {Mc : Nat → Nat → (mR → Prop) → Prop} {Mm : mH → Nat → Nat → (mR → Prop) → Prop} (hM : iM I A) (hr : rst G h0 b I A P R I A fa fb fcap fg W V X cap ng) (hf : fre P b n W) (hri : ri I A) (zc : ∀ k Q, Mc n k Q ↔ Q (.inl (some (.int (iI v))), wH h0 b I A P R o, n, k))
    (zm : ∀ (X1 : Nat → Int) (Y : Nat → Nat → Int), iM (gl X1 I) (gm Y A) → ∀ k Q, Mm (wH h0 b (gl X1 I) (gm Y A) P R o) n k Q ↔ Q (.inl (some (.int (iI v))), wH h0 b (updI (gl X1 I) 27 0) (gm Y A) P R o, n, k)) : op1 G b n Mc Mm := by
  obtain ⟨A2, e1, e2, e3⟩ := op_end (o := o) (J := updI I 27 0) hr kpM_refl hM hM hf hri
  refine ⟨v, h0, _, _, P, R, o, _, zc, hr.2.2.2.2.2.2.2.2.2.2.2.2.1, ?_, e3⟩
  intro k Q
  rw [e1, zm _ _ e2, gl_up (by decide)]
theorem op_timer {x : Int} (hb : G.2.2.2 ≤ b) (hM : iM I A) (hr : rst G h0 b I A P R I A fa fb fcap fg W V X cap ng) (hf : fre P b n W) (hri : ri I A) (hx : -2147483648 ≤ x ∧ x < 2147483648) :
    op1 G b n (fun n k Q => mX G 170 0 [.ref b, .int (iI x)] [] (wH h0 b I A P R o) n k Q) (fun h n k Q => mX G 262 0 [.ref (b + 43), .int (iI x)] [] h n k Q) := by
  have e := hr.2.2.2.2.2.1.2.2.2.1
  refine op_ro (o := o) (v := if 1 ≤ x ∧ x ≤ 8 then (if (A 40) x.toNat = 0 then 0 else 1) else -1) hM hr hf hri ?_ (fun X1 Y hi k Q => c262 hb hi.1 hx)
  intro k Q
  have z := fun Q' => d176 (G := G) (h := wH h0 b I A P R o) (n := n) (k := k) (Q := Q') hx
  have z2 := fun Q' => d114 (G := G) (h0 := h0) (b := b) (n := n) (k := k) (Q := Q') (I := I) (A := A) (P := P) (R := R) (o := o) hx e.2.2
  by_cases p : 1 ≤ x ∧ x ≤ 8
  · rw [if_pos p]
    simp only [bI_t p] at z
    have er := e.1 x.toNat (by omega)
    by_cases q : (A 40) x.toNat = 0
    · rw [if_pos q]
      simp only [bI_f (show ¬ ((0 ≤ x ∧ x < 9) ∧ ¬ (A 8) x.toNat = 0) from fun t => t.2 (by rw [er]; exact q))] at z2
      simp (maxSteps := 1000000) (disch := first | omega | (simp only [updI_at, upA_at, Nat.reduceEqDiff, reduceIte]; omega) | exact mIsRef_rf _ | exact rfl) only [↓s170_0, ↓s170_1, ↓s170_4, ↓s170_7, ↓s170_8, ↓s170_9, ↓s170_10, ↓s170_13, ↓s170_14, ↓s170_17, ↓s170_20, ↓s170_21, ↓s170_24, ↓s170_25, wc_28, wg_0_6, mN1_int, mN1_ref, mN1_null, mN1_U, mN1_rf, mCats_nil, mCats_int, mCats_ref, mCats_null, mCats_long, mCats_rf, mIsRef_ref, mIsRef_null, mIsRef_va, mRf_ref, mRf_null, mRf_rf, true_and, and_true, true_or, or_true, eq_self_iff_true, mK_v, mK_0, Nat.reduceAdd, Nat.reduceLeDiff, Nat.zero_le, iL_0, iL_1, iL_m1, iI_add, iI_sub, iI_mul, iI_neg, updI_at, upA_at, upP_at, upR_at, Nat.reduceEqDiff, reduceIte, Int.reduceAdd, Int.reduceSub, Int.reduceMul, Int.reduceDiv, Int.reduceMod, Int.reduceLT, Int.reduceLE, Int.reduceEq, Int.reduceNeg, not_true_eq_false, not_false_eq_true, Decidable.not_not, z, z2, iI_eq]
    · rw [if_neg q]
      simp only [bI_t (show (0 ≤ x ∧ x < 9) ∧ ¬ (A 8) x.toNat = 0 from ⟨by omega, by rw [er]; exact q⟩)] at z2
      simp (maxSteps := 1000000) (disch := first | omega | (simp only [updI_at, upA_at, Nat.reduceEqDiff, reduceIte]; omega) | exact mIsRef_rf _ | exact rfl) only [↓s170_0, ↓s170_1, ↓s170_4, ↓s170_7, ↓s170_8, ↓s170_9, ↓s170_10, ↓s170_13, ↓s170_14, ↓s170_17, ↓s170_20, ↓s170_21, ↓s170_24, ↓s170_25, wc_28, wg_0_6, mN1_int, mN1_ref, mN1_null, mN1_U, mN1_rf, mCats_nil, mCats_int, mCats_ref, mCats_null, mCats_long, mCats_rf, mIsRef_ref, mIsRef_null, mIsRef_va, mRf_ref, mRf_null, mRf_rf, true_and, and_true, true_or, or_true, eq_self_iff_true, mK_v, mK_0, Nat.reduceAdd, Nat.reduceLeDiff, Nat.zero_le, iL_0, iL_1, iL_m1, iI_add, iI_sub, iI_mul, iI_neg, updI_at, upA_at, upP_at, upR_at, Nat.reduceEqDiff, reduceIte, Int.reduceAdd, Int.reduceSub, Int.reduceMul, Int.reduceDiv, Int.reduceMod, Int.reduceLT, Int.reduceLE, Int.reduceEq, Int.reduceNeg, not_true_eq_false, not_false_eq_true, Decidable.not_not, z, z2, iI_eq]
  · rw [if_neg p]
    simp only [bI_f p] at z
    simp (maxSteps := 1000000) (disch := first | omega | (simp only [updI_at, upA_at, Nat.reduceEqDiff, reduceIte]; omega) | exact mIsRef_rf _ | exact rfl) only [↓s170_0, ↓s170_1, ↓s170_4, ↓s170_7, ↓s170_8, ↓s170_9, ↓s170_10, ↓s170_13, ↓s170_14, ↓s170_17, ↓s170_20, ↓s170_21, ↓s170_24, ↓s170_25, wc_28, wg_0_6, mN1_int, mN1_ref, mN1_null, mN1_U, mN1_rf, mCats_nil, mCats_int, mCats_ref, mCats_null, mCats_long, mCats_rf, mIsRef_ref, mIsRef_null, mIsRef_va, mRf_ref, mRf_null, mRf_rf, true_and, and_true, true_or, or_true, eq_self_iff_true, mK_v, mK_0, Nat.reduceAdd, Nat.reduceLeDiff, Nat.zero_le, iL_0, iL_1, iL_m1, iI_add, iI_sub, iI_mul, iI_neg, updI_at, upA_at, upP_at, upR_at, Nat.reduceEqDiff, reduceIte, Int.reduceAdd, Int.reduceSub, Int.reduceMul, Int.reduceDiv, Int.reduceMod, Int.reduceLT, Int.reduceLE, Int.reduceEq, Int.reduceNeg, not_true_eq_false, not_false_eq_true, Decidable.not_not, z, iI_eq]
theorem op_byteOf {x y : Int} (hb : G.2.2.2 ≤ b) (hM : iM I A) (hr : rst G h0 b I A P R I A fa fb fcap fg W V X cap ng) (hf : fre P b n W) (hri : ri I A) (hx : -2147483648 ≤ x ∧ x < 2147483648) (hy : -2147483648 ≤ y ∧ y < 2147483648) :
    op1 G b n (fun n k Q => mX G 171 0 [.ref b, .int (iI x), .int (iI y), mU] [] (wH h0 b I A P R o) n k Q) (fun h n k Q => mX G 263 0 [.ref (b + 43), .int (iI x), .int (iI y)] [] h n k Q) := by
  have hF := hM.2.1
  have f1 := hF.1
  have hB : 0 ≤ x → x ≤ (I 29) - 1 → 0 ≤ (A 22) x.toNat ∧ 0 ≤ (A 18) x.toNat * (A 19) x.toNat ∧ (A 22) x.toNat + (A 18) x.toNat * (A 19) x.toNat ≤ 8000 := by
    intro q1 q2
    obtain ⟨k1, k2, k3, k4, k5⟩ := hF.2.2.1 x.toNat (by omega)
    have sx := shp_sz k2
    have := Int.mul_nonneg sx.1 sx.2.2.1
    have u := hF.2.1
    omega
  refine op_ro (o := o) (v := if (0 ≤ x ∧ x ≤ (I 29) - 1) ∧ 0 ≤ y ∧ y ≤ (A 18) x.toNat * (A 19) x.toNat - 1 then (A 23) ((A 22) x.toNat + y).toNat else -1) hM hr hf hri ?_ (fun X1 Y hi k Q => c263 (I := gl X1 I) (A := gm Y A) hb hi.1 hx hy f1 hB)
  intro k Q
  have z := fun Q' => d36 (n := n) (k := k) (Q := Q') (I := I) (A := A) (R := R) (o := o) (z := x) hr.1.1 hr.1.2.1 f1 hx
  by_cases p : 0 ≤ x ∧ x < (I 29)
  · simp only [eq_true p, if_true] at z
    obtain ⟨i1, i2, i3, i4, i5⟩ := hr.1.1.2.2.1 x.toNat (by omega)
    have eN := fN_eq (x := x.toNat) hF (by omega)
    have z3 := fun Q' => d3' (n := n) (k := k) (Q := Q') (I := I) (A := A) (P := P) (R := R) (o := o) (z := y) i2 i3 (by omega) hy
    have ev : rget (fN A x.toNat) (fb x.toNat) y = if (0 ≤ x ∧ x ≤ (I 29) - 1) ∧ 0 ≤ y ∧ y ≤ (A 18) x.toNat * (A 19) x.toNat - 1 then (A 23) ((A 22) x.toNat + y).toNat else -1 := by
      unfold rget
      by_cases q : 0 ≤ y ∧ y < fN A x.toNat
      · have hbb := hB p.1 (by omega)
        rw [if_pos q, if_pos (by omega), i4 _ (by omega)]
        congr 1
        omega
      · rw [if_neg q, if_neg (by omega)]
    rw [ev] at z3
    generalize (if (0 ≤ x ∧ x ≤ (I 29) - 1) ∧ 0 ≤ y ∧ y ≤ (A 18) x.toNat * (A 19) x.toNat - 1 then (A 23) ((A 22) x.toNat + y).toNat else -1) = v at *
    simp (maxSteps := 1000000) (disch := first | omega | (simp only [updI_at, upA_at, Nat.reduceEqDiff, reduceIte]; omega) | exact mIsRef_rf _ | exact rfl) only [↓s171_0, ↓s171_1, ↓s171_4, ↓s171_5, ↓s171_8, ↓s171_9, ↓s171_10, ↓s171_13, ↓s171_14, ↓s171_17, ↓s171_18, ↓s171_19, ↓s171_22, wc_6, wg_0_2, mN1_int, mN1_ref, mN1_null, mN1_U, mN1_rf, mCats_nil, mCats_int, mCats_ref, mCats_null, mCats_long, mCats_rf, mIsRef_ref, mIsRef_null, mIsRef_va, mRf_ref, mRf_null, mRf_rf, true_and, and_true, true_or, or_true, eq_self_iff_true, mK_v, mK_0, Nat.reduceAdd, Nat.reduceLeDiff, Nat.zero_le, iL_0, iL_1, iL_m1, iI_add, iI_sub, iI_mul, iI_neg, updI_at, upA_at, upP_at, upR_at, Nat.reduceEqDiff, reduceIte, Int.reduceAdd, Int.reduceSub, Int.reduceMul, Int.reduceDiv, Int.reduceMod, Int.reduceLT, Int.reduceLE, Int.reduceEq, Int.reduceNeg, not_true_eq_false, not_false_eq_true, Decidable.not_not, z, z3, gg_c i2, reduceCtorEq]
  · simp only [p, if_false] at z
    rw [if_neg (by omega)]
    simp (maxSteps := 1000000) (disch := first | omega | (simp only [updI_at, upA_at, Nat.reduceEqDiff, reduceIte]; omega) | exact mIsRef_rf _ | exact rfl) only [↓s171_0, ↓s171_1, ↓s171_4, ↓s171_5, ↓s171_8, ↓s171_9, ↓s171_10, ↓s171_13, ↓s171_14, ↓s171_17, ↓s171_18, ↓s171_19, ↓s171_22, wc_6, wg_0_2, mN1_int, mN1_ref, mN1_null, mN1_U, mN1_rf, mCats_nil, mCats_int, mCats_ref, mCats_null, mCats_long, mCats_rf, mIsRef_ref, mIsRef_null, mIsRef_va, mRf_ref, mRf_null, mRf_rf, true_and, and_true, true_or, or_true, eq_self_iff_true, mK_v, mK_0, Nat.reduceAdd, Nat.reduceLeDiff, Nat.zero_le, iL_0, iL_1, iL_m1, iI_add, iI_sub, iI_mul, iI_neg, updI_at, upA_at, upP_at, upR_at, Nat.reduceEqDiff, reduceIte, Int.reduceAdd, Int.reduceSub, Int.reduceMul, Int.reduceDiv, Int.reduceMod, Int.reduceLT, Int.reduceLE, Int.reduceEq, Int.reduceNeg, not_true_eq_false, not_false_eq_true, Decidable.not_not, z]
theorem d35 : mX G 35 0 [.ref (b + 6)] [] (wH h0 b I A P R o) n k Q ↔ Q (.inl (some (.int (iI (I 10)))), wH h0 b I A P R o, n, k) := by
  simp (maxSteps := 1000000) (disch := first | omega | (simp only [updI_at, upA_at, Nat.reduceEqDiff, reduceIte]; omega) | exact mIsRef_rf _ | exact rfl) only [↓s35_0, ↓s35_1, ↓s35_4, ↓s35_7, wc_18, wc_7, wg_6_0, mN1_int, mN1_ref, mN1_null, mN1_U, mN1_rf, mCats_nil, mCats_int, mCats_ref, mCats_null, mCats_long, mCats_rf, mIsRef_ref, mIsRef_null, mIsRef_va, mRf_ref, mRf_null, mRf_rf, true_and, and_true, true_or, or_true, eq_self_iff_true, mK_v, mK_0, Nat.reduceAdd, Nat.reduceLeDiff, Nat.zero_le, iL_0, iL_1, iL_m1, iI_add, iI_sub, iI_mul, iI_neg, updI_at, upA_at, upP_at, upR_at, Nat.reduceEqDiff, reduceIte, Int.reduceAdd, Int.reduceSub, Int.reduceMul, Int.reduceDiv, Int.reduceMod, Int.reduceLT, Int.reduceLE, Int.reduceEq, Int.reduceNeg, not_true_eq_false, not_false_eq_true, Decidable.not_not, d269f]
theorem d169 {x : Int} (hM : iM I A) (hr : rst G h0 b I A P R I A fa fb fcap fg W V X cap ng) (hx : -2147483648 ≤ x ∧ x < 2147483648) : mX G 169 0 [.ref b, .int (iI x)] [] (wH h0 b I A P R o) n k Q ↔ Q (.inl (some (.int (iI (cntM I A x)))), wH h0 b I A P R o, n, k) := by
  obtain ⟨b1, b2, b3, b4, b5, b6, b7, b8, b9, b10, b11⟩ := hr
  have hd := hM.2.2.1
  have hv := hd.2.2.2.2.1
  unfold cntM
  by_cases q0 : x = 0
  · subst q0
    rw [if_pos rfl]
    have e : (I 10) = (I 29) := b1.2.1
    simp (maxSteps := 1000000) (disch := first | omega | (simp only [updI_at, upA_at, Nat.reduceEqDiff, reduceIte]; omega) | exact mIsRef_rf _ | exact rfl) only [↓s169_0, ↓s169_1, ↓s169_80, ↓s169_81, ↓s169_84, ↓s169_87, ↓s169_88, ↓s169_89, ↓s169_92, ↓s169_95, ↓s169_96, ↓s169_97, ↓s169_100, ↓s169_103, ↓s169_106, ↓s169_107, ↓s169_108, ↓s169_111, ↓s169_114, ↓s169_115, ↓s169_116, ↓s169_119, ↓s169_122, ↓s169_123, ↓s169_124, ↓s169_127, ↓s169_130, ↓s169_131, ↓s169_132, ↓s169_135, ↓s169_138, ↓s169_139, ↓s169_140, ↓s169_143, ↓s169_146, ↓s169_147, ↓s169_148, ↓s169_151, ↓s169_154, ↓s169_155, ↓s169_156, ↓s169_159, ↓s169_162, ↓s169_163, ↓s169_164, ↓s169_167, ↓s169_170, ↓s169_173, ↓s169_174, ↓s169_177, ↓s169_178, ↓s169_179, ↓s169_180, ↓s169_183, ↓s169_186, ↓s169_187, ↓s169_188, ↓s169_191, ↓s169_194, ↓s169_195, ↓s169_196, ↓s169_199, ↓s169_202, ↓s169_203, ↓s169_204, ↓s169_207, ↓s169_208, ↓s169_209, ↓s169_212, ↓s169_215, ↓s169_216, ↓s169_217, iL_10, iL_11, iL_12, iL_13, iL_14, iL_15, iL_2, iL_3, iL_4, iL_5, iL_6, iL_7, iL_8, iL_9, wc_1, wc_12, wc_14, wc_16, wc_17, wc_28, wc_29, wc_31, wc_39, wc_4, wc_41, wc_6, wg_0_0, wg_0_10, wg_0_2, wg_0_3, wg_0_4, wg_0_5, wg_0_6, wg_0_8, wg_11_2, wg_11_3, wg_11_4, wg_16_5, wg_17_1, wg_28_5, wg_6_1, mN1_int, mN1_ref, mN1_null, mN1_U, mN1_rf, mCats_nil, mCats_int, mCats_ref, mCats_null, mCats_long, mCats_rf, mIsRef_ref, mIsRef_null, mIsRef_va, mRf_ref, mRf_null, mRf_rf, true_and, and_true, true_or, or_true, eq_self_iff_true, mK_v, mK_0, Nat.reduceAdd, Nat.reduceLeDiff, Nat.zero_le, iL_0, iL_1, iL_m1, iI_add, iI_sub, iI_mul, iI_neg, updI_at, upA_at, upP_at, upR_at, Nat.reduceEqDiff, reduceIte, Int.reduceAdd, Int.reduceSub, Int.reduceMul, Int.reduceDiv, Int.reduceMod, Int.reduceLT, Int.reduceLE, Int.reduceEq, Int.reduceNeg, not_true_eq_false, not_false_eq_true, Decidable.not_not, iI_eq, d35, e]
  rw [if_neg q0]
  by_cases q1 : x = 1
  · subst q1
    rw [if_pos rfl]
    have e : (I 18) = (I 31) := b2.2.1
    simp (maxSteps := 1000000) (disch := first | omega | (simp only [updI_at, upA_at, Nat.reduceEqDiff, reduceIte]; omega) | exact mIsRef_rf _ | exact rfl) only [↓s169_0, ↓s169_1, ↓s169_80, ↓s169_81, ↓s169_84, ↓s169_87, ↓s169_88, ↓s169_89, ↓s169_92, ↓s169_95, ↓s169_96, ↓s169_97, ↓s169_100, ↓s169_103, ↓s169_106, ↓s169_107, ↓s169_108, ↓s169_111, ↓s169_114, ↓s169_115, ↓s169_116, ↓s169_119, ↓s169_122, ↓s169_123, ↓s169_124, ↓s169_127, ↓s169_130, ↓s169_131, ↓s169_132, ↓s169_135, ↓s169_138, ↓s169_139, ↓s169_140, ↓s169_143, ↓s169_146, ↓s169_147, ↓s169_148, ↓s169_151, ↓s169_154, ↓s169_155, ↓s169_156, ↓s169_159, ↓s169_162, ↓s169_163, ↓s169_164, ↓s169_167, ↓s169_170, ↓s169_173, ↓s169_174, ↓s169_177, ↓s169_178, ↓s169_179, ↓s169_180, ↓s169_183, ↓s169_186, ↓s169_187, ↓s169_188, ↓s169_191, ↓s169_194, ↓s169_195, ↓s169_196, ↓s169_199, ↓s169_202, ↓s169_203, ↓s169_204, ↓s169_207, ↓s169_208, ↓s169_209, ↓s169_212, ↓s169_215, ↓s169_216, ↓s169_217, iL_10, iL_11, iL_12, iL_13, iL_14, iL_15, iL_2, iL_3, iL_4, iL_5, iL_6, iL_7, iL_8, iL_9, wc_1, wc_12, wc_14, wc_16, wc_17, wc_28, wc_29, wc_31, wc_39, wc_4, wc_41, wc_6, wg_0_0, wg_0_10, wg_0_2, wg_0_3, wg_0_4, wg_0_5, wg_0_6, wg_0_8, wg_11_2, wg_11_3, wg_11_4, wg_16_5, wg_17_1, wg_28_5, wg_6_1, mN1_int, mN1_ref, mN1_null, mN1_U, mN1_rf, mCats_nil, mCats_int, mCats_ref, mCats_null, mCats_long, mCats_rf, mIsRef_ref, mIsRef_null, mIsRef_va, mRf_ref, mRf_null, mRf_rf, true_and, and_true, true_or, or_true, eq_self_iff_true, mK_v, mK_0, Nat.reduceAdd, Nat.reduceLeDiff, Nat.zero_le, iL_0, iL_1, iL_m1, iI_add, iI_sub, iI_mul, iI_neg, updI_at, upA_at, upP_at, upR_at, Nat.reduceEqDiff, reduceIte, Int.reduceAdd, Int.reduceSub, Int.reduceMul, Int.reduceDiv, Int.reduceMod, Int.reduceLT, Int.reduceLE, Int.reduceEq, Int.reduceNeg, not_true_eq_false, not_false_eq_true, Decidable.not_not, iI_eq, d63, e]
  rw [if_neg q1]
  by_cases q2 : x = 2
  · subst q2
    rw [if_pos rfl]
    have hn := b2.1.2.2.2.2 40 (Or.inr rfl)
    have m1 := b2.1.2.2.1
    have hn3 := hn.1.1
    rw [m1] at hn3
    have z := fun Q' => d46 (n := n) (k := k) (Q := Q') (I := I) (A := A) (P := P) (R := R) (o := o) hn3
    have e : nF A 40 7 = (A 32) 40 := rfl
    rw [e] at z
    simp (maxSteps := 1000000) (disch := first | omega | (simp only [updI_at, upA_at, Nat.reduceEqDiff, reduceIte]; omega) | exact mIsRef_rf _ | exact rfl) only [↓s169_0, ↓s169_1, ↓s169_80, ↓s169_81, ↓s169_84, ↓s169_87, ↓s169_88, ↓s169_89, ↓s169_92, ↓s169_95, ↓s169_96, ↓s169_97, ↓s169_100, ↓s169_103, ↓s169_106, ↓s169_107, ↓s169_108, ↓s169_111, ↓s169_114, ↓s169_115, ↓s169_116, ↓s169_119, ↓s169_122, ↓s169_123, ↓s169_124, ↓s169_127, ↓s169_130, ↓s169_131, ↓s169_132, ↓s169_135, ↓s169_138, ↓s169_139, ↓s169_140, ↓s169_143, ↓s169_146, ↓s169_147, ↓s169_148, ↓s169_151, ↓s169_154, ↓s169_155, ↓s169_156, ↓s169_159, ↓s169_162, ↓s169_163, ↓s169_164, ↓s169_167, ↓s169_170, ↓s169_173, ↓s169_174, ↓s169_177, ↓s169_178, ↓s169_179, ↓s169_180, ↓s169_183, ↓s169_186, ↓s169_187, ↓s169_188, ↓s169_191, ↓s169_194, ↓s169_195, ↓s169_196, ↓s169_199, ↓s169_202, ↓s169_203, ↓s169_204, ↓s169_207, ↓s169_208, ↓s169_209, ↓s169_212, ↓s169_215, ↓s169_216, ↓s169_217, iL_10, iL_11, iL_12, iL_13, iL_14, iL_15, iL_2, iL_3, iL_4, iL_5, iL_6, iL_7, iL_8, iL_9, wc_1, wc_12, wc_14, wc_16, wc_17, wc_28, wc_29, wc_31, wc_39, wc_4, wc_41, wc_6, wg_0_0, wg_0_10, wg_0_2, wg_0_3, wg_0_4, wg_0_5, wg_0_6, wg_0_8, wg_11_2, wg_11_3, wg_11_4, wg_16_5, wg_17_1, wg_28_5, wg_6_1, mN1_int, mN1_ref, mN1_null, mN1_U, mN1_rf, mCats_nil, mCats_int, mCats_ref, mCats_null, mCats_long, mCats_rf, mIsRef_ref, mIsRef_null, mIsRef_va, mRf_ref, mRf_null, mRf_rf, true_and, and_true, true_or, or_true, eq_self_iff_true, mK_v, mK_0, Nat.reduceAdd, Nat.reduceLeDiff, Nat.zero_le, iL_0, iL_1, iL_m1, iI_add, iI_sub, iI_mul, iI_neg, updI_at, upA_at, upP_at, upR_at, Nat.reduceEqDiff, reduceIte, Int.reduceAdd, Int.reduceSub, Int.reduceMul, Int.reduceDiv, Int.reduceMod, Int.reduceLT, Int.reduceLE, Int.reduceEq, Int.reduceNeg, not_true_eq_false, not_false_eq_true, Decidable.not_not, iI_eq, ng_c hn3, z]
  rw [if_neg q2]
  by_cases q3 : x = 3
  · subst q3
    rw [if_pos rfl]
    have e : (I 1) = (I 46) := b9.1.1
    simp (maxSteps := 1000000) (disch := first | omega | (simp only [updI_at, upA_at, Nat.reduceEqDiff, reduceIte]; omega) | exact mIsRef_rf _ | exact rfl) only [↓s169_0, ↓s169_1, ↓s169_80, ↓s169_81, ↓s169_84, ↓s169_87, ↓s169_88, ↓s169_89, ↓s169_92, ↓s169_95, ↓s169_96, ↓s169_97, ↓s169_100, ↓s169_103, ↓s169_106, ↓s169_107, ↓s169_108, ↓s169_111, ↓s169_114, ↓s169_115, ↓s169_116, ↓s169_119, ↓s169_122, ↓s169_123, ↓s169_124, ↓s169_127, ↓s169_130, ↓s169_131, ↓s169_132, ↓s169_135, ↓s169_138, ↓s169_139, ↓s169_140, ↓s169_143, ↓s169_146, ↓s169_147, ↓s169_148, ↓s169_151, ↓s169_154, ↓s169_155, ↓s169_156, ↓s169_159, ↓s169_162, ↓s169_163, ↓s169_164, ↓s169_167, ↓s169_170, ↓s169_173, ↓s169_174, ↓s169_177, ↓s169_178, ↓s169_179, ↓s169_180, ↓s169_183, ↓s169_186, ↓s169_187, ↓s169_188, ↓s169_191, ↓s169_194, ↓s169_195, ↓s169_196, ↓s169_199, ↓s169_202, ↓s169_203, ↓s169_204, ↓s169_207, ↓s169_208, ↓s169_209, ↓s169_212, ↓s169_215, ↓s169_216, ↓s169_217, iL_10, iL_11, iL_12, iL_13, iL_14, iL_15, iL_2, iL_3, iL_4, iL_5, iL_6, iL_7, iL_8, iL_9, wc_1, wc_12, wc_14, wc_16, wc_17, wc_28, wc_29, wc_31, wc_39, wc_4, wc_41, wc_6, wg_0_0, wg_0_10, wg_0_2, wg_0_3, wg_0_4, wg_0_5, wg_0_6, wg_0_8, wg_11_2, wg_11_3, wg_11_4, wg_16_5, wg_17_1, wg_28_5, wg_6_1, mN1_int, mN1_ref, mN1_null, mN1_U, mN1_rf, mCats_nil, mCats_int, mCats_ref, mCats_null, mCats_long, mCats_rf, mIsRef_ref, mIsRef_null, mIsRef_va, mRf_ref, mRf_null, mRf_rf, true_and, and_true, true_or, or_true, eq_self_iff_true, mK_v, mK_0, Nat.reduceAdd, Nat.reduceLeDiff, Nat.zero_le, iL_0, iL_1, iL_m1, iI_add, iI_sub, iI_mul, iI_neg, updI_at, upA_at, upP_at, upR_at, Nat.reduceEqDiff, reduceIte, Int.reduceAdd, Int.reduceSub, Int.reduceMul, Int.reduceDiv, Int.reduceMod, Int.reduceLT, Int.reduceLE, Int.reduceEq, Int.reduceNeg, not_true_eq_false, not_false_eq_true, Decidable.not_not, iI_eq, d79_1, e]
  rw [if_neg q3]
  by_cases q4 : x = 4
  · subst q4
    rw [if_pos rfl]
    rcases b10 with ⟨hP, ht1, ht2⟩ | ⟨hP, ht1, ht2⟩
    · simp (maxSteps := 1000000) (disch := first | omega | (simp only [updI_at, upA_at, Nat.reduceEqDiff, reduceIte]; omega) | exact mIsRef_rf _ | exact rfl) only [↓s169_0, ↓s169_1, ↓s169_80, ↓s169_81, ↓s169_84, ↓s169_87, ↓s169_88, ↓s169_89, ↓s169_92, ↓s169_95, ↓s169_96, ↓s169_97, ↓s169_100, ↓s169_103, ↓s169_106, ↓s169_107, ↓s169_108, ↓s169_111, ↓s169_114, ↓s169_115, ↓s169_116, ↓s169_119, ↓s169_122, ↓s169_123, ↓s169_124, ↓s169_127, ↓s169_130, ↓s169_131, ↓s169_132, ↓s169_135, ↓s169_138, ↓s169_139, ↓s169_140, ↓s169_143, ↓s169_146, ↓s169_147, ↓s169_148, ↓s169_151, ↓s169_154, ↓s169_155, ↓s169_156, ↓s169_159, ↓s169_162, ↓s169_163, ↓s169_164, ↓s169_167, ↓s169_170, ↓s169_173, ↓s169_174, ↓s169_177, ↓s169_178, ↓s169_179, ↓s169_180, ↓s169_183, ↓s169_186, ↓s169_187, ↓s169_188, ↓s169_191, ↓s169_194, ↓s169_195, ↓s169_196, ↓s169_199, ↓s169_202, ↓s169_203, ↓s169_204, ↓s169_207, ↓s169_208, ↓s169_209, ↓s169_212, ↓s169_215, ↓s169_216, ↓s169_217, iL_10, iL_11, iL_12, iL_13, iL_14, iL_15, iL_2, iL_3, iL_4, iL_5, iL_6, iL_7, iL_8, iL_9, wc_1, wc_12, wc_14, wc_16, wc_17, wc_28, wc_29, wc_31, wc_39, wc_4, wc_41, wc_6, wg_0_0, wg_0_10, wg_0_2, wg_0_3, wg_0_4, wg_0_5, wg_0_6, wg_0_8, wg_11_2, wg_11_3, wg_11_4, wg_16_5, wg_17_1, wg_28_5, wg_6_1, mN1_int, mN1_ref, mN1_null, mN1_U, mN1_rf, mCats_nil, mCats_int, mCats_ref, mCats_null, mCats_long, mCats_rf, mIsRef_ref, mIsRef_null, mIsRef_va, mRf_ref, mRf_null, mRf_rf, true_and, and_true, true_or, or_true, eq_self_iff_true, mK_v, mK_0, Nat.reduceAdd, Nat.reduceLeDiff, Nat.zero_le, iL_0, iL_1, iL_m1, iI_add, iI_sub, iI_mul, iI_neg, updI_at, upA_at, upP_at, upR_at, Nat.reduceEqDiff, reduceIte, Int.reduceAdd, Int.reduceSub, Int.reduceMul, Int.reduceDiv, Int.reduceMod, Int.reduceLT, Int.reduceLE, Int.reduceEq, Int.reduceNeg, not_true_eq_false, not_false_eq_true, Decidable.not_not, iI_eq, hP.1, d79_39, ht1]
    · simp (maxSteps := 1000000) (disch := first | omega | (simp only [updI_at, upA_at, Nat.reduceEqDiff, reduceIte]; omega) | exact mIsRef_rf _ | exact rfl) only [↓s169_0, ↓s169_1, ↓s169_80, ↓s169_81, ↓s169_84, ↓s169_87, ↓s169_88, ↓s169_89, ↓s169_92, ↓s169_95, ↓s169_96, ↓s169_97, ↓s169_100, ↓s169_103, ↓s169_106, ↓s169_107, ↓s169_108, ↓s169_111, ↓s169_114, ↓s169_115, ↓s169_116, ↓s169_119, ↓s169_122, ↓s169_123, ↓s169_124, ↓s169_127, ↓s169_130, ↓s169_131, ↓s169_132, ↓s169_135, ↓s169_138, ↓s169_139, ↓s169_140, ↓s169_143, ↓s169_146, ↓s169_147, ↓s169_148, ↓s169_151, ↓s169_154, ↓s169_155, ↓s169_156, ↓s169_159, ↓s169_162, ↓s169_163, ↓s169_164, ↓s169_167, ↓s169_170, ↓s169_173, ↓s169_174, ↓s169_177, ↓s169_178, ↓s169_179, ↓s169_180, ↓s169_183, ↓s169_186, ↓s169_187, ↓s169_188, ↓s169_191, ↓s169_194, ↓s169_195, ↓s169_196, ↓s169_199, ↓s169_202, ↓s169_203, ↓s169_204, ↓s169_207, ↓s169_208, ↓s169_209, ↓s169_212, ↓s169_215, ↓s169_216, ↓s169_217, iL_10, iL_11, iL_12, iL_13, iL_14, iL_15, iL_2, iL_3, iL_4, iL_5, iL_6, iL_7, iL_8, iL_9, wc_1, wc_12, wc_14, wc_16, wc_17, wc_28, wc_29, wc_31, wc_39, wc_4, wc_41, wc_6, wg_0_0, wg_0_10, wg_0_2, wg_0_3, wg_0_4, wg_0_5, wg_0_6, wg_0_8, wg_11_2, wg_11_3, wg_11_4, wg_16_5, wg_17_1, wg_28_5, wg_6_1, mN1_int, mN1_ref, mN1_null, mN1_U, mN1_rf, mCats_nil, mCats_int, mCats_ref, mCats_null, mCats_long, mCats_rf, mIsRef_ref, mIsRef_null, mIsRef_va, mRf_ref, mRf_null, mRf_rf, true_and, and_true, true_or, or_true, eq_self_iff_true, mK_v, mK_0, Nat.reduceAdd, Nat.reduceLeDiff, Nat.zero_le, iL_0, iL_1, iL_m1, iI_add, iI_sub, iI_mul, iI_neg, updI_at, upA_at, upP_at, upR_at, Nat.reduceEqDiff, reduceIte, Int.reduceAdd, Int.reduceSub, Int.reduceMul, Int.reduceDiv, Int.reduceMod, Int.reduceLT, Int.reduceLE, Int.reduceEq, Int.reduceNeg, not_true_eq_false, not_false_eq_true, Decidable.not_not, iI_eq, hP.1, d79_41, ht1]
  rw [if_neg q4]
  by_cases q5 : x = 5
  · subst q5
    rw [if_pos rfl]
    have e : (I 11) = (I 33) := b4.1.1
    simp (maxSteps := 1000000) (disch := first | omega | (simp only [updI_at, upA_at, Nat.reduceEqDiff, reduceIte]; omega) | exact mIsRef_rf _ | exact rfl) only [↓s169_0, ↓s169_1, ↓s169_80, ↓s169_81, ↓s169_84, ↓s169_87, ↓s169_88, ↓s169_89, ↓s169_92, ↓s169_95, ↓s169_96, ↓s169_97, ↓s169_100, ↓s169_103, ↓s169_106, ↓s169_107, ↓s169_108, ↓s169_111, ↓s169_114, ↓s169_115, ↓s169_116, ↓s169_119, ↓s169_122, ↓s169_123, ↓s169_124, ↓s169_127, ↓s169_130, ↓s169_131, ↓s169_132, ↓s169_135, ↓s169_138, ↓s169_139, ↓s169_140, ↓s169_143, ↓s169_146, ↓s169_147, ↓s169_148, ↓s169_151, ↓s169_154, ↓s169_155, ↓s169_156, ↓s169_159, ↓s169_162, ↓s169_163, ↓s169_164, ↓s169_167, ↓s169_170, ↓s169_173, ↓s169_174, ↓s169_177, ↓s169_178, ↓s169_179, ↓s169_180, ↓s169_183, ↓s169_186, ↓s169_187, ↓s169_188, ↓s169_191, ↓s169_194, ↓s169_195, ↓s169_196, ↓s169_199, ↓s169_202, ↓s169_203, ↓s169_204, ↓s169_207, ↓s169_208, ↓s169_209, ↓s169_212, ↓s169_215, ↓s169_216, ↓s169_217, iL_10, iL_11, iL_12, iL_13, iL_14, iL_15, iL_2, iL_3, iL_4, iL_5, iL_6, iL_7, iL_8, iL_9, wc_1, wc_12, wc_14, wc_16, wc_17, wc_28, wc_29, wc_31, wc_39, wc_4, wc_41, wc_6, wg_0_0, wg_0_10, wg_0_2, wg_0_3, wg_0_4, wg_0_5, wg_0_6, wg_0_8, wg_11_2, wg_11_3, wg_11_4, wg_16_5, wg_17_1, wg_28_5, wg_6_1, mN1_int, mN1_ref, mN1_null, mN1_U, mN1_rf, mCats_nil, mCats_int, mCats_ref, mCats_null, mCats_long, mCats_rf, mIsRef_ref, mIsRef_null, mIsRef_va, mRf_ref, mRf_null, mRf_rf, true_and, and_true, true_or, or_true, eq_self_iff_true, mK_v, mK_0, Nat.reduceAdd, Nat.reduceLeDiff, Nat.zero_le, iL_0, iL_1, iL_m1, iI_add, iI_sub, iI_mul, iI_neg, updI_at, upA_at, upP_at, upR_at, Nat.reduceEqDiff, reduceIte, Int.reduceAdd, Int.reduceSub, Int.reduceMul, Int.reduceDiv, Int.reduceMod, Int.reduceLT, Int.reduceLE, Int.reduceEq, Int.reduceNeg, not_true_eq_false, not_false_eq_true, Decidable.not_not, iI_eq, e]
  rw [if_neg q5]
  by_cases q6 : x = 6
  · subst q6
    rw [if_pos rfl]
    have e : (I 12) = (I 34) := b4.1.2.1
    simp (maxSteps := 1000000) (disch := first | omega | (simp only [updI_at, upA_at, Nat.reduceEqDiff, reduceIte]; omega) | exact mIsRef_rf _ | exact rfl) only [↓s169_0, ↓s169_1, ↓s169_80, ↓s169_81, ↓s169_84, ↓s169_87, ↓s169_88, ↓s169_89, ↓s169_92, ↓s169_95, ↓s169_96, ↓s169_97, ↓s169_100, ↓s169_103, ↓s169_106, ↓s169_107, ↓s169_108, ↓s169_111, ↓s169_114, ↓s169_115, ↓s169_116, ↓s169_119, ↓s169_122, ↓s169_123, ↓s169_124, ↓s169_127, ↓s169_130, ↓s169_131, ↓s169_132, ↓s169_135, ↓s169_138, ↓s169_139, ↓s169_140, ↓s169_143, ↓s169_146, ↓s169_147, ↓s169_148, ↓s169_151, ↓s169_154, ↓s169_155, ↓s169_156, ↓s169_159, ↓s169_162, ↓s169_163, ↓s169_164, ↓s169_167, ↓s169_170, ↓s169_173, ↓s169_174, ↓s169_177, ↓s169_178, ↓s169_179, ↓s169_180, ↓s169_183, ↓s169_186, ↓s169_187, ↓s169_188, ↓s169_191, ↓s169_194, ↓s169_195, ↓s169_196, ↓s169_199, ↓s169_202, ↓s169_203, ↓s169_204, ↓s169_207, ↓s169_208, ↓s169_209, ↓s169_212, ↓s169_215, ↓s169_216, ↓s169_217, iL_10, iL_11, iL_12, iL_13, iL_14, iL_15, iL_2, iL_3, iL_4, iL_5, iL_6, iL_7, iL_8, iL_9, wc_1, wc_12, wc_14, wc_16, wc_17, wc_28, wc_29, wc_31, wc_39, wc_4, wc_41, wc_6, wg_0_0, wg_0_10, wg_0_2, wg_0_3, wg_0_4, wg_0_5, wg_0_6, wg_0_8, wg_11_2, wg_11_3, wg_11_4, wg_16_5, wg_17_1, wg_28_5, wg_6_1, mN1_int, mN1_ref, mN1_null, mN1_U, mN1_rf, mCats_nil, mCats_int, mCats_ref, mCats_null, mCats_long, mCats_rf, mIsRef_ref, mIsRef_null, mIsRef_va, mRf_ref, mRf_null, mRf_rf, true_and, and_true, true_or, or_true, eq_self_iff_true, mK_v, mK_0, Nat.reduceAdd, Nat.reduceLeDiff, Nat.zero_le, iL_0, iL_1, iL_m1, iI_add, iI_sub, iI_mul, iI_neg, updI_at, upA_at, upP_at, upR_at, Nat.reduceEqDiff, reduceIte, Int.reduceAdd, Int.reduceSub, Int.reduceMul, Int.reduceDiv, Int.reduceMod, Int.reduceLT, Int.reduceLE, Int.reduceEq, Int.reduceNeg, not_true_eq_false, not_false_eq_true, Decidable.not_not, iI_eq, e]
  rw [if_neg q6]
  by_cases q7 : x = 7
  · subst q7
    rw [if_pos rfl]
    have z := fun Q' => d13 (n := n) (k := k) (Q := Q') (I := I) (A := A) (o := o) b1.1 hd.2.1 b5.1.2
    simp (maxSteps := 1000000) (disch := first | omega | (simp only [updI_at, upA_at, Nat.reduceEqDiff, reduceIte]; omega) | exact mIsRef_rf _ | exact rfl) only [↓s169_0, ↓s169_1, ↓s169_80, ↓s169_81, ↓s169_84, ↓s169_87, ↓s169_88, ↓s169_89, ↓s169_92, ↓s169_95, ↓s169_96, ↓s169_97, ↓s169_100, ↓s169_103, ↓s169_106, ↓s169_107, ↓s169_108, ↓s169_111, ↓s169_114, ↓s169_115, ↓s169_116, ↓s169_119, ↓s169_122, ↓s169_123, ↓s169_124, ↓s169_127, ↓s169_130, ↓s169_131, ↓s169_132, ↓s169_135, ↓s169_138, ↓s169_139, ↓s169_140, ↓s169_143, ↓s169_146, ↓s169_147, ↓s169_148, ↓s169_151, ↓s169_154, ↓s169_155, ↓s169_156, ↓s169_159, ↓s169_162, ↓s169_163, ↓s169_164, ↓s169_167, ↓s169_170, ↓s169_173, ↓s169_174, ↓s169_177, ↓s169_178, ↓s169_179, ↓s169_180, ↓s169_183, ↓s169_186, ↓s169_187, ↓s169_188, ↓s169_191, ↓s169_194, ↓s169_195, ↓s169_196, ↓s169_199, ↓s169_202, ↓s169_203, ↓s169_204, ↓s169_207, ↓s169_208, ↓s169_209, ↓s169_212, ↓s169_215, ↓s169_216, ↓s169_217, iL_10, iL_11, iL_12, iL_13, iL_14, iL_15, iL_2, iL_3, iL_4, iL_5, iL_6, iL_7, iL_8, iL_9, wc_1, wc_12, wc_14, wc_16, wc_17, wc_28, wc_29, wc_31, wc_39, wc_4, wc_41, wc_6, wg_0_0, wg_0_10, wg_0_2, wg_0_3, wg_0_4, wg_0_5, wg_0_6, wg_0_8, wg_11_2, wg_11_3, wg_11_4, wg_16_5, wg_17_1, wg_28_5, wg_6_1, mN1_int, mN1_ref, mN1_null, mN1_U, mN1_rf, mCats_nil, mCats_int, mCats_ref, mCats_null, mCats_long, mCats_rf, mIsRef_ref, mIsRef_null, mIsRef_va, mRf_ref, mRf_null, mRf_rf, true_and, and_true, true_or, or_true, eq_self_iff_true, mK_v, mK_0, Nat.reduceAdd, Nat.reduceLeDiff, Nat.zero_le, iL_0, iL_1, iL_m1, iI_add, iI_sub, iI_mul, iI_neg, updI_at, upA_at, upP_at, upR_at, Nat.reduceEqDiff, reduceIte, Int.reduceAdd, Int.reduceSub, Int.reduceMul, Int.reduceDiv, Int.reduceMod, Int.reduceLT, Int.reduceLE, Int.reduceEq, Int.reduceNeg, not_true_eq_false, not_false_eq_true, Decidable.not_not, iI_eq, z]
  rw [if_neg q7]
  by_cases q8 : x = 8
  · subst q8
    rw [if_pos rfl]
    have hd1 := hd.1
    have z := fun Q' => d14 (R := R) (n := n) (k := k) (Q := Q') (I := I) (A := A) (o := o) b1.1 hd.1 (by rw [b5.1.1]; exact if_neg (by omega))
    simp (maxSteps := 1000000) (disch := first | omega | (simp only [updI_at, upA_at, Nat.reduceEqDiff, reduceIte]; omega) | exact mIsRef_rf _ | exact rfl) only [↓s169_0, ↓s169_1, ↓s169_80, ↓s169_81, ↓s169_84, ↓s169_87, ↓s169_88, ↓s169_89, ↓s169_92, ↓s169_95, ↓s169_96, ↓s169_97, ↓s169_100, ↓s169_103, ↓s169_106, ↓s169_107, ↓s169_108, ↓s169_111, ↓s169_114, ↓s169_115, ↓s169_116, ↓s169_119, ↓s169_122, ↓s169_123, ↓s169_124, ↓s169_127, ↓s169_130, ↓s169_131, ↓s169_132, ↓s169_135, ↓s169_138, ↓s169_139, ↓s169_140, ↓s169_143, ↓s169_146, ↓s169_147, ↓s169_148, ↓s169_151, ↓s169_154, ↓s169_155, ↓s169_156, ↓s169_159, ↓s169_162, ↓s169_163, ↓s169_164, ↓s169_167, ↓s169_170, ↓s169_173, ↓s169_174, ↓s169_177, ↓s169_178, ↓s169_179, ↓s169_180, ↓s169_183, ↓s169_186, ↓s169_187, ↓s169_188, ↓s169_191, ↓s169_194, ↓s169_195, ↓s169_196, ↓s169_199, ↓s169_202, ↓s169_203, ↓s169_204, ↓s169_207, ↓s169_208, ↓s169_209, ↓s169_212, ↓s169_215, ↓s169_216, ↓s169_217, iL_10, iL_11, iL_12, iL_13, iL_14, iL_15, iL_2, iL_3, iL_4, iL_5, iL_6, iL_7, iL_8, iL_9, wc_1, wc_12, wc_14, wc_16, wc_17, wc_28, wc_29, wc_31, wc_39, wc_4, wc_41, wc_6, wg_0_0, wg_0_10, wg_0_2, wg_0_3, wg_0_4, wg_0_5, wg_0_6, wg_0_8, wg_11_2, wg_11_3, wg_11_4, wg_16_5, wg_17_1, wg_28_5, wg_6_1, mN1_int, mN1_ref, mN1_null, mN1_U, mN1_rf, mCats_nil, mCats_int, mCats_ref, mCats_null, mCats_long, mCats_rf, mIsRef_ref, mIsRef_null, mIsRef_va, mRf_ref, mRf_null, mRf_rf, true_and, and_true, true_or, or_true, eq_self_iff_true, mK_v, mK_0, Nat.reduceAdd, Nat.reduceLeDiff, Nat.zero_le, iL_0, iL_1, iL_m1, iI_add, iI_sub, iI_mul, iI_neg, updI_at, upA_at, upP_at, upR_at, Nat.reduceEqDiff, reduceIte, Int.reduceAdd, Int.reduceSub, Int.reduceMul, Int.reduceDiv, Int.reduceMod, Int.reduceLT, Int.reduceLE, Int.reduceEq, Int.reduceNeg, not_true_eq_false, not_false_eq_true, Decidable.not_not, iI_eq, z]
  rw [if_neg q8]
  by_cases q9 : x = 9
  · subst q9
    rw [if_pos rfl]
    have e : (I 16) = (I 38) := b5.2
    simp (maxSteps := 1000000) (disch := first | omega | (simp only [updI_at, upA_at, Nat.reduceEqDiff, reduceIte]; omega) | exact mIsRef_rf _ | exact rfl) only [↓s169_0, ↓s169_1, ↓s169_80, ↓s169_81, ↓s169_84, ↓s169_87, ↓s169_88, ↓s169_89, ↓s169_92, ↓s169_95, ↓s169_96, ↓s169_97, ↓s169_100, ↓s169_103, ↓s169_106, ↓s169_107, ↓s169_108, ↓s169_111, ↓s169_114, ↓s169_115, ↓s169_116, ↓s169_119, ↓s169_122, ↓s169_123, ↓s169_124, ↓s169_127, ↓s169_130, ↓s169_131, ↓s169_132, ↓s169_135, ↓s169_138, ↓s169_139, ↓s169_140, ↓s169_143, ↓s169_146, ↓s169_147, ↓s169_148, ↓s169_151, ↓s169_154, ↓s169_155, ↓s169_156, ↓s169_159, ↓s169_162, ↓s169_163, ↓s169_164, ↓s169_167, ↓s169_170, ↓s169_173, ↓s169_174, ↓s169_177, ↓s169_178, ↓s169_179, ↓s169_180, ↓s169_183, ↓s169_186, ↓s169_187, ↓s169_188, ↓s169_191, ↓s169_194, ↓s169_195, ↓s169_196, ↓s169_199, ↓s169_202, ↓s169_203, ↓s169_204, ↓s169_207, ↓s169_208, ↓s169_209, ↓s169_212, ↓s169_215, ↓s169_216, ↓s169_217, iL_10, iL_11, iL_12, iL_13, iL_14, iL_15, iL_2, iL_3, iL_4, iL_5, iL_6, iL_7, iL_8, iL_9, wc_1, wc_12, wc_14, wc_16, wc_17, wc_28, wc_29, wc_31, wc_39, wc_4, wc_41, wc_6, wg_0_0, wg_0_10, wg_0_2, wg_0_3, wg_0_4, wg_0_5, wg_0_6, wg_0_8, wg_11_2, wg_11_3, wg_11_4, wg_16_5, wg_17_1, wg_28_5, wg_6_1, mN1_int, mN1_ref, mN1_null, mN1_U, mN1_rf, mCats_nil, mCats_int, mCats_ref, mCats_null, mCats_long, mCats_rf, mIsRef_ref, mIsRef_null, mIsRef_va, mRf_ref, mRf_null, mRf_rf, true_and, and_true, true_or, or_true, eq_self_iff_true, mK_v, mK_0, Nat.reduceAdd, Nat.reduceLeDiff, Nat.zero_le, iL_0, iL_1, iL_m1, iI_add, iI_sub, iI_mul, iI_neg, updI_at, upA_at, upP_at, upR_at, Nat.reduceEqDiff, reduceIte, Int.reduceAdd, Int.reduceSub, Int.reduceMul, Int.reduceDiv, Int.reduceMod, Int.reduceLT, Int.reduceLE, Int.reduceEq, Int.reduceNeg, not_true_eq_false, not_false_eq_true, Decidable.not_not, iI_eq, e]
  rw [if_neg q9]
  by_cases q10 : x = 10
  · subst q10
    rw [if_pos rfl]
    have e : (I 13) = (I 35) := b4.1.2.2
    by_cases w : (I 35) = 0
    · rw [if_pos w]
      simp (maxSteps := 1000000) (disch := first | omega | (simp only [updI_at, upA_at, Nat.reduceEqDiff, reduceIte]; omega) | exact mIsRef_rf _ | exact rfl) only [↓s169_0, ↓s169_1, ↓s169_80, ↓s169_81, ↓s169_84, ↓s169_87, ↓s169_88, ↓s169_89, ↓s169_92, ↓s169_95, ↓s169_96, ↓s169_97, ↓s169_100, ↓s169_103, ↓s169_106, ↓s169_107, ↓s169_108, ↓s169_111, ↓s169_114, ↓s169_115, ↓s169_116, ↓s169_119, ↓s169_122, ↓s169_123, ↓s169_124, ↓s169_127, ↓s169_130, ↓s169_131, ↓s169_132, ↓s169_135, ↓s169_138, ↓s169_139, ↓s169_140, ↓s169_143, ↓s169_146, ↓s169_147, ↓s169_148, ↓s169_151, ↓s169_154, ↓s169_155, ↓s169_156, ↓s169_159, ↓s169_162, ↓s169_163, ↓s169_164, ↓s169_167, ↓s169_170, ↓s169_173, ↓s169_174, ↓s169_177, ↓s169_178, ↓s169_179, ↓s169_180, ↓s169_183, ↓s169_186, ↓s169_187, ↓s169_188, ↓s169_191, ↓s169_194, ↓s169_195, ↓s169_196, ↓s169_199, ↓s169_202, ↓s169_203, ↓s169_204, ↓s169_207, ↓s169_208, ↓s169_209, ↓s169_212, ↓s169_215, ↓s169_216, ↓s169_217, iL_10, iL_11, iL_12, iL_13, iL_14, iL_15, iL_2, iL_3, iL_4, iL_5, iL_6, iL_7, iL_8, iL_9, wc_1, wc_12, wc_14, wc_16, wc_17, wc_28, wc_29, wc_31, wc_39, wc_4, wc_41, wc_6, wg_0_0, wg_0_10, wg_0_2, wg_0_3, wg_0_4, wg_0_5, wg_0_6, wg_0_8, wg_11_2, wg_11_3, wg_11_4, wg_16_5, wg_17_1, wg_28_5, wg_6_1, mN1_int, mN1_ref, mN1_null, mN1_U, mN1_rf, mCats_nil, mCats_int, mCats_ref, mCats_null, mCats_long, mCats_rf, mIsRef_ref, mIsRef_null, mIsRef_va, mRf_ref, mRf_null, mRf_rf, true_and, and_true, true_or, or_true, eq_self_iff_true, mK_v, mK_0, Nat.reduceAdd, Nat.reduceLeDiff, Nat.zero_le, iL_0, iL_1, iL_m1, iI_add, iI_sub, iI_mul, iI_neg, updI_at, upA_at, upP_at, upR_at, Nat.reduceEqDiff, reduceIte, Int.reduceAdd, Int.reduceSub, Int.reduceMul, Int.reduceDiv, Int.reduceMod, Int.reduceLT, Int.reduceLE, Int.reduceEq, Int.reduceNeg, not_true_eq_false, not_false_eq_true, Decidable.not_not, iI_eq, e, w]
    · rw [if_neg w]
      simp (maxSteps := 1000000) (disch := first | omega | (simp only [updI_at, upA_at, Nat.reduceEqDiff, reduceIte]; omega) | exact mIsRef_rf _ | exact rfl) only [↓s169_0, ↓s169_1, ↓s169_80, ↓s169_81, ↓s169_84, ↓s169_87, ↓s169_88, ↓s169_89, ↓s169_92, ↓s169_95, ↓s169_96, ↓s169_97, ↓s169_100, ↓s169_103, ↓s169_106, ↓s169_107, ↓s169_108, ↓s169_111, ↓s169_114, ↓s169_115, ↓s169_116, ↓s169_119, ↓s169_122, ↓s169_123, ↓s169_124, ↓s169_127, ↓s169_130, ↓s169_131, ↓s169_132, ↓s169_135, ↓s169_138, ↓s169_139, ↓s169_140, ↓s169_143, ↓s169_146, ↓s169_147, ↓s169_148, ↓s169_151, ↓s169_154, ↓s169_155, ↓s169_156, ↓s169_159, ↓s169_162, ↓s169_163, ↓s169_164, ↓s169_167, ↓s169_170, ↓s169_173, ↓s169_174, ↓s169_177, ↓s169_178, ↓s169_179, ↓s169_180, ↓s169_183, ↓s169_186, ↓s169_187, ↓s169_188, ↓s169_191, ↓s169_194, ↓s169_195, ↓s169_196, ↓s169_199, ↓s169_202, ↓s169_203, ↓s169_204, ↓s169_207, ↓s169_208, ↓s169_209, ↓s169_212, ↓s169_215, ↓s169_216, ↓s169_217, iL_10, iL_11, iL_12, iL_13, iL_14, iL_15, iL_2, iL_3, iL_4, iL_5, iL_6, iL_7, iL_8, iL_9, wc_1, wc_12, wc_14, wc_16, wc_17, wc_28, wc_29, wc_31, wc_39, wc_4, wc_41, wc_6, wg_0_0, wg_0_10, wg_0_2, wg_0_3, wg_0_4, wg_0_5, wg_0_6, wg_0_8, wg_11_2, wg_11_3, wg_11_4, wg_16_5, wg_17_1, wg_28_5, wg_6_1, mN1_int, mN1_ref, mN1_null, mN1_U, mN1_rf, mCats_nil, mCats_int, mCats_ref, mCats_null, mCats_long, mCats_rf, mIsRef_ref, mIsRef_null, mIsRef_va, mRf_ref, mRf_null, mRf_rf, true_and, and_true, true_or, or_true, eq_self_iff_true, mK_v, mK_0, Nat.reduceAdd, Nat.reduceLeDiff, Nat.zero_le, iL_0, iL_1, iL_m1, iI_add, iI_sub, iI_mul, iI_neg, updI_at, upA_at, upP_at, upR_at, Nat.reduceEqDiff, reduceIte, Int.reduceAdd, Int.reduceSub, Int.reduceMul, Int.reduceDiv, Int.reduceMod, Int.reduceLT, Int.reduceLE, Int.reduceEq, Int.reduceNeg, not_true_eq_false, not_false_eq_true, Decidable.not_not, iI_eq, e, w]
  rw [if_neg q10]
  by_cases q11 : x = 11
  · subst q11
    rw [if_pos rfl]
    have e : (I 20) = (I 41) := b6.1.2.1
    simp (maxSteps := 1000000) (disch := first | omega | (simp only [updI_at, upA_at, Nat.reduceEqDiff, reduceIte]; omega) | exact mIsRef_rf _ | exact rfl) only [↓s169_0, ↓s169_1, ↓s169_80, ↓s169_81, ↓s169_84, ↓s169_87, ↓s169_88, ↓s169_89, ↓s169_92, ↓s169_95, ↓s169_96, ↓s169_97, ↓s169_100, ↓s169_103, ↓s169_106, ↓s169_107, ↓s169_108, ↓s169_111, ↓s169_114, ↓s169_115, ↓s169_116, ↓s169_119, ↓s169_122, ↓s169_123, ↓s169_124, ↓s169_127, ↓s169_130, ↓s169_131, ↓s169_132, ↓s169_135, ↓s169_138, ↓s169_139, ↓s169_140, ↓s169_143, ↓s169_146, ↓s169_147, ↓s169_148, ↓s169_151, ↓s169_154, ↓s169_155, ↓s169_156, ↓s169_159, ↓s169_162, ↓s169_163, ↓s169_164, ↓s169_167, ↓s169_170, ↓s169_173, ↓s169_174, ↓s169_177, ↓s169_178, ↓s169_179, ↓s169_180, ↓s169_183, ↓s169_186, ↓s169_187, ↓s169_188, ↓s169_191, ↓s169_194, ↓s169_195, ↓s169_196, ↓s169_199, ↓s169_202, ↓s169_203, ↓s169_204, ↓s169_207, ↓s169_208, ↓s169_209, ↓s169_212, ↓s169_215, ↓s169_216, ↓s169_217, iL_10, iL_11, iL_12, iL_13, iL_14, iL_15, iL_2, iL_3, iL_4, iL_5, iL_6, iL_7, iL_8, iL_9, wc_1, wc_12, wc_14, wc_16, wc_17, wc_28, wc_29, wc_31, wc_39, wc_4, wc_41, wc_6, wg_0_0, wg_0_10, wg_0_2, wg_0_3, wg_0_4, wg_0_5, wg_0_6, wg_0_8, wg_11_2, wg_11_3, wg_11_4, wg_16_5, wg_17_1, wg_28_5, wg_6_1, mN1_int, mN1_ref, mN1_null, mN1_U, mN1_rf, mCats_nil, mCats_int, mCats_ref, mCats_null, mCats_long, mCats_rf, mIsRef_ref, mIsRef_null, mIsRef_va, mRf_ref, mRf_null, mRf_rf, true_and, and_true, true_or, or_true, eq_self_iff_true, mK_v, mK_0, Nat.reduceAdd, Nat.reduceLeDiff, Nat.zero_le, iL_0, iL_1, iL_m1, iI_add, iI_sub, iI_mul, iI_neg, updI_at, upA_at, upP_at, upR_at, Nat.reduceEqDiff, reduceIte, Int.reduceAdd, Int.reduceSub, Int.reduceMul, Int.reduceDiv, Int.reduceMod, Int.reduceLT, Int.reduceLE, Int.reduceEq, Int.reduceNeg, not_true_eq_false, not_false_eq_true, Decidable.not_not, iI_eq, e]
  rw [if_neg q11]
  by_cases q12 : x = 12
  · subst q12
    rw [if_pos rfl]
    have z := fun Q' => d110 (n := n) (k := k) (Q := Q') (I := I) (A := A) (o := o) b2.1 hM.2.2.2.2.1 b6.2.2.1
    generalize (if (I 41) = 0 ∨ (I 42) = 40 then -1 else (I 42)) = v at *
    simp (maxSteps := 1000000) (disch := first | omega | (simp only [updI_at, upA_at, Nat.reduceEqDiff, reduceIte]; omega) | exact mIsRef_rf _ | exact rfl) only [↓s169_0, ↓s169_1, ↓s169_80, ↓s169_81, ↓s169_84, ↓s169_87, ↓s169_88, ↓s169_89, ↓s169_92, ↓s169_95, ↓s169_96, ↓s169_97, ↓s169_100, ↓s169_103, ↓s169_106, ↓s169_107, ↓s169_108, ↓s169_111, ↓s169_114, ↓s169_115, ↓s169_116, ↓s169_119, ↓s169_122, ↓s169_123, ↓s169_124, ↓s169_127, ↓s169_130, ↓s169_131, ↓s169_132, ↓s169_135, ↓s169_138, ↓s169_139, ↓s169_140, ↓s169_143, ↓s169_146, ↓s169_147, ↓s169_148, ↓s169_151, ↓s169_154, ↓s169_155, ↓s169_156, ↓s169_159, ↓s169_162, ↓s169_163, ↓s169_164, ↓s169_167, ↓s169_170, ↓s169_173, ↓s169_174, ↓s169_177, ↓s169_178, ↓s169_179, ↓s169_180, ↓s169_183, ↓s169_186, ↓s169_187, ↓s169_188, ↓s169_191, ↓s169_194, ↓s169_195, ↓s169_196, ↓s169_199, ↓s169_202, ↓s169_203, ↓s169_204, ↓s169_207, ↓s169_208, ↓s169_209, ↓s169_212, ↓s169_215, ↓s169_216, ↓s169_217, iL_10, iL_11, iL_12, iL_13, iL_14, iL_15, iL_2, iL_3, iL_4, iL_5, iL_6, iL_7, iL_8, iL_9, wc_1, wc_12, wc_14, wc_16, wc_17, wc_28, wc_29, wc_31, wc_39, wc_4, wc_41, wc_6, wg_0_0, wg_0_10, wg_0_2, wg_0_3, wg_0_4, wg_0_5, wg_0_6, wg_0_8, wg_11_2, wg_11_3, wg_11_4, wg_16_5, wg_17_1, wg_28_5, wg_6_1, mN1_int, mN1_ref, mN1_null, mN1_U, mN1_rf, mCats_nil, mCats_int, mCats_ref, mCats_null, mCats_long, mCats_rf, mIsRef_ref, mIsRef_null, mIsRef_va, mRf_ref, mRf_null, mRf_rf, true_and, and_true, true_or, or_true, eq_self_iff_true, mK_v, mK_0, Nat.reduceAdd, Nat.reduceLeDiff, Nat.zero_le, iL_0, iL_1, iL_m1, iI_add, iI_sub, iI_mul, iI_neg, updI_at, upA_at, upP_at, upR_at, Nat.reduceEqDiff, reduceIte, Int.reduceAdd, Int.reduceSub, Int.reduceMul, Int.reduceDiv, Int.reduceMod, Int.reduceLT, Int.reduceLE, Int.reduceEq, Int.reduceNeg, not_true_eq_false, not_false_eq_true, Decidable.not_not, iI_eq, z]
  rw [if_neg q12]
  by_cases q13 : x = 13
  · subst q13
    rw [if_pos rfl]
    have e : (I 21) = (I 43) := b6.1.2.2.1
    have z := fun Q' => d111 (G := G) (h0 := h0) (b := b) (n := n) (k := k) (Q := Q') (I := I) (A := A) (P := P) (R := R) (o := o)
    have ev : (if R 2 = none then 0 else (I 21)) = if (I 41) = 0 then 0 else (I 43) := by
      have cu := b6.2.2.1
      unfold cuR at cu
      rw [cu, e]
      by_cases w : (I 41) = 0
      · rw [if_pos w, if_pos rfl, if_pos w]
      · rw [if_neg w, if_neg (by intro t; cases t), if_neg w]
    rw [ev] at z
    generalize (if (I 41) = 0 then 0 else (I 43)) = v at *
    simp (maxSteps := 1000000) (disch := first | omega | (simp only [updI_at, upA_at, Nat.reduceEqDiff, reduceIte]; omega) | exact mIsRef_rf _ | exact rfl) only [↓s169_0, ↓s169_1, ↓s169_80, ↓s169_81, ↓s169_84, ↓s169_87, ↓s169_88, ↓s169_89, ↓s169_92, ↓s169_95, ↓s169_96, ↓s169_97, ↓s169_100, ↓s169_103, ↓s169_106, ↓s169_107, ↓s169_108, ↓s169_111, ↓s169_114, ↓s169_115, ↓s169_116, ↓s169_119, ↓s169_122, ↓s169_123, ↓s169_124, ↓s169_127, ↓s169_130, ↓s169_131, ↓s169_132, ↓s169_135, ↓s169_138, ↓s169_139, ↓s169_140, ↓s169_143, ↓s169_146, ↓s169_147, ↓s169_148, ↓s169_151, ↓s169_154, ↓s169_155, ↓s169_156, ↓s169_159, ↓s169_162, ↓s169_163, ↓s169_164, ↓s169_167, ↓s169_170, ↓s169_173, ↓s169_174, ↓s169_177, ↓s169_178, ↓s169_179, ↓s169_180, ↓s169_183, ↓s169_186, ↓s169_187, ↓s169_188, ↓s169_191, ↓s169_194, ↓s169_195, ↓s169_196, ↓s169_199, ↓s169_202, ↓s169_203, ↓s169_204, ↓s169_207, ↓s169_208, ↓s169_209, ↓s169_212, ↓s169_215, ↓s169_216, ↓s169_217, iL_10, iL_11, iL_12, iL_13, iL_14, iL_15, iL_2, iL_3, iL_4, iL_5, iL_6, iL_7, iL_8, iL_9, wc_1, wc_12, wc_14, wc_16, wc_17, wc_28, wc_29, wc_31, wc_39, wc_4, wc_41, wc_6, wg_0_0, wg_0_10, wg_0_2, wg_0_3, wg_0_4, wg_0_5, wg_0_6, wg_0_8, wg_11_2, wg_11_3, wg_11_4, wg_16_5, wg_17_1, wg_28_5, wg_6_1, mN1_int, mN1_ref, mN1_null, mN1_U, mN1_rf, mCats_nil, mCats_int, mCats_ref, mCats_null, mCats_long, mCats_rf, mIsRef_ref, mIsRef_null, mIsRef_va, mRf_ref, mRf_null, mRf_rf, true_and, and_true, true_or, or_true, eq_self_iff_true, mK_v, mK_0, Nat.reduceAdd, Nat.reduceLeDiff, Nat.zero_le, iL_0, iL_1, iL_m1, iI_add, iI_sub, iI_mul, iI_neg, updI_at, upA_at, upP_at, upR_at, Nat.reduceEqDiff, reduceIte, Int.reduceAdd, Int.reduceSub, Int.reduceMul, Int.reduceDiv, Int.reduceMod, Int.reduceLT, Int.reduceLE, Int.reduceEq, Int.reduceNeg, not_true_eq_false, not_false_eq_true, Decidable.not_not, iI_eq, z]
  rw [if_neg q13]
  by_cases q14 : x = 14
  · subst q14
    rw [if_pos rfl]
    have e : (I 0) = (I 45) := b11.1
    simp (maxSteps := 1000000) (disch := first | omega | (simp only [updI_at, upA_at, Nat.reduceEqDiff, reduceIte]; omega) | exact mIsRef_rf _ | exact rfl) only [↓s169_0, ↓s169_1, ↓s169_80, ↓s169_81, ↓s169_84, ↓s169_87, ↓s169_88, ↓s169_89, ↓s169_92, ↓s169_95, ↓s169_96, ↓s169_97, ↓s169_100, ↓s169_103, ↓s169_106, ↓s169_107, ↓s169_108, ↓s169_111, ↓s169_114, ↓s169_115, ↓s169_116, ↓s169_119, ↓s169_122, ↓s169_123, ↓s169_124, ↓s169_127, ↓s169_130, ↓s169_131, ↓s169_132, ↓s169_135, ↓s169_138, ↓s169_139, ↓s169_140, ↓s169_143, ↓s169_146, ↓s169_147, ↓s169_148, ↓s169_151, ↓s169_154, ↓s169_155, ↓s169_156, ↓s169_159, ↓s169_162, ↓s169_163, ↓s169_164, ↓s169_167, ↓s169_170, ↓s169_173, ↓s169_174, ↓s169_177, ↓s169_178, ↓s169_179, ↓s169_180, ↓s169_183, ↓s169_186, ↓s169_187, ↓s169_188, ↓s169_191, ↓s169_194, ↓s169_195, ↓s169_196, ↓s169_199, ↓s169_202, ↓s169_203, ↓s169_204, ↓s169_207, ↓s169_208, ↓s169_209, ↓s169_212, ↓s169_215, ↓s169_216, ↓s169_217, iL_10, iL_11, iL_12, iL_13, iL_14, iL_15, iL_2, iL_3, iL_4, iL_5, iL_6, iL_7, iL_8, iL_9, wc_1, wc_12, wc_14, wc_16, wc_17, wc_28, wc_29, wc_31, wc_39, wc_4, wc_41, wc_6, wg_0_0, wg_0_10, wg_0_2, wg_0_3, wg_0_4, wg_0_5, wg_0_6, wg_0_8, wg_11_2, wg_11_3, wg_11_4, wg_16_5, wg_17_1, wg_28_5, wg_6_1, mN1_int, mN1_ref, mN1_null, mN1_U, mN1_rf, mCats_nil, mCats_int, mCats_ref, mCats_null, mCats_long, mCats_rf, mIsRef_ref, mIsRef_null, mIsRef_va, mRf_ref, mRf_null, mRf_rf, true_and, and_true, true_or, or_true, eq_self_iff_true, mK_v, mK_0, Nat.reduceAdd, Nat.reduceLeDiff, Nat.zero_le, iL_0, iL_1, iL_m1, iI_add, iI_sub, iI_mul, iI_neg, updI_at, upA_at, upP_at, upR_at, Nat.reduceEqDiff, reduceIte, Int.reduceAdd, Int.reduceSub, Int.reduceMul, Int.reduceDiv, Int.reduceMod, Int.reduceLT, Int.reduceLE, Int.reduceEq, Int.reduceNeg, not_true_eq_false, not_false_eq_true, Decidable.not_not, iI_eq, e]
  rw [if_neg q14]
  by_cases q15 : x = 15
  · subst q15
    rw [if_pos rfl]
    have e : (I 8) = (I 30) := b1.2.2
    simp (maxSteps := 1000000) (disch := first | omega | (simp only [updI_at, upA_at, Nat.reduceEqDiff, reduceIte]; omega) | exact mIsRef_rf _ | exact rfl) only [↓s169_0, ↓s169_1, ↓s169_80, ↓s169_81, ↓s169_84, ↓s169_87, ↓s169_88, ↓s169_89, ↓s169_92, ↓s169_95, ↓s169_96, ↓s169_97, ↓s169_100, ↓s169_103, ↓s169_106, ↓s169_107, ↓s169_108, ↓s169_111, ↓s169_114, ↓s169_115, ↓s169_116, ↓s169_119, ↓s169_122, ↓s169_123, ↓s169_124, ↓s169_127, ↓s169_130, ↓s169_131, ↓s169_132, ↓s169_135, ↓s169_138, ↓s169_139, ↓s169_140, ↓s169_143, ↓s169_146, ↓s169_147, ↓s169_148, ↓s169_151, ↓s169_154, ↓s169_155, ↓s169_156, ↓s169_159, ↓s169_162, ↓s169_163, ↓s169_164, ↓s169_167, ↓s169_170, ↓s169_173, ↓s169_174, ↓s169_177, ↓s169_178, ↓s169_179, ↓s169_180, ↓s169_183, ↓s169_186, ↓s169_187, ↓s169_188, ↓s169_191, ↓s169_194, ↓s169_195, ↓s169_196, ↓s169_199, ↓s169_202, ↓s169_203, ↓s169_204, ↓s169_207, ↓s169_208, ↓s169_209, ↓s169_212, ↓s169_215, ↓s169_216, ↓s169_217, iL_10, iL_11, iL_12, iL_13, iL_14, iL_15, iL_2, iL_3, iL_4, iL_5, iL_6, iL_7, iL_8, iL_9, wc_1, wc_12, wc_14, wc_16, wc_17, wc_28, wc_29, wc_31, wc_39, wc_4, wc_41, wc_6, wg_0_0, wg_0_10, wg_0_2, wg_0_3, wg_0_4, wg_0_5, wg_0_6, wg_0_8, wg_11_2, wg_11_3, wg_11_4, wg_16_5, wg_17_1, wg_28_5, wg_6_1, mN1_int, mN1_ref, mN1_null, mN1_U, mN1_rf, mCats_nil, mCats_int, mCats_ref, mCats_null, mCats_long, mCats_rf, mIsRef_ref, mIsRef_null, mIsRef_va, mRf_ref, mRf_null, mRf_rf, true_and, and_true, true_or, or_true, eq_self_iff_true, mK_v, mK_0, Nat.reduceAdd, Nat.reduceLeDiff, Nat.zero_le, iL_0, iL_1, iL_m1, iI_add, iI_sub, iI_mul, iI_neg, updI_at, upA_at, upP_at, upR_at, Nat.reduceEqDiff, reduceIte, Int.reduceAdd, Int.reduceSub, Int.reduceMul, Int.reduceDiv, Int.reduceMod, Int.reduceLT, Int.reduceLE, Int.reduceEq, Int.reduceNeg, not_true_eq_false, not_false_eq_true, Decidable.not_not, iI_eq, e]
  rw [if_neg q15]
  simp (maxSteps := 1000000) (disch := first | omega | (simp only [updI_at, upA_at, Nat.reduceEqDiff, reduceIte]; omega) | exact mIsRef_rf _ | exact rfl) only [↓s169_0, ↓s169_1, ↓s169_80, ↓s169_81, ↓s169_84, ↓s169_87, ↓s169_88, ↓s169_89, ↓s169_92, ↓s169_95, ↓s169_96, ↓s169_97, ↓s169_100, ↓s169_103, ↓s169_106, ↓s169_107, ↓s169_108, ↓s169_111, ↓s169_114, ↓s169_115, ↓s169_116, ↓s169_119, ↓s169_122, ↓s169_123, ↓s169_124, ↓s169_127, ↓s169_130, ↓s169_131, ↓s169_132, ↓s169_135, ↓s169_138, ↓s169_139, ↓s169_140, ↓s169_143, ↓s169_146, ↓s169_147, ↓s169_148, ↓s169_151, ↓s169_154, ↓s169_155, ↓s169_156, ↓s169_159, ↓s169_162, ↓s169_163, ↓s169_164, ↓s169_167, ↓s169_170, ↓s169_173, ↓s169_174, ↓s169_177, ↓s169_178, ↓s169_179, ↓s169_180, ↓s169_183, ↓s169_186, ↓s169_187, ↓s169_188, ↓s169_191, ↓s169_194, ↓s169_195, ↓s169_196, ↓s169_199, ↓s169_202, ↓s169_203, ↓s169_204, ↓s169_207, ↓s169_208, ↓s169_209, ↓s169_212, ↓s169_215, ↓s169_216, ↓s169_217, iL_10, iL_11, iL_12, iL_13, iL_14, iL_15, iL_2, iL_3, iL_4, iL_5, iL_6, iL_7, iL_8, iL_9, wc_1, wc_12, wc_14, wc_16, wc_17, wc_28, wc_29, wc_31, wc_39, wc_4, wc_41, wc_6, wg_0_0, wg_0_10, wg_0_2, wg_0_3, wg_0_4, wg_0_5, wg_0_6, wg_0_8, wg_11_2, wg_11_3, wg_11_4, wg_16_5, wg_17_1, wg_28_5, wg_6_1, mN1_int, mN1_ref, mN1_null, mN1_U, mN1_rf, mCats_nil, mCats_int, mCats_ref, mCats_null, mCats_long, mCats_rf, mIsRef_ref, mIsRef_null, mIsRef_va, mRf_ref, mRf_null, mRf_rf, true_and, and_true, true_or, or_true, eq_self_iff_true, mK_v, mK_0, Nat.reduceAdd, Nat.reduceLeDiff, Nat.zero_le, iL_0, iL_1, iL_m1, iI_add, iI_sub, iI_mul, iI_neg, updI_at, upA_at, upP_at, upR_at, Nat.reduceEqDiff, reduceIte, Int.reduceAdd, Int.reduceSub, Int.reduceMul, Int.reduceDiv, Int.reduceMod, Int.reduceLT, Int.reduceLE, Int.reduceEq, Int.reduceNeg, not_true_eq_false, not_false_eq_true, Decidable.not_not, iI_eq, q0, q1, q2, q3, q4, q5, q6, q7, q8, q9, q10, q11, q12, q13, q14, q15]
theorem op_count {x : Int} (hb : G.2.2.2 ≤ b) (hM : iM I A) (hr : rst G h0 b I A P R I A fa fb fcap fg W V X cap ng) (hf : fre P b n W) (hri : ri I A) (hx : -2147483648 ≤ x ∧ x < 2147483648) :
    op1 G b n (fun n k Q => mX G 169 0 [.ref b, .int (iI x)] [] (wH h0 b I A P R o) n k Q) (fun h n k Q => mX G 261 0 [.ref (b + 43), .int (iI x)] [] h n k Q) :=
  op_ro (o := o) (v := cntM I A x) hM hr hf hri (fun k Q => d169 hM hr hx) (fun X1 Y hi k Q => c261 (I := gl X1 I) (A := gm Y A) hb hx hM.2.2.1.2.2.2.2.1 hM.2.2.2.2.1.1 hM.2.2.2.2.1.2.2.2.1)
theorem iM_ev {i : Nat} {w : Int} (h : iM I A) (hw : -1 ≤ w ∧ w < (I 31)) : iM (updI I 27 0) (upA A 38 (upE (A 38) i w)) := by
  obtain ⟨hA, hF, hH, ⟨n1, n2, n3, n4, n5, n6, n7, n8⟩, hS, hT⟩ := h
  refine ⟨RgA_upA hA (fun j => upE_P (p := fun x => -2147483648 ≤ x ∧ x < 2147483648) (hA _) (by omega) j), hF, hH, ⟨n1, n2, n3, n4, n5, n6, ?_, n8⟩, hS, hT⟩
  intro j hj
  show -1 ≤ upE (A 38) i w j ∧ upE (A 38) i w j < (I 31)
  unfold upE
  split
  · exact hw
  · exact n7 j hj
theorem iM_ti {i : Nat} {w : Int} (h : iM I A) (hw : -1 ≤ w ∧ w < (I 31)) : iM (updI I 27 0) (upA A 39 (upE (A 39) i w)) := by
  obtain ⟨hA, hF, hH, ⟨n1, n2, n3, n4, n5, n6, n7, n8, n9⟩, hS, hT⟩ := h
  refine ⟨RgA_upA hA (fun j => upE_P (p := fun x => -2147483648 ≤ x ∧ x < 2147483648) (hA _) (by omega) j), hF, hH, ⟨n1, n2, n3, n4, n5, n6, n7, ?_, n9⟩, hS, hT⟩
  intro j hj
  show -1 ≤ upE (A 39) i w j ∧ upE (A 39) i w j < (I 31)
  unfold upE
  split
  · exact hw
  · exact n8 j hj
theorem op_by {x y w : Int} (hb : G.2.2.2 ≤ b) (hM : iM I A) (hr : rst G h0 b I A P R I A fa fb fcap fg W V X cap ng) (hf : fre P b n W) (hri : ri I A) (hx : -2147483648 ≤ x ∧ x < 2147483648) (hy : -2147483648 ≤ y ∧ y < 2147483648) (hw : -2147483648 ≤ w ∧ w < 2147483648) :
    op1 G b n (fun n k Q => mX G 165 0 [.ref b, .int (iI x), .int (iI y), .int (iI w)] [] (wH h0 b I A P R o) n k Q) (fun h n k Q => mX G 200 0 [.ref (b + 43), .int (iI x), .int (iI y), .int (iI w)] [] h n k Q) := by
  have n1 := hM.2.2.2.1.1
  have c := fun X1 Y k Q (hA : RgA (gm Y A)) => c200 (G := G) (h0 := h0) (n := n) (k := k) (Q := Q) (I := gl X1 I) (A := gm Y A) (P := P) (R := R) (o := o) (f := x) (r := y) (w := w) hb hA hx hy hw n1
  simp (disch := decide) only [gl_at, gm_at, gl_up, gm_up] at c
  have z66 := fun k Q' => d66 (n := n) (k := k) (Q := Q') (I := I) (A := A) (R := R) (o := o) (z := w) hr.2.1.1 hr.2.1.2.1 n1 hw
  have z69 := fun k Q' => d69 (G := G) (h0 := h0) (n := n) (k := k) (Q := Q') (I := I) (A := A) (P := P) (R := R) (o := o) (y := w) hb hy
  have z71 := fun k Q' => d71 (G := G) (h0 := h0) (n := n) (k := k) (Q := Q') (I := I) (A := A) (P := P) (R := R) (o := o) (y := w) hb hy
  have no : ∀ (hn : ¬ ((w = -1 ∨ 0 ≤ w ∧ w ≤ (I 31) - 1) ∧ x = 0 ∧ (0 ≤ y ∧ y ≤ 31))) (hn2 : ¬ ((w = -1 ∨ 0 ≤ w ∧ w ≤ (I 31) - 1) ∧ x = 1 ∧ (1 ≤ y ∧ y ≤ 8))), (∀ k Q, mX G 165 0 [.ref b, .int (iI x), .int (iI y), .int (iI w)] [] (wH h0 b I A P R o) n k Q ↔ Q (.inl (some (.int (iI 0))), wH h0 b I A P R o, n, k)) → op1 G b n (fun n k Q => mX G 165 0 [.ref b, .int (iI x), .int (iI y), .int (iI w)] [] (wH h0 b I A P R o) n k Q) (fun h n k Q => mX G 200 0 [.ref (b + 43), .int (iI x), .int (iI y), .int (iI w)] [] h n k Q) := by
    intro hn hn2 zc
    refine op_ro (o := o) (v := 0) hM hr hf hri zc ?_
    intro X1 Y hi k Q
    rw [c _ _ _ _ hi.1, if_neg hn, if_neg hn2, gl_up (by decide)]
  obtain ⟨b1, b2, b3, b4, b5, b6, b7, b8, b9, b10, b11⟩ := id hr
  by_cases p : w = -1 ∨ 0 ≤ w ∧ w < (I 31)
  · simp only [bI_t p] at z66
    by_cases p0 : x = 0
    · by_cases p1 : 0 ≤ y ∧ y < 32
      · simp only [eq_true p1, if_true] at z69
        have hr1 : rst G h0 b I (upA A 4 (upE (A 4) y.toNat w)) P R (updI I 27 0) (upA A 38 (upE (A 38) y.toNat w)) fa fb fcap fg W V X cap ng := by
          refine ⟨b1, b2, b3, b4, b5, b6, ⟨?_, b7.2⟩, b8, b9, b10, b11⟩
          intro j hj
          show upE (A 4) y.toNat w j = upE (A 38) y.toNat w j
          unfold upE
          split
          · rfl
          · exact b7.1 j hj
        obtain ⟨A2, e1, e2, e3⟩ := op_end (o := o) hr1 (kpM_A kpM_refl (by decide)) hM (iM_ev hM (by omega)) hf hri
        refine ⟨1, h0, I, upA A 4 (upE (A 4) y.toNat w), P, R, o, _, ?_, b11.2.2.1, ?_, e3⟩
        · intro k Q
          dsimp only
          generalize upA A 4 (upE (A 4) y.toNat w) = A5 at *
          simp (maxSteps := 1000000) (disch := first | omega | (simp only [updI_at, upA_at, Nat.reduceEqDiff, reduceIte]; omega) | exact mIsRef_rf _ | exact rfl) only [↓s165_0, ↓s165_1, ↓s165_4, ↓s165_5, ↓s165_8, ↓s165_11, ↓s165_12, ↓s165_13, ↓s165_14, ↓s165_17, ↓s165_18, ↓s165_21, ↓s165_22, ↓s165_23, ↓s165_26, ↓s165_27, ↓s165_28, ↓s165_29, ↓s165_32, ↓s165_33, ↓s165_36, ↓s165_37, ↓s165_38, ↓s165_41, ↓s165_44, ↓s165_45, ↓s165_48, ↓s165_49, wc_17, wg_0_5, mN1_int, mN1_ref, mN1_null, mN1_U, mN1_rf, mCats_nil, mCats_int, mCats_ref, mCats_null, mCats_long, mCats_rf, mIsRef_ref, mIsRef_null, mIsRef_va, mRf_ref, mRf_null, mRf_rf, true_and, and_true, true_or, or_true, eq_self_iff_true, mK_v, mK_0, Nat.reduceAdd, Nat.reduceLeDiff, Nat.zero_le, iL_0, iL_1, iL_m1, iI_add, iI_sub, iI_mul, iI_neg, updI_at, upA_at, upP_at, upR_at, Nat.reduceEqDiff, reduceIte, Int.reduceAdd, Int.reduceSub, Int.reduceMul, Int.reduceDiv, Int.reduceMod, Int.reduceLT, Int.reduceLE, Int.reduceEq, Int.reduceNeg, not_true_eq_false, not_false_eq_true, Decidable.not_not, z66, z69, iI_eq, p0]
        · intro k Q
          dsimp only
          rw [e1, c _ _ _ _ e2.1, if_pos ⟨by omega, p0, by omega⟩]
      · refine no (by omega) (by omega) ?_
        intro k Q
        simp only [p1, if_false] at z69
        simp (maxSteps := 1000000) (disch := first | omega | (simp only [updI_at, upA_at, Nat.reduceEqDiff, reduceIte]; omega) | exact mIsRef_rf _ | exact rfl) only [↓s165_0, ↓s165_1, ↓s165_4, ↓s165_5, ↓s165_8, ↓s165_11, ↓s165_12, ↓s165_13, ↓s165_14, ↓s165_17, ↓s165_18, ↓s165_21, ↓s165_22, ↓s165_23, ↓s165_26, ↓s165_27, ↓s165_28, ↓s165_29, ↓s165_32, ↓s165_33, ↓s165_36, ↓s165_37, ↓s165_38, ↓s165_41, ↓s165_44, ↓s165_45, ↓s165_48, ↓s165_49, wc_17, wg_0_5, mN1_int, mN1_ref, mN1_null, mN1_U, mN1_rf, mCats_nil, mCats_int, mCats_ref, mCats_null, mCats_long, mCats_rf, mIsRef_ref, mIsRef_null, mIsRef_va, mRf_ref, mRf_null, mRf_rf, true_and, and_true, true_or, or_true, eq_self_iff_true, mK_v, mK_0, Nat.reduceAdd, Nat.reduceLeDiff, Nat.zero_le, iL_0, iL_1, iL_m1, iI_add, iI_sub, iI_mul, iI_neg, updI_at, upA_at, upP_at, upR_at, Nat.reduceEqDiff, reduceIte, Int.reduceAdd, Int.reduceSub, Int.reduceMul, Int.reduceDiv, Int.reduceMod, Int.reduceLT, Int.reduceLE, Int.reduceEq, Int.reduceNeg, not_true_eq_false, not_false_eq_true, Decidable.not_not, z66, z69, iI_eq, p0]
    · by_cases p1 : x = 1
      · by_cases p2 : 1 ≤ y ∧ y ≤ 8
        · simp only [eq_true p2, if_true] at z71
          have hr1 : rst G h0 b I (upA A 5 (upE (A 5) y.toNat w)) P R (updI I 27 0) (upA A 39 (upE (A 39) y.toNat w)) fa fb fcap fg W V X cap ng := by
            refine ⟨b1, b2, b3, b4, b5, b6, ⟨b7.1, ?_⟩, b8, b9, b10, b11⟩
            intro j hj
            show upE (A 5) y.toNat w j = upE (A 39) y.toNat w j
            unfold upE
            split
            · rfl
            · exact b7.2 j hj
          obtain ⟨A2, e1, e2, e3⟩ := op_end (o := o) hr1 (kpM_A kpM_refl (by decide)) hM (iM_ti hM (by omega)) hf hri
          refine ⟨1, h0, I, upA A 5 (upE (A 5) y.toNat w), P, R, o, _, ?_, b11.2.2.1, ?_, e3⟩
          · intro k Q
            dsimp only
            generalize upA A 5 (upE (A 5) y.toNat w) = A5 at *
            simp (maxSteps := 1000000) (disch := first | omega | (simp only [updI_at, upA_at, Nat.reduceEqDiff, reduceIte]; omega) | exact mIsRef_rf _ | exact rfl) only [↓s165_0, ↓s165_1, ↓s165_4, ↓s165_5, ↓s165_8, ↓s165_11, ↓s165_12, ↓s165_13, ↓s165_14, ↓s165_17, ↓s165_18, ↓s165_21, ↓s165_22, ↓s165_23, ↓s165_26, ↓s165_27, ↓s165_28, ↓s165_29, ↓s165_32, ↓s165_33, ↓s165_36, ↓s165_37, ↓s165_38, ↓s165_41, ↓s165_44, ↓s165_45, ↓s165_48, ↓s165_49, wc_17, wg_0_5, mN1_int, mN1_ref, mN1_null, mN1_U, mN1_rf, mCats_nil, mCats_int, mCats_ref, mCats_null, mCats_long, mCats_rf, mIsRef_ref, mIsRef_null, mIsRef_va, mRf_ref, mRf_null, mRf_rf, true_and, and_true, true_or, or_true, eq_self_iff_true, mK_v, mK_0, Nat.reduceAdd, Nat.reduceLeDiff, Nat.zero_le, iL_0, iL_1, iL_m1, iI_add, iI_sub, iI_mul, iI_neg, updI_at, upA_at, upP_at, upR_at, Nat.reduceEqDiff, reduceIte, Int.reduceAdd, Int.reduceSub, Int.reduceMul, Int.reduceDiv, Int.reduceMod, Int.reduceLT, Int.reduceLE, Int.reduceEq, Int.reduceNeg, not_true_eq_false, not_false_eq_true, Decidable.not_not, z66, z71, iI_eq, p1]
          · intro k Q
            dsimp only
            rw [e1, c _ _ _ _ e2.1, if_neg (by omega), if_pos ⟨by omega, p1, p2⟩]
        · refine no (by omega) (by omega) ?_
          intro k Q
          simp only [p2, if_false] at z71
          simp (maxSteps := 1000000) (disch := first | omega | (simp only [updI_at, upA_at, Nat.reduceEqDiff, reduceIte]; omega) | exact mIsRef_rf _ | exact rfl) only [↓s165_0, ↓s165_1, ↓s165_4, ↓s165_5, ↓s165_8, ↓s165_11, ↓s165_12, ↓s165_13, ↓s165_14, ↓s165_17, ↓s165_18, ↓s165_21, ↓s165_22, ↓s165_23, ↓s165_26, ↓s165_27, ↓s165_28, ↓s165_29, ↓s165_32, ↓s165_33, ↓s165_36, ↓s165_37, ↓s165_38, ↓s165_41, ↓s165_44, ↓s165_45, ↓s165_48, ↓s165_49, wc_17, wg_0_5, mN1_int, mN1_ref, mN1_null, mN1_U, mN1_rf, mCats_nil, mCats_int, mCats_ref, mCats_null, mCats_long, mCats_rf, mIsRef_ref, mIsRef_null, mIsRef_va, mRf_ref, mRf_null, mRf_rf, true_and, and_true, true_or, or_true, eq_self_iff_true, mK_v, mK_0, Nat.reduceAdd, Nat.reduceLeDiff, Nat.zero_le, iL_0, iL_1, iL_m1, iI_add, iI_sub, iI_mul, iI_neg, updI_at, upA_at, upP_at, upR_at, Nat.reduceEqDiff, reduceIte, Int.reduceAdd, Int.reduceSub, Int.reduceMul, Int.reduceDiv, Int.reduceMod, Int.reduceLT, Int.reduceLE, Int.reduceEq, Int.reduceNeg, not_true_eq_false, not_false_eq_true, Decidable.not_not, z66, z71, iI_eq, p1]
      · refine no (by omega) (by omega) ?_
        intro k Q
        simp (maxSteps := 1000000) (disch := first | omega | (simp only [updI_at, upA_at, Nat.reduceEqDiff, reduceIte]; omega) | exact mIsRef_rf _ | exact rfl) only [↓s165_0, ↓s165_1, ↓s165_4, ↓s165_5, ↓s165_8, ↓s165_11, ↓s165_12, ↓s165_13, ↓s165_14, ↓s165_17, ↓s165_18, ↓s165_21, ↓s165_22, ↓s165_23, ↓s165_26, ↓s165_27, ↓s165_28, ↓s165_29, ↓s165_32, ↓s165_33, ↓s165_36, ↓s165_37, ↓s165_38, ↓s165_41, ↓s165_44, ↓s165_45, ↓s165_48, ↓s165_49, wc_17, wg_0_5, mN1_int, mN1_ref, mN1_null, mN1_U, mN1_rf, mCats_nil, mCats_int, mCats_ref, mCats_null, mCats_long, mCats_rf, mIsRef_ref, mIsRef_null, mIsRef_va, mRf_ref, mRf_null, mRf_rf, true_and, and_true, true_or, or_true, eq_self_iff_true, mK_v, mK_0, Nat.reduceAdd, Nat.reduceLeDiff, Nat.zero_le, iL_0, iL_1, iL_m1, iI_add, iI_sub, iI_mul, iI_neg, updI_at, upA_at, upP_at, upR_at, Nat.reduceEqDiff, reduceIte, Int.reduceAdd, Int.reduceSub, Int.reduceMul, Int.reduceDiv, Int.reduceMod, Int.reduceLT, Int.reduceLE, Int.reduceEq, Int.reduceNeg, not_true_eq_false, not_false_eq_true, Decidable.not_not, z66, iI_eq, p0, p1]
  · refine no (by omega) (by omega) ?_
    intro k Q
    simp only [bI_f p] at z66
    simp (maxSteps := 1000000) (disch := first | omega | (simp only [updI_at, upA_at, Nat.reduceEqDiff, reduceIte]; omega) | exact mIsRef_rf _ | exact rfl) only [↓s165_0, ↓s165_1, ↓s165_4, ↓s165_5, ↓s165_8, ↓s165_11, ↓s165_12, ↓s165_13, ↓s165_14, ↓s165_17, ↓s165_18, ↓s165_21, ↓s165_22, ↓s165_23, ↓s165_26, ↓s165_27, ↓s165_28, ↓s165_29, ↓s165_32, ↓s165_33, ↓s165_36, ↓s165_37, ↓s165_38, ↓s165_41, ↓s165_44, ↓s165_45, ↓s165_48, ↓s165_49, wc_17, wg_0_5, mN1_int, mN1_ref, mN1_null, mN1_U, mN1_rf, mCats_nil, mCats_int, mCats_ref, mCats_null, mCats_long, mCats_rf, mIsRef_ref, mIsRef_null, mIsRef_va, mRf_ref, mRf_null, mRf_rf, true_and, and_true, true_or, or_true, eq_self_iff_true, mK_v, mK_0, Nat.reduceAdd, Nat.reduceLeDiff, Nat.zero_le, iL_0, iL_1, iL_m1, iI_add, iI_sub, iI_mul, iI_neg, updI_at, upA_at, upP_at, upR_at, Nat.reduceEqDiff, reduceIte, Int.reduceAdd, Int.reduceSub, Int.reduceMul, Int.reduceDiv, Int.reduceMod, Int.reduceLT, Int.reduceLE, Int.reduceEq, Int.reduceNeg, not_true_eq_false, not_false_eq_true, Decidable.not_not, z66, iI_eq]
/-- the same of a call that answers nothing -/
def op0 (G : mG) (b n : Nat) (Mc : Nat → Nat → (mR → Prop) → Prop) (Mm : mH → Nat → Nat → (mR → Prop) → Prop) : Prop :=
  ∃ (h1 : mH) (I1 : Nat → Int) (A1 : Nat → Nat → Int) (P1 : Nat → Nat) (R1 : Nat → Option Nat) (o1 : Nat → Int64) (H2 : mH), (∀ k Q, Mc n k Q ↔ Q (.inl none, wH h1 b I1 A1 P1 R1 o1, n, k)) ∧ sSc G h1 b ∧ (∀ k Q, Mm (wH h1 b I1 A1 P1 R1 o1) n k Q ↔ Q (.inl none, H2, n, k)) ∧ rl G b H2 n
theorem op_reset (hb : G.2.2.2 ≤ b) (hM : iM I A) (hr : rst G h0 b I A P R I A fa fb fcap fg W V X cap ng) (hf : fre P b n W) (hri : ri I A) :
    op0 G b n (fun n k Q => mX G 166 0 [.ref b] [] (wH h0 b I A P R o) n k Q) (fun h n k Q => mX G 203 0 [.ref (b + 43)] [] h n k Q) := by
  have c := fun X1 Y k Q (hA : RgA (gm Y A)) => c203 (G := G) (h0 := h0) (n := n) (k := k) (Q := Q) (I := gl X1 I) (A := gm Y A) (P := P) (R := upR (upR (upR R 0 (some (fa 0))) 1 none) 2 none) (o := o) hb hA
  simp (disch := decide) only [gl_at, gm_at, gl_up, gm_up] at c
  have z12 := fun k Q => d12 (n := n) (k := k) (Q := Q) (I := I) (A := A) (R := R) (o := o) hb hr.1.1 hr.1.2.1 hM.2.1
  have z104 := fun k Q => d104 (G := G) (h0 := h0) (n := n) (k := k) (Q := Q) (I := updI (updI I 16 0) 13 0) (A := A) (P := P) (R := upR (upR R 0 (some (fa 0))) 1 none) (o := o) hb
  obtain ⟨b1, b2, b3, b4, b5, ⟨e1, e2, e3, ⟨e4, e5, e6⟩, e7⟩, b7, b8, b9, b10, b11⟩ := id hr
  have hr1 : rst G h0 b (updI (updI (updI (updI (updI (updI I 16 0) 13 0) 20 0) 19 0) 23 0) 21 0) (upA A 8 (cpE (A 8) zer 0 9)) P (upR (upR (upR R 0 (some (fa 0))) 1 none) 2 none)
      (updI (updI (updI (updI (updI (updI (updI (updI I 27 0) 36 0) 37 (-1)) 38 0) 35 0) 39 0) 41 0) 43 0) (upA A 40 (cpE (A 40) zer 0 9)) fa fb fcap fg W V X cap ng := by
    refine ⟨b1, b2, b3, ⟨⟨b4.1.1, b4.1.2.1, rfl⟩, b4.2⟩, ⟨⟨?_, ?_⟩, rfl⟩, ⟨⟨rfl, rfl, rfl, fun q => absurd rfl q⟩, ⟨?_, fun q => absurd rfl q⟩, ?_, ⟨?_, ?_, ?_⟩, e7⟩, b7, b8, b9, b10, b11⟩
    · show some (fa 0) = rfV fa 0
      exact (if_neg (by decide)).symm
    · show none = rfV fa (-1)
      exact (if_pos (by decide)).symm
    · intro t
      have t' : (0 : Int) = 1 := t
      omega
    · show none = if (0 : Int) = 0 then none else some (W 0 ((I 42)).toNat 0)
      rw [if_pos rfl]
    · intro j hj
      show cpE (A 8) zer 0 9 j = cpE (A 40) zer 0 9 j
      unfold cpE
      rw [if_pos (by omega), if_pos (by omega)]
    · show cpE (A 8) zer 0 9 0 = 0
      unfold cpE
      rw [if_pos (by omega)]
      rfl
    · exact cpE_P (p := fun x => 0 ≤ x ∧ x ≤ 1) e6 (fun j => by show (0 : Int) ≤ 0 ∧ (0 : Int) ≤ 1; omega)
  have hM1 : iM (updI (updI (updI (updI (updI (updI (updI (updI I 27 0) 36 0) 37 (-1)) 38 0) 35 0) 39 0) 41 0) 43 0) (upA A 40 (cpE (A 40) zer 0 9)) := by
    obtain ⟨hA, hF, ⟨d1, d2, d3, d4, d5, d6, d7, d8⟩, hN, ⟨s1, s2, s3, s4, s5, s6, s7, s8, s9⟩, hT⟩ := hM
    have f1 := hF.1
    have rr : ∀ j, 0 ≤ cpE (A 40) zer 0 9 j ∧ cpE (A 40) zer 0 9 j ≤ 1 := cpE_P (p := fun x => 0 ≤ x ∧ x ≤ 1) s9 (fun j => by show (0 : Int) ≤ 0 ∧ (0 : Int) ≤ 1; omega)
    refine ⟨RgA_upA hA (fun j => by have := rr j; omega), hF, ⟨?_, ?_, ?_, ?_, ?_, d6, d7, d8⟩, hN, ⟨?_, ?_, s3, s4, ?_, ?_, s7, s8, rr⟩, hT⟩
    · show (0 : Int) ≤ 0 ∧ 0 < (I 29); omega
    · show (-1 : Int) ≤ -1 ∧ -1 < (I 29); omega
    · show (0 : Int) ≤ 0 ∧ (0 : Int) ≤ 255; omega
    · intro t
      have t' : (0 : Int) ≤ -1 := t
      omega
    · show (0 : Int) ≤ 0 ∧ (0 : Int) ≤ 1; omega
    · show (0 : Int) ≤ 0 ∧ (0 : Int) ≤ 2; omega
    · show (0 : Int) ≤ 0 ∧ (0 : Int) ≤ 254; omega
    · intro t; exact absurd rfl t
    · show (0 : Int) ≤ 0 ∧ (0 : Int) ≤ 1; omega
  obtain ⟨A2, f1, f2, f3⟩ := op_end (o := o) hr1 (kpM_A (kpM_I (kpM_I (kpM_I (kpM_I (kpM_I (kpM_I kpM_refl (by decide)) (by decide)) (by decide)) (by decide)) (by decide)) (by decide)) (by decide)) hM hM1 hf hri
  refine ⟨h0, updI (updI (updI (updI (updI (updI I 16 0) 13 0) 20 0) 19 0) 23 0) 21 0, upA A 8 (cpE (A 8) zer 0 9), P, upR (upR (upR R 0 (some (fa 0))) 1 none) 2 none, o, _, ?_, b11.2.2.1, ?_, f3⟩
  · intro k Q
    dsimp only
    simp (maxSteps := 1000000) (disch := first | omega | (simp only [updI_at, upA_at, Nat.reduceEqDiff, reduceIte]; omega) | exact mIsRef_rf _ | exact rfl) only [↓s166_0, ↓s166_1, ↓s166_4, ↓s166_7, ↓s166_8, ↓s166_11, ↓s166_12, ↓s166_15, ↓s166_16, ↓s166_19, ↓s166_22, wc_16, wc_28, wg_0_3, wg_0_4, wg_0_6, wp_11_4, mN1_int, mN1_ref, mN1_null, mN1_U, mN1_rf, mCats_nil, mCats_int, mCats_ref, mCats_null, mCats_long, mCats_rf, mIsRef_ref, mIsRef_null, mIsRef_va, mRf_ref, mRf_null, mRf_rf, true_and, and_true, true_or, or_true, eq_self_iff_true, mK_v, mK_0, Nat.reduceAdd, Nat.reduceLeDiff, Nat.zero_le, iL_0, iL_1, iL_m1, iI_add, iI_sub, iI_mul, iI_neg, updI_at, upA_at, upP_at, upR_at, Nat.reduceEqDiff, reduceIte, Int.reduceAdd, Int.reduceSub, Int.reduceMul, Int.reduceDiv, Int.reduceMod, Int.reduceLT, Int.reduceLE, Int.reduceEq, Int.reduceNeg, not_true_eq_false, not_false_eq_true, Decidable.not_not, z12, z104]
  · intro k Q
    dsimp only
    rw [f1, c _ _ _ _ f2.1]
end
end MOPS2
