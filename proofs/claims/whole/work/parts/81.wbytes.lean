/-! Class: writeBytes; the files after a write. -/
section MWB
variable {G : mG} {h h0 : mH} {n k b : Nat} {Q : mR → Prop} {I : Nat → Int} {A : Nat → Nat → Int} {P : Nat → Nat} {R : Nat → Option Nat} {o : Nat → Int64}
theorem rG_4 (hl : 0 ≤ (I 7) ∧ (I 7) ≤ 255) : rG G b (b + 4) I A (fun z => rget (I 7) (A 1) z) := fun _ _ _ _ _ _ _ _ h1 h2 => d80_4 hl ⟨h1, h2⟩
theorem rC_4 : rC b (b + 4) := fun _ _ _ _ _ _ => wc_4
section
variable {J : Nat → Int} {B : Nat → Nat → Int} {fa : Nat → Nat} {fb : Nat → Nat → Int} {cap : Nat} {fg : Nat → Option Nat}
def upF (fb : Nat → Nat → Int) (x : Nat) (g : Nat → Int) : Nat → Nat → Int := fun i => if i = x then g else fb i
theorem fW_ne {p q N : Nat} {g : Nat → Int} (h : q ≠ p + 1) : fW h0 p N g q = h0 q := mUp_ne h
theorem cO_fW {p q N : Nat} {g F : Nat → Int} {ab : Option Nat} (hc : cO G h0 b q ab F) (h : q ≠ p + 1) : cO G (fW h0 p N g) b q ab F := ⟨hc.1, hc.2.1, by rw [fW_ne h]; exact hc.2.2⟩
theorem dFl_w {p2 x : Nat} {g m : Nat → Int} (hd : dFl G h0 b p2 J B fa fb cap fg) (hx : (x : Int) < J 29) (hg : ∀ j, 0 ≤ g j ∧ g j ≤ 255) (h1 : ∀ j, j < fN B x → g j = m ((B 22 x).toNat + j)) (h2 : ∀ i : Nat, (i : Int) < J 29 → i ≠ x → ∀ j, j < fN B i → m ((B 22 i).toNat + j) = B 23 ((B 22 i).toNat + j)) :
    dFl G (fW h0 (fa x) (fN B x) g) b p2 J (upA B 23 m) fa (upF fb x g) cap fg := by
  obtain ⟨⟨l1, l2, l3⟩, l4, hi, inj⟩ := hd
  obtain ⟨x1, x2, x3, x4⟩ := hi x hx
  have np : p2 ≠ fa x + 1 := by
    intro e; rw [e, x3] at l3; cases l3
  refine ⟨⟨l1, l2, by rw [fW_ne np]; exact l3⟩, l4, ?_, inj⟩
  intro i hi'
  obtain ⟨i1, i2, i3, i4, i5⟩ := hi i hi'
  have nf : fa i ≠ fa x + 1 := by
    intro e
    have := i2.2.2
    rw [e, x3] at this
    cases this
  refine ⟨i1, cO_fW i2 nf, ?_, ?_, ?_⟩
  · show fW h0 (fa x) (fN B x) g (fa i + 1) = some (mI (fN B i) (fun j => iI (upF fb x g i j)))
    by_cases q : i = x
    · subst q
      unfold upF
      rw [if_pos rfl]
      exact mUp_same _ _ _
    · unfold upF
      rw [if_neg q, fW_ne (fun e => q (inj _ _ hi' hx (by omega)))]
      exact i3
  · intro j hj
    show upF fb x g i j = m ((B 22 i).toNat + j)
    unfold upF
    by_cases q : i = x
    · subst q; rw [if_pos rfl]; exact h1 j hj
    · rw [if_neg q, h2 i hi' q j hj]; exact i4 j hj
  · intro j
    unfold upF
    split
    · exact hg j
    · exact i5 j
/-- writing into one file's stretch of the reference's bytes leaves the others as they are -/
theorem wr_other {x i : Nat} {t m : Int} {f : Nat → Int} (hF : iFl J B) (hx : (x : Int) < J 29) (hi : (i : Int) < J 29) (hn : i ≠ x) (ht : 0 ≤ t) (hm : t + m ≤ fN B x) (j : Nat) (hj : j < fN B i) : cpE (B 23) f (B 22 x + t) m ((B 22 i).toNat + j) = B 23 ((B 22 i).toNat + j) := by
  have ox := hF.2.2.1 x hx
  have oi := hF.2.2.1 i hi
  have sx := shp_sz ox.2.1
  have si := shp_sz oi.2.1
  have nx : (fN B x : Int) = B 18 x * B 19 x := by
    unfold fN
    have := Int.mul_nonneg sx.1 sx.2.2.1
    omega
  have ni : (fN B i : Int) = B 18 i * B 19 i := by
    unfold fN
    have := Int.mul_nonneg si.1 si.2.2.1
    omega
  have bx := ox.2.2.2.1
  have bi := oi.2.2.2.1
  unfold cpE
  rw [if_neg]
  rcases Nat.lt_or_ge i x with q | q
  · have := hF.2.2.2.1 i x q hx
    omega
  · have := hF.2.2.2.1 x i (by omega) hi
    omega
theorem fN_eq {x : Nat} (hF : iFl J B) (hx : (x : Int) < J 29) : (fN B x : Int) = B 18 x * B 19 x ∧ fN B x ≤ 8000 := by
  have ox := hF.2.2.1 x hx
  have sx := shp_sz ox.2.1
  have bx := ox.2.2.2.1
  have u := hF.2.1
  have := Int.mul_nonneg sx.1 sx.2.2.1
  unfold fN
  omega
def wbS (J : Nat → Int) (B : Nat → Nat → Int) : Int :=
  if J 49 = 0 then 26368 else if ¬ wrF J B 1 1 1 = 0 then wrF J B 1 1 1
  else if B 18 (J 37).toNat ≤ J 47 * 256 + J 48 then 27392
  else if B 18 (J 37).toNat < J 47 * 256 + J 48 + J 49 then 26368 else 36864
def wbH (h0 : mH) (I : Nat → Int) (A : Nat → Nat → Int) (J : Nat → Int) (B : Nat → Nat → Int) (fa : Nat → Nat) (fb : Nat → Nat → Int) : mH := if wbS J B = 36864 then fW h0 (fa (J 37).toNat) (fN B (J 37).toNat) (cpE (fb (J 37).toNat) (fun j => rget (I 7) (A 1) (0 + j) % 256) (J 47 * 256 + J 48) (J 49)) else h0
theorem d17 (hb : G.2.2.2 ≤ b) (hd : dFl G h0 b (P 2) J B fa fb cap fg) (hM : iM J B) (hC : iCm J) (hq : cq I A J B) (hR : R 1 = rfV fa (J 37)) : mX G 17 0 [.ref (b + 16), .ref (b + 3), mU, mU] [] (wH h0 b I A P R o) n k Q ↔ Q (.inl (some (.int (iI (wbS J B)))), wH (wbH h0 I A J B fa fb) b I A P R o, n, k) := by
  obtain ⟨⟨⟨q1, q2⟩, q3, q4⟩, ⟨q5, q6⟩, ⟨q7, q8⟩, q9, q10⟩ := hq
  obtain ⟨c1, c2, c3, c4, c5⟩ := hC
  have d2 := hM.2.2.1.2.1
  have dv := hM.2.2.1.2.2.2.2.1
  have f1 := hM.2.1.1
  have zw := fun Q' => d75 (G := G) (h0 := h0) (b := b) (n := n) (k := k) (Q := Q') (I := I) (A := A) (P := P) (R := R) (o := o) (by omega)
  have zp := fun Q' => d77 (G := G) (h0 := h0) (b := b) (n := n) (k := k) (Q := Q') (I := I) (A := A) (P := P) (R := R) (o := o)
  rw [q1, q2] at zp
  unfold wbH
  unfold wbS
  by_cases p1 : J 49 = 0
  · rw [if_pos p1, if_neg (by decide)]
    simp only [bI_f (show ¬ 0 < (I 7) by omega)] at zw
    simp (maxSteps := 1000000) (disch := first | omega | (simp only [updI_at, upA_at, Nat.reduceEqDiff, reduceIte]; omega) | exact mIsRef_rf _ | exact rfl) only [↓s17_0, ↓s17_1, ↓s17_4, ↓s17_7, ↓s17_10, ↓s17_11, ↓s17_12, ↓s17_15, ↓s17_16, ↓s17_17, ↓s17_20, ↓s17_23, ↓s17_24, ↓s17_25, ↓s17_26, ↓s17_27, ↓s17_30, ↓s17_31, ↓s17_34r, ↓s17_37, ↓s17_38, ↓s17_39, ↓s17_41, ↓s17_44, ↓s17_45, ↓s17_46, ↓s17_47, ↓s17_50, ↓s17_51, ↓s17_54, ↓s17_57, ↓s17_58, ↓s17_59, ↓s17_62, ↓s17_65, ↓s17_68, ↓s17_69, ↓s17_70, ↓s17_71, ↓s17_74, ↓s17_75, ↓s17_78, ↓s17_79, ↓s17_80, ↓s17_83, ↓s17_86r, ↓s17_89, ↓s17_91, iL_26368, iL_27014, iL_36864, wc_1, wc_12, wc_14, wc_16, wc_29, wc_3, wc_31, wc_39, wc_4, wc_41, wg_16_4, wg_3_0, mN1_int, mN1_ref, mN1_null, mN1_U, mN1_rf, mCats_nil, mCats_int, mCats_ref, mCats_null, mCats_long, mCats_rf, mIsRef_ref, mIsRef_null, mIsRef_va, mRf_ref, mRf_null, mRf_rf, true_and, and_true, true_or, or_true, eq_self_iff_true, mK_v, mK_0, Nat.reduceAdd, Nat.reduceLeDiff, Nat.zero_le, iL_0, iL_1, iL_m1, iI_add, iI_sub, iI_mul, iI_neg, updI_at, upA_at, upP_at, upR_at, Nat.reduceEqDiff, reduceIte, Int.reduceAdd, Int.reduceSub, Int.reduceMul, Int.reduceDiv, Int.reduceMod, Int.reduceLT, Int.reduceLE, Int.reduceEq, Int.reduceNeg, not_true_eq_false, not_false_eq_true, Decidable.not_not, zw, iI_eq]
  · rw [if_neg p1]
    simp only [bI_t (show 0 < (I 7) by omega)] at zw
    by_cases p2 : J 37 < 0
    · rw [wrF_n p2, if_pos (by decide), if_neg (by decide)]
      have e1 : R 1 = none := by rw [hR]; exact if_pos p2
      simp (maxSteps := 1000000) (disch := first | omega | (simp only [updI_at, upA_at, Nat.reduceEqDiff, reduceIte]; omega) | exact mIsRef_rf _ | exact rfl) only [↓s17_0, ↓s17_1, ↓s17_4, ↓s17_7, ↓s17_10, ↓s17_11, ↓s17_12, ↓s17_15, ↓s17_16, ↓s17_17, ↓s17_20, ↓s17_23, ↓s17_24, ↓s17_25, ↓s17_26, ↓s17_27, ↓s17_30, ↓s17_31, ↓s17_34r, ↓s17_37, ↓s17_38, ↓s17_39, ↓s17_41, ↓s17_44, ↓s17_45, ↓s17_46, ↓s17_47, ↓s17_50, ↓s17_51, ↓s17_54, ↓s17_57, ↓s17_58, ↓s17_59, ↓s17_62, ↓s17_65, ↓s17_68, ↓s17_69, ↓s17_70, ↓s17_71, ↓s17_74, ↓s17_75, ↓s17_78, ↓s17_79, ↓s17_80, ↓s17_83, ↓s17_86r, ↓s17_89, ↓s17_91, iL_26368, iL_27014, iL_36864, wc_1, wc_12, wc_14, wc_16, wc_29, wc_3, wc_31, wc_39, wc_4, wc_41, wg_16_4, wg_3_0, mN1_int, mN1_ref, mN1_null, mN1_U, mN1_rf, mCats_nil, mCats_int, mCats_ref, mCats_null, mCats_long, mCats_rf, mIsRef_ref, mIsRef_null, mIsRef_va, mRf_ref, mRf_null, mRf_rf, true_and, and_true, true_or, or_true, eq_self_iff_true, mK_v, mK_0, Nat.reduceAdd, Nat.reduceLeDiff, Nat.zero_le, iL_0, iL_1, iL_m1, iI_add, iI_sub, iI_mul, iI_neg, updI_at, upA_at, upP_at, upR_at, Nat.reduceEqDiff, reduceIte, Int.reduceAdd, Int.reduceSub, Int.reduceMul, Int.reduceDiv, Int.reduceMod, Int.reduceLT, Int.reduceLE, Int.reduceEq, Int.reduceNeg, not_true_eq_false, not_false_eq_true, Decidable.not_not, zw, iI_eq, e1, va_none]
    · have e1 : R 1 = some (fa (J 37).toNat) := by rw [hR]; exact if_neg p2
      obtain ⟨i1, i2, i3, i4, i5⟩ := hd.2.2.1 (J 37).toNat (by omega)
      obtain ⟨o1, o2, o3, o4, o5, o6, o7⟩ := hM.2.1.2.2.1 (J 37).toNat (by omega)
      have o8 := shp_sz o2
      have e2 : fF B (J 37).toNat 2 = B 17 (J 37).toNat := rfl
      have e4 : fF B (J 37).toNat 4 = B 18 (J 37).toNat := rfl
      have e8 : fF B (J 37).toNat 8 = B 21 (J 37).toNat := rfl
      have z28 := fun Q' => d28 (n := n) (k := k) (Q := Q') (I := I) (A := A) (P := P) (R := R) (o := o) (x := B 21 (J 37).toNat) (t := J 47 * 256 + J 48) i2 o1 (by rw [e4]; omega) o6 (by omega) (by omega)
      rw [e2, e4] at z28
      by_cases p3 : B 17 (J 37).toNat = 1
      · by_cases p4 : B 21 (J 37).toNat = 0 ∨ B 21 (J 37).toNat = 1 ∧ ¬ J 35 = 0
        · rw [wrF_o1 p2 (by omega) p4, if_neg (fun t => t rfl)]
          have p4' : okR I (B 21 (J 37).toNat) := by unfold okR; rw [q9]; exact p4
          simp only [eq_true p3, not_true_eq_false, if_false, eq_true p4'] at z28
          by_cases p5 : B 18 (J 37).toNat ≤ J 47 * 256 + J 48
          · rw [if_pos p5, if_neg (by decide)]
            simp only [show ¬ J 47 * 256 + J 48 < B 18 (J 37).toNat by omega, if_false] at z28
            simp (maxSteps := 1000000) (disch := first | omega | (simp only [updI_at, upA_at, Nat.reduceEqDiff, reduceIte]; omega) | exact mIsRef_rf _ | exact rfl) only [↓s17_0, ↓s17_1, ↓s17_4, ↓s17_7, ↓s17_10, ↓s17_11, ↓s17_12, ↓s17_15, ↓s17_16, ↓s17_17, ↓s17_20, ↓s17_23, ↓s17_24, ↓s17_25, ↓s17_26, ↓s17_27, ↓s17_30, ↓s17_31, ↓s17_34r, ↓s17_37, ↓s17_38, ↓s17_39, ↓s17_41, ↓s17_44, ↓s17_45, ↓s17_46, ↓s17_47, ↓s17_50, ↓s17_51, ↓s17_54, ↓s17_57, ↓s17_58, ↓s17_59, ↓s17_62, ↓s17_65, ↓s17_68, ↓s17_69, ↓s17_70, ↓s17_71, ↓s17_74, ↓s17_75, ↓s17_78, ↓s17_79, ↓s17_80, ↓s17_83, ↓s17_86r, ↓s17_89, ↓s17_91, iL_26368, iL_27014, iL_36864, wc_1, wc_12, wc_14, wc_16, wc_29, wc_3, wc_31, wc_39, wc_4, wc_41, wg_16_4, wg_3_0, mN1_int, mN1_ref, mN1_null, mN1_U, mN1_rf, mCats_nil, mCats_int, mCats_ref, mCats_null, mCats_long, mCats_rf, mIsRef_ref, mIsRef_null, mIsRef_va, mRf_ref, mRf_null, mRf_rf, true_and, and_true, true_or, or_true, eq_self_iff_true, mK_v, mK_0, Nat.reduceAdd, Nat.reduceLeDiff, Nat.zero_le, iL_0, iL_1, iL_m1, iI_add, iI_sub, iI_mul, iI_neg, updI_at, upA_at, upP_at, upR_at, Nat.reduceEqDiff, reduceIte, Int.reduceAdd, Int.reduceSub, Int.reduceMul, Int.reduceDiv, Int.reduceMod, Int.reduceLT, Int.reduceLE, Int.reduceEq, Int.reduceNeg, not_true_eq_false, not_false_eq_true, Decidable.not_not, zw, zp, iI_eq, e1, va_some, reduceCtorEq, gg_8 i2, e8, z28]
          · rw [if_neg p5]
            simp only [show J 47 * 256 + J 48 < B 18 (J 37).toNat by omega, if_true] at z28
            by_cases p6 : B 18 (J 37).toNat < J 47 * 256 + J 48 + J 49
            · rw [if_pos p6, if_neg (by decide)]
              simp (maxSteps := 1000000) (disch := first | omega | (simp only [updI_at, upA_at, Nat.reduceEqDiff, reduceIte]; omega) | exact mIsRef_rf _ | exact rfl) only [↓s17_0, ↓s17_1, ↓s17_4, ↓s17_7, ↓s17_10, ↓s17_11, ↓s17_12, ↓s17_15, ↓s17_16, ↓s17_17, ↓s17_20, ↓s17_23, ↓s17_24, ↓s17_25, ↓s17_26, ↓s17_27, ↓s17_30, ↓s17_31, ↓s17_34r, ↓s17_37, ↓s17_38, ↓s17_39, ↓s17_41, ↓s17_44, ↓s17_45, ↓s17_46, ↓s17_47, ↓s17_50, ↓s17_51, ↓s17_54, ↓s17_57, ↓s17_58, ↓s17_59, ↓s17_62, ↓s17_65, ↓s17_68, ↓s17_69, ↓s17_70, ↓s17_71, ↓s17_74, ↓s17_75, ↓s17_78, ↓s17_79, ↓s17_80, ↓s17_83, ↓s17_86r, ↓s17_89, ↓s17_91, iL_26368, iL_27014, iL_36864, wc_1, wc_12, wc_14, wc_16, wc_29, wc_3, wc_31, wc_39, wc_4, wc_41, wg_16_4, wg_3_0, mN1_int, mN1_ref, mN1_null, mN1_U, mN1_rf, mCats_nil, mCats_int, mCats_ref, mCats_null, mCats_long, mCats_rf, mIsRef_ref, mIsRef_null, mIsRef_va, mRf_ref, mRf_null, mRf_rf, true_and, and_true, true_or, or_true, eq_self_iff_true, mK_v, mK_0, Nat.reduceAdd, Nat.reduceLeDiff, Nat.zero_le, iL_0, iL_1, iL_m1, iI_add, iI_sub, iI_mul, iI_neg, updI_at, upA_at, upP_at, upR_at, Nat.reduceEqDiff, reduceIte, Int.reduceAdd, Int.reduceSub, Int.reduceMul, Int.reduceDiv, Int.reduceMod, Int.reduceLT, Int.reduceLE, Int.reduceEq, Int.reduceNeg, not_true_eq_false, not_false_eq_true, Decidable.not_not, zw, zp, iI_eq, iI_le, e1, va_some, reduceCtorEq, gg_8 i2, gg_4 i2, e4, e8, z28, q4, d79_4, Int.not_le.mpr p6]
            · rw [if_neg p6, if_pos rfl]
              rw [p3] at o2
              have m1 := (shp_1 o2).2
              have eN : (fN B (J 37).toNat : Int) = B 18 (J 37).toNat := by unfold fN; rw [m1]; omega
              have rr := rget_rng (len := (I 7)) q6
              have z4 := fun Q' => d4 (n := n) (k := k) (Q := Q') (I := I) (A := A) (P := P) (R := R) (o := o) (g := fb (J 37).toNat) (N := fN B (J 37).toNat) (t := J 47 * 256 + J 48) (s := 0) (m := J 49) i2 (by omega) (rG_4 (by omega)) rC_4 rr (by omega) (by omega) (by omega)
              rw [fW_self i3] at z4
              simp (maxSteps := 1000000) (disch := first | omega | (simp only [updI_at, upA_at, Nat.reduceEqDiff, reduceIte]; omega) | exact mIsRef_rf _ | exact rfl) only [↓s17_0, ↓s17_1, ↓s17_4, ↓s17_7, ↓s17_10, ↓s17_11, ↓s17_12, ↓s17_15, ↓s17_16, ↓s17_17, ↓s17_20, ↓s17_23, ↓s17_24, ↓s17_25, ↓s17_26, ↓s17_27, ↓s17_30, ↓s17_31, ↓s17_34r, ↓s17_37, ↓s17_38, ↓s17_39, ↓s17_41, ↓s17_44, ↓s17_45, ↓s17_46, ↓s17_47, ↓s17_50, ↓s17_51, ↓s17_54, ↓s17_57, ↓s17_58, ↓s17_59, ↓s17_62, ↓s17_65, ↓s17_68, ↓s17_69, ↓s17_70, ↓s17_71, ↓s17_74, ↓s17_75, ↓s17_78, ↓s17_79, ↓s17_80, ↓s17_83, ↓s17_86r, ↓s17_89, ↓s17_91, iL_26368, iL_27014, iL_36864, wc_1, wc_12, wc_14, wc_16, wc_29, wc_3, wc_31, wc_39, wc_4, wc_41, wg_16_4, wg_3_0, mN1_int, mN1_ref, mN1_null, mN1_U, mN1_rf, mCats_nil, mCats_int, mCats_ref, mCats_null, mCats_long, mCats_rf, mIsRef_ref, mIsRef_null, mIsRef_va, mRf_ref, mRf_null, mRf_rf, true_and, and_true, true_or, or_true, eq_self_iff_true, mK_v, mK_0, Nat.reduceAdd, Nat.reduceLeDiff, Nat.zero_le, iL_0, iL_1, iL_m1, iI_add, iI_sub, iI_mul, iI_neg, updI_at, upA_at, upP_at, upR_at, Nat.reduceEqDiff, reduceIte, Int.reduceAdd, Int.reduceSub, Int.reduceMul, Int.reduceDiv, Int.reduceMod, Int.reduceLT, Int.reduceLE, Int.reduceEq, Int.reduceNeg, not_true_eq_false, not_false_eq_true, Decidable.not_not, zw, zp, iI_eq, iI_le, e1, va_some, reduceCtorEq, gg_c i2, gg_8 i2, gg_4 i2, e4, e8, z28, q4, d79_4, Int.not_lt.mp p6, z4]
        · rw [wrF_r1 p2 (by omega) p4, if_pos (by decide), if_neg (by decide)]
          have p4' : ¬ okR I (B 21 (J 37).toNat) := by unfold okR; rw [q9]; exact p4
          simp only [eq_true p3, not_true_eq_false, if_false, p4', not_false_eq_true, if_true] at z28
          simp (maxSteps := 1000000) (disch := first | omega | (simp only [updI_at, upA_at, Nat.reduceEqDiff, reduceIte]; omega) | exact mIsRef_rf _ | exact rfl) only [↓s17_0, ↓s17_1, ↓s17_4, ↓s17_7, ↓s17_10, ↓s17_11, ↓s17_12, ↓s17_15, ↓s17_16, ↓s17_17, ↓s17_20, ↓s17_23, ↓s17_24, ↓s17_25, ↓s17_26, ↓s17_27, ↓s17_30, ↓s17_31, ↓s17_34r, ↓s17_37, ↓s17_38, ↓s17_39, ↓s17_41, ↓s17_44, ↓s17_45, ↓s17_46, ↓s17_47, ↓s17_50, ↓s17_51, ↓s17_54, ↓s17_57, ↓s17_58, ↓s17_59, ↓s17_62, ↓s17_65, ↓s17_68, ↓s17_69, ↓s17_70, ↓s17_71, ↓s17_74, ↓s17_75, ↓s17_78, ↓s17_79, ↓s17_80, ↓s17_83, ↓s17_86r, ↓s17_89, ↓s17_91, iL_26368, iL_27014, iL_36864, wc_1, wc_12, wc_14, wc_16, wc_29, wc_3, wc_31, wc_39, wc_4, wc_41, wg_16_4, wg_3_0, mN1_int, mN1_ref, mN1_null, mN1_U, mN1_rf, mCats_nil, mCats_int, mCats_ref, mCats_null, mCats_long, mCats_rf, mIsRef_ref, mIsRef_null, mIsRef_va, mRf_ref, mRf_null, mRf_rf, true_and, and_true, true_or, or_true, eq_self_iff_true, mK_v, mK_0, Nat.reduceAdd, Nat.reduceLeDiff, Nat.zero_le, iL_0, iL_1, iL_m1, iI_add, iI_sub, iI_mul, iI_neg, updI_at, upA_at, upP_at, upR_at, Nat.reduceEqDiff, reduceIte, Int.reduceAdd, Int.reduceSub, Int.reduceMul, Int.reduceDiv, Int.reduceMod, Int.reduceLT, Int.reduceLE, Int.reduceEq, Int.reduceNeg, not_true_eq_false, not_false_eq_true, Decidable.not_not, zw, zp, iI_eq, e1, va_some, reduceCtorEq, gg_8 i2, e8, z28]
      · rw [wrF_k p2 (by omega), if_pos (by decide), if_neg (by decide)]
        simp only [p3, not_false_eq_true, if_true] at z28
        simp (maxSteps := 1000000) (disch := first | omega | (simp only [updI_at, upA_at, Nat.reduceEqDiff, reduceIte]; omega) | exact mIsRef_rf _ | exact rfl) only [↓s17_0, ↓s17_1, ↓s17_4, ↓s17_7, ↓s17_10, ↓s17_11, ↓s17_12, ↓s17_15, ↓s17_16, ↓s17_17, ↓s17_20, ↓s17_23, ↓s17_24, ↓s17_25, ↓s17_26, ↓s17_27, ↓s17_30, ↓s17_31, ↓s17_34r, ↓s17_37, ↓s17_38, ↓s17_39, ↓s17_41, ↓s17_44, ↓s17_45, ↓s17_46, ↓s17_47, ↓s17_50, ↓s17_51, ↓s17_54, ↓s17_57, ↓s17_58, ↓s17_59, ↓s17_62, ↓s17_65, ↓s17_68, ↓s17_69, ↓s17_70, ↓s17_71, ↓s17_74, ↓s17_75, ↓s17_78, ↓s17_79, ↓s17_80, ↓s17_83, ↓s17_86r, ↓s17_89, ↓s17_91, iL_26368, iL_27014, iL_36864, wc_1, wc_12, wc_14, wc_16, wc_29, wc_3, wc_31, wc_39, wc_4, wc_41, wg_16_4, wg_3_0, mN1_int, mN1_ref, mN1_null, mN1_U, mN1_rf, mCats_nil, mCats_int, mCats_ref, mCats_null, mCats_long, mCats_rf, mIsRef_ref, mIsRef_null, mIsRef_va, mRf_ref, mRf_null, mRf_rf, true_and, and_true, true_or, or_true, eq_self_iff_true, mK_v, mK_0, Nat.reduceAdd, Nat.reduceLeDiff, Nat.zero_le, iL_0, iL_1, iL_m1, iI_add, iI_sub, iI_mul, iI_neg, updI_at, upA_at, upP_at, upR_at, Nat.reduceEqDiff, reduceIte, Int.reduceAdd, Int.reduceSub, Int.reduceMul, Int.reduceDiv, Int.reduceMod, Int.reduceLT, Int.reduceLE, Int.reduceEq, Int.reduceNeg, not_true_eq_false, not_false_eq_true, Decidable.not_not, zw, zp, iI_eq, e1, va_some, reduceCtorEq, gg_8 i2, e8, z28]
end
end MWB
