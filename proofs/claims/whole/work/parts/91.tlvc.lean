/-! Class: Tlvs.read; it notes what the reference's list does. -/
section MTLVC
variable {G : mG} {h h0 : mH} {n k b : Nat} {Q : mR → Prop} {I : Nat → Int} {A : Nat → Nat → Int} {P : Nat → Nat} {R : Nat → Option Nat} {o : Nat → Int64}
abbrev tBad (N : Int) (g : Nat → Int) (a : Int) : Prop := rget N g a % 128 = 0 ∨ rlen N g (tPl (rget N g) a) = -1 ∨ N < tSt N g a + rlen N g (tPl (rget N g) a)
def tOne (N : Int) (g : Nat → Int) (a : Int) (A : Nat → Nat → Int) : Nat → Nat → Int := tMu (tNo A (rget N g a % 128) (tSt N g a) (rlen N g (tPl (rget N g) a))) (rget N g a % 128) (rget N g a)
def clF (N : Int) (g : Nat → Int) : Nat → Int → (Nat → Nat → Int) → Int × (Nat → Nat → Int)
  | 0, a, A => (a, A)
  | d + 1, a, A => if a = -1 ∨ N ≤ a then (a, A) else if tBad N g a then (-1, A) else clF N g d (tSt N g a + rlen N g (tPl (rget N g) a)) (tOne N g a A)
theorem clF_m1 (N : Int) (g : Nat → Int) (A : Nat → Nat → Int) : ∀ d, clF N g d (-1) A = (-1, A)
  | 0 => rfl
  | d + 1 => by rw [clF, if_pos (Or.inl rfl)]
/-- the class's arrays of TLVs are in range -/
def iTl (A : Nat → Nat → Int) : Prop := (∀ j, -1 ≤ (A 9) j ∧ (A 9) j ≤ 300) ∧ (∀ j, 0 ≤ (A 11) j ∧ (A 11) j ≤ 1)
theorem tOne_oth (N : Int) (g : Nat → Int) (a : Int) (A : Nat → Nat → Int) (j : Nat) (h1 : j ≠ 9) (h2 : j ≠ 10) (h3 : j ≠ 11) : tOne N g a A j = A j := by
  unfold tOne tMu tNo
  rw [upA_at, if_neg h3]
  split
  · rw [upA_at, if_neg h2, upA_at, if_neg h1]
  · rfl
theorem tOne_sta (N : Int) (g : Nat → Int) (a : Int) (A : Nat → Nat → Int) : tOne N g a A 9 = if (A 9) (rget N g a % 128).toNat = -1 then upE (A 9) (rget N g a % 128).toNat (tSt N g a) else (A 9) := by
  unfold tOne tMu tNo
  rw [upA_at, if_neg (by decide)]
  split
  · rw [upA_at, if_neg (by decide), upA_at, if_pos rfl]
  · rfl
theorem tOne_len (N : Int) (g : Nat → Int) (a : Int) (A : Nat → Nat → Int) : tOne N g a A 10 = if (A 9) (rget N g a % 128).toNat = -1 then upE (A 10) (rget N g a % 128).toNat (rlen N g (tPl (rget N g) a)) else (A 10) := by
  unfold tOne tMu tNo
  rw [upA_at, if_neg (by decide)]
  split
  · rw [upA_at, if_pos rfl]
  · rfl
theorem tOne_mus (N : Int) (g : Nat → Int) (a : Int) (A : Nat → Nat → Int) : tOne N g a A 11 = upE (A 11) (rget N g a % 128).toNat (if (A 11) (rget N g a % 128).toNat = 0 ∧ rget N g a < 128 then 0 else 1) := by
  have e : ∀ X : Nat → Nat → Int, tNo A (rget N g a % 128) (tSt N g a) (rlen N g (tPl (rget N g) a)) 11 = (A 11) := fun _ => by
    unfold tNo
    split
    · rw [upA_at, if_neg (by decide), upA_at, if_neg (by decide)]
    · rfl
  unfold tOne tMu
  rw [upA_at, if_pos rfl, e A]
theorem tRng {N : Int} {g : Nat → Int} {a : Int} (hg : ∀ j, 0 ≤ g j ∧ g j ≤ 255) : (-1 ≤ rlen N g (tPl (rget N g) a) ∧ rlen N g (tPl (rget N g) a) ≤ 255) ∧ (a + 2 ≤ tSt N g a ∧ tSt N g a ≤ a + 5) := by
  have hpl : a + 1 ≤ tPl (rget N g) a ∧ tPl (rget N g) a ≤ a + 3 := by unfold tPl; split <;> omega
  have hst : tPl (rget N g) a + 1 ≤ tSt N g a ∧ tSt N g a ≤ tPl (rget N g) a + 2 := by unfold tSt; split <;> omega
  exact ⟨rlen_rng hg _, by omega⟩
theorem iTl_one {N a : Int} {g : Nat → Int} {A : Nat → Nat → Int} (hg : ∀ j, 0 ≤ g j ∧ g j ≤ 255) (hN : N ≤ 255) (h : iTl A) (ha : 0 ≤ a) (hb : ¬ tBad N g a) : iTl (tOne N g a A) := by
  have tr := tRng (N := N) (a := a) hg
  unfold tBad at hb
  constructor
  · intro j
    rw [tOne_sta]
    split
    · exact upE_P (p := fun x => -1 ≤ x ∧ x ≤ 300) h.1 (by omega) j
    · exact h.1 j
  · intro j
    rw [tOne_mus]
    exact upE_P (p := fun x => 0 ≤ x ∧ x ≤ 1) h.2 (by split <;> omega) j
theorem d119_l {f : Int32} (hb : G.2.2.2 ≤ b) (hl : 0 ≤ (I 7) ∧ (I 7) ≤ 255) : ∀ (d : Nat) (c a : Int) (A : Nat → Nat → Int), (∀ j, 0 ≤ (A 1) j ∧ (A 1) j ≤ 255) → iTl A → 0 ≤ c → c + d = 255 → -1 ≤ a → a ≤ 255 →
    (mX G 119 46 [.ref (b + 35), .ref (b + 4), .int f, .int (iI a), .int (iI c)] [] (wH h0 b I A P R o) n k Q ↔ Q (.inl (some (.int (iI (bI (¬ (clF (I 7) (A 1) d a A).1 = -1))))), wH h0 b I (clF (I 7) (A 1) d a A).2 P R o, n, k)) := by
  intro d
  induction d with
  | zero =>
    intro c a A hA hT h1 h2 h3 h4
    obtain rfl : c = 255 := by omega
    rw [s119_46, clF]
    by_cases p : a = -1
    · rw [bI_f (fun t => t p)]
      simp (maxSteps := 1000000) (disch := first | omega | (simp only [updI_at, upA_at, lwI_at, Nat.reduceEqDiff, reduceIte, List.length_append, List.length_cons, List.length_nil, txtL_len, Nat.reduceAdd]; omega) | exact mIsRef_rf _ | exact rfl | assumption) only [↓s119_0, ↓s119_1, ↓s119_2, ↓s119_5, ↓s119_6, ↓s119_7, ↓s119_8, ↓s119_11, ↓s119_14, ↓s119_15, ↓s119_18, ↓s119_19, ↓s119_20, ↓s119_21, ↓s119_22, ↓s119_25, ↓s119_26, ↓s119_27, ↓s119_28, ↓s119_29, ↓s119_32, ↓s119_33, ↓s119_34, ↓s119_35, ↓s119_38, ↓s119_41, ↓s119_42, ↓s119_43, ↓s119_44, ↓s119_48, ↓s119_51, ↓s119_54, ↓s119_55, ↓s119_56, ↓s119_59, ↓s119_60, ↓s119_61, ↓s119_64, ↓s119_67, ↓s119_68, ↓s119_69, ↓s119_70r, ↓s119_73, ↓s119_74, ↓s119_77, ↓s119_80, ↓s119_81, ↓s119_82, ↓s119_85, ↓s119_86, ↓s119_89, ↓s119_90, iL_128, iL_255, wc_1, wc_12, wc_14, wc_29, wc_31, wc_35, wc_39, wc_4, wc_41, wg_35_0, wg_35_1, wg_35_2, wl_36, wl_37, wl_38, wn_36, wn_37, wn_38, wp_35_3, wp_35_3n, wp_35_3s, ws_36, ws_37, ws_38, mN1_int, mN1_ref, mN1_null, mN1_U, mN1_rf, mCats_nil, mCats_int, mCats_ref, mCats_null, mCats_long, mCats_rf, mIsRef_ref, mIsRef_null, mIsRef_va, mRf_ref, mRf_null, mRf_rf, true_and, and_true, true_or, or_true, eq_self_iff_true, mK_v, mK_0, Nat.reduceAdd, Nat.reduceLeDiff, Nat.zero_le, iL_0, iL_1, iL_m1, iI_add, iI_sub, iI_mul, iI_neg, updI_at, upA_at, upP_at, upR_at, Nat.reduceEqDiff, reduceIte, Int.reduceAdd, Int.reduceSub, Int.reduceMul, Int.reduceDiv, Int.reduceMod, Int.reduceLT, Int.reduceLE, Int.reduceEq, Int.reduceNeg, not_true_eq_false, not_false_eq_true, Decidable.not_not, iI_le, iI_eq, p]
    · rw [bI_t p]
      simp (maxSteps := 1000000) (disch := first | omega | (simp only [updI_at, upA_at, lwI_at, Nat.reduceEqDiff, reduceIte, List.length_append, List.length_cons, List.length_nil, txtL_len, Nat.reduceAdd]; omega) | exact mIsRef_rf _ | exact rfl | assumption) only [↓s119_0, ↓s119_1, ↓s119_2, ↓s119_5, ↓s119_6, ↓s119_7, ↓s119_8, ↓s119_11, ↓s119_14, ↓s119_15, ↓s119_18, ↓s119_19, ↓s119_20, ↓s119_21, ↓s119_22, ↓s119_25, ↓s119_26, ↓s119_27, ↓s119_28, ↓s119_29, ↓s119_32, ↓s119_33, ↓s119_34, ↓s119_35, ↓s119_38, ↓s119_41, ↓s119_42, ↓s119_43, ↓s119_44, ↓s119_48, ↓s119_51, ↓s119_54, ↓s119_55, ↓s119_56, ↓s119_59, ↓s119_60, ↓s119_61, ↓s119_64, ↓s119_67, ↓s119_68, ↓s119_69, ↓s119_70r, ↓s119_73, ↓s119_74, ↓s119_77, ↓s119_80, ↓s119_81, ↓s119_82, ↓s119_85, ↓s119_86, ↓s119_89, ↓s119_90, iL_128, iL_255, wc_1, wc_12, wc_14, wc_29, wc_31, wc_35, wc_39, wc_4, wc_41, wg_35_0, wg_35_1, wg_35_2, wl_36, wl_37, wl_38, wn_36, wn_37, wn_38, wp_35_3, wp_35_3n, wp_35_3s, ws_36, ws_37, ws_38, mN1_int, mN1_ref, mN1_null, mN1_U, mN1_rf, mCats_nil, mCats_int, mCats_ref, mCats_null, mCats_long, mCats_rf, mIsRef_ref, mIsRef_null, mIsRef_va, mRf_ref, mRf_null, mRf_rf, true_and, and_true, true_or, or_true, eq_self_iff_true, mK_v, mK_0, Nat.reduceAdd, Nat.reduceLeDiff, Nat.zero_le, iL_0, iL_1, iL_m1, iI_add, iI_sub, iI_mul, iI_neg, updI_at, upA_at, upP_at, upR_at, Nat.reduceEqDiff, reduceIte, Int.reduceAdd, Int.reduceSub, Int.reduceMul, Int.reduceDiv, Int.reduceMod, Int.reduceLT, Int.reduceLE, Int.reduceEq, Int.reduceNeg, not_true_eq_false, not_false_eq_true, Decidable.not_not, iI_le, iI_eq, p]
  | succ d ih =>
    intro c a A hA hT h1 h2 h3 h4
    have hc : ¬ 255 ≤ c := by omega
    rw [s119_46]
    by_cases p : a = -1
    · rw [p, clF_m1, bI_f (fun t => t rfl)]
      simp (maxSteps := 1000000) (disch := first | omega | (simp only [updI_at, upA_at, lwI_at, Nat.reduceEqDiff, reduceIte, List.length_append, List.length_cons, List.length_nil, txtL_len, Nat.reduceAdd]; omega) | exact mIsRef_rf _ | exact rfl | assumption) only [↓s119_0, ↓s119_1, ↓s119_2, ↓s119_5, ↓s119_6, ↓s119_7, ↓s119_8, ↓s119_11, ↓s119_14, ↓s119_15, ↓s119_18, ↓s119_19, ↓s119_20, ↓s119_21, ↓s119_22, ↓s119_25, ↓s119_26, ↓s119_27, ↓s119_28, ↓s119_29, ↓s119_32, ↓s119_33, ↓s119_34, ↓s119_35, ↓s119_38, ↓s119_41, ↓s119_42, ↓s119_43, ↓s119_44, ↓s119_48, ↓s119_51, ↓s119_54, ↓s119_55, ↓s119_56, ↓s119_59, ↓s119_60, ↓s119_61, ↓s119_64, ↓s119_67, ↓s119_68, ↓s119_69, ↓s119_70r, ↓s119_73, ↓s119_74, ↓s119_77, ↓s119_80, ↓s119_81, ↓s119_82, ↓s119_85, ↓s119_86, ↓s119_89, ↓s119_90, iL_128, iL_255, wc_1, wc_12, wc_14, wc_29, wc_31, wc_35, wc_39, wc_4, wc_41, wg_35_0, wg_35_1, wg_35_2, wl_36, wl_37, wl_38, wn_36, wn_37, wn_38, wp_35_3, wp_35_3n, wp_35_3s, ws_36, ws_37, ws_38, mN1_int, mN1_ref, mN1_null, mN1_U, mN1_rf, mCats_nil, mCats_int, mCats_ref, mCats_null, mCats_long, mCats_rf, mIsRef_ref, mIsRef_null, mIsRef_va, mRf_ref, mRf_null, mRf_rf, true_and, and_true, true_or, or_true, eq_self_iff_true, mK_v, mK_0, Nat.reduceAdd, Nat.reduceLeDiff, Nat.zero_le, iL_0, iL_1, iL_m1, iI_add, iI_sub, iI_mul, iI_neg, updI_at, upA_at, upP_at, upR_at, Nat.reduceEqDiff, reduceIte, Int.reduceAdd, Int.reduceSub, Int.reduceMul, Int.reduceDiv, Int.reduceMod, Int.reduceLT, Int.reduceLE, Int.reduceEq, Int.reduceNeg, not_true_eq_false, not_false_eq_true, Decidable.not_not, iI_le, iI_eq, hc]
    · by_cases p2 : (I 7) ≤ a
      · rw [clF, if_pos (Or.inr p2), bI_t p]
        simp (maxSteps := 1000000) (disch := first | omega | (simp only [updI_at, upA_at, lwI_at, Nat.reduceEqDiff, reduceIte, List.length_append, List.length_cons, List.length_nil, txtL_len, Nat.reduceAdd]; omega) | exact mIsRef_rf _ | exact rfl | assumption) only [↓s119_0, ↓s119_1, ↓s119_2, ↓s119_5, ↓s119_6, ↓s119_7, ↓s119_8, ↓s119_11, ↓s119_14, ↓s119_15, ↓s119_18, ↓s119_19, ↓s119_20, ↓s119_21, ↓s119_22, ↓s119_25, ↓s119_26, ↓s119_27, ↓s119_28, ↓s119_29, ↓s119_32, ↓s119_33, ↓s119_34, ↓s119_35, ↓s119_38, ↓s119_41, ↓s119_42, ↓s119_43, ↓s119_44, ↓s119_48, ↓s119_51, ↓s119_54, ↓s119_55, ↓s119_56, ↓s119_59, ↓s119_60, ↓s119_61, ↓s119_64, ↓s119_67, ↓s119_68, ↓s119_69, ↓s119_70r, ↓s119_73, ↓s119_74, ↓s119_77, ↓s119_80, ↓s119_81, ↓s119_82, ↓s119_85, ↓s119_86, ↓s119_89, ↓s119_90, iL_128, iL_255, wc_1, wc_12, wc_14, wc_29, wc_31, wc_35, wc_39, wc_4, wc_41, wg_35_0, wg_35_1, wg_35_2, wl_36, wl_37, wl_38, wn_36, wn_37, wn_38, wp_35_3, wp_35_3n, wp_35_3s, ws_36, ws_37, ws_38, mN1_int, mN1_ref, mN1_null, mN1_U, mN1_rf, mCats_nil, mCats_int, mCats_ref, mCats_null, mCats_long, mCats_rf, mIsRef_ref, mIsRef_null, mIsRef_va, mRf_ref, mRf_null, mRf_rf, true_and, and_true, true_or, or_true, eq_self_iff_true, mK_v, mK_0, Nat.reduceAdd, Nat.reduceLeDiff, Nat.zero_le, iL_0, iL_1, iL_m1, iI_add, iI_sub, iI_mul, iI_neg, updI_at, upA_at, upP_at, upR_at, Nat.reduceEqDiff, reduceIte, Int.reduceAdd, Int.reduceSub, Int.reduceMul, Int.reduceDiv, Int.reduceMod, Int.reduceLT, Int.reduceLE, Int.reduceEq, Int.reduceNeg, not_true_eq_false, not_false_eq_true, Decidable.not_not, iI_le, iI_eq, hc, p, d79_4, p2]
      · have z := fun Q' => d125 (G := G) (h0 := h0) (b := b) (n := n) (k := k) (Q := Q') (I := I) (A := A) (P := P) (R := R) (o := o) (a := a) hb hA hl (by omega) hT.1 hT.2
        by_cases p3 : tBad (I 7) (A 1) a
        · have e : clF (I 7) (A 1) (d + 1) a A = (-1, A) := by rw [clF, if_neg (fun t => t.elim p p2), if_pos p3]
          simp only [eq_true p3, if_true] at z
          rw [e, ← clF_m1 (I 7) (A 1) A d, ← ih (c + 1) (-1) A hA hT (by omega) (by omega) (by omega) (by omega)]
          simp (maxSteps := 1000000) (disch := first | omega | (simp only [updI_at, upA_at, lwI_at, Nat.reduceEqDiff, reduceIte, List.length_append, List.length_cons, List.length_nil, txtL_len, Nat.reduceAdd]; omega) | exact mIsRef_rf _ | exact rfl | assumption) only [↓s119_0, ↓s119_1, ↓s119_2, ↓s119_5, ↓s119_6, ↓s119_7, ↓s119_8, ↓s119_11, ↓s119_14, ↓s119_15, ↓s119_18, ↓s119_19, ↓s119_20, ↓s119_21, ↓s119_22, ↓s119_25, ↓s119_26, ↓s119_27, ↓s119_28, ↓s119_29, ↓s119_32, ↓s119_33, ↓s119_34, ↓s119_35, ↓s119_38, ↓s119_41, ↓s119_42, ↓s119_43, ↓s119_44, ↓s119_48, ↓s119_51, ↓s119_54, ↓s119_55, ↓s119_56, ↓s119_59, ↓s119_60, ↓s119_61, ↓s119_64, ↓s119_67, ↓s119_68, ↓s119_69, ↓s119_70r, ↓s119_73, ↓s119_74, ↓s119_77, ↓s119_80, ↓s119_81, ↓s119_82, ↓s119_85, ↓s119_86, ↓s119_89, ↓s119_90, iL_128, iL_255, wc_1, wc_12, wc_14, wc_29, wc_31, wc_35, wc_39, wc_4, wc_41, wg_35_0, wg_35_1, wg_35_2, wl_36, wl_37, wl_38, wn_36, wn_37, wn_38, wp_35_3, wp_35_3n, wp_35_3s, ws_36, ws_37, ws_38, mN1_int, mN1_ref, mN1_null, mN1_U, mN1_rf, mCats_nil, mCats_int, mCats_ref, mCats_null, mCats_long, mCats_rf, mIsRef_ref, mIsRef_null, mIsRef_va, mRf_ref, mRf_null, mRf_rf, true_and, and_true, true_or, or_true, eq_self_iff_true, mK_v, mK_0, Nat.reduceAdd, Nat.reduceLeDiff, Nat.zero_le, iL_0, iL_1, iL_m1, iI_add, iI_sub, iI_mul, iI_neg, updI_at, upA_at, upP_at, upR_at, Nat.reduceEqDiff, reduceIte, Int.reduceAdd, Int.reduceSub, Int.reduceMul, Int.reduceDiv, Int.reduceMod, Int.reduceLT, Int.reduceLE, Int.reduceEq, Int.reduceNeg, not_true_eq_false, not_false_eq_true, Decidable.not_not, iI_le, iI_eq, hc, p, d79_4, p2, z]
        · have e : clF (I 7) (A 1) (d + 1) a A = clF (I 7) (A 1) d (tSt (I 7) (A 1) a + rlen (I 7) (A 1) (tPl (rget (I 7) (A 1)) a)) (tOne (I 7) (A 1) a A) := by rw [clF, if_neg (fun t => t.elim p p2), if_neg p3]
          simp only [p3, if_false] at z
          have tr := tRng (N := (I 7)) (a := a) hA
          have p3' := p3
          unfold tBad at p3'
          have er : tOne (I 7) (A 1) a A 1 = (A 1) := tOne_oth _ _ _ _ _ (by decide) (by decide) (by decide)
          have zz := ih (c + 1) (tSt (I 7) (A 1) a + rlen (I 7) (A 1) (tPl (rget (I 7) (A 1)) a)) (tOne (I 7) (A 1) a A) (by rw [er]; exact hA) (iTl_one hA hl.2 hT (by omega) p3) (by omega) (by omega) (by omega) (by omega)
          rw [er] at zz
          rw [e, ← zz]
          have eo : tMu (tNo A (rget (I 7) (A 1) a % 128) (tSt (I 7) (A 1) a) (rlen (I 7) (A 1) (tPl (rget (I 7) (A 1)) a))) (rget (I 7) (A 1) a % 128) (rget (I 7) (A 1) a) = tOne (I 7) (A 1) a A := rfl
          rw [eo] at z
          generalize tOne (I 7) (A 1) a A = A1 at *
          simp (maxSteps := 1000000) (disch := first | omega | (simp only [updI_at, upA_at, lwI_at, Nat.reduceEqDiff, reduceIte, List.length_append, List.length_cons, List.length_nil, txtL_len, Nat.reduceAdd]; omega) | exact mIsRef_rf _ | exact rfl | assumption) only [↓s119_0, ↓s119_1, ↓s119_2, ↓s119_5, ↓s119_6, ↓s119_7, ↓s119_8, ↓s119_11, ↓s119_14, ↓s119_15, ↓s119_18, ↓s119_19, ↓s119_20, ↓s119_21, ↓s119_22, ↓s119_25, ↓s119_26, ↓s119_27, ↓s119_28, ↓s119_29, ↓s119_32, ↓s119_33, ↓s119_34, ↓s119_35, ↓s119_38, ↓s119_41, ↓s119_42, ↓s119_43, ↓s119_44, ↓s119_48, ↓s119_51, ↓s119_54, ↓s119_55, ↓s119_56, ↓s119_59, ↓s119_60, ↓s119_61, ↓s119_64, ↓s119_67, ↓s119_68, ↓s119_69, ↓s119_70r, ↓s119_73, ↓s119_74, ↓s119_77, ↓s119_80, ↓s119_81, ↓s119_82, ↓s119_85, ↓s119_86, ↓s119_89, ↓s119_90, iL_128, iL_255, wc_1, wc_12, wc_14, wc_29, wc_31, wc_35, wc_39, wc_4, wc_41, wg_35_0, wg_35_1, wg_35_2, wl_36, wl_37, wl_38, wn_36, wn_37, wn_38, wp_35_3, wp_35_3n, wp_35_3s, ws_36, ws_37, ws_38, mN1_int, mN1_ref, mN1_null, mN1_U, mN1_rf, mCats_nil, mCats_int, mCats_ref, mCats_null, mCats_long, mCats_rf, mIsRef_ref, mIsRef_null, mIsRef_va, mRf_ref, mRf_null, mRf_rf, true_and, and_true, true_or, or_true, eq_self_iff_true, mK_v, mK_0, Nat.reduceAdd, Nat.reduceLeDiff, Nat.zero_le, iL_0, iL_1, iL_m1, iI_add, iI_sub, iI_mul, iI_neg, updI_at, upA_at, upP_at, upR_at, Nat.reduceEqDiff, reduceIte, Int.reduceAdd, Int.reduceSub, Int.reduceMul, Int.reduceDiv, Int.reduceMod, Int.reduceLT, Int.reduceLE, Int.reduceEq, Int.reduceNeg, not_true_eq_false, not_false_eq_true, Decidable.not_not, iI_le, iI_eq, hc, p, d79_4, p2, z]
def t0A (A : Nat → Nat → Int) (c : Int) : Nat → Nat → Int := upA (upA (upA A 9 (cpE (A 9) (fun _ => -1) 0 c)) 10 (cpE (A 10) (fun _ => 0) 0 c)) 11 (cpE (A 11) (fun _ => 0) 0 c)
theorem t0A_s {c : Int} (h : 0 ≤ c) : upA (upA (upA (t0A A c) 9 (upE (t0A A c 9) c.toNat (-1))) 10 (upE (t0A A c 10) c.toNat 0)) 11 (upE (t0A A c 11) c.toNat 0) = t0A A (c + 1) := by
  have e1 := cpE_s (g := (A 9)) (f := fun _ => -1) (lo := 0) (c := c) (by omega) h
  have e2 := cpE_s (g := (A 10)) (f := fun _ => 0) (lo := 0) (c := c) (by omega) h
  have e3 := cpE_s (g := (A 11)) (f := fun _ => 0) (lo := 0) (c := c) (by omega) h
  rw [Int.zero_add] at e1 e2 e3
  have s1 : t0A A c 9 = cpE (A 9) (fun _ => -1) 0 c := rfl
  have s2 : t0A A c 10 = cpE (A 10) (fun _ => 0) 0 c := rfl
  have s3 : t0A A c 11 = cpE (A 11) (fun _ => 0) 0 c := rfl
  rw [s1, s2, s3, e1, e2, e3]
  unfold t0A
  funext j
  simp only [upA_at]
  repeat' split
  all_goals rfl
theorem d119_i {f : Int32} (hb : G.2.2.2 ≤ b) : ∀ (d : Nat) (c : Int), 0 ≤ c → c + d = 128 →
    (mX G 119 7 [.ref (b + 35), .ref (b + 4), .int f, .int (iI c), mU] [] (wH h0 b I (t0A A c) P R o) n k Q ↔ mX G 119 41 [.ref (b + 35), .ref (b + 4), .int f, .int (iI 128), mU] [] (wH h0 b I (t0A A 128) P R o) n k Q) := by
  intro d
  induction d with
  | zero =>
    intro c h1 h2
    obtain rfl : c = 128 := by omega
    rw [s119_7]
    simp (maxSteps := 1000000) (disch := first | omega | (simp only [updI_at, upA_at, lwI_at, Nat.reduceEqDiff, reduceIte, List.length_append, List.length_cons, List.length_nil, txtL_len, Nat.reduceAdd]; omega) | exact mIsRef_rf _ | exact rfl | assumption) only [↓s119_0, ↓s119_1, ↓s119_2, ↓s119_5, ↓s119_6, ↓s119_8, ↓s119_11, ↓s119_14, ↓s119_15, ↓s119_18, ↓s119_19, ↓s119_20, ↓s119_21, ↓s119_22, ↓s119_25, ↓s119_26, ↓s119_27, ↓s119_28, ↓s119_29, ↓s119_32, ↓s119_33, ↓s119_34, ↓s119_35, ↓s119_38, ↓s119_42, ↓s119_43, ↓s119_44, ↓s119_46, ↓s119_48, ↓s119_51, ↓s119_54, ↓s119_55, ↓s119_56, ↓s119_59, ↓s119_60, ↓s119_61, ↓s119_64, ↓s119_67, ↓s119_68, ↓s119_69, ↓s119_70r, ↓s119_73, ↓s119_74, ↓s119_77, ↓s119_80, ↓s119_81, ↓s119_82, ↓s119_85, ↓s119_86, ↓s119_89, ↓s119_90, iL_128, iL_255, wc_1, wc_12, wc_14, wc_29, wc_31, wc_35, wc_39, wc_4, wc_41, wg_35_0, wg_35_1, wg_35_2, wl_36, wl_37, wl_38, wn_36, wn_37, wn_38, wp_35_3, wp_35_3n, wp_35_3s, ws_36, ws_37, ws_38, mN1_int, mN1_ref, mN1_null, mN1_U, mN1_rf, mCats_nil, mCats_int, mCats_ref, mCats_null, mCats_long, mCats_rf, mIsRef_ref, mIsRef_null, mIsRef_va, mRf_ref, mRf_null, mRf_rf, true_and, and_true, true_or, or_true, eq_self_iff_true, mK_v, mK_0, Nat.reduceAdd, Nat.reduceLeDiff, Nat.zero_le, iL_0, iL_1, iL_m1, iI_add, iI_sub, iI_mul, iI_neg, updI_at, upA_at, upP_at, upR_at, Nat.reduceEqDiff, reduceIte, Int.reduceAdd, Int.reduceSub, Int.reduceMul, Int.reduceDiv, Int.reduceMod, Int.reduceLT, Int.reduceLE, Int.reduceEq, Int.reduceNeg, not_true_eq_false, not_false_eq_true, Decidable.not_not, iI_le]
  | succ d ih =>
    intro c h1 h2
    have hc : ¬ 128 ≤ c := by omega
    have e := t0A_s (A := A) h1
    rw [s119_7]
    simp (maxSteps := 1000000) (disch := first | omega | (simp only [updI_at, upA_at, lwI_at, Nat.reduceEqDiff, reduceIte, List.length_append, List.length_cons, List.length_nil, txtL_len, Nat.reduceAdd]; omega) | exact mIsRef_rf _ | exact rfl | assumption) only [↓s119_0, ↓s119_1, ↓s119_2, ↓s119_5, ↓s119_6, ↓s119_8, ↓s119_11, ↓s119_14, ↓s119_15, ↓s119_18, ↓s119_19, ↓s119_20, ↓s119_21, ↓s119_22, ↓s119_25, ↓s119_26, ↓s119_27, ↓s119_28, ↓s119_29, ↓s119_32, ↓s119_33, ↓s119_34, ↓s119_35, ↓s119_38, ↓s119_42, ↓s119_43, ↓s119_44, ↓s119_46, ↓s119_48, ↓s119_51, ↓s119_54, ↓s119_55, ↓s119_56, ↓s119_59, ↓s119_60, ↓s119_61, ↓s119_64, ↓s119_67, ↓s119_68, ↓s119_69, ↓s119_70r, ↓s119_73, ↓s119_74, ↓s119_77, ↓s119_80, ↓s119_81, ↓s119_82, ↓s119_85, ↓s119_86, ↓s119_89, ↓s119_90, iL_128, iL_255, wc_1, wc_12, wc_14, wc_29, wc_31, wc_35, wc_39, wc_4, wc_41, wg_35_0, wg_35_1, wg_35_2, wl_36, wl_37, wl_38, wn_36, wn_37, wn_38, wp_35_3, wp_35_3n, wp_35_3s, ws_36, ws_37, ws_38, mN1_int, mN1_ref, mN1_null, mN1_U, mN1_rf, mCats_nil, mCats_int, mCats_ref, mCats_null, mCats_long, mCats_rf, mIsRef_ref, mIsRef_null, mIsRef_va, mRf_ref, mRf_null, mRf_rf, true_and, and_true, true_or, or_true, eq_self_iff_true, mK_v, mK_0, Nat.reduceAdd, Nat.reduceLeDiff, Nat.zero_le, iL_0, iL_1, iL_m1, iI_add, iI_sub, iI_mul, iI_neg, updI_at, upA_at, upP_at, upR_at, Nat.reduceEqDiff, reduceIte, Int.reduceAdd, Int.reduceSub, Int.reduceMul, Int.reduceDiv, Int.reduceMod, Int.reduceLT, Int.reduceLE, Int.reduceEq, Int.reduceNeg, not_true_eq_false, not_false_eq_true, Decidable.not_not, iI_le, hc]
    rw [e]
    exact ih (c + 1) (by omega) (by omega)
theorem iTl_0 {A : Nat → Nat → Int} (h : iTl A) : iTl (t0A A 128) := by
  constructor
  · intro j
    have e : t0A A 128 9 = cpE (A 9) (fun _ => -1) 0 128 := by unfold t0A; rw [upA_at, if_neg (by decide), upA_at, if_neg (by decide), upA_at, if_pos rfl]
    rw [e]
    exact cpE_P (p := fun x => -1 ≤ x ∧ x ≤ 300) h.1 (fun _ => by show (-1 : Int) ≤ -1 ∧ (-1 : Int) ≤ 300; omega) j
  · intro j
    have e : t0A A 128 11 = cpE (A 11) (fun _ => 0) 0 128 := by unfold t0A; rw [upA_at, if_pos rfl]
    rw [e]
    exact cpE_P (p := fun x => 0 ≤ x ∧ x ≤ 1) h.2 (fun _ => by show (0 : Int) ≤ 0 ∧ (0 : Int) ≤ 1; omega) j
theorem d119 {f : Int} (hb : G.2.2.2 ≤ b) (hl : 0 ≤ (I 7) ∧ (I 7) ≤ 255) (hA : ∀ j, 0 ≤ (A 1) j ∧ (A 1) j ≤ 255) (hT : iTl A) (hf : 0 ≤ f ∧ f ≤ 255) : mX G 119 0 [.ref (b + 35), .ref (b + 4), .int (iI f), mU, mU] [] (wH h0 b I A P R o) n k Q ↔ Q (.inl (some (.int (iI (bI (¬ (clF (I 7) (A 1) 255 f (t0A A 128)).1 = -1))))), wH h0 b I (clF (I 7) (A 1) 255 f (t0A A 128)).2 P (upR R 3 (some (b + 4))) o, n, k) := by
  have e0 : t0A A 0 = A := by
    unfold t0A
    rw [cpE_0, cpE_0, cpE_0]
    funext j
    simp only [upA_at]
    repeat' split
    all_goals first | rfl | (rename_i q; rw [q]) | (rename_i q _; rw [q]) | skip
    all_goals simp_all
  have z1 := d119_i (n := n) (k := k) (Q := Q) (h0 := h0) (I := I) (A := A) (P := P) (R := upR R 3 (some (b + 4))) (o := o) (f := iI f) hb 128 0 (by omega) (by omega)
  rw [e0] at z1
  have er : t0A A 128 1 = (A 1) := rfl
  have z2 := d119_l (n := n) (k := k) (Q := Q) (h0 := h0) (I := I) (P := P) (R := upR R 3 (some (b + 4))) (o := o) (f := iI f) hb hl 255 0 f (t0A A 128) (by rw [er]; exact hA) (iTl_0 hT) (by omega) (by omega) (by omega) (by omega)
  rw [er] at z2
  have st : mX G 119 0 [.ref (b + 35), .ref (b + 4), .int (iI f), mU, mU] [] (wH h0 b I A P R o) n k Q ↔ mX G 119 7 [.ref (b + 35), .ref (b + 4), .int (iI f), .int (iI 0), mU] [] (wH h0 b I A P (upR R 3 (some (b + 4))) o) n k Q := by
    simp (maxSteps := 1000000) (disch := first | omega | (simp only [updI_at, upA_at, lwI_at, Nat.reduceEqDiff, reduceIte, List.length_append, List.length_cons, List.length_nil, txtL_len, Nat.reduceAdd]; omega) | exact mIsRef_rf _ | exact rfl | assumption) only [↓s119_0, ↓s119_1, ↓s119_2, ↓s119_5, ↓s119_6, ↓s119_8, ↓s119_11, ↓s119_14, ↓s119_15, ↓s119_18, ↓s119_19, ↓s119_20, ↓s119_21, ↓s119_22, ↓s119_25, ↓s119_26, ↓s119_27, ↓s119_28, ↓s119_29, ↓s119_32, ↓s119_33, ↓s119_34, ↓s119_35, ↓s119_38, ↓s119_41, ↓s119_42, ↓s119_43, ↓s119_44, ↓s119_46, ↓s119_48, ↓s119_51, ↓s119_54, ↓s119_55, ↓s119_56, ↓s119_59, ↓s119_60, ↓s119_61, ↓s119_64, ↓s119_67, ↓s119_68, ↓s119_69, ↓s119_70r, ↓s119_73, ↓s119_74, ↓s119_77, ↓s119_80, ↓s119_81, ↓s119_82, ↓s119_85, ↓s119_86, ↓s119_89, ↓s119_90, iL_128, iL_255, wc_1, wc_12, wc_14, wc_29, wc_31, wc_35, wc_39, wc_4, wc_41, wg_35_0, wg_35_1, wg_35_2, wl_36, wl_37, wl_38, wn_36, wn_37, wn_38, wp_35_3, wp_35_3n, wp_35_3s, ws_36, ws_37, ws_38, mN1_int, mN1_ref, mN1_null, mN1_U, mN1_rf, mCats_nil, mCats_int, mCats_ref, mCats_null, mCats_long, mCats_rf, mIsRef_ref, mIsRef_null, mIsRef_va, mRf_ref, mRf_null, mRf_rf, true_and, and_true, true_or, or_true, eq_self_iff_true, mK_v, mK_0, Nat.reduceAdd, Nat.reduceLeDiff, Nat.zero_le, iL_0, iL_1, iL_m1, iI_add, iI_sub, iI_mul, iI_neg, updI_at, upA_at, upP_at, upR_at, Nat.reduceEqDiff, reduceIte, Int.reduceAdd, Int.reduceSub, Int.reduceMul, Int.reduceDiv, Int.reduceMod, Int.reduceLT, Int.reduceLE, Int.reduceEq, Int.reduceNeg, not_true_eq_false, not_false_eq_true, Decidable.not_not]
  rw [st, z1, ← z2]
  generalize t0A A 128 = A1
  simp (maxSteps := 1000000) (disch := first | omega | (simp only [updI_at, upA_at, lwI_at, Nat.reduceEqDiff, reduceIte, List.length_append, List.length_cons, List.length_nil, txtL_len, Nat.reduceAdd]; omega) | exact mIsRef_rf _ | exact rfl | assumption) only [↓s119_41, ↓s119_42, ↓s119_43, ↓s119_44, mN1_int, mN1_ref, mN1_null, mN1_U, mN1_rf, mCats_nil, mCats_int, mCats_ref, mCats_null, mCats_long, mCats_rf, mIsRef_ref, mIsRef_null, mIsRef_va, mRf_ref, mRf_null, mRf_rf, true_and, and_true, true_or, or_true, eq_self_iff_true, mK_v, mK_0, Nat.reduceAdd, Nat.reduceLeDiff, Nat.zero_le, iL_0, iL_1, iL_m1, iI_add, iI_sub, iI_mul, iI_neg, updI_at, upA_at, upP_at, upR_at, Nat.reduceEqDiff, reduceIte, Int.reduceAdd, Int.reduceSub, Int.reduceMul, Int.reduceDiv, Int.reduceMod, Int.reduceLT, Int.reduceLE, Int.reduceEq, Int.reduceNeg, not_true_eq_false, not_false_eq_true, Decidable.not_not]
end MTLVC
