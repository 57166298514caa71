/-! Reference: profile, fetch; orders1. -/
section MPROF
variable {G : mG} {h h0 : mH} {n k b : Nat} {Q : mR → Prop} {I : Nat → Int} {A : Nat → Nat → Int} {P : Nat → Nat} {R : Nat → Option Nat} {o : Nat → Int64}
theorem c249_l (hb : G.2.2.2 ≤ b) (hd : 0 ≤ (I 49) ∧ (I 49) ≤ 255) : ∀ (d : Nat) (c : Int), 0 ≤ c → c + d = (I 49) →
    (mX G 249 21 [.ref (b + 43), .int (iI c)] [] (wH h0 b I (upA A 43 (cpE (A 43) (tpG A) 0 c)) P R o) n k Q ↔ mX G 249 46 [.ref (b + 43), .int (iI (I 49))] [] (wH h0 b I (upA A 43 (cpE (A 43) (tpG A) 0 (I 49))) P R o) n k Q) := by
  intro d
  induction d with
  | zero =>
    intro c h1 h2
    obtain rfl : c = (I 49) := by omega
    rw [s249_21]
    simp (maxSteps := 1000000) (disch := first | assumption | omega | (simp only [updI_at, upA_at, lwI_at, Nat.reduceEqDiff, reduceIte, List.length_append, List.length_cons, List.length_nil, txtL_len, Nat.reduceAdd]; omega) | exact mIsRef_rf _ | exact rfl) only [↓s249_0, ↓s249_1, ↓s249_4, ↓s249_7, ↓s249_10, ↓s249_11, ↓s249_12, ↓s249_13, ↓s249_16, ↓s249_19, ↓s249_20, ↓s249_22, ↓s249_23, ↓s249_26, ↓s249_29, ↓s249_30, ↓s249_33, ↓s249_34, ↓s249_35, ↓s249_36, ↓s249_39, ↓s249_40, ↓s249_43, ↓s249_47, ↓s249_48, ↓s249_51, ↓s249_52, ↓s249_55, ↓s249_56, ↓s249_59, ↓s249_61, ↓s249_62, ↓s249_65, ↓s249_66, ↓s249_68, ↓s249_71, ↓s249_72, ↓s249_75, iL_26368, iL_40, wc_43, wg_43_23, wg_43_43, wg_43_53, wl_62, wl_73, wn_62, wn_73, wp_43_41, wp_43_42, ws_62, ws_73, mN1_int, mN1_ref, mN1_null, mN1_U, mN1_rf, mCats_nil, mCats_int, mCats_ref, mCats_null, mCats_long, mCats_rf, mIsRef_ref, mIsRef_null, mIsRef_va, mRf_ref, mRf_null, mRf_rf, true_and, and_true, true_or, or_true, eq_self_iff_true, mK_v, mK_0, Nat.reduceAdd, Nat.reduceLeDiff, Nat.zero_le, iL_0, iL_1, iL_m1, iI_add, iI_sub, iI_mul, iI_neg, updI_at, upA_at, upP_at, upR_at, Nat.reduceEqDiff, reduceIte, Int.reduceAdd, Int.reduceSub, Int.reduceMul, Int.reduceDiv, Int.reduceMod, Int.reduceLT, Int.reduceLE, Int.reduceEq, Int.reduceNeg, not_true_eq_false, not_false_eq_true, Decidable.not_not, iI_le, Int.le_refl]
  | succ d ih =>
    intro c h1 h2
    have hc : ¬ (I 49) ≤ c := by omega
    have e := cpE_s (g := (A 43)) (f := tpG A) (lo := 0) (c := c) (by omega) h1
    rw [Int.zero_add] at e
    rw [s249_21]
    simp (maxSteps := 1000000) (disch := first | assumption | omega | (simp only [updI_at, upA_at, lwI_at, Nat.reduceEqDiff, reduceIte, List.length_append, List.length_cons, List.length_nil, txtL_len, Nat.reduceAdd]; omega) | exact mIsRef_rf _ | exact rfl) only [↓s249_0, ↓s249_1, ↓s249_4, ↓s249_7, ↓s249_10, ↓s249_11, ↓s249_12, ↓s249_13, ↓s249_16, ↓s249_19, ↓s249_20, ↓s249_22, ↓s249_23, ↓s249_26, ↓s249_29, ↓s249_30, ↓s249_33, ↓s249_34, ↓s249_35, ↓s249_36, ↓s249_39, ↓s249_40, ↓s249_43, ↓s249_47, ↓s249_48, ↓s249_51, ↓s249_52, ↓s249_55, ↓s249_56, ↓s249_59, ↓s249_61, ↓s249_62, ↓s249_65, ↓s249_66, ↓s249_68, ↓s249_71, ↓s249_72, ↓s249_75, iL_26368, iL_40, wc_43, wg_43_23, wg_43_43, wg_43_53, wl_62, wl_73, wn_62, wn_73, wp_43_41, wp_43_42, ws_62, ws_73, mN1_int, mN1_ref, mN1_null, mN1_U, mN1_rf, mCats_nil, mCats_int, mCats_ref, mCats_null, mCats_long, mCats_rf, mIsRef_ref, mIsRef_null, mIsRef_va, mRf_ref, mRf_null, mRf_rf, true_and, and_true, true_or, or_true, eq_self_iff_true, mK_v, mK_0, Nat.reduceAdd, Nat.reduceLeDiff, Nat.zero_le, iL_0, iL_1, iL_m1, iI_add, iI_sub, iI_mul, iI_neg, updI_at, upA_at, upP_at, upR_at, Nat.reduceEqDiff, reduceIte, Int.reduceAdd, Int.reduceSub, Int.reduceMul, Int.reduceDiv, Int.reduceMod, Int.reduceLT, Int.reduceLE, Int.reduceEq, Int.reduceNeg, not_true_eq_false, not_false_eq_true, Decidable.not_not, iI_le, hc, c207, upA_upA]
    rw [show (5 + c).toNat = 5 + c.toNat by omega, e]
    exact ih (c + 1) (by omega) (by omega)
def pfI (I : Nat → Int) : Nat → Int := updI (updI (updI (updI I 40 (I 49)) 39 1) 41 0) 43 0
def pfA (I : Nat → Int) (A : Nat → Nat → Int) : Nat → Nat → Int := upA (upA A 43 (cpE (A 43) (tpG A) 0 (I 49))) 40 (cpE (A 40) zer 0 9)
theorem iM_pf {I : Nat → Int} {A : Nat → Nat → Int} (hM : iM I A) (hC : iCm I) : iM (pfI I) (pfA I A) := by
  obtain ⟨hA, hF, hH, hN, hS, hT⟩ := hM
  obtain ⟨e1, e2, e3, e4, e5, e6, e7, e8, e9⟩ := hS
  have z1 := cpE_P (p := fun x => 0 ≤ x ∧ x ≤ 255) (f := tpG A) (lo := 0) (m := (I 49)) e8 (fun j => hT.2 (5 + j))
  have z2 := cpE_P (p := fun x => 0 ≤ x ∧ x ≤ 1) (f := zer) (lo := 0) (m := 9) e9 (fun j => by show (0 : Int) ≤ 0 ∧ (0 : Int) ≤ 1; omega)
  refine ⟨RgA_upA (RgA_upA hA (fun j => by have := z1 j; omega)) (fun j => by have := z2 j; omega), hF, hH, hN, ⟨?_, ?_, e3, e4, fun q => absurd rfl q, ?_, hC.2.2.1, z1, z2⟩, hT⟩
  · show (0 : Int) ≤ 0 ∧ (0 : Int) ≤ 2; omega
  · show (0 : Int) ≤ 0 ∧ (0 : Int) ≤ 254; omega
  · show (0 : Int) ≤ 1 ∧ (1 : Int) ≤ 1; omega
def pfF (I : Nat → Int) (A : Nat → Nat → Int) : Z3 := if (I 49) = 0 then (26368, I, A) else dnF (if (A 32) 40 ≤ 0 then pfI I else stI (pfI I) (pfA I A) 40) (pfA I A)
theorem c249 (hb : G.2.2.2 ≤ b) (hM : iM I A) (hC : iCm I) : mX G 249 0 [.ref (b + 43), mU] [] (wH h0 b I A P R o) n k Q ↔ Q (.inl (some (.int (iI (pfF I A).1))), wH h0 b (pfF I A).2.1 (pfF I A).2.2 P R o, n, k) := by
  have hA := hM.1
  have c3 := hC.2.2.1
  have hi := hM.2.2.2.1.2.2.1 40 (by omega)
  have hM1 := iM_pf hM hC
  have hM2 := iM_start hM1 (Or.inr (Or.inl rfl) : (40 : Int) = -1 ∨ (40 : Int) = 40 ∨ _)
  unfold pfF
  by_cases p1 : (I 49) = 0
  · rw [if_pos p1]
    simp (maxSteps := 1000000) (disch := first | assumption | omega | (simp only [updI_at, upA_at, lwI_at, Nat.reduceEqDiff, reduceIte, List.length_append, List.length_cons, List.length_nil, txtL_len, Nat.reduceAdd]; omega) | exact mIsRef_rf _ | exact rfl) only [↓s249_0, ↓s249_1, ↓s249_4, ↓s249_7, ↓s249_10, ↓s249_11, ↓s249_12, ↓s249_13, ↓s249_16, ↓s249_19, ↓s249_20, ↓s249_22, ↓s249_23, ↓s249_26, ↓s249_29, ↓s249_30, ↓s249_33, ↓s249_34, ↓s249_35, ↓s249_36, ↓s249_39, ↓s249_40, ↓s249_43, ↓s249_46, ↓s249_47, ↓s249_48, ↓s249_51, ↓s249_52, ↓s249_55, ↓s249_56, ↓s249_59, ↓s249_61, ↓s249_62, ↓s249_65, ↓s249_66, ↓s249_68, ↓s249_71, ↓s249_72, ↓s249_75, iL_26368, iL_40, wc_43, wg_43_23, wg_43_43, wg_43_53, wl_62, wl_73, wn_62, wn_73, wp_43_41, wp_43_42, ws_62, ws_73, mN1_int, mN1_ref, mN1_null, mN1_U, mN1_rf, mCats_nil, mCats_int, mCats_ref, mCats_null, mCats_long, mCats_rf, mIsRef_ref, mIsRef_null, mIsRef_va, mRf_ref, mRf_null, mRf_rf, true_and, and_true, true_or, or_true, eq_self_iff_true, mK_v, mK_0, Nat.reduceAdd, Nat.reduceLeDiff, Nat.zero_le, iL_0, iL_1, iL_m1, iI_add, iI_sub, iI_mul, iI_neg, updI_at, upA_at, upP_at, upR_at, Nat.reduceEqDiff, reduceIte, Int.reduceAdd, Int.reduceSub, Int.reduceMul, Int.reduceDiv, Int.reduceMod, Int.reduceLT, Int.reduceLE, Int.reduceEq, Int.reduceNeg, not_true_eq_false, not_false_eq_true, Decidable.not_not, iI_eq, p1]
  · rw [if_neg p1]
    have e : wH h0 b (updI I 40 (I 49)) A P R o = wH h0 b (updI I 40 (I 49)) (upA A 43 (cpE (A 43) (tpG A) 0 0)) P R o := by rw [cpE_0, upA_self]
    have zl := fun Q' => c249_l (G := G) (h0 := h0) (b := b) (n := n) (k := k) (Q := Q') (I := updI I 40 (I 49)) (A := A) (P := P) (R := R) (o := o) hb c3 ((I 49)).toNat 0 (by omega) (show (0 : Int) + (((I 49)).toNat : Int) = (I 49) by omega)
    rw [show updI I 40 (I 49) 49 = (I 49) from rfl] at zl
    have hR : RgA (upA A 43 (cpE (A 43) (tpG A) 0 (I 49))) := RgA_upA hA (cpE_P (p := fun x => -2147483648 ≤ x ∧ x < 2147483648) (hA _) (fun j => hA _ _))
    have zi := fun Q' => c202 (G := G) (h0 := h0) (b := b) (n := n) (k := k) (Q := Q') (I := updI (updI I 40 (I 49)) 39 1) (A := upA A 43 (cpE (A 43) (tpG A) 0 (I 49))) (P := P) (R := R) (o := o) hb hR
    have ei : ∀ Q' : mR → Prop, mX G 202 0 [.ref (b + 43), mU] [] (wH h0 b (updI (updI I 40 (I 49)) 39 1) (upA A 43 (cpE (A 43) (tpG A) 0 (I 49))) P R o) n k Q' ↔ Q' (.inl none, wH h0 b (pfI I) (pfA I A) P R o, n, k) := zi
    have st : mX G 249 0 [.ref (b + 43), mU] [] (wH h0 b I A P R o) n k Q ↔ mX G 249 55 [.ref (b + 43), .int (iI (I 49))] [] (wH h0 b (pfI I) (pfA I A) P R o) n k Q := by
      simp (maxSteps := 1000000) (disch := first | assumption | omega | (simp only [updI_at, upA_at, lwI_at, Nat.reduceEqDiff, reduceIte, List.length_append, List.length_cons, List.length_nil, txtL_len, Nat.reduceAdd]; omega) | exact mIsRef_rf _ | exact rfl) only [↓s249_0, ↓s249_1, ↓s249_4, ↓s249_7, ↓s249_10, ↓s249_11, ↓s249_12, ↓s249_13, ↓s249_16, ↓s249_19, ↓s249_20, ↓s249_22, ↓s249_23, ↓s249_26, ↓s249_29, ↓s249_30, ↓s249_33, ↓s249_34, ↓s249_35, ↓s249_36, ↓s249_39, ↓s249_40, ↓s249_43, ↓s249_46, ↓s249_47, ↓s249_48, ↓s249_51, ↓s249_52, ↓s249_56, ↓s249_59, ↓s249_61, ↓s249_62, ↓s249_65, ↓s249_66, ↓s249_68, ↓s249_71, ↓s249_72, ↓s249_75, iL_26368, iL_40, wc_43, wg_43_23, wg_43_43, wg_43_53, wl_62, wl_73, wn_62, wn_73, wp_43_41, wp_43_42, ws_62, ws_73, mN1_int, mN1_ref, mN1_null, mN1_U, mN1_rf, mCats_nil, mCats_int, mCats_ref, mCats_null, mCats_long, mCats_rf, mIsRef_ref, mIsRef_null, mIsRef_va, mRf_ref, mRf_null, mRf_rf, true_and, and_true, true_or, or_true, eq_self_iff_true, mK_v, mK_0, Nat.reduceAdd, Nat.reduceLeDiff, Nat.zero_le, iL_0, iL_1, iL_m1, iI_add, iI_sub, iI_mul, iI_neg, updI_at, upA_at, upP_at, upR_at, Nat.reduceEqDiff, reduceIte, Int.reduceAdd, Int.reduceSub, Int.reduceMul, Int.reduceDiv, Int.reduceMod, Int.reduceLT, Int.reduceLE, Int.reduceEq, Int.reduceNeg, not_true_eq_false, not_false_eq_true, Decidable.not_not, iI_eq, p1]
      rw [e, zl]
      simp (maxSteps := 1000000) (disch := first | assumption | omega | (simp only [updI_at, upA_at, lwI_at, Nat.reduceEqDiff, reduceIte, List.length_append, List.length_cons, List.length_nil, txtL_len, Nat.reduceAdd]; omega) | exact mIsRef_rf _ | exact rfl) only [↓s249_0, ↓s249_1, ↓s249_4, ↓s249_7, ↓s249_10, ↓s249_11, ↓s249_12, ↓s249_13, ↓s249_16, ↓s249_19, ↓s249_20, ↓s249_22, ↓s249_23, ↓s249_26, ↓s249_29, ↓s249_30, ↓s249_33, ↓s249_34, ↓s249_35, ↓s249_36, ↓s249_39, ↓s249_40, ↓s249_43, ↓s249_46, ↓s249_47, ↓s249_48, ↓s249_51, ↓s249_52, ↓s249_56, ↓s249_59, ↓s249_61, ↓s249_62, ↓s249_65, ↓s249_66, ↓s249_68, ↓s249_71, ↓s249_72, ↓s249_75, iL_26368, iL_40, wc_43, wg_43_23, wg_43_43, wg_43_53, wl_62, wl_73, wn_62, wn_73, wp_43_41, wp_43_42, ws_62, ws_73, mN1_int, mN1_ref, mN1_null, mN1_U, mN1_rf, mCats_nil, mCats_int, mCats_ref, mCats_null, mCats_long, mCats_rf, mIsRef_ref, mIsRef_null, mIsRef_va, mRf_ref, mRf_null, mRf_rf, true_and, and_true, true_or, or_true, eq_self_iff_true, mK_v, mK_0, Nat.reduceAdd, Nat.reduceLeDiff, Nat.zero_le, iL_0, iL_1, iL_m1, iI_add, iI_sub, iI_mul, iI_neg, updI_at, upA_at, upP_at, upR_at, Nat.reduceEqDiff, reduceIte, Int.reduceAdd, Int.reduceSub, Int.reduceMul, Int.reduceDiv, Int.reduceMod, Int.reduceLT, Int.reduceLE, Int.reduceEq, Int.reduceNeg, not_true_eq_false, not_false_eq_true, Decidable.not_not, ei]
    rw [st]
    have i1 : pfA I A 32 (40 : Int).toNat = (A 32) 40 := rfl
    by_cases p2 : (A 32) 40 ≤ 0
    · rw [if_pos p2]
      simp (maxSteps := 1000000) (disch := first | assumption | omega | (simp only [updI_at, upA_at, lwI_at, Nat.reduceEqDiff, reduceIte, List.length_append, List.length_cons, List.length_nil, txtL_len, Nat.reduceAdd]; omega) | exact mIsRef_rf _ | exact rfl) only [↓s249_0, ↓s249_1, ↓s249_4, ↓s249_7, ↓s249_10, ↓s249_11, ↓s249_12, ↓s249_13, ↓s249_16, ↓s249_19, ↓s249_20, ↓s249_22, ↓s249_23, ↓s249_26, ↓s249_29, ↓s249_30, ↓s249_33, ↓s249_34, ↓s249_35, ↓s249_36, ↓s249_39, ↓s249_40, ↓s249_43, ↓s249_46, ↓s249_47, ↓s249_48, ↓s249_51, ↓s249_52, ↓s249_55, ↓s249_56, ↓s249_59, ↓s249_61, ↓s249_62, ↓s249_65, ↓s249_66, ↓s249_68, ↓s249_71, ↓s249_72, ↓s249_75, iL_26368, iL_40, wc_43, wg_43_23, wg_43_43, wg_43_53, wl_62, wl_73, wn_62, wn_73, wp_43_41, wp_43_42, ws_62, ws_73, mN1_int, mN1_ref, mN1_null, mN1_U, mN1_rf, mCats_nil, mCats_int, mCats_ref, mCats_null, mCats_long, mCats_rf, mIsRef_ref, mIsRef_null, mIsRef_va, mRf_ref, mRf_null, mRf_rf, true_and, and_true, true_or, or_true, eq_self_iff_true, mK_v, mK_0, Nat.reduceAdd, Nat.reduceLeDiff, Nat.zero_le, iL_0, iL_1, iL_m1, iI_add, iI_sub, iI_mul, iI_neg, updI_at, upA_at, upP_at, upR_at, Nat.reduceEqDiff, reduceIte, Int.reduceAdd, Int.reduceSub, Int.reduceMul, Int.reduceDiv, Int.reduceMod, Int.reduceLT, Int.reduceLE, Int.reduceEq, Int.reduceNeg, not_true_eq_false, not_false_eq_true, Decidable.not_not, iI_le, i1, p2, d208]
    · rw [if_neg p2]
      simp (maxSteps := 1000000) (disch := first | assumption | omega | (simp only [updI_at, upA_at, lwI_at, Nat.reduceEqDiff, reduceIte, List.length_append, List.length_cons, List.length_nil, txtL_len, Nat.reduceAdd]; omega) | exact mIsRef_rf _ | exact rfl) only [↓s249_0, ↓s249_1, ↓s249_4, ↓s249_7, ↓s249_10, ↓s249_11, ↓s249_12, ↓s249_13, ↓s249_16, ↓s249_19, ↓s249_20, ↓s249_22, ↓s249_23, ↓s249_26, ↓s249_29, ↓s249_30, ↓s249_33, ↓s249_34, ↓s249_35, ↓s249_36, ↓s249_39, ↓s249_40, ↓s249_43, ↓s249_46, ↓s249_47, ↓s249_48, ↓s249_51, ↓s249_52, ↓s249_55, ↓s249_56, ↓s249_59, ↓s249_61, ↓s249_62, ↓s249_65, ↓s249_66, ↓s249_68, ↓s249_71, ↓s249_72, ↓s249_75, iL_26368, iL_40, wc_43, wg_43_23, wg_43_43, wg_43_53, wl_62, wl_73, wn_62, wn_73, wp_43_41, wp_43_42, ws_62, ws_73, mN1_int, mN1_ref, mN1_null, mN1_U, mN1_rf, mCats_nil, mCats_int, mCats_ref, mCats_null, mCats_long, mCats_rf, mIsRef_ref, mIsRef_null, mIsRef_va, mRf_ref, mRf_null, mRf_rf, true_and, and_true, true_or, or_true, eq_self_iff_true, mK_v, mK_0, Nat.reduceAdd, Nat.reduceLeDiff, Nat.zero_le, iL_0, iL_1, iL_m1, iI_add, iI_sub, iI_mul, iI_neg, updI_at, upA_at, upP_at, upR_at, Nat.reduceEqDiff, reduceIte, Int.reduceAdd, Int.reduceSub, Int.reduceMul, Int.reduceDiv, Int.reduceMod, Int.reduceLT, Int.reduceLE, Int.reduceEq, Int.reduceNeg, not_true_eq_false, not_false_eq_true, Decidable.not_not, iI_le, i1, p2, c237, d208]
theorem putL_lo : ∀ (l : List Int) (g : Nat → Int) (t : Int) (j : Nat), (j : Int) < t → putL g t l j = g j
  | [], _, _, _, _ => rfl
  | x :: l, g, t, j, h => by
    rw [putL, putL_lo l _ _ _ (by omega)]
    exact upE_ne (by omega)
theorem txtL_put : ∀ (l : List Int) (g : Nat → Int) (t : Nat), txtL (putL g t l) l.length t = l.map (fun x => x % 256)
  | [], _, _ => rfl
  | x :: l, g, t => by
    rw [putL, List.length_cons, txtL, List.map_cons]
    have e := txtL_put l (upE g (t : Int).toNat x) (t + 1)
    rw [show ((t + 1 : Nat) : Int) = (t : Int) + 1 by omega] at e
    rw [e, putL_lo _ _ _ _ (by omega), show ((t : Int).toNat) = t by omega, upE_same]
def ftL (l : List Int) : List Int := [208] ++ ((if (l.length : Int) ≤ 127 then [] else [129]) ++ ([(l.length : Int) % 256] ++ l.map (fun x => x % 256)))
theorem c250_l {v : Int32} (hb : G.2.2.2 ≤ b) (hA : RgA A) (hq : (I 46) = 0) (hz : 0 ≤ (I 53) ∧ (I 53) ≤ 255) : ∀ (d : Nat) (c : Int) (l : List Int), 0 ≤ c → c + d = (I 53) → l.length + d ≤ 299 →
    (mX G 250 75 [.ref (b + 43), .int v, .int (iI c)] [] (wH h0 b (lwI I 46 (l)) (lwA I A 46 44 (l)) P R o) n k Q ↔ mX G 250 99 [.ref (b + 43), .int v, .int (iI (I 53))] [] (wH h0 b (lwI I 46 (l ++ txtL (A 47) d c.toNat)) (lwA I A 46 44 (l ++ txtL (A 47) d c.toNat)) P R o) n k Q) := by
  intro d
  induction d with
  | zero =>
    intro c l h1 h2 h4
    obtain rfl : c = (I 53) := by omega
    rw [s250_75]
    simp (maxSteps := 1000000) (disch := first | assumption | omega | (simp only [updI_at, upA_at, lwI_at, Nat.reduceEqDiff, reduceIte, List.length_append, List.length_cons, List.length_nil, txtL_len, Nat.reduceAdd]; omega) | exact mIsRef_rf _ | exact rfl) only [↓s250_0, ↓s250_1, ↓s250_4, ↓s250_7, ↓s250_10, ↓s250_11, ↓s250_12, ↓s250_15, ↓s250_16, ↓s250_19, ↓s250_22, ↓s250_23, ↓s250_24, ↓s250_27, ↓s250_28, ↓s250_29, ↓s250_32, ↓s250_33, ↓s250_36, ↓s250_39, ↓s250_40, ↓s250_41, ↓s250_42, ↓s250_43, ↓s250_46, ↓s250_49, ↓s250_50, ↓s250_53, ↓s250_55, ↓s250_58, ↓s250_59, ↓s250_62, ↓s250_65, ↓s250_66, ↓s250_67, ↓s250_70, ↓s250_73, ↓s250_74, ↓s250_76, ↓s250_77, ↓s250_80, ↓s250_83, ↓s250_84, ↓s250_85, ↓s250_88, ↓s250_89, ↓s250_90, ↓s250_93, ↓s250_96, ↓s250_100, ↓s250_101, ↓s250_104, ↓s250_106, iL_127, iL_129, iL_2, iL_208, iL_26368, iL_27013, iL_27648, iL_36864, wc_43, wg_43_44, wg_43_54, wg_43_59, wg_43_60, wl_77, wn_77, wp_43_44, ws_77, mN1_int, mN1_ref, mN1_null, mN1_U, mN1_rf, mCats_nil, mCats_int, mCats_ref, mCats_null, mCats_long, mCats_rf, mIsRef_ref, mIsRef_null, mIsRef_va, mRf_ref, mRf_null, mRf_rf, true_and, and_true, true_or, or_true, eq_self_iff_true, mK_v, mK_0, Nat.reduceAdd, Nat.reduceLeDiff, Nat.zero_le, iL_0, iL_1, iL_m1, iI_add, iI_sub, iI_mul, iI_neg, updI_at, upA_at, upP_at, upR_at, Nat.reduceEqDiff, reduceIte, Int.reduceAdd, Int.reduceSub, Int.reduceMul, Int.reduceDiv, Int.reduceMod, Int.reduceLT, Int.reduceLE, Int.reduceEq, Int.reduceNeg, not_true_eq_false, not_false_eq_true, Decidable.not_not, iI_le, lwI_at, Int.le_refl, txtL, List.append_nil]
  | succ d ih =>
    intro c l h1 h2 h4
    have p : ¬ (I 53) ≤ c := by omega
    have g := hA 47 c.toNat
    rw [s250_75]
    simp (maxSteps := 1000000) (disch := first | assumption | omega | (simp only [updI_at, upA_at, lwI_at, Nat.reduceEqDiff, reduceIte, List.length_append, List.length_cons, List.length_nil, txtL_len, Nat.reduceAdd]; omega) | exact mIsRef_rf _ | exact rfl) only [↓s250_0, ↓s250_1, ↓s250_4, ↓s250_7, ↓s250_10, ↓s250_11, ↓s250_12, ↓s250_15, ↓s250_16, ↓s250_19, ↓s250_22, ↓s250_23, ↓s250_24, ↓s250_27, ↓s250_28, ↓s250_29, ↓s250_32, ↓s250_33, ↓s250_36, ↓s250_39, ↓s250_40, ↓s250_41, ↓s250_42, ↓s250_43, ↓s250_46, ↓s250_49, ↓s250_50, ↓s250_53, ↓s250_55, ↓s250_58, ↓s250_59, ↓s250_62, ↓s250_65, ↓s250_66, ↓s250_67, ↓s250_70, ↓s250_73, ↓s250_74, ↓s250_76, ↓s250_77, ↓s250_80, ↓s250_83, ↓s250_84, ↓s250_85, ↓s250_88, ↓s250_89, ↓s250_90, ↓s250_93, ↓s250_96, ↓s250_100, ↓s250_101, ↓s250_104, ↓s250_106, iL_127, iL_129, iL_2, iL_208, iL_26368, iL_27013, iL_27648, iL_36864, wc_43, wg_43_44, wg_43_54, wg_43_59, wg_43_60, wl_77, wn_77, wp_43_44, ws_77, mN1_int, mN1_ref, mN1_null, mN1_U, mN1_rf, mCats_nil, mCats_int, mCats_ref, mCats_null, mCats_long, mCats_rf, mIsRef_ref, mIsRef_null, mIsRef_va, mRf_ref, mRf_null, mRf_rf, true_and, and_true, true_or, or_true, eq_self_iff_true, mK_v, mK_0, Nat.reduceAdd, Nat.reduceLeDiff, Nat.zero_le, iL_0, iL_1, iL_m1, iI_add, iI_sub, iI_mul, iI_neg, updI_at, upA_at, upP_at, upR_at, Nat.reduceEqDiff, reduceIte, Int.reduceAdd, Int.reduceSub, Int.reduceMul, Int.reduceDiv, Int.reduceMod, Int.reduceLT, Int.reduceLE, Int.reduceEq, Int.reduceNeg, not_true_eq_false, not_false_eq_true, Decidable.not_not, iI_le, lwI_at, lwA_at, p, a204]
    rw [ih (c + 1) _ (by omega) (by omega) (by simp only [List.length_append, List.length_cons, List.length_nil]; omega), txtL, List.append_assoc, show (c + 1).toNat = c.toNat + 1 by omega]
    exact Iff.rfl
def fbI (I : Nat → Int) (A : Nat → Nat → Int) : Nat → Int := lwI (updI I 53 0) 53 (bodL I A)
def fbA (I : Nat → Int) (A : Nat → Nat → Int) : Nat → Nat → Int := lwA (updI I 53 0) A 53 47 (bodL I A)
def ftF (I : Nat → Int) (A : Nat → Nat → Int) : Z3 := if (I 50) < 0 then (26368, I, A) else if ¬ (I 41) = 1 then (27013, I, A) else if ¬ (I 50) = whL (bodL I A) then (27648 + whL (bodL I A), fbI I A, fbA I A)
  else (36864, updI (lwI (fbI I A) 46 (ftL (bodL I A))) 41 2, lwA (fbI I A) (fbA I A) 46 44 (ftL (bodL I A)))
theorem txtL_r255 (g : Nat → Int) : ∀ (d c : Nat), ∀ x ∈ txtL g d c, 0 ≤ x ∧ x ≤ 255
  | 0, _ => fun x h => by cases h
  | d + 1, c => fun x h => by
    rw [txtL] at h
    rcases List.mem_cons.mp h with q | q
    · omega
    · exact txtL_r255 g d (c + 1) x q
theorem tagL_r {t m : Int} : ∀ x ∈ tagL t m, 0 ≤ x ∧ x ≤ 255 := by
  intro x h
  unfold tagL at h
  split at h <;> simp only [List.mem_cons, List.not_mem_nil, or_false] at h <;> omega
theorem itmL_r (A : Nat → Nat → Int) : ∀ (d c : Nat), ∀ x ∈ itmL A d c, 0 ≤ x ∧ x ≤ 255
  | 0, _ => fun x h => by cases h
  | d + 1, c => fun x h => by
    rw [itmL] at h
    rcases List.mem_append.mp h with q | q
    · exact tagL_r x q
    · rcases List.mem_append.mp q with q | q
      · rw [List.mem_singleton] at q; omega
      · rcases List.mem_append.mp q with q | q
        · exact txtL_r255 _ _ _ x q
        · exact itmL_r A d (c + 1) x q
theorem evL_r (g : Nat → Int) : ∀ (d c : Nat), ∀ x ∈ evL g d c, 0 ≤ x ∧ x ≤ 255
  | 0, _ => fun x h => by cases h
  | d + 1, c => fun x h => by
    rw [evL] at h
    split at h
    · rcases List.mem_cons.mp h with q | q
      · omega
      · exact evL_r g d (c + 1) x q
    · exact evL_r g d (c + 1) x h
theorem app_r {l m : List Int} (h1 : ∀ x ∈ l, 0 ≤ x ∧ x ≤ 255) (h2 : ∀ x ∈ m, 0 ≤ x ∧ x ≤ 255) : ∀ x ∈ l ++ m, 0 ≤ x ∧ x ≤ 255 := fun x h => (List.mem_append.mp h).elim (h1 x) (h2 x)
theorem lit_r {l : List Int} (h : l.all (fun x => decide (0 ≤ x ∧ x ≤ 255)) = true) : ∀ x ∈ l, 0 ≤ x ∧ x ≤ 255 := fun x hx => by
  have := List.all_eq_true.mp h x hx
  exact of_decide_eq_true this
theorem titL_r (A : Nat → Nat → Int) (y : Int) : ∀ x ∈ titL A y, 0 ≤ x ∧ x ≤ 255 := by
  unfold titL; split
  · exact app_r tagL_r (txtL_r255 _ _ _)
  · intro x h; cases h
theorem msgL_r (A : Nat → Nat → Int) (y : Int) : ∀ x ∈ msgL A y, 0 ≤ x ∧ x ≤ 255 := by
  unfold msgL
  refine app_r tagL_r (app_r ?_ (txtL_r255 _ _ _))
  intro x h
  simp only [List.mem_cons, List.not_mem_nil, or_false] at h
  omega
theorem timL_r (A : Nat → Nat → Int) (y : Int) : ∀ x ∈ timL A y, 0 ≤ x ∧ x ≤ 255 := by
  unfold timL dcL
  refine app_r ?_ ?_
  · intro x h
    simp only [List.mem_cons, List.not_mem_nil, or_false] at h
    omega
  · split
    · intro x h
      simp only [List.mem_cons, List.not_mem_nil, or_false] at h
      omega
    · intro x h; cases h
theorem bodL_rng {I : Nat → Int} {A : Nat → Nat → Int} (hk : bok I A) : ∀ x ∈ bodL I A, 0 ≤ x ∧ x ≤ 255 := by
  unfold bodL
  split
  · refine app_r ?_ ?_
    · unfold hdL; intro x h
      simp only [List.mem_cons, List.not_mem_nil, or_false] at h
      omega
    · unfold menL
      exact app_r tagL_r (app_r (txtL_r255 _ _ _) (itmL_r _ _ _))
  · refine app_r ?_ ?_
    · unfold hdL; intro x h
      simp only [List.mem_cons, List.not_mem_nil, or_false] at h
      have : 0 ≤ (if (A 24) ((I 42)).toNat = 0 then 2 else if (A 24) ((I 42)).toNat = 3 then 131 else 130) ∧ (if (A 24) ((I 42)).toNat = 0 then 2 else if (A 24) ((I 42)).toNat = 3 then 131 else 130) ≤ (255 : Int) := by repeat' split <;> omega
      omega
    · unfold nodL
      split
      · exact app_r tagL_r (app_r (lit_r rfl) (txtL_r255 _ _ _))
      · split
        · refine app_r tagL_r (app_r (lit_r rfl) (app_r (txtL_r255 _ _ _) ?_))
          intro x h
          simp only [List.mem_cons, List.not_mem_nil, or_false] at h
          omega
        · split
          · exact app_r (titL_r _ _) (itmL_r _ _ _)
          · split
            · exact app_r (titL_r _ _) (msgL_r _ _)
            · split
              · exact timL_r _ _
              · split
                · exact app_r tagL_r (evL_r _ _ _)
                · intro x h; cases h
theorem c250_e {w : Int} (hb : G.2.2.2 ≤ b) (hM : iM I A) (hC : iCm I) (hs : (I 41) = 1) : mX G 250 42 [.ref (b + 43), .int (iI w), mU] [] (wH h0 b (fbI I A) (fbA I A) P R o) n k Q ↔ Q (.inl (some (.int (iI 36864))), wH h0 b (updI (lwI (fbI I A) 46 (ftL (bodL I A))) 41 2) (lwA (fbI I A) (fbA I A) 46 44 (ftL (bodL I A))) P R o, n, k) := by
  have hk : bok I A := bok_of hM.2.2.2.1 hM.2.2.2.2.1 (by omega)
  have bl := bodL_len hk
  have br := bodL_rng hk
  have hR : RgA (fbA I A) := lwI_RgA hM.1 (fun x hx => by have := br x hx; omega)
  have lo : fbI I A 53 = (bodL I A).length := by
    unfold fbI; rw [lwI_at, if_pos rfl, updI_at, if_pos rfl]; omega
  have ou : fbI I A 46 = 0 := hC.2.2.2.2
  have by1 : fbA I A 47 = putL (A 47) 0 (bodL I A) := rfl
  have tp := txtL_put (bodL I A) (A 47) 0
  rw [show ((0 : Nat) : Int) = 0 from rfl, ← by1] at tp
  generalize hl : bodL I A = l at *
  generalize hI : fbI I A = J at *
  generalize hB : fbA I A = B at *
  have e : wH h0 b J B P R o = wH h0 b (lwI J 46 []) (lwA J B 46 44 []) P R o := by rw [lwI_nil, lwA_nil]
  have z := fun Q' m => c250_l (G := G) (h0 := h0) (b := b) (n := n) (k := k) (Q := Q') (I := J) (A := B) (P := P) (R := R) (o := o) (v := iI w) hb hR ou (by omega) l.length 0 m (by omega) (by omega)
  rw [show (0 : Int).toNat = 0 from rfl, tp] at z
  rw [e]
  unfold ftL
  by_cases p : (l.length : Int) ≤ 127
  · rw [if_pos p]
    simp (maxSteps := 1000000) (disch := first | assumption | omega | (simp only [updI_at, upA_at, lwI_at, Nat.reduceEqDiff, reduceIte, List.length_append, List.length_cons, List.length_nil, txtL_len, Nat.reduceAdd]; omega) | exact mIsRef_rf _ | exact rfl) only [↓s250_0, ↓s250_1, ↓s250_4, ↓s250_7, ↓s250_10, ↓s250_11, ↓s250_12, ↓s250_15, ↓s250_16, ↓s250_19, ↓s250_22, ↓s250_23, ↓s250_24, ↓s250_27, ↓s250_28, ↓s250_29, ↓s250_32, ↓s250_33, ↓s250_36, ↓s250_39, ↓s250_40, ↓s250_41, ↓s250_42, ↓s250_43, ↓s250_46, ↓s250_49, ↓s250_50, ↓s250_53, ↓s250_55, ↓s250_58, ↓s250_59, ↓s250_62, ↓s250_65, ↓s250_66, ↓s250_67, ↓s250_70, ↓s250_73, ↓s250_74, ↓s250_76, ↓s250_77, ↓s250_80, ↓s250_83, ↓s250_84, ↓s250_85, ↓s250_88, ↓s250_89, ↓s250_90, ↓s250_93, ↓s250_96, ↓s250_99, ↓s250_100, ↓s250_101, ↓s250_104, ↓s250_106, iL_127, iL_129, iL_2, iL_208, iL_26368, iL_27013, iL_27648, iL_36864, wc_43, wg_43_44, wg_43_54, wg_43_59, wg_43_60, wl_77, wn_77, wp_43_44, ws_77, mN1_int, mN1_ref, mN1_null, mN1_U, mN1_rf, mCats_nil, mCats_int, mCats_ref, mCats_null, mCats_long, mCats_rf, mIsRef_ref, mIsRef_null, mIsRef_va, mRf_ref, mRf_null, mRf_rf, true_and, and_true, true_or, or_true, eq_self_iff_true, mK_v, mK_0, Nat.reduceAdd, Nat.reduceLeDiff, Nat.zero_le, iL_0, iL_1, iL_m1, iI_add, iI_sub, iI_mul, iI_neg, updI_at, upA_at, upP_at, upR_at, Nat.reduceEqDiff, reduceIte, Int.reduceAdd, Int.reduceSub, Int.reduceMul, Int.reduceDiv, Int.reduceMod, Int.reduceLT, Int.reduceLE, Int.reduceEq, Int.reduceNeg, not_true_eq_false, not_false_eq_true, Decidable.not_not, iI_le, lwI_at, a204, lo, ou, p, List.nil_append]
    rw [z _ _ (by simp only [List.length_append, List.length_cons, List.length_nil]; omega)]
    simp (maxSteps := 1000000) (disch := first | assumption | omega | (simp only [updI_at, upA_at, lwI_at, Nat.reduceEqDiff, reduceIte, List.length_append, List.length_cons, List.length_nil, txtL_len, Nat.reduceAdd]; omega) | exact mIsRef_rf _ | exact rfl) only [↓s250_0, ↓s250_1, ↓s250_4, ↓s250_7, ↓s250_10, ↓s250_11, ↓s250_12, ↓s250_15, ↓s250_16, ↓s250_19, ↓s250_22, ↓s250_23, ↓s250_24, ↓s250_27, ↓s250_28, ↓s250_29, ↓s250_32, ↓s250_33, ↓s250_36, ↓s250_39, ↓s250_40, ↓s250_41, ↓s250_42, ↓s250_43, ↓s250_46, ↓s250_49, ↓s250_50, ↓s250_53, ↓s250_55, ↓s250_58, ↓s250_59, ↓s250_62, ↓s250_65, ↓s250_66, ↓s250_67, ↓s250_70, ↓s250_73, ↓s250_74, ↓s250_76, ↓s250_77, ↓s250_80, ↓s250_83, ↓s250_84, ↓s250_85, ↓s250_88, ↓s250_89, ↓s250_90, ↓s250_93, ↓s250_96, ↓s250_99, ↓s250_100, ↓s250_101, ↓s250_104, ↓s250_106, iL_127, iL_129, iL_2, iL_208, iL_26368, iL_27013, iL_27648, iL_36864, wc_43, wg_43_44, wg_43_54, wg_43_59, wg_43_60, wl_77, wn_77, wp_43_44, ws_77, mN1_int, mN1_ref, mN1_null, mN1_U, mN1_rf, mCats_nil, mCats_int, mCats_ref, mCats_null, mCats_long, mCats_rf, mIsRef_ref, mIsRef_null, mIsRef_va, mRf_ref, mRf_null, mRf_rf, true_and, and_true, true_or, or_true, eq_self_iff_true, mK_v, mK_0, Nat.reduceAdd, Nat.reduceLeDiff, Nat.zero_le, iL_0, iL_1, iL_m1, iI_add, iI_sub, iI_mul, iI_neg, updI_at, upA_at, upP_at, upR_at, Nat.reduceEqDiff, reduceIte, Int.reduceAdd, Int.reduceSub, Int.reduceMul, Int.reduceDiv, Int.reduceMod, Int.reduceLT, Int.reduceLE, Int.reduceEq, Int.reduceNeg, not_true_eq_false, not_false_eq_true, Decidable.not_not, List.append_assoc]
  · rw [if_neg p]
    simp (maxSteps := 1000000) (disch := first | assumption | omega | (simp only [updI_at, upA_at, lwI_at, Nat.reduceEqDiff, reduceIte, List.length_append, List.length_cons, List.length_nil, txtL_len, Nat.reduceAdd]; omega) | exact mIsRef_rf _ | exact rfl) only [↓s250_0, ↓s250_1, ↓s250_4, ↓s250_7, ↓s250_10, ↓s250_11, ↓s250_12, ↓s250_15, ↓s250_16, ↓s250_19, ↓s250_22, ↓s250_23, ↓s250_24, ↓s250_27, ↓s250_28, ↓s250_29, ↓s250_32, ↓s250_33, ↓s250_36, ↓s250_39, ↓s250_40, ↓s250_41, ↓s250_42, ↓s250_43, ↓s250_46, ↓s250_49, ↓s250_50, ↓s250_53, ↓s250_55, ↓s250_58, ↓s250_59, ↓s250_62, ↓s250_65, ↓s250_66, ↓s250_67, ↓s250_70, ↓s250_73, ↓s250_74, ↓s250_76, ↓s250_77, ↓s250_80, ↓s250_83, ↓s250_84, ↓s250_85, ↓s250_88, ↓s250_89, ↓s250_90, ↓s250_93, ↓s250_96, ↓s250_99, ↓s250_100, ↓s250_101, ↓s250_104, ↓s250_106, iL_127, iL_129, iL_2, iL_208, iL_26368, iL_27013, iL_27648, iL_36864, wc_43, wg_43_44, wg_43_54, wg_43_59, wg_43_60, wl_77, wn_77, wp_43_44, ws_77, mN1_int, mN1_ref, mN1_null, mN1_U, mN1_rf, mCats_nil, mCats_int, mCats_ref, mCats_null, mCats_long, mCats_rf, mIsRef_ref, mIsRef_null, mIsRef_va, mRf_ref, mRf_null, mRf_rf, true_and, and_true, true_or, or_true, eq_self_iff_true, mK_v, mK_0, Nat.reduceAdd, Nat.reduceLeDiff, Nat.zero_le, iL_0, iL_1, iL_m1, iI_add, iI_sub, iI_mul, iI_neg, updI_at, upA_at, upP_at, upR_at, Nat.reduceEqDiff, reduceIte, Int.reduceAdd, Int.reduceSub, Int.reduceMul, Int.reduceDiv, Int.reduceMod, Int.reduceLT, Int.reduceLE, Int.reduceEq, Int.reduceNeg, not_true_eq_false, not_false_eq_true, Decidable.not_not, iI_le, lwI_at, a204, lo, ou, p, List.nil_append]
    rw [z _ _ (by simp only [List.length_append, List.length_cons, List.length_nil]; omega)]
    simp (maxSteps := 1000000) (disch := first | assumption | omega | (simp only [updI_at, upA_at, lwI_at, Nat.reduceEqDiff, reduceIte, List.length_append, List.length_cons, List.length_nil, txtL_len, Nat.reduceAdd]; omega) | exact mIsRef_rf _ | exact rfl) only [↓s250_0, ↓s250_1, ↓s250_4, ↓s250_7, ↓s250_10, ↓s250_11, ↓s250_12, ↓s250_15, ↓s250_16, ↓s250_19, ↓s250_22, ↓s250_23, ↓s250_24, ↓s250_27, ↓s250_28, ↓s250_29, ↓s250_32, ↓s250_33, ↓s250_36, ↓s250_39, ↓s250_40, ↓s250_41, ↓s250_42, ↓s250_43, ↓s250_46, ↓s250_49, ↓s250_50, ↓s250_53, ↓s250_55, ↓s250_58, ↓s250_59, ↓s250_62, ↓s250_65, ↓s250_66, ↓s250_67, ↓s250_70, ↓s250_73, ↓s250_74, ↓s250_76, ↓s250_77, ↓s250_80, ↓s250_83, ↓s250_84, ↓s250_85, ↓s250_88, ↓s250_89, ↓s250_90, ↓s250_93, ↓s250_96, ↓s250_99, ↓s250_100, ↓s250_101, ↓s250_104, ↓s250_106, iL_127, iL_129, iL_2, iL_208, iL_26368, iL_27013, iL_27648, iL_36864, wc_43, wg_43_44, wg_43_54, wg_43_59, wg_43_60, wl_77, wn_77, wp_43_44, ws_77, mN1_int, mN1_ref, mN1_null, mN1_U, mN1_rf, mCats_nil, mCats_int, mCats_ref, mCats_null, mCats_long, mCats_rf, mIsRef_ref, mIsRef_null, mIsRef_va, mRf_ref, mRf_null, mRf_rf, true_and, and_true, true_or, or_true, eq_self_iff_true, mK_v, mK_0, Nat.reduceAdd, Nat.reduceLeDiff, Nat.zero_le, iL_0, iL_1, iL_m1, iI_add, iI_sub, iI_mul, iI_neg, updI_at, upA_at, upP_at, upR_at, Nat.reduceEqDiff, reduceIte, Int.reduceAdd, Int.reduceSub, Int.reduceMul, Int.reduceDiv, Int.reduceMod, Int.reduceLT, Int.reduceLE, Int.reduceEq, Int.reduceNeg, not_true_eq_false, not_false_eq_true, Decidable.not_not, List.append_assoc]
theorem c250 (hb : G.2.2.2 ≤ b) (hM : iM I A) (hC : iCm I) : mX G 250 0 [.ref (b + 43), mU, mU] [] (wH h0 b I A P R o) n k Q ↔ Q (.inl (some (.int (iI (ftF I A).1))), wH h0 b (ftF I A).2.1 (ftF I A).2.2 P R o, n, k) := by
  have c4 := hC.2.2.2.1
  have s3 := hM.2.2.2.2.1.1
  unfold ftF
  by_cases p1 : (I 50) < 0
  · rw [if_pos p1]
    simp (maxSteps := 1000000) (disch := first | assumption | omega | (simp only [updI_at, upA_at, lwI_at, Nat.reduceEqDiff, reduceIte, List.length_append, List.length_cons, List.length_nil, txtL_len, Nat.reduceAdd]; omega) | exact mIsRef_rf _ | exact rfl) only [↓s250_0, ↓s250_1, ↓s250_4, ↓s250_7, ↓s250_10, ↓s250_11, ↓s250_12, ↓s250_15, ↓s250_16, ↓s250_19, ↓s250_22, ↓s250_23, ↓s250_24, ↓s250_27, ↓s250_28, ↓s250_29, ↓s250_32, ↓s250_33, ↓s250_36, ↓s250_39, ↓s250_40, ↓s250_41, ↓s250_42, ↓s250_43, ↓s250_46, ↓s250_49, ↓s250_50, ↓s250_53, ↓s250_55, ↓s250_58, ↓s250_59, ↓s250_62, ↓s250_65, ↓s250_66, ↓s250_67, ↓s250_70, ↓s250_73, ↓s250_74, ↓s250_76, ↓s250_77, ↓s250_80, ↓s250_83, ↓s250_84, ↓s250_85, ↓s250_88, ↓s250_89, ↓s250_90, ↓s250_93, ↓s250_96, ↓s250_99, ↓s250_100, ↓s250_101, ↓s250_104, ↓s250_106, iL_127, iL_129, iL_2, iL_208, iL_26368, iL_27013, iL_27648, iL_36864, wc_43, wg_43_44, wg_43_54, wg_43_59, wg_43_60, wl_77, wn_77, wp_43_44, ws_77, mN1_int, mN1_ref, mN1_null, mN1_U, mN1_rf, mCats_nil, mCats_int, mCats_ref, mCats_null, mCats_long, mCats_rf, mIsRef_ref, mIsRef_null, mIsRef_va, mRf_ref, mRf_null, mRf_rf, true_and, and_true, true_or, or_true, eq_self_iff_true, mK_v, mK_0, Nat.reduceAdd, Nat.reduceLeDiff, Nat.zero_le, iL_0, iL_1, iL_m1, iI_add, iI_sub, iI_mul, iI_neg, updI_at, upA_at, upP_at, upR_at, Nat.reduceEqDiff, reduceIte, Int.reduceAdd, Int.reduceSub, Int.reduceMul, Int.reduceDiv, Int.reduceMod, Int.reduceLT, Int.reduceLE, Int.reduceEq, Int.reduceNeg, not_true_eq_false, not_false_eq_true, Decidable.not_not, iI_le, Int.not_le.mpr p1]
  · rw [if_neg p1]
    have p1' := Int.not_lt.mp p1
    by_cases p2 : (I 41) = 1
    · rw [if_neg (fun t => t p2)]
      have hA := hM.1
      have hk : bok I A := bok_of hM.2.2.2.1 hM.2.2.2.2.1 (by omega)
      have bl := bodL_len hk
      have wl := whL_rng bl.2
      have z : ∀ Q' : mR → Prop, mX G 248 0 [.ref (b + 43)] [] (wH h0 b I A P R o) n k Q' ↔ Q' (.inl (some (.int (iI (whL (bodL I A))))), wH h0 b (fbI I A) (fbA I A) P R o, n, k) := fun Q' => c248 hb hA hk
      have wa : fbI I A 50 = (I 50) := rfl
      by_cases p3 : (I 50) = whL (bodL I A)
      · rw [if_neg (fun t => t p3), ← c250_e (Q := Q) (w := whL (bodL I A)) hb hM hC p2]
        simp (maxSteps := 1000000) (disch := first | assumption | omega | (simp only [updI_at, upA_at, lwI_at, Nat.reduceEqDiff, reduceIte, List.length_append, List.length_cons, List.length_nil, txtL_len, Nat.reduceAdd]; omega) | exact mIsRef_rf _ | exact rfl) only [↓s250_0, ↓s250_1, ↓s250_4, ↓s250_7, ↓s250_10, ↓s250_11, ↓s250_12, ↓s250_15, ↓s250_16, ↓s250_19, ↓s250_22, ↓s250_23, ↓s250_24, ↓s250_27, ↓s250_28, ↓s250_29, ↓s250_32, ↓s250_33, ↓s250_36, ↓s250_39, ↓s250_40, ↓s250_41, ↓s250_43, ↓s250_46, ↓s250_49, ↓s250_50, ↓s250_53, ↓s250_55, ↓s250_58, ↓s250_59, ↓s250_62, ↓s250_65, ↓s250_66, ↓s250_67, ↓s250_70, ↓s250_73, ↓s250_74, ↓s250_76, ↓s250_77, ↓s250_80, ↓s250_83, ↓s250_84, ↓s250_85, ↓s250_88, ↓s250_89, ↓s250_90, ↓s250_93, ↓s250_96, ↓s250_99, ↓s250_100, ↓s250_101, ↓s250_104, ↓s250_106, iL_127, iL_129, iL_2, iL_208, iL_26368, iL_27013, iL_27648, iL_36864, wc_43, wg_43_44, wg_43_54, wg_43_59, wg_43_60, wl_77, wn_77, wp_43_44, ws_77, mN1_int, mN1_ref, mN1_null, mN1_U, mN1_rf, mCats_nil, mCats_int, mCats_ref, mCats_null, mCats_long, mCats_rf, mIsRef_ref, mIsRef_null, mIsRef_va, mRf_ref, mRf_null, mRf_rf, true_and, and_true, true_or, or_true, eq_self_iff_true, mK_v, mK_0, Nat.reduceAdd, Nat.reduceLeDiff, Nat.zero_le, iL_0, iL_1, iL_m1, iI_add, iI_sub, iI_mul, iI_neg, updI_at, upA_at, upP_at, upR_at, Nat.reduceEqDiff, reduceIte, Int.reduceAdd, Int.reduceSub, Int.reduceMul, Int.reduceDiv, Int.reduceMod, Int.reduceLT, Int.reduceLE, Int.reduceEq, Int.reduceNeg, not_true_eq_false, not_false_eq_true, Decidable.not_not, iI_le, iI_eq, p1', eq_true p2, z, wa, eq_true p3]
      · rw [if_pos p3]
        have e := iI_or8 (x := 108) (y := whL (bodL I A)) (by omega) (by omega) (by omega) (by omega)
        rw [show (108 : Int) * 256 = 27648 from rfl] at e
        simp (maxSteps := 1000000) (disch := first | assumption | omega | (simp only [updI_at, upA_at, lwI_at, Nat.reduceEqDiff, reduceIte, List.length_append, List.length_cons, List.length_nil, txtL_len, Nat.reduceAdd]; omega) | exact mIsRef_rf _ | exact rfl) only [↓s250_0, ↓s250_1, ↓s250_4, ↓s250_7, ↓s250_10, ↓s250_11, ↓s250_12, ↓s250_15, ↓s250_16, ↓s250_19, ↓s250_22, ↓s250_23, ↓s250_24, ↓s250_27, ↓s250_28, ↓s250_29, ↓s250_32, ↓s250_33, ↓s250_36, ↓s250_39, ↓s250_40, ↓s250_41, ↓s250_43, ↓s250_46, ↓s250_49, ↓s250_50, ↓s250_53, ↓s250_55, ↓s250_58, ↓s250_59, ↓s250_62, ↓s250_65, ↓s250_66, ↓s250_67, ↓s250_70, ↓s250_73, ↓s250_74, ↓s250_76, ↓s250_77, ↓s250_80, ↓s250_83, ↓s250_84, ↓s250_85, ↓s250_88, ↓s250_89, ↓s250_90, ↓s250_93, ↓s250_96, ↓s250_99, ↓s250_100, ↓s250_101, ↓s250_104, ↓s250_106, iL_127, iL_129, iL_2, iL_208, iL_26368, iL_27013, iL_27648, iL_36864, wc_43, wg_43_44, wg_43_54, wg_43_59, wg_43_60, wl_77, wn_77, wp_43_44, ws_77, mN1_int, mN1_ref, mN1_null, mN1_U, mN1_rf, mCats_nil, mCats_int, mCats_ref, mCats_null, mCats_long, mCats_rf, mIsRef_ref, mIsRef_null, mIsRef_va, mRf_ref, mRf_null, mRf_rf, true_and, and_true, true_or, or_true, eq_self_iff_true, mK_v, mK_0, Nat.reduceAdd, Nat.reduceLeDiff, Nat.zero_le, iL_0, iL_1, iL_m1, iI_add, iI_sub, iI_mul, iI_neg, updI_at, upA_at, upP_at, upR_at, Nat.reduceEqDiff, reduceIte, Int.reduceAdd, Int.reduceSub, Int.reduceMul, Int.reduceDiv, Int.reduceMod, Int.reduceLT, Int.reduceLE, Int.reduceEq, Int.reduceNeg, not_true_eq_false, not_false_eq_true, Decidable.not_not, iI_le, iI_eq, p1', eq_true p2, z, wa, p3, e]
    · rw [if_pos p2]
      simp (maxSteps := 1000000) (disch := first | assumption | omega | (simp only [updI_at, upA_at, lwI_at, Nat.reduceEqDiff, reduceIte, List.length_append, List.length_cons, List.length_nil, txtL_len, Nat.reduceAdd]; omega) | exact mIsRef_rf _ | exact rfl) only [↓s250_0, ↓s250_1, ↓s250_4, ↓s250_7, ↓s250_10, ↓s250_11, ↓s250_12, ↓s250_15, ↓s250_16, ↓s250_19, ↓s250_22, ↓s250_23, ↓s250_24, ↓s250_27, ↓s250_28, ↓s250_29, ↓s250_32, ↓s250_33, ↓s250_36, ↓s250_39, ↓s250_40, ↓s250_41, ↓s250_43, ↓s250_46, ↓s250_49, ↓s250_50, ↓s250_53, ↓s250_55, ↓s250_58, ↓s250_59, ↓s250_62, ↓s250_65, ↓s250_66, ↓s250_67, ↓s250_70, ↓s250_73, ↓s250_74, ↓s250_76, ↓s250_77, ↓s250_80, ↓s250_83, ↓s250_84, ↓s250_85, ↓s250_88, ↓s250_89, ↓s250_90, ↓s250_93, ↓s250_96, ↓s250_99, ↓s250_100, ↓s250_101, ↓s250_104, ↓s250_106, iL_127, iL_129, iL_2, iL_208, iL_26368, iL_27013, iL_27648, iL_36864, wc_43, wg_43_44, wg_43_54, wg_43_59, wg_43_60, wl_77, wn_77, wp_43_44, ws_77, mN1_int, mN1_ref, mN1_null, mN1_U, mN1_rf, mCats_nil, mCats_int, mCats_ref, mCats_null, mCats_long, mCats_rf, mIsRef_ref, mIsRef_null, mIsRef_va, mRf_ref, mRf_null, mRf_rf, true_and, and_true, true_or, or_true, eq_self_iff_true, mK_v, mK_0, Nat.reduceAdd, Nat.reduceLeDiff, Nat.zero_le, iL_0, iL_1, iL_m1, iI_add, iI_sub, iI_mul, iI_neg, updI_at, upA_at, upP_at, upR_at, Nat.reduceEqDiff, reduceIte, Int.reduceAdd, Int.reduceSub, Int.reduceMul, Int.reduceDiv, Int.reduceMod, Int.reduceLT, Int.reduceLE, Int.reduceEq, Int.reduceNeg, not_true_eq_false, not_false_eq_true, Decidable.not_not, iI_le, iI_eq, p1', p2]
end MPROF
