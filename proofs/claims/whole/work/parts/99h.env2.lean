/-! Class: timerExpiration, ordersOf, nextOrder. -/
section MENV2
variable {G : mG} {h h0 : mH} {n k b : Nat} {Q : mR → Prop} {I : Nat → Int} {A : Nat → Nat → Int} {P : Nat → Nat} {R : Nat → Option Nat} {o : Nat → Int64}
section
variable {J : Nat → Int} {B : Nat → Nat → Int} {fa : Nat → Nat} {W : Nat → Nat → Nat → Nat} {V : Nat → Nat → Nat → Nat → Int} {X : Nat → Nat → Option Nat} {cap : Nat} {ng : Nat → Option Nat}
abbrev tiV (B : Nat → Nat → Int) : Int := B 14 (B 45 36).toNat
theorem d145 (hb : G.2.2.2 ≤ b) (hd : dNo G h0 b (P 3) J B fa W V X cap ng) (hn : (I 18) = J 31) (hM : iM J B) (hT : sTy G h0 b) (hg : sTg G h0 b 4 K5) (hp : pfR I A J B) (hm : 0 ≤ (I 21) ∧ (I 21) ≤ 254) (hq : rqR I A R b J B) (hL : iTl A) (hr : tR K5 (J 49) A J B) (hl5 : ∀ j, 0 ≤ (A 10) j ∧ (A 10) j ≤ 300) (hRn : ∀ j : Nat, j < 9 → (A 8) j = B 40 j) (hR0 : (A 8) 0 = 0) (hR1 : ∀ j, 0 ≤ (A 8) j ∧ (A 8) j ≤ 1) (hTi : ∀ j : Nat, j < 9 → (A 5) j = B 39 j) : mX G 145 0 [.ref (b + 34), mU, mU] [] (wH h0 b I A P R o) n k Q ↔
    if ¬ atF J B 36 = 36864 then Q (.inl (some (.int (iI (atF J B 36)))), wH h0 b I A P R o, n, k) else if ¬ B 46 36 = 1 ∨ ¬ ((1 ≤ tiV B ∧ tiV B ≤ 8) ∧ ¬ B 40 (tiV B).toNat = 0) then Q (.inl (some (.int (iI 27264))), wH h0 b I A P R o, n, k)
    else Q (.inl (some (.int (iI 36864))), wH h0 b (stC I (stN J (upA B 40 (upE (B 40) (tiV B).toNat 0)) 17 (B 39 (tiV B).toNat))) (upA A 8 (upE (A 8) (tiV B).toNat 0)) P (stR R W (stN J (upA B 40 (upE (B 40) (tiV B).toNat 0)) 17 (B 39 (tiV B).toNat))) o, n, k) := by
  have k36 : K5 ((36 : Nat) : Int) := Or.inr (Or.inl rfl)
  have za : ∀ Q' : mR → Prop, mX G 141 0 [.ref (b + 34), .ref (G.2.2.1 4), .int (iI 36)] [] (wH h0 b I A P R o) n k Q' ↔ Q' (.inl (some (.int (iI (atF J B 36)))), wH h0 b I A P R o, n, k) := fun Q' => d141 (x := 36) hg hL hr (by decide) k36
  have ar := atF_rng J B 36
  by_cases p : atF J B 36 = 36864
  · rw [if_neg (fun t => t p)]
    rw [p] at za
    have t36 := atF_ok p
    have th := tg_has hr (t := 36) (by decide) k36 t36
    have lr := hM.2.2.2.2.2.1.2.1 36
    have zl := fun Q' => d122 (G := G) (h0 := h0) (b := b) (n := n) (k := k) (Q := Q') (I := I) (A := A) (P := P) (R := R) (o := o) (x := 36) (by omega)
    rw [show (36 : Int).toNat = 36 from rfl, ← th.2.2] at zl
    by_cases q : B 46 36 = 1
    · have gt := hM.2.2.2.2.2.2 (B 45 36).toNat
      have zv := fun Q' => tg_val (G := G) (h0 := h0) (n := n) (k := k) (Q := Q') (P := P) (o := o) (t := 36) (i := 0) hq hL hr (by decide) k36 t36 (by omega) (by omega)
      rw [Int.add_zero, show ((36 : Nat) : Int) = 36 from rfl] at zv
      unfold tiV
      generalize B 14 (B 45 36).toNat = v at *
      have z114 := fun Q' => d114 (G := G) (h0 := h0) (b := b) (n := n) (k := k) (Q := Q') (I := I) (A := A) (P := P) (R := R) (o := o) (x := v) (by omega) hR1
      have eq : ((0 ≤ v ∧ v < 9) ∧ ¬ (A 8) v.toNat = 0) ↔ ((1 ≤ v ∧ v ≤ 8) ∧ ¬ B 40 v.toNat = 0) := by
        constructor
        · intro ⟨w1, w2⟩
          have nz : ¬ v = 0 := by
            intro w; rw [w] at w2; exact w2 hR0
          refine ⟨by omega, ?_⟩
          rw [← hRn v.toNat (by omega)]; exact w2
        · intro ⟨w1, w2⟩
          refine ⟨by omega, ?_⟩
          rw [hRn v.toNat (by omega)]; exact w2
      by_cases r : (1 ≤ v ∧ v ≤ 8) ∧ ¬ B 40 v.toNat = 0
      · rw [if_neg (fun t => t.elim (fun t => t q) (fun t => t r))]
        simp only [bI_t (eq.mpr r)] at z114
        have z115 := fun Q' => d115 (G := G) (h0 := h0) (b := b) (n := n) (k := k) (Q := Q') (I := I) (A := A) (P := P) (R := R) (o := o) (x := v) (y := 0) hb (by omega) (Or.inl rfl)
        simp only [eq_true r.1, if_true] at z115
        have z70 := fun Q' => d70 (G := G) (h0 := h0) (b := b) (n := n) (k := k) (Q := Q') (I := I) (A := upA A 8 (upE (A 8) v.toNat 0)) (P := P) (R := R) (o := o) (x := v) (by omega)
        have ev : (if 0 ≤ v ∧ v < 9 then upA A 8 (upE (A 8) v.toNat 0) 5 v.toNat else -1) = B 39 v.toNat := by
          rw [if_pos (by omega), upA_at, if_neg (by decide), hTi _ (by omega)]
        rw [ev] at z70
        have tr := hM.2.2.2.1.2.2.2.2.2.2.2.1 v.toNat (by omega)
        have hM2 := iM_run (i := v.toNat) (x := 0) hM (by omega)
        have hp2 : pfR I (upA A 8 (upE (A 8) v.toNat 0)) J (upA B 40 (upE (B 40) v.toNat 0)) := hp
        have z106 := fun Q' => d106 (n := n) (k := k) (Q := Q') (J := J) (B := upA B 40 (upE (B 40) v.toNat 0)) (I := I) (A := upA A 8 (upE (A 8) v.toNat 0)) (R := R) (o := o) (x := B 39 v.toNat) hb hd hn hM2 hT hp2 hm (by omega)
        generalize upA B 40 (upE (B 40) v.toNat 0) = B1 at *
        generalize upA A 8 (upE (A 8) v.toNat 0) = A1 at *
        simp (maxSteps := 1000000) (disch := first | omega | (simp only [updI_at, upA_at, Nat.reduceEqDiff, reduceIte]; omega) | exact mIsRef_rf _ | exact rfl) only [↓s145_0, ↓s145_1, ↓s145_4, ↓s145_6r, ↓s145_9, ↓s145_10, ↓s145_11, ↓s145_13, ↓s145_16, ↓s145_17, ↓s145_18, ↓s145_19, ↓s145_22, ↓s145_24, ↓s145_25, ↓s145_28, ↓s145_29, ↓s145_30, ↓s145_33, ↓s145_35, ↓s145_38, ↓s145_39, ↓s145_42, ↓s145_43, ↓s145_46, ↓s145_47, ↓s145_50, ↓s145_53, ↓s145_56, ↓s145_57, ↓s145_58, ↓s145_61, ↓s145_62, ↓s145_63, ↓s145_66, ↓s145_67, ↓s145_70, ↓s145_71, ↓s145_74, ↓s145_75, ↓s145_78, ↓s145_81, ↓s145_83, iL_27264, iL_36, iL_36864, wc_17, wc_28, wc_34, wc_35, wg_34_1, wg_34_2, wg_34_4, mN1_int, mN1_ref, mN1_null, mN1_U, mN1_rf, mCats_nil, mCats_int, mCats_ref, mCats_null, mCats_long, mCats_rf, mIsRef_ref, mIsRef_null, mIsRef_va, mRf_ref, mRf_null, mRf_rf, true_and, and_true, true_or, or_true, eq_self_iff_true, mK_v, mK_0, Nat.reduceAdd, Nat.reduceLeDiff, Nat.zero_le, iL_0, iL_1, iL_m1, iI_add, iI_sub, iI_mul, iI_neg, updI_at, upA_at, upP_at, upR_at, Nat.reduceEqDiff, reduceIte, Int.reduceAdd, Int.reduceSub, Int.reduceMul, Int.reduceDiv, Int.reduceMod, Int.reduceLT, Int.reduceLE, Int.reduceEq, Int.reduceNeg, not_true_eq_false, not_false_eq_true, Decidable.not_not, za, zl, zv, iI_eq, eq_true q, z114, z115, z70, z106]
      · rw [if_pos (Or.inr r)]
        simp only [bI_f (fun t => r (eq.mp t))] at z114
        simp (maxSteps := 1000000) (disch := first | omega | (simp only [updI_at, upA_at, Nat.reduceEqDiff, reduceIte]; omega) | exact mIsRef_rf _ | exact rfl) only [↓s145_0, ↓s145_1, ↓s145_4, ↓s145_6r, ↓s145_9, ↓s145_10, ↓s145_11, ↓s145_13, ↓s145_16, ↓s145_17, ↓s145_18, ↓s145_19, ↓s145_22, ↓s145_24, ↓s145_25, ↓s145_28, ↓s145_29, ↓s145_30, ↓s145_33, ↓s145_35, ↓s145_38, ↓s145_39, ↓s145_42, ↓s145_43, ↓s145_46, ↓s145_47, ↓s145_50, ↓s145_53, ↓s145_56, ↓s145_57, ↓s145_58, ↓s145_61, ↓s145_62, ↓s145_63, ↓s145_66, ↓s145_67, ↓s145_70, ↓s145_71, ↓s145_74, ↓s145_75, ↓s145_78, ↓s145_81, ↓s145_83, iL_27264, iL_36, iL_36864, wc_17, wc_28, wc_34, wc_35, wg_34_1, wg_34_2, wg_34_4, mN1_int, mN1_ref, mN1_null, mN1_U, mN1_rf, mCats_nil, mCats_int, mCats_ref, mCats_null, mCats_long, mCats_rf, mIsRef_ref, mIsRef_null, mIsRef_va, mRf_ref, mRf_null, mRf_rf, true_and, and_true, true_or, or_true, eq_self_iff_true, mK_v, mK_0, Nat.reduceAdd, Nat.reduceLeDiff, Nat.zero_le, iL_0, iL_1, iL_m1, iI_add, iI_sub, iI_mul, iI_neg, updI_at, upA_at, upP_at, upR_at, Nat.reduceEqDiff, reduceIte, Int.reduceAdd, Int.reduceSub, Int.reduceMul, Int.reduceDiv, Int.reduceMod, Int.reduceLT, Int.reduceLE, Int.reduceEq, Int.reduceNeg, not_true_eq_false, not_false_eq_true, Decidable.not_not, za, zl, zv, iI_eq, eq_true q, z114]
    · rw [if_pos (Or.inl q)]
      obtain ⟨⟨q1, q2⟩, q3, q4, q5⟩ := hq
      have zv := fun Q' => d123 (G := G) (h0 := h0) (b := b) (n := n) (k := k) (Q := Q') (I := I) (A := A) (P := P) (R := R) (o := o) (x := 36) (i := 0) q4 (by omega) q5 (by omega) (by omega) (hL.1 36) (hl5 36)
      generalize (if (0 : Int) < (A 10) (36 : Int).toNat then rget (I 7) (A 1) ((A 9) (36 : Int).toNat + 0) else -1) = kk at *
      simp (maxSteps := 1000000) (disch := first | omega | (simp only [updI_at, upA_at, Nat.reduceEqDiff, reduceIte]; omega) | exact mIsRef_rf _ | exact rfl) only [↓s145_0, ↓s145_1, ↓s145_4, ↓s145_6r, ↓s145_9, ↓s145_10, ↓s145_11, ↓s145_13, ↓s145_16, ↓s145_17, ↓s145_18, ↓s145_19, ↓s145_22, ↓s145_24, ↓s145_25, ↓s145_28, ↓s145_29, ↓s145_30, ↓s145_33, ↓s145_35, ↓s145_38, ↓s145_39, ↓s145_42, ↓s145_43, ↓s145_46, ↓s145_47, ↓s145_50, ↓s145_53, ↓s145_56, ↓s145_57, ↓s145_58, ↓s145_61, ↓s145_62, ↓s145_63, ↓s145_66, ↓s145_67, ↓s145_70, ↓s145_71, ↓s145_74, ↓s145_75, ↓s145_78, ↓s145_81, ↓s145_83, iL_27264, iL_36, iL_36864, wc_17, wc_28, wc_34, wc_35, wg_34_1, wg_34_2, wg_34_4, mN1_int, mN1_ref, mN1_null, mN1_U, mN1_rf, mCats_nil, mCats_int, mCats_ref, mCats_null, mCats_long, mCats_rf, mIsRef_ref, mIsRef_null, mIsRef_va, mRf_ref, mRf_null, mRf_rf, true_and, and_true, true_or, or_true, eq_self_iff_true, mK_v, mK_0, Nat.reduceAdd, Nat.reduceLeDiff, Nat.zero_le, iL_0, iL_1, iL_m1, iI_add, iI_sub, iI_mul, iI_neg, updI_at, upA_at, upP_at, upR_at, Nat.reduceEqDiff, reduceIte, Int.reduceAdd, Int.reduceSub, Int.reduceMul, Int.reduceDiv, Int.reduceMod, Int.reduceLT, Int.reduceLE, Int.reduceEq, Int.reduceNeg, not_true_eq_false, not_false_eq_true, Decidable.not_not, za, zl, zv, iI_eq, q]
  · rw [if_pos p]
    simp (maxSteps := 1000000) (disch := first | omega | (simp only [updI_at, upA_at, Nat.reduceEqDiff, reduceIte]; omega) | exact mIsRef_rf _ | exact rfl) only [↓s145_0, ↓s145_1, ↓s145_4, ↓s145_6r, ↓s145_9, ↓s145_10, ↓s145_11, ↓s145_13, ↓s145_16, ↓s145_17, ↓s145_18, ↓s145_19, ↓s145_22, ↓s145_24, ↓s145_25, ↓s145_28, ↓s145_29, ↓s145_30, ↓s145_33, ↓s145_35, ↓s145_38, ↓s145_39, ↓s145_42, ↓s145_43, ↓s145_46, ↓s145_47, ↓s145_50, ↓s145_53, ↓s145_56, ↓s145_57, ↓s145_58, ↓s145_61, ↓s145_62, ↓s145_63, ↓s145_66, ↓s145_67, ↓s145_70, ↓s145_71, ↓s145_74, ↓s145_75, ↓s145_78, ↓s145_81, ↓s145_83, iL_27264, iL_36, iL_36864, wc_17, wc_28, wc_34, wc_35, wg_34_1, wg_34_2, wg_34_4, mN1_int, mN1_ref, mN1_null, mN1_U, mN1_rf, mCats_nil, mCats_int, mCats_ref, mCats_null, mCats_long, mCats_rf, mIsRef_ref, mIsRef_null, mIsRef_va, mRf_ref, mRf_null, mRf_rf, true_and, and_true, true_or, or_true, eq_self_iff_true, mK_v, mK_0, Nat.reduceAdd, Nat.reduceLeDiff, Nat.zero_le, iL_0, iL_1, iL_m1, iI_add, iI_sub, iI_mul, iI_neg, updI_at, upA_at, upP_at, upR_at, Nat.reduceEqDiff, reduceIte, Int.reduceAdd, Int.reduceSub, Int.reduceMul, Int.reduceDiv, Int.reduceMod, Int.reduceLT, Int.reduceLE, Int.reduceEq, Int.reduceNeg, not_true_eq_false, not_false_eq_true, Decidable.not_not, za, iI_eq, p]
theorem d149 {x : Int} (hl : 0 ≤ (I 7) ∧ (I 7) ≤ 255) (hx : 0 ≤ x ∧ x ≤ 1000) : mX G 149 0 [.ref (b + 4), .int (iI x)] [] (wH h0 b I A P R o) n k Q ↔ Q (.inl (some (.int (iI (x + 2 + rget (I 7) (A 1) (x + 1))))), wH h0 b I A P R o, n, k) := by
  simp (maxSteps := 1000000) (disch := first | omega | (simp only [updI_at, upA_at, Nat.reduceEqDiff, reduceIte]; omega) | exact mIsRef_rf _ | exact rfl) only [↓s149_0, ↓s149_1, ↓s149_2, ↓s149_3, ↓s149_4, ↓s149_5, ↓s149_6, ↓s149_7, ↓s149_10, ↓s149_11, iL_2, wc_1, wc_12, wc_14, wc_29, wc_31, wc_39, wc_4, wc_41, mN1_int, mN1_ref, mN1_null, mN1_U, mN1_rf, mCats_nil, mCats_int, mCats_ref, mCats_null, mCats_long, mCats_rf, mIsRef_ref, mIsRef_null, mIsRef_va, mRf_ref, mRf_null, mRf_rf, true_and, and_true, true_or, or_true, eq_self_iff_true, mK_v, mK_0, Nat.reduceAdd, Nat.reduceLeDiff, Nat.zero_le, iL_0, iL_1, iL_m1, iI_add, iI_sub, iI_mul, iI_neg, updI_at, upA_at, upP_at, upR_at, Nat.reduceEqDiff, reduceIte, Int.reduceAdd, Int.reduceSub, Int.reduceMul, Int.reduceDiv, Int.reduceMod, Int.reduceLT, Int.reduceLE, Int.reduceEq, Int.reduceNeg, not_true_eq_false, not_false_eq_true, Decidable.not_not, d80_4]
end
end MENV2
