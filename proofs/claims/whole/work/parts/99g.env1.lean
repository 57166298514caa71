/-! Class: menuSelection, event, timerExpiration. -/
section MENV1
variable {G : mG} {h h0 : mH} {n k b : Nat} {Q : mR → Prop} {I : Nat → Int} {A : Nat → Nat → Int} {P : Nat → Nat} {R : Nat → Option Nat} {o : Nat → Int64}
section
variable {J : Nat → Int} {B : Nat → Nat → Int} {fa : Nat → Nat} {W : Nat → Nat → Nat → Nat} {V : Nat → Nat → Nat → Nat → Int} {X : Nat → Nat → Option Nat} {cap : Nat} {ng : Nat → Option Nat}
def atF (J : Nat → Int) (B : Nat → Nat → Int) (x : Nat) : Int := if ¬ J 51 = 0 then 27265 else if B 46 x < 0 then 27272 else 36864
theorem atF_rng (J : Nat → Int) (B : Nat → Nat → Int) (x : Nat) : 0 ≤ atF J B x ∧ atF J B x ≤ 65535 := by
  unfold atF
  repeat' split
  all_goals omega
theorem atF_ok {x : Nat} (h : atF J B x = 36864) : ¬ B 46 x < 0 := by
  unfold atF at h
  split at h
  · omega
  · split at h
    · omega
    · assumption
theorem d143 (hb : G.2.2.2 ≤ b) (hd : dNo G h0 b (P 3) J B fa W V X cap ng) (hn : (I 18) = J 31) (hM : iM J B) (hT : sTy G h0 b) (hg : sTg G h0 b 2 K3) (hp : pfR I A J B) (hm : 0 ≤ (I 21) ∧ (I 21) ≤ 254) (hq : rqR I A R b J B) (hL : iTl A) (hr : tR K3 (J 49) A J B) : mX G 143 0 [.ref (b + 34), mU, mU] [] (wH h0 b I A P R o) n k Q ↔
    if ¬ atF J B 16 = 36864 then Q (.inl (some (.int (iI (atF J B 16)))), wH h0 b I A P R o, n, k) else if plF B V 40 = -1 then Q (.inl (some (.int (iI 27264))), wH h0 b I A P R o, n, k)
    else Q (.inl (some (.int (iI 36864))), wH h0 b (stC I (stN J B 17 (B 34 (200 + (plF B V 40).toNat)))) A P (stR R W (stN J B 17 (B 34 (200 + (plF B V 40).toNat)))) o, n, k) := by
  have k16 : K3 ((16 : Nat) : Int) := Or.inr (Or.inl rfl)
  have za : ∀ Q' : mR → Prop, mX G 141 0 [.ref (b + 34), .ref (G.2.2.1 2), .int (iI 16)] [] (wH h0 b I A P R o) n k Q' ↔ Q' (.inl (some (.int (iI (atF J B 16)))), wH h0 b I A P R o, n, k) := fun Q' => d141 (x := 16) hg hL hr (by decide) k16
  have ar := atF_rng J B 16
  have m1 := hd.2.2.1
  have h1 := hd.2.2.2.2 40 (Or.inr rfl)
  by_cases p : atF J B 16 = 36864
  · rw [if_neg (fun t => t p)]
    rw [p] at za
    have t16 := atF_ok p
    have i5 := hM.2.2.2.1.2.2.1 40 (by omega)
    have pr := pl_rng (B := B) (V := V) i5.1
    have zi := fun Q' => d142 (n := n) (k := k) (Q := Q') (P := P) (o := o) (x := 40) hq hL hr k16 t16 hM h1 (by omega)
    rw [m1] at zi
    by_cases q : plF B V 40 = -1
    · rw [if_pos q]
      simp (maxSteps := 1000000) (disch := first | omega | (simp only [updI_at, upA_at, Nat.reduceEqDiff, reduceIte]; omega) | exact mIsRef_rf _ | exact rfl) only [↓s143_0, ↓s143_1, ↓s143_4, ↓s143_6r, ↓s143_9, ↓s143_10, ↓s143_11, ↓s143_13, ↓s143_16, ↓s143_17, ↓s143_18, ↓s143_19, ↓s143_20, ↓s143_23, ↓s143_26r, ↓s143_29, ↓s143_30, ↓s143_31, ↓s143_32, ↓s143_35, ↓s143_38, ↓s143_39, ↓s143_40, ↓s143_43, ↓s143_44, ↓s143_47, ↓s143_50, ↓s143_51, ↓s143_54, ↓s143_57, ↓s143_59, iL_16, iL_27264, iL_36864, wc_28, wc_34, wg_17_1, wg_34_1, wg_34_2, mN1_int, mN1_ref, mN1_null, mN1_U, mN1_rf, mCats_nil, mCats_int, mCats_ref, mCats_null, mCats_long, mCats_rf, mIsRef_ref, mIsRef_null, mIsRef_va, mRf_ref, mRf_null, mRf_rf, true_and, and_true, true_or, or_true, eq_self_iff_true, mK_v, mK_0, Nat.reduceAdd, Nat.reduceLeDiff, Nat.zero_le, iL_0, iL_1, iL_m1, iI_add, iI_sub, iI_mul, iI_neg, updI_at, upA_at, upP_at, upR_at, Nat.reduceEqDiff, reduceIte, Int.reduceAdd, Int.reduceSub, Int.reduceMul, Int.reduceDiv, Int.reduceMod, Int.reduceLT, Int.reduceLE, Int.reduceEq, Int.reduceNeg, not_true_eq_false, not_false_eq_true, Decidable.not_not, za, zi, iI_eq, q]
    · rw [if_neg q]
      obtain ⟨hn3, ha3, hx3⟩ := h1.1
      have k2 := h1.1.2.2.2.2.1.1.2
      have k5 := h1.1.2.2.2.2.1.2.2.2
      have f7 : nF B 40 7 = B 32 40 := rfl
      rw [f7] at k5
      rw [m1] at hn3
      have z51 := fun Q' => d51 (n := n) (k := k) (Q := Q') (I := I) (A := A) (P := P) (R := R) (o := o) (x := plF B V 40) hn3 ha3 k2 (by omega)
      have ev : (if 0 ≤ plF B V 40 ∧ plF B V 40 < (rmN B 40 : Nat) then V 2 40 (plF B V 40).toNat 0 else -1) = B 34 (200 + (plF B V 40).toNat) := by
        rw [if_pos (by omega)]
        exact (h1.2.2.1 _ (by omega)).2.1
      rw [ev] at z51
      have it := (hM.2.2.2.1.2.2.2.2.1 40 (200 + (plF B V 40).toNat) (by omega) (by omega) (by omega)).2.1
      have z106 := fun Q' => d106 (n := n) (k := k) (Q := Q') (R := R) (o := o) (x := B 34 (200 + (plF B V 40).toNat)) hb hd hn hM hT hp hm (by omega)
      simp (maxSteps := 1000000) (disch := first | omega | (simp only [updI_at, upA_at, Nat.reduceEqDiff, reduceIte]; omega) | exact mIsRef_rf _ | exact rfl) only [↓s143_0, ↓s143_1, ↓s143_4, ↓s143_6r, ↓s143_9, ↓s143_10, ↓s143_11, ↓s143_13, ↓s143_16, ↓s143_17, ↓s143_18, ↓s143_19, ↓s143_20, ↓s143_23, ↓s143_26r, ↓s143_29, ↓s143_30, ↓s143_31, ↓s143_32, ↓s143_35, ↓s143_38, ↓s143_39, ↓s143_40, ↓s143_43, ↓s143_44, ↓s143_47, ↓s143_50, ↓s143_51, ↓s143_54, ↓s143_57, ↓s143_59, iL_16, iL_27264, iL_36864, wc_28, wc_34, wg_17_1, wg_34_1, wg_34_2, mN1_int, mN1_ref, mN1_null, mN1_U, mN1_rf, mCats_nil, mCats_int, mCats_ref, mCats_null, mCats_long, mCats_rf, mIsRef_ref, mIsRef_null, mIsRef_va, mRf_ref, mRf_null, mRf_rf, true_and, and_true, true_or, or_true, eq_self_iff_true, mK_v, mK_0, Nat.reduceAdd, Nat.reduceLeDiff, Nat.zero_le, iL_0, iL_1, iL_m1, iI_add, iI_sub, iI_mul, iI_neg, updI_at, upA_at, upP_at, upR_at, Nat.reduceEqDiff, reduceIte, Int.reduceAdd, Int.reduceSub, Int.reduceMul, Int.reduceDiv, Int.reduceMod, Int.reduceLT, Int.reduceLE, Int.reduceEq, Int.reduceNeg, not_true_eq_false, not_false_eq_true, Decidable.not_not, za, zi, iI_eq, q, ng_c hn3, z51, z106]
  · rw [if_pos p]
    simp (maxSteps := 1000000) (disch := first | omega | (simp only [updI_at, upA_at, Nat.reduceEqDiff, reduceIte]; omega) | exact mIsRef_rf _ | exact rfl) only [↓s143_0, ↓s143_1, ↓s143_4, ↓s143_6r, ↓s143_9, ↓s143_10, ↓s143_11, ↓s143_13, ↓s143_16, ↓s143_17, ↓s143_18, ↓s143_19, ↓s143_20, ↓s143_23, ↓s143_26r, ↓s143_29, ↓s143_30, ↓s143_31, ↓s143_32, ↓s143_35, ↓s143_38, ↓s143_39, ↓s143_40, ↓s143_43, ↓s143_44, ↓s143_47, ↓s143_50, ↓s143_51, ↓s143_54, ↓s143_57, ↓s143_59, iL_16, iL_27264, iL_36864, wc_28, wc_34, wg_17_1, wg_34_1, wg_34_2, mN1_int, mN1_ref, mN1_null, mN1_U, mN1_rf, mCats_nil, mCats_int, mCats_ref, mCats_null, mCats_long, mCats_rf, mIsRef_ref, mIsRef_null, mIsRef_va, mRf_ref, mRf_null, mRf_rf, true_and, and_true, true_or, or_true, eq_self_iff_true, mK_v, mK_0, Nat.reduceAdd, Nat.reduceLeDiff, Nat.zero_le, iL_0, iL_1, iL_m1, iI_add, iI_sub, iI_mul, iI_neg, updI_at, upA_at, upP_at, upR_at, Nat.reduceEqDiff, reduceIte, Int.reduceAdd, Int.reduceSub, Int.reduceMul, Int.reduceDiv, Int.reduceMod, Int.reduceLT, Int.reduceLE, Int.reduceEq, Int.reduceNeg, not_true_eq_false, not_false_eq_true, Decidable.not_not, za, iI_eq, p]
theorem d144 (hb : G.2.2.2 ≤ b) (hd : dNo G h0 b (P 3) J B fa W V X cap ng) (hn : (I 18) = J 31) (hM : iM J B) (hT : sTy G h0 b) (hg : sTg G h0 b 3 K4) (hp : pfR I A J B) (hm : 0 ≤ (I 21) ∧ (I 21) ≤ 254) (hq : rqR I A R b J B) (hL : iTl A) (hr : tR K4 (J 49) A J B) (hE : ∀ j : Nat, j < 32 → (A 4) j = B 38 j) : mX G 144 0 [.ref (b + 34), mU] [] (wH h0 b I A P R o) n k Q ↔
    if ¬ atF J B 25 = 36864 then Q (.inl (some (.int (iI (atF J B 25)))), wH h0 b I A P R o, n, k) else if B 46 25 = 0 then Q (.inl (some (.int (iI 27264))), wH h0 b I A P R o, n, k)
    else Q (.inl (some (.int (iI 36864))), wH h0 b (stC I (stN J B 17 (if B 14 (B 45 25).toNat < 32 then B 38 (B 14 (B 45 25).toNat).toNat else -1))) A P (stR R W (stN J B 17 (if B 14 (B 45 25).toNat < 32 then B 38 (B 14 (B 45 25).toNat).toNat else -1))) o, n, k) := by
  have k25 : K4 ((25 : Nat) : Int) := Or.inr rfl
  have za : ∀ Q' : mR → Prop, mX G 141 0 [.ref (b + 34), .ref (G.2.2.1 3), .int (iI 25)] [] (wH h0 b I A P R o) n k Q' ↔ Q' (.inl (some (.int (iI (atF J B 25)))), wH h0 b I A P R o, n, k) := fun Q' => d141 (x := 25) hg hL hr (by decide) k25
  have ar := atF_rng J B 25
  by_cases p : atF J B 25 = 36864
  · rw [if_neg (fun t => t p)]
    rw [p] at za
    have t25 := atF_ok p
    have th := tg_has hr (t := 25) (by decide) k25 t25
    have lr := hM.2.2.2.2.2.1.2.1 25
    have zl := fun Q' => d122 (G := G) (h0 := h0) (b := b) (n := n) (k := k) (Q := Q') (I := I) (A := A) (P := P) (R := R) (o := o) (x := 25) (by omega)
    rw [show (25 : Int).toNat = 25 from rfl, ← th.2.2] at zl
    by_cases q : B 46 25 = 0
    · rw [if_pos q]
      simp (maxSteps := 1000000) (disch := first | omega | (simp only [updI_at, upA_at, Nat.reduceEqDiff, reduceIte]; omega) | exact mIsRef_rf _ | exact rfl) only [↓s144_0, ↓s144_1, ↓s144_4, ↓s144_6r, ↓s144_9, ↓s144_10, ↓s144_11, ↓s144_13, ↓s144_16, ↓s144_17, ↓s144_18, ↓s144_19, ↓s144_22, ↓s144_24, ↓s144_27, ↓s144_30, ↓s144_33, ↓s144_34, ↓s144_35, ↓s144_38, ↓s144_39, ↓s144_42, ↓s144_43, ↓s144_46, ↓s144_48, ↓s144_49, ↓s144_52, ↓s144_55, ↓s144_58, ↓s144_60, iL_25, iL_27264, iL_36864, wc_17, wc_28, wc_34, wc_35, wg_34_1, wg_34_2, wg_34_4, mN1_int, mN1_ref, mN1_null, mN1_U, mN1_rf, mCats_nil, mCats_int, mCats_ref, mCats_null, mCats_long, mCats_rf, mIsRef_ref, mIsRef_null, mIsRef_va, mRf_ref, mRf_null, mRf_rf, true_and, and_true, true_or, or_true, eq_self_iff_true, mK_v, mK_0, Nat.reduceAdd, Nat.reduceLeDiff, Nat.zero_le, iL_0, iL_1, iL_m1, iI_add, iI_sub, iI_mul, iI_neg, updI_at, upA_at, upP_at, upR_at, Nat.reduceEqDiff, reduceIte, Int.reduceAdd, Int.reduceSub, Int.reduceMul, Int.reduceDiv, Int.reduceMod, Int.reduceLT, Int.reduceLE, Int.reduceEq, Int.reduceNeg, not_true_eq_false, not_false_eq_true, Decidable.not_not, za, zl, iI_eq, q]
    · rw [if_neg q]
      have gt := hM.2.2.2.2.2.2 (B 45 25).toNat
      have zv := fun Q' => tg_val (G := G) (h0 := h0) (n := n) (k := k) (Q := Q') (P := P) (o := o) (t := 25) (i := 0) hq hL hr (by decide) k25 t25 (by omega) (by omega)
      rw [Int.add_zero, show ((25 : Nat) : Int) = 25 from rfl] at zv
      generalize B 14 (B 45 25).toNat = v at *
      have z68 := fun Q' => d68 (G := G) (h0 := h0) (b := b) (n := n) (k := k) (Q := Q') (I := I) (A := A) (P := P) (R := R) (o := o) (x := v) (by omega)
      have ev : (if 0 ≤ v ∧ v < 32 then (A 4) v.toNat else -1) = if v < 32 then B 38 v.toNat else -1 := by
        by_cases w : v < 32
        · rw [if_pos ⟨gt.1, w⟩, if_pos w, hE _ (by omega)]
        · rw [if_neg (fun t => w t.2), if_neg w]
      rw [ev] at z68
      have er : (if v < 32 then B 38 v.toNat else -1) = -1 ∨ 0 ≤ (if v < 32 then B 38 v.toNat else -1) ∧ (if v < 32 then B 38 v.toNat else -1) < J 31 := by
        by_cases w : v < 32
        · rw [if_pos w]
          have := hM.2.2.2.1.2.2.2.2.2.2.1 v.toNat (by omega)
          omega
        · rw [if_neg w]; exact Or.inl rfl
      generalize (if v < 32 then B 38 v.toNat else -1) = y at *
      have z106 := fun Q' => d106 (n := n) (k := k) (Q := Q') (R := R) (o := o) (x := y) hb hd hn hM hT hp hm er
      simp (maxSteps := 1000000) (disch := first | omega | (simp only [updI_at, upA_at, Nat.reduceEqDiff, reduceIte]; omega) | exact mIsRef_rf _ | exact rfl) only [↓s144_0, ↓s144_1, ↓s144_4, ↓s144_6r, ↓s144_9, ↓s144_10, ↓s144_11, ↓s144_13, ↓s144_16, ↓s144_17, ↓s144_18, ↓s144_19, ↓s144_22, ↓s144_24, ↓s144_27, ↓s144_30, ↓s144_33, ↓s144_34, ↓s144_35, ↓s144_38, ↓s144_39, ↓s144_42, ↓s144_43, ↓s144_46, ↓s144_48, ↓s144_49, ↓s144_52, ↓s144_55, ↓s144_58, ↓s144_60, iL_25, iL_27264, iL_36864, wc_17, wc_28, wc_34, wc_35, wg_34_1, wg_34_2, wg_34_4, mN1_int, mN1_ref, mN1_null, mN1_U, mN1_rf, mCats_nil, mCats_int, mCats_ref, mCats_null, mCats_long, mCats_rf, mIsRef_ref, mIsRef_null, mIsRef_va, mRf_ref, mRf_null, mRf_rf, true_and, and_true, true_or, or_true, eq_self_iff_true, mK_v, mK_0, Nat.reduceAdd, Nat.reduceLeDiff, Nat.zero_le, iL_0, iL_1, iL_m1, iI_add, iI_sub, iI_mul, iI_neg, updI_at, upA_at, upP_at, upR_at, Nat.reduceEqDiff, reduceIte, Int.reduceAdd, Int.reduceSub, Int.reduceMul, Int.reduceDiv, Int.reduceMod, Int.reduceLT, Int.reduceLE, Int.reduceEq, Int.reduceNeg, not_true_eq_false, not_false_eq_true, Decidable.not_not, za, zl, zv, z68, z106, iI_eq, q]
  · rw [if_pos p]
    simp (maxSteps := 1000000) (disch := first | omega | (simp only [updI_at, upA_at, Nat.reduceEqDiff, reduceIte]; omega) | exact mIsRef_rf _ | exact rfl) only [↓s144_0, ↓s144_1, ↓s144_4, ↓s144_6r, ↓s144_9, ↓s144_10, ↓s144_11, ↓s144_13, ↓s144_16, ↓s144_17, ↓s144_18, ↓s144_19, ↓s144_22, ↓s144_24, ↓s144_27, ↓s144_30, ↓s144_33, ↓s144_34, ↓s144_35, ↓s144_38, ↓s144_39, ↓s144_42, ↓s144_43, ↓s144_46, ↓s144_48, ↓s144_49, ↓s144_52, ↓s144_55, ↓s144_58, ↓s144_60, iL_25, iL_27264, iL_36864, wc_17, wc_28, wc_34, wc_35, wg_34_1, wg_34_2, wg_34_4, mN1_int, mN1_ref, mN1_null, mN1_U, mN1_rf, mCats_nil, mCats_int, mCats_ref, mCats_null, mCats_long, mCats_rf, mIsRef_ref, mIsRef_null, mIsRef_va, mRf_ref, mRf_null, mRf_rf, true_and, and_true, true_or, or_true, eq_self_iff_true, mK_v, mK_0, Nat.reduceAdd, Nat.reduceLeDiff, Nat.zero_le, iL_0, iL_1, iL_m1, iI_add, iI_sub, iI_mul, iI_neg, updI_at, upA_at, upP_at, upR_at, Nat.reduceEqDiff, reduceIte, Int.reduceAdd, Int.reduceSub, Int.reduceMul, Int.reduceDiv, Int.reduceMod, Int.reduceLT, Int.reduceLE, Int.reduceEq, Int.reduceNeg, not_true_eq_false, not_false_eq_true, Decidable.not_not, za, iI_eq, p]
end
end MENV1
