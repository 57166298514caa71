/-! Class: Toolkit.itemOf, isAbout, askResponse. -/
section MASK
variable {G : mG} {h h0 : mH} {n k b : Nat} {Q : mR → Prop} {I : Nat → Int} {A : Nat → Nat → Int} {P : Nat → Nat} {R : Nat → Option Nat} {o : Nat → Int64}
theorem seek_sh {p q : Int → Prop} [DecidablePred p] [DecidablePred q] (s : Int) : ∀ (d : Nat) (c : Int), 0 ≤ c → (∀ j, c ≤ j → j < c + d → (p j ↔ q (s + j))) → (seek p d c = -1 ∧ seek q d (s + c) = -1) ∨ (seek q d (s + c) = s + seek p d c ∧ c ≤ seek p d c)
  | 0, _, _, _ => Or.inl ⟨rfl, rfl⟩
  | d + 1, c, h0, h => by
    rw [seek_s, seek_s]
    have hc := h c (by omega) (by omega)
    by_cases r : p c
    · rw [if_pos r, if_pos (hc.mp r)]
      right; omega
    · rw [if_neg r, if_neg (fun t => r (hc.mpr t))]
      have ih := seek_sh s d (c + 1) (by omega) (fun j h1 h2 => h j (by omega) (by omega))
      rw [show s + c + 1 = s + (c + 1) by omega]
      omega
section
variable {K : Int → Prop} {J : Nat → Int} {B : Nat → Nat → Int} {fa : Nat → Nat} {W : Nat → Nat → Nat → Nat} {V : Nat → Nat → Nat → Nat → Int} {X : Nat → Nat → Option Nat} {cap : Nat} {ng : Nat → Option Nat}
/-- the place of the item that tag 16 tells -/
def plF (B : Nat → Nat → Int) (V : Nat → Nat → Nat → Nat → Int) (x : Nat) : Int := if B 46 16 = 1 then seek (fun j => V 1 x j.toNat 0 = B 14 (B 45 16).toNat) (B 32 x).toNat 0 else -1
theorem pl_it {x : Nat} (h1 : dN1 G h0 b J B fa W V X x) (hi : 0 ≤ B 32 x) (ht : B 46 16 = 1) : (plF B V x = -1 ∧ itF B x (B 14 (B 45 16).toNat) = -1) ∨ (itF B x (B 14 (B 45 16).toNat) = 5 * x + plF B V x ∧ 0 ≤ plF B V x ∧ plF B V x < B 32 x) := by
  have q := seek_sh (p := fun j => V 1 x j.toNat 0 = B 14 (B 45 16).toNat) (q := fun j => B 33 j.toNat = B 14 (B 45 16).toNat) (5 * (x : Int)) (B 32 x).toNat 0 (by omega) (fun j h2 h3 => by
    have := (h1.2.2.1 j.toNat (by omega)).1
    rw [this, show 5 * x + j.toNat = (5 * (x : Int) + j).toNat by omega])
  have r := seek_rng (fun j => V 1 x j.toNat 0 = B 14 (B 45 16).toNat) (B 32 x).toNat 0 (by omega)
  rw [Int.add_zero] at q
  unfold plF itF
  rw [if_pos ht, show ((x : Int)).toNat = x by omega]
  omega
theorem d142 {x : Nat} (hq : rqR I A R b J B) (hT : iTl A) (hr : tR K (J 49) A J B) (kt : K (16 : Nat)) (hp : ¬ B 46 16 < 0) (hM : iM J B) (h1 : dN1 G h0 b J B fa W V X x) (hx : x ≤ 40) : mX G 142 0 [.ref (b + 34), .ref (W 0 x 0)] [] (wH h0 b I A P R o) n k Q ↔ Q (.inl (some (.int (iI (plF B V x)))), wH h0 b I A P R o, n, k) := by
  have th := tg_has hr (by decide) kt hp
  have hq2 := hq.1.2
  obtain ⟨hn, ha, ht, hi, ⟨⟨k1, k2⟩, k3, k4, k5⟩, ⟨k6, k7, k8, k9⟩, hg, hgi⟩ := h1.1
  have f7 : nF B x 7 = B 32 x := rfl
  have gt := hM.2.2.2.2.2.2 (B 45 16).toNat
  have zl := fun Q' => d122 (G := G) (h0 := h0) (b := b) (n := n) (k := k) (Q := Q') (I := I) (A := A) (P := P) (R := R) (o := o) (x := 16) (by omega)
  rw [show (16 : Int).toNat = 16 from rfl, ← th.2.2] at zl
  unfold plF
  by_cases p : B 46 16 = 1
  · rw [if_pos p]
    have zv := fun Q' => tg_val (G := G) (h0 := h0) (n := n) (k := k) (Q := Q') (P := P) (o := o) (i := 0) hq hT hr (by decide) kt hp (by omega) (by omega)
    rw [Int.add_zero, show ((16 : Nat) : Int) = 16 from rfl] at zv
    have zp := fun Q' => d47 (n := n) (k := k) (Q := Q') (I := I) (A := A) (P := P) (R := R) (o := o) (x := B 14 (B 45 16).toNat) hn ha k5.2 k2 k5.1 hgi (by omega)
    rw [f7] at zp
    simp (maxSteps := 1000000) (disch := first | omega | (simp only [updI_at, upA_at, Nat.reduceEqDiff, reduceIte]; omega) | exact mIsRef_rf _ | exact rfl) only [↓s142_0, ↓s142_1, ↓s142_4, ↓s142_6, ↓s142_9, ↓s142_10, ↓s142_13, ↓s142_14, ↓s142_15, ↓s142_18, ↓s142_20, ↓s142_21, ↓s142_24, ↓s142_27, ↓s142_30, ↓s142_31, iL_16, wc_35, wg_34_4, mN1_int, mN1_ref, mN1_null, mN1_U, mN1_rf, mCats_nil, mCats_int, mCats_ref, mCats_null, mCats_long, mCats_rf, mIsRef_ref, mIsRef_null, mIsRef_va, mRf_ref, mRf_null, mRf_rf, true_and, and_true, true_or, or_true, eq_self_iff_true, mK_v, mK_0, Nat.reduceAdd, Nat.reduceLeDiff, Nat.zero_le, iL_0, iL_1, iL_m1, iI_add, iI_sub, iI_mul, iI_neg, updI_at, upA_at, upP_at, upR_at, Nat.reduceEqDiff, reduceIte, Int.reduceAdd, Int.reduceSub, Int.reduceMul, Int.reduceDiv, Int.reduceMod, Int.reduceLT, Int.reduceLE, Int.reduceEq, Int.reduceNeg, not_true_eq_false, not_false_eq_true, Decidable.not_not, zl, zv, zp, ng_c hn, iI_eq, eq_true p]
  · rw [if_neg p]
    simp (maxSteps := 1000000) (disch := first | omega | (simp only [updI_at, upA_at, Nat.reduceEqDiff, reduceIte]; omega) | exact mIsRef_rf _ | exact rfl) only [↓s142_0, ↓s142_1, ↓s142_4, ↓s142_6, ↓s142_9, ↓s142_10, ↓s142_13, ↓s142_14, ↓s142_15, ↓s142_18, ↓s142_20, ↓s142_21, ↓s142_24, ↓s142_27, ↓s142_30, ↓s142_31, iL_16, wc_35, wg_34_4, mN1_int, mN1_ref, mN1_null, mN1_U, mN1_rf, mCats_nil, mCats_int, mCats_ref, mCats_null, mCats_long, mCats_rf, mIsRef_ref, mIsRef_null, mIsRef_va, mRf_ref, mRf_null, mRf_rf, true_and, and_true, true_or, or_true, eq_self_iff_true, mK_v, mK_0, Nat.reduceAdd, Nat.reduceLeDiff, Nat.zero_le, iL_0, iL_1, iL_m1, iI_add, iI_sub, iI_mul, iI_neg, updI_at, upA_at, upP_at, upR_at, Nat.reduceEqDiff, reduceIte, Int.reduceAdd, Int.reduceSub, Int.reduceMul, Int.reduceDiv, Int.reduceMod, Int.reduceLT, Int.reduceLE, Int.reduceEq, Int.reduceNeg, not_true_eq_false, not_false_eq_true, Decidable.not_not, zl, iI_eq, p]
abbrev abF (J : Nat → Int) (B : Nat → Nat → Int) : Prop := B 46 1 = 3 ∧ B 14 (B 45 1).toNat = J 43 ∧ B 14 (B 45 1 + 1).toNat = tyA B (J 42) ∧ B 14 (B 45 1 + 2).toNat = quF J B
theorem d134 (hq : rqR I A R b J B) (hT : iTl A) (hr : tR K (J 49) A J B) (kt : K (1 : Nat)) (hp : ¬ B 46 1 < 0) (hM : iM J B) (hs : ¬ J 41 = 0) (hm : (I 21) = J 43) (hS : sTy G h0 b) (h1 : dN1 G h0 b J B fa W V X (J 42).toNat) : mX G 134 0 [.ref (b + 34), .ref (W 0 (J 42).toNat 0)] [] (wH h0 b I A P R o) n k Q ↔ Q (.inl (some (.int (iI (bI (abF J B))))), wH h0 b I A P R o, n, k) := by
  have th := tg_has hr (by decide) kt hp
  have hq2 := hq.1.2
  obtain ⟨hn, ha, ht, hi, ⟨⟨k1, k2⟩, k3, k4, k5⟩, ⟨k6, k7, k8, k9⟩, hg, hgi⟩ := h1.1
  have hN := hM.2.2.2.1
  have e4 := hM.2.2.2.2.1.2.2.2.1
  have e5 := hM.2.2.2.2.1.2.2.2.2.1 hs
  have en := hM.2.2.2.2.1.2.1
  have ty := ty_eq (J := J) (B := B) (x := J 42) hN (by omega)
  have tr := tyA_rng B (J 42)
  have g0 := hM.2.2.2.2.2.2 (B 45 1).toNat
  have g1 := hM.2.2.2.2.2.2 (B 45 1 + 1).toNat
  have g2 := hM.2.2.2.2.2.2 (B 45 1 + 2).toNat
  have qu : nF B (J 42).toNat 2 = quF J B := by
    show (if (J 42).toNat = 40 then (0 : Int) else B 25 (J 42).toNat) = _
    unfold quF
    by_cases w : J 42 = 40
    · rw [if_pos w, if_pos (by omega)]
    · rw [if_neg w, if_neg (by omega)]
  rw [qu] at k7
  have z44 := fun Q' => d44 (n := n) (k := k) (Q := Q') (I := I) (A := A) (P := P) (R := R) (o := o) hn k6 hS
  rw [ty] at z44
  have zl := fun Q' => d122 (G := G) (h0 := h0) (b := b) (n := n) (k := k) (Q := Q') (I := I) (A := A) (P := P) (R := R) (o := o) (x := 1) (by omega)
  rw [show (1 : Int).toNat = 1 from rfl, ← th.2.2] at zl
  by_cases p : B 46 1 = 3
  · have zv := fun Q' i => tg_val (G := G) (h0 := h0) (n := n) (k := k) (Q := Q') (P := P) (o := o) (i := i) hq hT hr (by decide) kt hp
    have zv0 := fun Q' => zv Q' 0 (by omega) (by omega)
    have zv1 := fun Q' => zv Q' 1 (by omega) (by omega)
    have zv2 := fun Q' => zv Q' 2 (by omega) (by omega)
    rw [Int.add_zero] at zv0
    rw [show ((1 : Nat) : Int) = 1 from rfl] at zv0 zv1 zv2
    by_cases q1 : B 14 (B 45 1).toNat = J 43
    · by_cases q2 : B 14 (B 45 1 + 1).toNat = tyA B (J 42)
      · by_cases q3 : B 14 (B 45 1 + 2).toNat = quF J B
        · rw [bI_t ⟨p, q1, q2, q3⟩]
          simp (maxSteps := 1000000) (disch := first | omega | (simp only [updI_at, upA_at, Nat.reduceEqDiff, reduceIte]; omega) | exact mIsRef_rf _ | exact rfl) only [↓s134_0, ↓s134_1, ↓s134_4, ↓s134_5, ↓s134_8, ↓s134_9, ↓s134_12, ↓s134_13, ↓s134_16, ↓s134_17, ↓s134_18, ↓s134_21, ↓s134_22, ↓s134_25, ↓s134_28, ↓s134_31, ↓s134_32, ↓s134_35, ↓s134_36, ↓s134_37, ↓s134_40, ↓s134_41, ↓s134_44, ↓s134_47, ↓s134_48, ↓s134_51, ↓s134_52, ↓s134_53, ↓s134_56, ↓s134_57, ↓s134_60, ↓s134_63, ↓s134_64, ↓s134_67, ↓s134_68, iL_2, iL_3, wc_35, wg_28_7, wg_34_2, wg_34_4, mN1_int, mN1_ref, mN1_null, mN1_U, mN1_rf, mCats_nil, mCats_int, mCats_ref, mCats_null, mCats_long, mCats_rf, mIsRef_ref, mIsRef_null, mIsRef_va, mRf_ref, mRf_null, mRf_rf, true_and, and_true, true_or, or_true, eq_self_iff_true, mK_v, mK_0, Nat.reduceAdd, Nat.reduceLeDiff, Nat.zero_le, iL_0, iL_1, iL_m1, iI_add, iI_sub, iI_mul, iI_neg, updI_at, upA_at, upP_at, upR_at, Nat.reduceEqDiff, reduceIte, Int.reduceAdd, Int.reduceSub, Int.reduceMul, Int.reduceDiv, Int.reduceMod, Int.reduceLT, Int.reduceLE, Int.reduceEq, Int.reduceNeg, not_true_eq_false, not_false_eq_true, Decidable.not_not, zl, zv0, zv1, zv2, z44, ng_c hn, ng_2 hn, qu, hm, iI_eq, eq_true p, eq_true q1, eq_true q2, eq_true q3]
        · rw [bI_f (fun t => q3 t.2.2.2)]
          simp (maxSteps := 1000000) (disch := first | omega | (simp only [updI_at, upA_at, Nat.reduceEqDiff, reduceIte]; omega) | exact mIsRef_rf _ | exact rfl) only [↓s134_0, ↓s134_1, ↓s134_4, ↓s134_5, ↓s134_8, ↓s134_9, ↓s134_12, ↓s134_13, ↓s134_16, ↓s134_17, ↓s134_18, ↓s134_21, ↓s134_22, ↓s134_25, ↓s134_28, ↓s134_31, ↓s134_32, ↓s134_35, ↓s134_36, ↓s134_37, ↓s134_40, ↓s134_41, ↓s134_44, ↓s134_47, ↓s134_48, ↓s134_51, ↓s134_52, ↓s134_53, ↓s134_56, ↓s134_57, ↓s134_60, ↓s134_63, ↓s134_64, ↓s134_67, ↓s134_68, iL_2, iL_3, wc_35, wg_28_7, wg_34_2, wg_34_4, mN1_int, mN1_ref, mN1_null, mN1_U, mN1_rf, mCats_nil, mCats_int, mCats_ref, mCats_null, mCats_long, mCats_rf, mIsRef_ref, mIsRef_null, mIsRef_va, mRf_ref, mRf_null, mRf_rf, true_and, and_true, true_or, or_true, eq_self_iff_true, mK_v, mK_0, Nat.reduceAdd, Nat.reduceLeDiff, Nat.zero_le, iL_0, iL_1, iL_m1, iI_add, iI_sub, iI_mul, iI_neg, updI_at, upA_at, upP_at, upR_at, Nat.reduceEqDiff, reduceIte, Int.reduceAdd, Int.reduceSub, Int.reduceMul, Int.reduceDiv, Int.reduceMod, Int.reduceLT, Int.reduceLE, Int.reduceEq, Int.reduceNeg, not_true_eq_false, not_false_eq_true, Decidable.not_not, zl, zv0, zv1, zv2, z44, ng_c hn, ng_2 hn, qu, hm, iI_eq, eq_true p, eq_true q1, eq_true q2, q3]
      · rw [bI_f (fun t => q2 t.2.2.1)]
        simp (maxSteps := 1000000) (disch := first | omega | (simp only [updI_at, upA_at, Nat.reduceEqDiff, reduceIte]; omega) | exact mIsRef_rf _ | exact rfl) only [↓s134_0, ↓s134_1, ↓s134_4, ↓s134_5, ↓s134_8, ↓s134_9, ↓s134_12, ↓s134_13, ↓s134_16, ↓s134_17, ↓s134_18, ↓s134_21, ↓s134_22, ↓s134_25, ↓s134_28, ↓s134_31, ↓s134_32, ↓s134_35, ↓s134_36, ↓s134_37, ↓s134_40, ↓s134_41, ↓s134_44, ↓s134_47, ↓s134_48, ↓s134_51, ↓s134_52, ↓s134_53, ↓s134_56, ↓s134_57, ↓s134_60, ↓s134_63, ↓s134_64, ↓s134_67, ↓s134_68, iL_2, iL_3, wc_35, wg_28_7, wg_34_2, wg_34_4, mN1_int, mN1_ref, mN1_null, mN1_U, mN1_rf, mCats_nil, mCats_int, mCats_ref, mCats_null, mCats_long, mCats_rf, mIsRef_ref, mIsRef_null, mIsRef_va, mRf_ref, mRf_null, mRf_rf, true_and, and_true, true_or, or_true, eq_self_iff_true, mK_v, mK_0, Nat.reduceAdd, Nat.reduceLeDiff, Nat.zero_le, iL_0, iL_1, iL_m1, iI_add, iI_sub, iI_mul, iI_neg, updI_at, upA_at, upP_at, upR_at, Nat.reduceEqDiff, reduceIte, Int.reduceAdd, Int.reduceSub, Int.reduceMul, Int.reduceDiv, Int.reduceMod, Int.reduceLT, Int.reduceLE, Int.reduceEq, Int.reduceNeg, not_true_eq_false, not_false_eq_true, Decidable.not_not, zl, zv0, zv1, z44, ng_c hn, hm, iI_eq, eq_true p, eq_true q1, q2]
    · rw [bI_f (fun t => q1 t.2.1)]
      simp (maxSteps := 1000000) (disch := first | omega | (simp only [updI_at, upA_at, Nat.reduceEqDiff, reduceIte]; omega) | exact mIsRef_rf _ | exact rfl) only [↓s134_0, ↓s134_1, ↓s134_4, ↓s134_5, ↓s134_8, ↓s134_9, ↓s134_12, ↓s134_13, ↓s134_16, ↓s134_17, ↓s134_18, ↓s134_21, ↓s134_22, ↓s134_25, ↓s134_28, ↓s134_31, ↓s134_32, ↓s134_35, ↓s134_36, ↓s134_37, ↓s134_40, ↓s134_41, ↓s134_44, ↓s134_47, ↓s134_48, ↓s134_51, ↓s134_52, ↓s134_53, ↓s134_56, ↓s134_57, ↓s134_60, ↓s134_63, ↓s134_64, ↓s134_67, ↓s134_68, iL_2, iL_3, wc_35, wg_28_7, wg_34_2, wg_34_4, mN1_int, mN1_ref, mN1_null, mN1_U, mN1_rf, mCats_nil, mCats_int, mCats_ref, mCats_null, mCats_long, mCats_rf, mIsRef_ref, mIsRef_null, mIsRef_va, mRf_ref, mRf_null, mRf_rf, true_and, and_true, true_or, or_true, eq_self_iff_true, mK_v, mK_0, Nat.reduceAdd, Nat.reduceLeDiff, Nat.zero_le, iL_0, iL_1, iL_m1, iI_add, iI_sub, iI_mul, iI_neg, updI_at, upA_at, upP_at, upR_at, Nat.reduceEqDiff, reduceIte, Int.reduceAdd, Int.reduceSub, Int.reduceMul, Int.reduceDiv, Int.reduceMod, Int.reduceLT, Int.reduceLE, Int.reduceEq, Int.reduceNeg, not_true_eq_false, not_false_eq_true, Decidable.not_not, zl, zv0, hm, iI_eq, eq_true p, q1]
  · rw [bI_f (fun t => p t.1)]
    simp (maxSteps := 1000000) (disch := first | omega | (simp only [updI_at, upA_at, Nat.reduceEqDiff, reduceIte]; omega) | exact mIsRef_rf _ | exact rfl) only [↓s134_0, ↓s134_1, ↓s134_4, ↓s134_5, ↓s134_8, ↓s134_9, ↓s134_12, ↓s134_13, ↓s134_16, ↓s134_17, ↓s134_18, ↓s134_21, ↓s134_22, ↓s134_25, ↓s134_28, ↓s134_31, ↓s134_32, ↓s134_35, ↓s134_36, ↓s134_37, ↓s134_40, ↓s134_41, ↓s134_44, ↓s134_47, ↓s134_48, ↓s134_51, ↓s134_52, ↓s134_53, ↓s134_56, ↓s134_57, ↓s134_60, ↓s134_63, ↓s134_64, ↓s134_67, ↓s134_68, iL_2, iL_3, wc_35, wg_28_7, wg_34_2, wg_34_4, mN1_int, mN1_ref, mN1_null, mN1_U, mN1_rf, mCats_nil, mCats_int, mCats_ref, mCats_null, mCats_long, mCats_rf, mIsRef_ref, mIsRef_null, mIsRef_va, mRf_ref, mRf_null, mRf_rf, true_and, and_true, true_or, or_true, eq_self_iff_true, mK_v, mK_0, Nat.reduceAdd, Nat.reduceLeDiff, Nat.zero_le, iL_0, iL_1, iL_m1, iI_add, iI_sub, iI_mul, iI_neg, updI_at, upA_at, upP_at, upR_at, Nat.reduceEqDiff, reduceIte, Int.reduceAdd, Int.reduceSub, Int.reduceMul, Int.reduceDiv, Int.reduceMod, Int.reduceLT, Int.reduceLE, Int.reduceEq, Int.reduceNeg, not_true_eq_false, not_false_eq_true, Decidable.not_not, zl, iI_eq, p]
end
end MASK
