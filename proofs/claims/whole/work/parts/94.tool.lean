/-! Class: Toolkit's small ones, over a list of TLVs that both have read. -/
section MTOOL
variable {G : mG} {h h0 : mH} {n k b : Nat} {Q : mR → Prop} {I : Nat → Int} {A : Nat → Nat → Int} {P : Nat → Nat} {R : Nat → Option Nat} {o : Nat → Int64}
theorem seek_ex (p : Int → Prop) [DecidablePred p] : ∀ (d : Nat) (i : Int), 0 ≤ i → (0 ≤ seek p d i ↔ ∃ j, i ≤ j ∧ j < i + d ∧ p j)
  | 0, i, h => by
    constructor
    · intro q; exact absurd q (by unfold seek; omega)
    · intro ⟨j, h1, h2, _⟩; omega
  | d + 1, i, h => by
    rw [seek_s]
    have ih := seek_ex p d (i + 1) (by omega)
    by_cases q : p i
    · rw [if_pos q]
      exact ⟨fun _ => ⟨i, by omega, by omega, q⟩, fun _ => h⟩
    · rw [if_neg q, ih]
      constructor
      · intro ⟨j, h1, h2, h3⟩; exact ⟨j, by omega, by omega, h3⟩
      · intro ⟨j, h1, h2, h3⟩
        refine ⟨j, ?_, by omega, h3⟩
        rcases Int.lt_or_le i j with w | w
        · omega
        · have : j = i := by omega
          rw [this] at h3; exact absurd h3 q
/-- a static row of tags of the class -/
def sTg (G : mG) (h0 : mH) (b i : Nat) (K : Int → Prop) : Prop := ∃ (N : Nat) (f : Nat → Int), (hol b (G.2.2.1 i) ∧ h0 (G.2.2.1 i) = some (.inl (2, N, fun j => iI (f j)))) ∧ (N < 100 ∧ (∀ j, 0 ≤ f j ∧ f j ≤ 255)) ∧ (∀ t : Int, 0 ≤ t → t < 128 → (0 ≤ seek (fun l => f l.toNat = t) N 0 ↔ K t))
section
variable {K : Int → Prop} {J : Nat → Int} {B : Nat → Nat → Int} {N : Int}
theorem d124k {i : Nat} (hs : sTg G h0 b i K) (hT : iTl A) (hr : tR K N A J B) : mX G 124 0 [.ref (b + 35), .ref (G.2.2.1 i), mU] [] (wH h0 b I A P R o) n k Q ↔ Q (.inl (some (.int (iI (J 51)))), wH h0 b I A P R o, n, k) := by
  obtain ⟨M, f, ⟨s1, s2⟩, ⟨s3, s4⟩, s5⟩ := hs
  have ha : wH h0 b I A P R o (G.2.2.1 i) = some (.inl (2, M, fun j => iI (f j))) := by rw [wH_hole s1]; exact s2
  have z := d124_l (G := G) (n := n) (k := k) (Q := Q) ha s3 s4 hT.2 128 0 (by omega) (by omega)
  obtain ⟨r1, r2, r3⟩ := hr
  have ex := seek_ex (fun j => ¬ (A 11) j.toNat = 0 ∧ ¬ 0 ≤ seek (fun l => f l.toNat = j) M 0) 128 0 (by omega)
  have e : bI (0 ≤ seek (fun j => ¬ (A 11) j.toNat = 0 ∧ ¬ 0 ≤ seek (fun l => f l.toNat = j) M 0) 128 0) = J 51 := by
    by_cases q : J 51 = 0
    · rw [q]
      apply bI_f
      intro t
      obtain ⟨j, j1, j2, j3, j4⟩ := ex.mp t
      apply j3
      apply r2.mp q j.toNat (by omega)
      intro kj
      rw [show ((j.toNat : Nat) : Int) = j by omega] at kj
      exact j4 ((s5 j j1 (by omega)).mpr kj)
    · rw [show J 51 = 1 by omega]
      apply bI_t
      apply ex.mpr
      apply Classical.byContradiction
      intro nx
      apply q
      apply r2.mpr
      intro t ht nk
      apply Classical.byContradiction
      intro nm
      apply nx
      refine ⟨(t : Int), by omega, by omega, ?_, ?_⟩
      · rw [show ((t : Int)).toNat = t by omega]; exact nm
      · intro w
        exact nk ((s5 (t : Int) (by omega) (by omega)).mp w)
  rw [e] at z
  rw [← z]
  simp (maxSteps := 1000000) (disch := first | omega | (simp only [updI_at, upA_at, Nat.reduceEqDiff, reduceIte]; omega) | exact mIsRef_rf _ | exact rfl) only [↓s124_0, ↓s124_1, mN1_int, mN1_ref, mN1_null, mN1_U, mN1_rf, mCats_nil, mCats_int, mCats_ref, mCats_null, mCats_long, mCats_rf, mIsRef_ref, mIsRef_null, mIsRef_va, mRf_ref, mRf_null, mRf_rf, true_and, and_true, true_or, or_true, eq_self_iff_true, mK_v, mK_0, Nat.reduceAdd, Nat.reduceLeDiff, Nat.zero_le, iL_0, iL_1, iL_m1, iI_add, iI_sub, iI_mul, iI_neg, updI_at, upA_at, upP_at, upR_at, Nat.reduceEqDiff, reduceIte, Int.reduceAdd, Int.reduceSub, Int.reduceMul, Int.reduceDiv, Int.reduceMod, Int.reduceLT, Int.reduceLE, Int.reduceEq, Int.reduceNeg, not_true_eq_false, not_false_eq_true, Decidable.not_not]
/-- a tag is there -/
theorem tg_iff {t : Nat} (hr : tR K N A J B) (ht : t < 128) (kt : K t) : (¬ (A 9) t = -1) ↔ ¬ B 46 t < 0 := by
  rcases hr.1 t ht kt with h | h
  · constructor
    · intro q; exact absurd h.1 q
    · intro q; omega
  · constructor
    · intro _; omega
    · intro _; omega
theorem tg_has {t : Nat} (hr : tR K N A J B) (ht : t < 128) (kt : K t) (hp : ¬ B 46 t < 0) : (0 ≤ (A 9) t ∧ 0 ≤ (A 10) t ∧ (A 9) t + (A 10) t ≤ N) ∧ B 45 t = 5 + (A 9) t ∧ B 46 t = (A 10) t := by
  rcases hr.1 t ht kt with h | h
  · omega
  · exact h
/-- what stands between the request's data and the reference's tape -/
def rqR (I : Nat → Int) (A : Nat → Nat → Int) (R : Nat → Option Nat) (b : Nat) (J : Nat → Int) (B : Nat → Nat → Int) : Prop := ((I 7) = J 49 ∧ (0 ≤ J 49 ∧ J 49 ≤ 255)) ∧ (∀ j : Nat, (j : Int) < J 49 → (A 1) j = B 14 (5 + j)) ∧ (∀ j, 0 ≤ (A 1) j ∧ (A 1) j ≤ 255) ∧ R 3 = some (b + 4)
theorem tg_val {t : Nat} {i : Int} (hq : rqR I A R b J B) (hT : iTl A) (hr : tR K (J 49) A J B) (ht : t < 128) (kt : K t) (hp : ¬ B 46 t < 0) (h1 : 0 ≤ i) (h2 : i < B 46 t) : mX G 123 0 [.ref (b + 35), .int (iI (t : Int)), .int (iI i)] [] (wH h0 b I A P R o) n k Q ↔ Q (.inl (some (.int (iI (B 14 (B 45 t + i).toNat)))), wH h0 b I A P R o, n, k) := by
  obtain ⟨⟨q1, q2⟩, q3, q4, q5⟩ := hq
  have th := tg_has hr ht kt hp
  have hs := hT.1 t
  have z := d123 (G := G) (h0 := h0) (b := b) (n := n) (k := k) (Q := Q) (I := I) (A := A) (P := P) (R := R) (o := o) (x := (t : Int)) (i := i) q4 (by omega) q5 (by omega) (by omega) (by rw [show ((t : Int)).toNat = t by omega]; omega) (by rw [show ((t : Int)).toNat = t by omega]; omega)
  rw [show ((t : Int)).toNat = t by omega, if_pos (by omega)] at z
  have e : rget (I 7) (A 1) ((A 9) t + i) = B 14 (B 45 t + i).toNat := by
    unfold rget
    rw [if_pos ⟨by omega, by omega⟩, q3 _ (by omega)]
    congr 1
    omega
  rw [e] at z
  exact z
theorem d135 {r : Int} (hr : 0 ≤ r ∧ r ≤ 255) : mX G 135 0 [.int (iI r)] [] h n k Q ↔ Q (.inl (some (.int (iI (if r < 16 then 0 else outF r)))), h, n, k) := by
  unfold outF
  by_cases p1 : r < 16
  · rw [if_pos p1]
    simp (maxSteps := 1000000) (disch := first | omega | (simp only [updI_at, upA_at, Nat.reduceEqDiff, reduceIte]; omega) | exact mIsRef_rf _ | exact rfl) only [↓s135_0, ↓s135_1, ↓s135_3, ↓s135_6, ↓s135_7, ↓s135_8, ↓s135_9, ↓s135_11, ↓s135_14, ↓s135_15, ↓s135_16, ↓s135_17, ↓s135_19, ↓s135_22, ↓s135_23, ↓s135_26, ↓s135_27, iL_15, iL_17, iL_19, iL_2, iL_3, mN1_int, mN1_ref, mN1_null, mN1_U, mN1_rf, mCats_nil, mCats_int, mCats_ref, mCats_null, mCats_long, mCats_rf, mIsRef_ref, mIsRef_null, mIsRef_va, mRf_ref, mRf_null, mRf_rf, true_and, and_true, true_or, or_true, eq_self_iff_true, mK_v, mK_0, Nat.reduceAdd, Nat.reduceLeDiff, Nat.zero_le, iL_0, iL_1, iL_m1, iI_add, iI_sub, iI_mul, iI_neg, updI_at, upA_at, upP_at, upR_at, Nat.reduceEqDiff, reduceIte, Int.reduceAdd, Int.reduceSub, Int.reduceMul, Int.reduceDiv, Int.reduceMod, Int.reduceLT, Int.reduceLE, Int.reduceEq, Int.reduceNeg, not_true_eq_false, not_false_eq_true, Decidable.not_not, iI_lt, show ¬ 15 < r by omega]
  · rw [if_neg p1]
    by_cases p2 : r = 17
    · rw [if_pos p2]
      simp (maxSteps := 1000000) (disch := first | omega | (simp only [updI_at, upA_at, Nat.reduceEqDiff, reduceIte]; omega) | exact mIsRef_rf _ | exact rfl) only [↓s135_0, ↓s135_1, ↓s135_3, ↓s135_6, ↓s135_7, ↓s135_8, ↓s135_9, ↓s135_11, ↓s135_14, ↓s135_15, ↓s135_16, ↓s135_17, ↓s135_19, ↓s135_22, ↓s135_23, ↓s135_26, ↓s135_27, iL_15, iL_17, iL_19, iL_2, iL_3, mN1_int, mN1_ref, mN1_null, mN1_U, mN1_rf, mCats_nil, mCats_int, mCats_ref, mCats_null, mCats_long, mCats_rf, mIsRef_ref, mIsRef_null, mIsRef_va, mRf_ref, mRf_null, mRf_rf, true_and, and_true, true_or, or_true, eq_self_iff_true, mK_v, mK_0, Nat.reduceAdd, Nat.reduceLeDiff, Nat.zero_le, iL_0, iL_1, iL_m1, iI_add, iI_sub, iI_mul, iI_neg, updI_at, upA_at, upP_at, upR_at, Nat.reduceEqDiff, reduceIte, Int.reduceAdd, Int.reduceSub, Int.reduceMul, Int.reduceDiv, Int.reduceMod, Int.reduceLT, Int.reduceLE, Int.reduceEq, Int.reduceNeg, not_true_eq_false, not_false_eq_true, Decidable.not_not, iI_lt, iI_eq, p2, Int.reduceLT]
    · rw [if_neg p2]
      by_cases p3 : r ≤ 19
      · rw [if_pos (by omega)]
        simp (maxSteps := 1000000) (disch := first | omega | (simp only [updI_at, upA_at, Nat.reduceEqDiff, reduceIte]; omega) | exact mIsRef_rf _ | exact rfl) only [↓s135_0, ↓s135_1, ↓s135_3, ↓s135_6, ↓s135_7, ↓s135_8, ↓s135_9, ↓s135_11, ↓s135_14, ↓s135_15, ↓s135_16, ↓s135_17, ↓s135_19, ↓s135_22, ↓s135_23, ↓s135_26, ↓s135_27, iL_15, iL_17, iL_19, iL_2, iL_3, mN1_int, mN1_ref, mN1_null, mN1_U, mN1_rf, mCats_nil, mCats_int, mCats_ref, mCats_null, mCats_long, mCats_rf, mIsRef_ref, mIsRef_null, mIsRef_va, mRf_ref, mRf_null, mRf_rf, true_and, and_true, true_or, or_true, eq_self_iff_true, mK_v, mK_0, Nat.reduceAdd, Nat.reduceLeDiff, Nat.zero_le, iL_0, iL_1, iL_m1, iI_add, iI_sub, iI_mul, iI_neg, updI_at, upA_at, upP_at, upR_at, Nat.reduceEqDiff, reduceIte, Int.reduceAdd, Int.reduceSub, Int.reduceMul, Int.reduceDiv, Int.reduceMod, Int.reduceLT, Int.reduceLE, Int.reduceEq, Int.reduceNeg, not_true_eq_false, not_false_eq_true, Decidable.not_not, iI_lt, iI_eq, show 15 < r by omega, p2, show ¬ 19 < r by omega]
      · rw [if_neg (by omega)]
        simp (maxSteps := 1000000) (disch := first | omega | (simp only [updI_at, upA_at, Nat.reduceEqDiff, reduceIte]; omega) | exact mIsRef_rf _ | exact rfl) only [↓s135_0, ↓s135_1, ↓s135_3, ↓s135_6, ↓s135_7, ↓s135_8, ↓s135_9, ↓s135_11, ↓s135_14, ↓s135_15, ↓s135_16, ↓s135_17, ↓s135_19, ↓s135_22, ↓s135_23, ↓s135_26, ↓s135_27, iL_15, iL_17, iL_19, iL_2, iL_3, mN1_int, mN1_ref, mN1_null, mN1_U, mN1_rf, mCats_nil, mCats_int, mCats_ref, mCats_null, mCats_long, mCats_rf, mIsRef_ref, mIsRef_null, mIsRef_va, mRf_ref, mRf_null, mRf_rf, true_and, and_true, true_or, or_true, eq_self_iff_true, mK_v, mK_0, Nat.reduceAdd, Nat.reduceLeDiff, Nat.zero_le, iL_0, iL_1, iL_m1, iI_add, iI_sub, iI_mul, iI_neg, updI_at, upA_at, upP_at, upR_at, Nat.reduceEqDiff, reduceIte, Int.reduceAdd, Int.reduceSub, Int.reduceMul, Int.reduceDiv, Int.reduceMod, Int.reduceLT, Int.reduceLE, Int.reduceEq, Int.reduceNeg, not_true_eq_false, not_false_eq_true, Decidable.not_not, iI_lt, iI_eq, show 15 < r by omega, p2, show 19 < r by omega]
theorem d141 {i : Nat} {x : Nat} (hs : sTg G h0 b i K) (hT : iTl A) (hr : tR K N A J B) (hx : x < 128) (kx : K x) : mX G 141 0 [.ref (b + 34), .ref (G.2.2.1 i), .int (iI (x : Int))] [] (wH h0 b I A P R o) n k Q ↔ Q (.inl (some (.int (iI (if ¬ J 51 = 0 then 27265 else if B 46 x < 0 then 27272 else 36864)))), wH h0 b I A P R o, n, k) := by
  have z := fun Q' => d124k (n := n) (k := k) (Q := Q') (I := I) (P := P) (R := R) (o := o) hs hT hr
  have m3 := hr.2.2
  have z2 := fun Q' => d120 (G := G) (h0 := h0) (b := b) (n := n) (k := k) (Q := Q') (I := I) (A := A) (P := P) (R := R) (o := o) (x := (x : Int)) (by omega) (by rw [show ((x : Int)).toNat = x by omega]; exact hT.1 x)
  rw [show ((x : Int)).toNat = x by omega] at z2
  have ti := tg_iff hr hx kx
  by_cases p1 : J 51 = 0
  · rw [if_neg (fun t => t p1)]
    by_cases p2 : B 46 x < 0
    · rw [if_pos p2]
      simp only [bI_f (fun t => (ti.mp t) p2)] at z2
      simp (maxSteps := 1000000) (disch := first | omega | (simp only [updI_at, upA_at, Nat.reduceEqDiff, reduceIte]; omega) | exact mIsRef_rf _ | exact rfl) only [↓s141_0, ↓s141_1, ↓s141_4, ↓s141_5r, ↓s141_8, ↓s141_11, ↓s141_14, ↓s141_15, ↓s141_16, ↓s141_19, ↓s141_20, ↓s141_23, ↓s141_26, ↓s141_28, ↓s141_31, ↓s141_34, iL_27265, iL_27272, iL_36864, wc_35, wg_34_4, mN1_int, mN1_ref, mN1_null, mN1_U, mN1_rf, mCats_nil, mCats_int, mCats_ref, mCats_null, mCats_long, mCats_rf, mIsRef_ref, mIsRef_null, mIsRef_va, mRf_ref, mRf_null, mRf_rf, true_and, and_true, true_or, or_true, eq_self_iff_true, mK_v, mK_0, Nat.reduceAdd, Nat.reduceLeDiff, Nat.zero_le, iL_0, iL_1, iL_m1, iI_add, iI_sub, iI_mul, iI_neg, updI_at, upA_at, upP_at, upR_at, Nat.reduceEqDiff, reduceIte, Int.reduceAdd, Int.reduceSub, Int.reduceMul, Int.reduceDiv, Int.reduceMod, Int.reduceLT, Int.reduceLE, Int.reduceEq, Int.reduceNeg, not_true_eq_false, not_false_eq_true, Decidable.not_not, z, z2, iI_eq, p1]
    · rw [if_neg p2]
      simp only [bI_t (ti.mpr p2)] at z2
      simp (maxSteps := 1000000) (disch := first | omega | (simp only [updI_at, upA_at, Nat.reduceEqDiff, reduceIte]; omega) | exact mIsRef_rf _ | exact rfl) only [↓s141_0, ↓s141_1, ↓s141_4, ↓s141_5r, ↓s141_8, ↓s141_11, ↓s141_14, ↓s141_15, ↓s141_16, ↓s141_19, ↓s141_20, ↓s141_23, ↓s141_26, ↓s141_28, ↓s141_31, ↓s141_34, iL_27265, iL_27272, iL_36864, wc_35, wg_34_4, mN1_int, mN1_ref, mN1_null, mN1_U, mN1_rf, mCats_nil, mCats_int, mCats_ref, mCats_null, mCats_long, mCats_rf, mIsRef_ref, mIsRef_null, mIsRef_va, mRf_ref, mRf_null, mRf_rf, true_and, and_true, true_or, or_true, eq_self_iff_true, mK_v, mK_0, Nat.reduceAdd, Nat.reduceLeDiff, Nat.zero_le, iL_0, iL_1, iL_m1, iI_add, iI_sub, iI_mul, iI_neg, updI_at, upA_at, upP_at, upR_at, Nat.reduceEqDiff, reduceIte, Int.reduceAdd, Int.reduceSub, Int.reduceMul, Int.reduceDiv, Int.reduceMod, Int.reduceLT, Int.reduceLE, Int.reduceEq, Int.reduceNeg, not_true_eq_false, not_false_eq_true, Decidable.not_not, z, z2, iI_eq, p1]
  · rw [if_pos p1]
    simp (maxSteps := 1000000) (disch := first | omega | (simp only [updI_at, upA_at, Nat.reduceEqDiff, reduceIte]; omega) | exact mIsRef_rf _ | exact rfl) only [↓s141_0, ↓s141_1, ↓s141_4, ↓s141_5r, ↓s141_8, ↓s141_11, ↓s141_14, ↓s141_15, ↓s141_16, ↓s141_19, ↓s141_20, ↓s141_23, ↓s141_26, ↓s141_28, ↓s141_31, ↓s141_34, iL_27265, iL_27272, iL_36864, wc_35, wg_34_4, mN1_int, mN1_ref, mN1_null, mN1_U, mN1_rf, mCats_nil, mCats_int, mCats_ref, mCats_null, mCats_long, mCats_rf, mIsRef_ref, mIsRef_null, mIsRef_va, mRf_ref, mRf_null, mRf_rf, true_and, and_true, true_or, or_true, eq_self_iff_true, mK_v, mK_0, Nat.reduceAdd, Nat.reduceLeDiff, Nat.zero_le, iL_0, iL_1, iL_m1, iI_add, iI_sub, iI_mul, iI_neg, updI_at, upA_at, upP_at, upR_at, Nat.reduceEqDiff, reduceIte, Int.reduceAdd, Int.reduceSub, Int.reduceMul, Int.reduceDiv, Int.reduceMod, Int.reduceLT, Int.reduceLE, Int.reduceEq, Int.reduceNeg, not_true_eq_false, not_false_eq_true, Decidable.not_not, z, iI_eq, p1]
end
end MTOOL
