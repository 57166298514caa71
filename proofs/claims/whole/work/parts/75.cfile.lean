/-! Class: Arrays.fill over a file's bytes, CardFile.replace, push, isAt, recordHas. -/
section MCFILE
variable {G : mG} {h h0 : mH} {n k b : Nat} {Q : mR → Prop} {I : Nat → Int} {A : Nat → Nat → Int} {P : Nat → Nat} {R : Nat → Option Nat} {o : Nat → Int64}
section
variable {p N : Nat} {g F : Nat → Int} {ab : Option Nat}
theorem d274_l {x : Int} (hc : cO G h0 b p ab F) (hN : N ≤ 100000) : ∀ (d : Nat) (c : Int), 0 ≤ c → c + d = N →
    (mX G 274 5 [.ref (p + 1), .int (iI x), .int (iI c), .int (iI N)] [] (wH (fW h0 p N (cpE g (fun _ => x) 0 c)) b I A P R o) n k Q ↔ Q (.inl none, wH (fW h0 p N (cpE g (fun _ => x) 0 N)) b I A P R o, n, k)) := by
  intro d
  induction d with
  | zero =>
    intro c h1 h2
    obtain rfl : c = N := by omega
    rw [s274_5]
    simp (maxSteps := 1000000) (disch := first | omega | (simp only [updI_at, upA_at, Nat.reduceEqDiff, reduceIte]; omega) | exact mIsRef_rf _ | exact rfl) only [↓s274_0, ↓s274_1, ↓s274_2, ↓s274_3, ↓s274_4, ↓s274_6, ↓s274_7, ↓s274_10, ↓s274_11, ↓s274_12, ↓s274_13, ↓s274_14, ↓s274_17, ↓s274_20, mN1_int, mN1_ref, mN1_null, mN1_U, mN1_rf, mCats_nil, mCats_int, mCats_ref, mCats_null, mCats_long, mCats_rf, mIsRef_ref, mIsRef_null, mIsRef_va, mRf_ref, mRf_null, mRf_rf, true_and, and_true, true_or, or_true, eq_self_iff_true, mK_v, mK_0, Nat.reduceAdd, Nat.reduceLeDiff, Nat.zero_le, iL_0, iL_1, iL_m1, iI_add, iI_sub, iI_mul, iI_neg, updI_at, upA_at, upP_at, upR_at, Nat.reduceEqDiff, reduceIte, Int.reduceAdd, Int.reduceSub, Int.reduceMul, Int.reduceDiv, Int.reduceMod, Int.reduceLT, Int.reduceLE, Int.reduceEq, Int.reduceNeg, not_true_eq_false, not_false_eq_true, Decidable.not_not, iI_le, Int.le_refl]
  | succ d ih =>
    intro c h1 h2
    have hc' : ¬ (N : Int) ≤ c := by omega
    have e := cpE_s (g := g) (f := fun _ => x) (lo := 0) (c := c) (by omega) h1
    rw [Int.zero_add] at e
    rw [s274_5]
    simp (maxSteps := 1000000) (disch := first | omega | (simp only [updI_at, upA_at, Nat.reduceEqDiff, reduceIte]; omega) | exact mIsRef_rf _ | exact rfl) only [↓s274_0, ↓s274_1, ↓s274_2, ↓s274_3, ↓s274_4, ↓s274_6, ↓s274_7, ↓s274_10, ↓s274_11, ↓s274_12, ↓s274_13, ↓s274_14, ↓s274_17, ↓s274_20, mN1_int, mN1_ref, mN1_null, mN1_U, mN1_rf, mCats_nil, mCats_int, mCats_ref, mCats_null, mCats_long, mCats_rf, mIsRef_ref, mIsRef_null, mIsRef_va, mRf_ref, mRf_null, mRf_rf, true_and, and_true, true_or, or_true, eq_self_iff_true, mK_v, mK_0, Nat.reduceAdd, Nat.reduceLeDiff, Nat.zero_le, iL_0, iL_1, iL_m1, iI_add, iI_sub, iI_mul, iI_neg, updI_at, upA_at, upP_at, upR_at, Nat.reduceEqDiff, reduceIte, Int.reduceAdd, Int.reduceSub, Int.reduceMul, Int.reduceDiv, Int.reduceMod, Int.reduceLT, Int.reduceLE, Int.reduceEq, Int.reduceNeg, not_true_eq_false, not_false_eq_true, Decidable.not_not, iI_le, hc', fg_s hc]
    rw [e]
    exact ih (c + 1) (by omega) (by omega)
theorem d274 {x : Int} (hc : cO G h0 b p ab F) (hN : N ≤ 100000) : mX G 274 0 [.ref (p + 1), .int (iI x), mU, mU] [] (wH (fW h0 p N g) b I A P R o) n k Q ↔ Q (.inl none, wH (fW h0 p N (cpE g (fun _ => x) 0 N)) b I A P R o, n, k) := by
  have z := d274_l (n := n) (k := k) (Q := Q) (I := I) (A := A) (P := P) (R := R) (o := o) (g := g) (x := x) hc hN N 0 (by omega) (by omega)
  rw [cpE_0] at z
  rw [← z]
  simp (maxSteps := 1000000) (disch := first | omega | (simp only [updI_at, upA_at, Nat.reduceEqDiff, reduceIte]; omega) | exact mIsRef_rf _ | exact rfl) only [↓s274_0, ↓s274_1, ↓s274_2, ↓s274_3, ↓s274_4, ↓s274_6, ↓s274_7, ↓s274_10, ↓s274_11, ↓s274_12, ↓s274_13, ↓s274_14, ↓s274_17, ↓s274_20, mN1_int, mN1_ref, mN1_null, mN1_U, mN1_rf, mCats_nil, mCats_int, mCats_ref, mCats_null, mCats_long, mCats_rf, mIsRef_ref, mIsRef_null, mIsRef_va, mRf_ref, mRf_null, mRf_rf, true_and, and_true, true_or, or_true, eq_self_iff_true, mK_v, mK_0, Nat.reduceAdd, Nat.reduceLeDiff, Nat.zero_le, iL_0, iL_1, iL_m1, iI_add, iI_sub, iI_mul, iI_neg, updI_at, upA_at, upP_at, upR_at, Nat.reduceEqDiff, reduceIte, Int.reduceAdd, Int.reduceSub, Int.reduceMul, Int.reduceDiv, Int.reduceMod, Int.reduceLT, Int.reduceLE, Int.reduceEq, Int.reduceNeg, not_true_eq_false, not_false_eq_true, Decidable.not_not, fg_n hc, iI_nI]
theorem d5 {r : Nat} {f : Int → Int} {s m : Int} (hc : cO G h0 b p ab F) (hN : N ≤ 100000) (hr : rG G b r I A f) (hrc : rC b r) (hf : ∀ z, -1 ≤ f z ∧ f z ≤ 255) (hs : 0 ≤ s ∧ s ≤ 100000) (hm : -1000 ≤ m ∧ m ≤ 100000) :
    mX G 5 0 [.ref p, .ref r, .int (iI s), .int (iI m)] [] (wH (fW h0 p N g) b I A P R o) n k Q ↔ Q (.inl none, wH (fW h0 p N (cpE (cpE g (fun _ => 255) 0 N) (fun j => f (s + j) % 256) 0 (if m ≤ 0 then 0 else if (N : Int) < m then N else m))) b I A P R o, n, k) := by
  by_cases q : (N : Int) < m
  · rw [if_neg (show ¬ m ≤ 0 by omega), if_pos q]
    have z := fun Q' => d4 (n := n) (k := k) (Q := Q') (P := P) (R := R) (o := o) (g := cpE g (fun _ => 255) 0 N) (t := 0) (s := s) (m := N) hc hN hr hrc hf (by omega) hs (by omega)
    simp (maxSteps := 1000000) (disch := first | omega | (simp only [updI_at, upA_at, Nat.reduceEqDiff, reduceIte]; omega) | exact mIsRef_rf _ | exact rfl) only [↓s5_0, ↓s5_1, ↓s5_4, ↓s5_7r, ↓s5_10, ↓s5_11, ↓s5_12, ↓s5_13, ↓s5_14, ↓s5_15, ↓s5_16, ↓s5_19, ↓s5_20, ↓s5_23r, ↓s5_26, iL_255, mN1_int, mN1_ref, mN1_null, mN1_U, mN1_rf, mCats_nil, mCats_int, mCats_ref, mCats_null, mCats_long, mCats_rf, mIsRef_ref, mIsRef_null, mIsRef_va, mRf_ref, mRf_null, mRf_rf, true_and, and_true, true_or, or_true, eq_self_iff_true, mK_v, mK_0, Nat.reduceAdd, Nat.reduceLeDiff, Nat.zero_le, iL_0, iL_1, iL_m1, iI_add, iI_sub, iI_mul, iI_neg, updI_at, upA_at, upP_at, upR_at, Nat.reduceEqDiff, reduceIte, Int.reduceAdd, Int.reduceSub, Int.reduceMul, Int.reduceDiv, Int.reduceMod, Int.reduceLT, Int.reduceLE, Int.reduceEq, Int.reduceNeg, not_true_eq_false, not_false_eq_true, Decidable.not_not, fg_6 hc, fg_c hc, fg_n hc, iI_nI, iI_lt, q, d274 hc hN, z]
  · by_cases q2 : m ≤ 0
    · rw [if_pos q2, cpE_0]
      have z := fun Q' h => d4_n (G := G) (h := h) (n := n) (k := k) (Q := Q') (p := p) (r := r) (t := 0) (s := s) (m := m) q2 (by omega)
      simp (maxSteps := 1000000) (disch := first | omega | (simp only [updI_at, upA_at, Nat.reduceEqDiff, reduceIte]; omega) | exact mIsRef_rf _ | exact rfl) only [↓s5_0, ↓s5_1, ↓s5_4, ↓s5_7r, ↓s5_10, ↓s5_11, ↓s5_12, ↓s5_13, ↓s5_14, ↓s5_15, ↓s5_16, ↓s5_19, ↓s5_20, ↓s5_23r, ↓s5_26, iL_255, mN1_int, mN1_ref, mN1_null, mN1_U, mN1_rf, mCats_nil, mCats_int, mCats_ref, mCats_null, mCats_long, mCats_rf, mIsRef_ref, mIsRef_null, mIsRef_va, mRf_ref, mRf_null, mRf_rf, true_and, and_true, true_or, or_true, eq_self_iff_true, mK_v, mK_0, Nat.reduceAdd, Nat.reduceLeDiff, Nat.zero_le, iL_0, iL_1, iL_m1, iI_add, iI_sub, iI_mul, iI_neg, updI_at, upA_at, upP_at, upR_at, Nat.reduceEqDiff, reduceIte, Int.reduceAdd, Int.reduceSub, Int.reduceMul, Int.reduceDiv, Int.reduceMod, Int.reduceLT, Int.reduceLE, Int.reduceEq, Int.reduceNeg, not_true_eq_false, not_false_eq_true, Decidable.not_not, fg_6 hc, fg_c hc, fg_n hc, iI_nI, iI_lt, q, d274 hc hN, z]
    · rw [if_neg q2, if_neg q]
      have z := fun Q' => d4 (n := n) (k := k) (Q := Q') (P := P) (R := R) (o := o) (g := cpE g (fun _ => 255) 0 N) (t := 0) (s := s) (m := m) hc hN hr hrc hf (by omega) hs (by omega)
      simp (maxSteps := 1000000) (disch := first | omega | (simp only [updI_at, upA_at, Nat.reduceEqDiff, reduceIte]; omega) | exact mIsRef_rf _ | exact rfl) only [↓s5_0, ↓s5_1, ↓s5_4, ↓s5_7r, ↓s5_10, ↓s5_11, ↓s5_12, ↓s5_13, ↓s5_14, ↓s5_15, ↓s5_16, ↓s5_19, ↓s5_20, ↓s5_23r, ↓s5_26, iL_255, mN1_int, mN1_ref, mN1_null, mN1_U, mN1_rf, mCats_nil, mCats_int, mCats_ref, mCats_null, mCats_long, mCats_rf, mIsRef_ref, mIsRef_null, mIsRef_va, mRf_ref, mRf_null, mRf_rf, true_and, and_true, true_or, or_true, eq_self_iff_true, mK_v, mK_0, Nat.reduceAdd, Nat.reduceLeDiff, Nat.zero_le, iL_0, iL_1, iL_m1, iI_add, iI_sub, iI_mul, iI_neg, updI_at, upA_at, upP_at, upR_at, Nat.reduceEqDiff, reduceIte, Int.reduceAdd, Int.reduceSub, Int.reduceMul, Int.reduceDiv, Int.reduceMod, Int.reduceLT, Int.reduceLE, Int.reduceEq, Int.reduceNeg, not_true_eq_false, not_false_eq_true, Decidable.not_not, fg_6 hc, fg_c hc, fg_n hc, iI_nI, iI_lt, q, d274 hc hN, z]
theorem s7_36 {N M : Nat} {z y m : Int} {st : List Value} (hc : cO G h0 b p ab F) (hN : N ≤ 100000) (hz : 0 ≤ z) (hy : 0 ≤ y) (hm : 0 ≤ m) (h1 : z + m ≤ N) (h2 : y + m ≤ N) (hs : mCats st ≤ 8) {L : List Value} :
    mX G 7 36 L (.int (iI m) :: .int (iI y) :: .ref (p + 1) :: .int (iI z) :: .ref (p + 1) :: st) (wH (fW h0 p N g) b I A P R o) n k Q ↔ mX G 7 39 L st (wH (fW h0 p N (cpE g (fun j => g (z.toNat + j)) y m)) b I A P R o) n k Q := by
  have hb := hc.2.1
  have e := fW_by (I := I) (A := A) (P := P) (R := R) (o := o) (N := N) (g := g) hc
  rw [rw_copyI (G := G) hm7 (show decode cX0_push 36 = .ok (.invokestatic 67, 3) by decide +kernel) (by decide +kernel) (by decide +kernel) e e ⟨by rw [show (0 : Int32) = iI 0 from rfl, iI_lt (by omega) (by omega) (by omega) (by omega)]; omega, by rw [show (0 : Int32) = iI 0 from rfl, iI_lt (by omega) (by omega) (by omega) (by omega)]; omega, by rw [show (0 : Int32) = iI 0 from rfl, iI_lt (by omega) (by omega) (by omega) (by omega)]; omega, by omega, hs⟩ (by rw [iI_nat (by omega) (by omega), iI_nat (by omega) (by omega), iI_nat (by omega) (by omega)]; omega)]
  rw [iI_nat (by omega) (by omega), iI_nat (by omega) (by omega), iI_nat (by omega) (by omega), wH_put hc.1.2]
  have e2 : mUp (fW h0 p N g) (p + 1) (mI N (va_cpy (fun j => iI (g j)) (fun j => iI (g j)) z.toNat y.toNat m.toNat)) = fW h0 p N (cpE g (fun j => g (z.toNat + j)) y m) := by
    unfold fW
    rw [mUp_mUp]
    congr 2
    funext j
    unfold va_cpy cpE
    by_cases q : y.toNat ≤ j ∧ j < y.toNat + m.toNat
    · rw [if_pos q, if_pos (by omega)]
      congr 2
      omega
    · rw [if_neg q, if_neg (by omega)]
  rw [e2]
theorem d7 {r : Nat} {f : Int → Int} (hc : cO G h0 b p ab F) (hN : N ≤ 100000) (hr : rG G b r I A f) (hrc : rC b r) (hf : ∀ z, -1 ≤ f z ∧ f z ≤ 255) (hs : 1 ≤ F 4 ∧ F 4 ≤ N) :
    mX G 7 0 [.ref p, .ref r, mU] [] (wH (fW h0 p N g) b I A P R o) n k Q ↔ Q (.inl none, wH (fW h0 p N (cpE (cpE g (fun j => g j) (F 4) (N - F 4)) (fun j => f j % 256) 0 (F 4))) b I A P R o, n, k) := by
  have h1 : ¬ F 4 ≤ 0 := by omega
  have h2 : ¬ (N : Int) - F 4 < 0 := by omega
  have z := fun Q' => d4 (n := n) (k := k) (Q := Q') (P := P) (R := R) (o := o) (g := cpE g (fun j => g j) (F 4) (N - F 4)) (t := 0) (s := 0) (m := F 4) hc hN hr hrc hf (by omega) (by omega) (by omega)
  simp only [Int.zero_add] at z
  have y := fun st => s7_36 (n := n) (k := k) (Q := Q) (I := I) (A := A) (P := P) (R := R) (o := o) (g := g) (N := N) (M := N) (z := 0) (y := F 4) (m := N - F 4) (st := []) hc hN (by omega) (by omega) (by omega) (by omega) (by omega) (by decide) (L := st)
  simp only [show (0 : Int).toNat = 0 from rfl, Nat.zero_add] at y
  simp (maxSteps := 1000000) (disch := first | omega | (simp only [updI_at, upA_at, Nat.reduceEqDiff, reduceIte]; omega) | exact mIsRef_rf _ | exact rfl) only [↓s7_0, ↓s7_1, ↓s7_4, ↓s7_5, ↓s7_6, ↓s7_9, ↓s7_10, ↓s7_11, ↓s7_12, ↓s7_15, ↓s7_18, ↓s7_19, ↓s7_22, ↓s7_23, ↓s7_26, ↓s7_27, ↓s7_28, ↓s7_31, ↓s7_32, ↓s7_35, ↓s7_39, ↓s7_40, ↓s7_41, ↓s7_42, ↓s7_43, ↓s7_44, ↓s7_47r, ↓s7_50, mN1_int, mN1_ref, mN1_null, mN1_U, mN1_rf, mCats_nil, mCats_int, mCats_ref, mCats_null, mCats_long, mCats_rf, mIsRef_ref, mIsRef_null, mIsRef_va, mRf_ref, mRf_null, mRf_rf, true_and, and_true, true_or, or_true, eq_self_iff_true, mK_v, mK_0, Nat.reduceAdd, Nat.reduceLeDiff, Nat.zero_le, iL_0, iL_1, iL_m1, iI_add, iI_sub, iI_mul, iI_neg, updI_at, upA_at, upP_at, upR_at, Nat.reduceEqDiff, reduceIte, Int.reduceAdd, Int.reduceSub, Int.reduceMul, Int.reduceDiv, Int.reduceMod, Int.reduceLT, Int.reduceLE, Int.reduceEq, Int.reduceNeg, not_true_eq_false, not_false_eq_true, Decidable.not_not, fg_6 hc, fg_4 hc, fg_c hc, fg_n hc, iI_nI, iI_lt, iI_le, h1, h2, y, z]
end
end MCFILE
