/-! The calls: with, goes, pick. -/
section MOPS4
variable {G : mG} {h h0 : mH} {n k b : Nat} {Q : mR → Prop} {I : Nat → Int} {A : Nat → Nat → Int} {P : Nat → Nat} {R : Nat → Option Nat} {o : Nat → Int64}
section
variable {p w t rm : Nat} {fl : Option Nat} {F gw gi gt : Nat → Int} {gx : Nat → Option Nat}
theorem d50 {x y : Int} (hn : nO G h0 b p w t fl F) (ha : nA h0 w rm gw gi gt gx) (hx : -2147483648 ≤ x ∧ x < 2147483648) : mX G 50 0 [.ref p, .int (iI x), .int (iI y)] [] (wH h0 b I A P R o) n k Q ↔ if 0 ≤ x ∧ x < 4 then Q (.inl (some (.int (iI 1))), wH (mUp h0 w (mI 4 (fun j => iI (upE gw x.toNat y j)))) b I A P R o, n, k) else Q (.inl (some (.int (iI 0))), wH h0 b I A P R o, n, k) := by
  have zl := fun K => hLen (K := K) (ngw (I := I) (A := A) (P := P) (R := R) (o := o) hn ha)
  by_cases q1 : x < 0
  · rw [if_neg (by omega)]
    simp (maxSteps := 1000000) (disch := first | omega | (simp only [updI_at, upA_at, Nat.reduceEqDiff, reduceIte]; omega) | exact mIsRef_rf _ | exact rfl) only [↓s50_0, ↓s50_1, ↓s50_4, ↓s50_5, ↓s50_6, ↓s50_9, ↓s50_10, ↓s50_13, ↓s50_14, ↓s50_15, ↓s50_16, ↓s50_19, ↓s50_20, ↓s50_21, ↓s50_22, ↓s50_23, mN1_int, mN1_ref, mN1_null, mN1_U, mN1_rf, mCats_nil, mCats_int, mCats_ref, mCats_null, mCats_long, mCats_rf, mIsRef_ref, mIsRef_null, mIsRef_va, mRf_ref, mRf_null, mRf_rf, true_and, and_true, true_or, or_true, eq_self_iff_true, mK_v, mK_0, Nat.reduceAdd, Nat.reduceLeDiff, Nat.zero_le, iL_0, iL_1, iL_m1, iI_add, iI_sub, iI_mul, iI_neg, updI_at, upA_at, upP_at, upR_at, Nat.reduceEqDiff, reduceIte, Int.reduceAdd, Int.reduceSub, Int.reduceMul, Int.reduceDiv, Int.reduceMod, Int.reduceLT, Int.reduceLE, Int.reduceEq, Int.reduceNeg, not_true_eq_false, not_false_eq_true, Decidable.not_not, iI_lt, q1]
  · by_cases q2 : x < 4
    · rw [if_pos (by omega)]
      have zs := fun K => hSt (G := G) (K := K) (z := x) (x := y) (ngw (I := I) (A := A) (P := P) (R := R) (o := o) hn ha) (by omega) hn.2.1.2 (by omega) (by omega)
      simp only [wH_put hn.1.2.1] at zs
      simp (maxSteps := 1000000) (disch := first | omega | (simp only [updI_at, upA_at, Nat.reduceEqDiff, reduceIte]; omega) | exact mIsRef_rf _ | exact rfl) only [↓s50_0, ↓s50_1, ↓s50_4, ↓s50_5, ↓s50_6, ↓s50_9, ↓s50_10, ↓s50_13, ↓s50_14, ↓s50_15, ↓s50_16, ↓s50_19, ↓s50_20, ↓s50_21, ↓s50_22, ↓s50_23, mN1_int, mN1_ref, mN1_null, mN1_U, mN1_rf, mCats_nil, mCats_int, mCats_ref, mCats_null, mCats_long, mCats_rf, mIsRef_ref, mIsRef_null, mIsRef_va, mRf_ref, mRf_null, mRf_rf, true_and, and_true, true_or, or_true, eq_self_iff_true, mK_v, mK_0, Nat.reduceAdd, Nat.reduceLeDiff, Nat.zero_le, iL_0, iL_1, iL_m1, iI_add, iI_sub, iI_mul, iI_neg, updI_at, upA_at, upP_at, upR_at, Nat.reduceEqDiff, reduceIte, Int.reduceAdd, Int.reduceSub, Int.reduceMul, Int.reduceDiv, Int.reduceMod, Int.reduceLT, Int.reduceLE, Int.reduceEq, Int.reduceNeg, not_true_eq_false, not_false_eq_true, Decidable.not_not, iI_lt, q1, ng_3 hn, zl, iI_nI, show x < ((4 : Nat) : Int) by omega, zs]
    · rw [if_neg (by omega)]
      simp (maxSteps := 1000000) (disch := first | omega | (simp only [updI_at, upA_at, Nat.reduceEqDiff, reduceIte]; omega) | exact mIsRef_rf _ | exact rfl) only [↓s50_0, ↓s50_1, ↓s50_4, ↓s50_5, ↓s50_6, ↓s50_9, ↓s50_10, ↓s50_13, ↓s50_14, ↓s50_15, ↓s50_16, ↓s50_19, ↓s50_20, ↓s50_21, ↓s50_22, ↓s50_23, mN1_int, mN1_ref, mN1_null, mN1_U, mN1_rf, mCats_nil, mCats_int, mCats_ref, mCats_null, mCats_long, mCats_rf, mIsRef_ref, mIsRef_null, mIsRef_va, mRf_ref, mRf_null, mRf_rf, true_and, and_true, true_or, or_true, eq_self_iff_true, mK_v, mK_0, Nat.reduceAdd, Nat.reduceLeDiff, Nat.zero_le, iL_0, iL_1, iL_m1, iI_add, iI_sub, iI_mul, iI_neg, updI_at, upA_at, upP_at, upR_at, Nat.reduceEqDiff, reduceIte, Int.reduceAdd, Int.reduceSub, Int.reduceMul, Int.reduceDiv, Int.reduceMod, Int.reduceLT, Int.reduceLE, Int.reduceEq, Int.reduceNeg, not_true_eq_false, not_false_eq_true, Decidable.not_not, iI_lt, q1, ng_3 hn, zl, iI_nI, show ¬ x < ((4 : Nat) : Int) by omega]
theorem d52 {x y : Int} (hn : nO G h0 b p w t fl F) (ha : nA h0 w rm gw gi gt gx) (hr : F 7 ≤ rm) (hm : rm ≤ 5) (h7 : 0 ≤ F 7) (hg : ∀ j, 0 ≤ gi j ∧ gi j ≤ 255) (hx : -2147483648 ≤ x ∧ x < 2147483648) : mX G 52 0 [.ref p, .int (iI x), .int (iI y), mU] [] (wH h0 b I A P R o) n k Q ↔ if 0 ≤ seek (fun j => gi j.toNat = x) (F 7).toNat 0 then Q (.inl (some (.int (iI 1))), wH (mUp h0 (w + 2) (mI rm (fun j => iI (upE gt (seek (fun j => gi j.toNat = x) (F 7).toNat 0).toNat y j)))) b I A P R o, n, k) else Q (.inl (some (.int (iI 0))), wH h0 b I A P R o, n, k) := by
  have z47 := fun Q' => d47 (n := n) (k := k) (Q := Q') (I := I) (A := A) (P := P) (R := R) (o := o) hn ha hr hm h7 hg hx
  have sr := seek_rng (fun j => gi j.toNat = x) (F 7).toNat 0 (by omega)
  have sl := seek_lo (fun j => gi j.toNat = x) (F 7).toNat 0
  have zl := fun K => hLen (K := K) (ngt (I := I) (A := A) (P := P) (R := R) (o := o) hn ha)
  have hb2 := hn.2.1.2
  generalize seek (fun j => gi j.toNat = x) (F 7).toNat 0 = s at *
  by_cases q1 : s < 0
  · rw [if_neg (by omega)]
    simp (maxSteps := 1000000) (disch := first | omega | (simp only [updI_at, upA_at, Nat.reduceEqDiff, reduceIte]; omega) | exact mIsRef_rf _ | exact rfl) only [↓s52_0, ↓s52_1, ↓s52_2, ↓s52_5, ↓s52_6, ↓s52_7, ↓s52_10, ↓s52_11, ↓s52_12, ↓s52_15, ↓s52_16, ↓s52_19, ↓s52_20, ↓s52_21, ↓s52_22, ↓s52_25, ↓s52_26, ↓s52_27, ↓s52_28, ↓s52_29, mN1_int, mN1_ref, mN1_null, mN1_U, mN1_rf, mCats_nil, mCats_int, mCats_ref, mCats_null, mCats_long, mCats_rf, mIsRef_ref, mIsRef_null, mIsRef_va, mRf_ref, mRf_null, mRf_rf, true_and, and_true, true_or, or_true, eq_self_iff_true, mK_v, mK_0, Nat.reduceAdd, Nat.reduceLeDiff, Nat.zero_le, iL_0, iL_1, iL_m1, iI_add, iI_sub, iI_mul, iI_neg, updI_at, upA_at, upP_at, upR_at, Nat.reduceEqDiff, reduceIte, Int.reduceAdd, Int.reduceSub, Int.reduceMul, Int.reduceDiv, Int.reduceMod, Int.reduceLT, Int.reduceLE, Int.reduceEq, Int.reduceNeg, not_true_eq_false, not_false_eq_true, Decidable.not_not, iI_lt, z47, ng_c hn, q1]
  · rw [if_pos (by omega)]
    have zs := fun K => hSt (G := G) (K := K) (z := s) (x := y) (ngt (I := I) (A := A) (P := P) (R := R) (o := o) hn ha) (by omega) (by omega) (by omega) (by omega)
    simp only [wH_put hn.1.2.2.2.1] at zs
    simp (maxSteps := 1000000) (disch := first | omega | (simp only [updI_at, upA_at, Nat.reduceEqDiff, reduceIte]; omega) | exact mIsRef_rf _ | exact rfl) only [↓s52_0, ↓s52_1, ↓s52_2, ↓s52_5, ↓s52_6, ↓s52_7, ↓s52_10, ↓s52_11, ↓s52_12, ↓s52_15, ↓s52_16, ↓s52_19, ↓s52_20, ↓s52_21, ↓s52_22, ↓s52_25, ↓s52_26, ↓s52_27, ↓s52_28, ↓s52_29, mN1_int, mN1_ref, mN1_null, mN1_U, mN1_rf, mCats_nil, mCats_int, mCats_ref, mCats_null, mCats_long, mCats_rf, mIsRef_ref, mIsRef_null, mIsRef_va, mRf_ref, mRf_null, mRf_rf, true_and, and_true, true_or, or_true, eq_self_iff_true, mK_v, mK_0, Nat.reduceAdd, Nat.reduceLeDiff, Nat.zero_le, iL_0, iL_1, iL_m1, iI_add, iI_sub, iI_mul, iI_neg, updI_at, upA_at, upP_at, upR_at, Nat.reduceEqDiff, reduceIte, Int.reduceAdd, Int.reduceSub, Int.reduceMul, Int.reduceDiv, Int.reduceMod, Int.reduceLT, Int.reduceLE, Int.reduceEq, Int.reduceNeg, not_true_eq_false, not_false_eq_true, Decidable.not_not, iI_lt, z47, ng_c hn, q1, ng_5 hn, zl, iI_nI, show s < rm by omega, zs]
end
section
variable {fa : Nat → Nat} {fb : Nat → Nat → Int} {fcap : Nat} {fg : Nat → Option Nat} {W : Nat → Nat → Nat → Nat} {V : Nat → Nat → Nat → Nat → Int} {X : Nat → Nat → Option Nat} {cap : Nat} {ng : Nat → Option Nat} {h1 : mH} {ow : Nat → Nat}
theorem kept_node {x a t : Nat} {e0 e1 : mE} (hr : rst G h0 b I A P R I A fa fb fcap fg W V X cap ng) (hM : iM I A) (ho : oW ow P I A fa W) (hcell : h0 a = some e0) (hne : ∀ k N f, 2 ≤ k → e0 ≠ .inl (k, N, f)) (hta : ow a = t) (ht : t / 100 = x ∧ x ≤ 40) :
    (dFl G (mUp h0 a e1) b (P 2) I A fa fb fcap fg ∧ (∀ i : Nat, ((i : Int) < (I 31) ∨ i = 40) → ¬ i = x → dN1 G (mUp h0 a e1) b I A fa W V X i)) ∧ (hol b (P 3) ∧ (0 < (I 31) → mUp h0 a e1 (P 3) = some (mA 4 cap ng))) ∧ rT G (mUp h0 a e1) b ∧ rG1 G (mUp h0 a e1) (P 3) I cap ng ∧ sSc G (mUp h0 a e1) b ∧ (∀ y, P 4 ≤ y → mUp h0 a e1 y = none) := by
  obtain ⟨⟨b1, b1'⟩, b2, b3, b4, b5, b6, b7, b8, b9, b10, b11, z1, z2, z3, z4⟩ := hr
  have hk := ow_up (h0 := h0) (e1 := e1) hta
  have n40 := hM.2.2.2.1.1
  refine ⟨⟨keep_f ho hk (by omega) b1, ?_⟩, ⟨b2.1.1.1, fun q => by rw [hk _ (by rw [ho.2.2.2]; omega)]; exact b2.1.1.2 q⟩, keep_T hcell hne b3, keep_G ho.2.2.2 (by omega) z1, keep_Sc hcell hne z2, keep_0 hcell z4⟩
  intro i hi hx
  exact keep_n ho hk hi (by omega) (hM.2.2.2.1.2.2.1 i (by omega)) (b2.1.2.2.2.2 i hi)
theorem seek_it {x : Nat} {y : Int} (h1 : dN1 G h0 b I A fa W V X x) (hi : 0 ≤ (A 32) x) : (seek (fun j => V 1 x j.toNat 0 = y) ((A 32) x).toNat 0 = -1 ∧ seek (fun j => (A 33) j.toNat = y) ((A 32) x).toNat (5 * (x : Int)) = -1) ∨ (seek (fun j => (A 33) j.toNat = y) ((A 32) x).toNat (5 * (x : Int)) = 5 * x + seek (fun j => V 1 x j.toNat 0 = y) ((A 32) x).toNat 0 ∧ 0 ≤ seek (fun j => V 1 x j.toNat 0 = y) ((A 32) x).toNat 0 ∧ seek (fun j => V 1 x j.toNat 0 = y) ((A 32) x).toNat 0 < (A 32) x) := by
  have q := seek_sh (p := fun j => V 1 x j.toNat 0 = y) (q := fun j => (A 33) j.toNat = y) (5 * (x : Int)) ((A 32) x).toNat 0 (by omega) (fun j h2 h3 => by
    have := (h1.2.2.1 j.toNat (by omega)).1
    rw [this, show 5 * x + j.toNat = (5 * (x : Int) + j).toNat by omega])
  have r := seek_rng (fun j => V 1 x j.toNat 0 = y) ((A 32) x).toNat 0 (by omega)
  rw [Int.add_zero] at q
  omega
theorem iM_goes {i : Nat} {w : Int} (h : iM I A) (hw : -1 ≤ w ∧ w < (I 31)) : iM (updI I 27 0) (upA A 29 (upE (A 29) i w)) := by
  obtain ⟨hA, hF, hH, ⟨n1, n2, n3⟩, hS, hT⟩ := h
  refine ⟨RgA_upA hA (fun j => upE_P (p := fun x => -2147483648 ≤ x ∧ x < 2147483648) (hA _) (by omega) j), hF, hH, ⟨n1, ?_, n3⟩, hS, hT⟩
  intro x hx
  obtain ⟨k1, k2, k3, k4, k5, k6, k7⟩ := n2 x hx
  refine ⟨k1, k2, k3, k4, k5, k6, ?_⟩
  intro j hj
  show -1 ≤ upE (A 29) i w (4 * x + j) ∧ upE (A 29) i w (4 * x + j) < (I 31)
  unfold upE
  split
  · exact hw
  · exact k7 j hj
theorem iM_pick {i : Nat} {w : Int} (h : iM I A) (hw : -1 ≤ w ∧ w < (I 31)) : iM (updI I 27 0) (upA A 34 (upE (A 34) i w)) := by
  obtain ⟨hA, hF, hH, ⟨n1, n2, n3, n4, n5, n6⟩, hS, hT⟩ := h
  refine ⟨RgA_upA hA (fun j => upE_P (p := fun x => -2147483648 ≤ x ∧ x < 2147483648) (hA _) (by omega) j), hF, hH, ⟨n1, n2, n3, n4, ?_, n6⟩, hS, hT⟩
  intro x c h1 h2 h3
  obtain ⟨k1, k2, k3⟩ := n5 x c h1 h2 h3
  refine ⟨k1, ?_, k3⟩
  show -1 ≤ upE (A 34) i w c ∧ upE (A 34) i w c < (I 31)
  unfold upE
  split
  · exact hw
  · exact k2
theorem iM_with {i : Nat} {r w z : Int} (h : iM I A) (hr : 0 ≤ r ∧ r ≤ 255) (hw : 0 ≤ w ∧ w ≤ 255) (hz : -1 ≤ z ∧ z < (I 29)) : iM (updI I 27 0) (upA (upA (upA A 26 (upE (A 26) i r)) 27 (upE (A 27) i w)) 28 (upE (A 28) i z)) := by
  have f1 := h.2.1.1
  obtain ⟨hA, hF, hH, ⟨n1, n2, n3⟩, hS, hT⟩ := h
  refine ⟨RgA_upA (RgA_upA (RgA_upA hA (fun j => upE_P (p := fun x => -2147483648 ≤ x ∧ x < 2147483648) (hA _) (by omega) j)) (fun j => upE_P (p := fun x => -2147483648 ≤ x ∧ x < 2147483648) (hA _) (by omega) j)) (fun j => upE_P (p := fun x => -2147483648 ≤ x ∧ x < 2147483648) (hA _) (by omega) j), hF, hH, ⟨n1, ?_, n3⟩, hS, hT⟩
  intro x hx
  obtain ⟨k1, k2, k3, k4, k5, k6⟩ := n2 x hx
  refine ⟨k1, k2, ?_, ?_, ?_, k6⟩
  · show 0 ≤ upE (A 26) i r x ∧ upE (A 26) i r x ≤ 255
    unfold upE
    split
    · exact hr
    · exact k3
  · show 0 ≤ upE (A 27) i w x ∧ upE (A 27) i w x ≤ 255
    unfold upE
    split
    · exact hw
    · exact k4
  · show -1 ≤ upE (A 28) i z x ∧ upE (A 28) i z x < (I 29)
    unfold upE
    split
    · exact hz
    · exact k5
theorem op_goes {x r w : Int} (hb : G.2.2.2 ≤ b) (hM : iM I A) (hr : rst G h0 b I A P R I A fa fb fcap fg W V X cap ng) (hf : fre P b n W) (hri : ri I A) (hx : -2147483648 ≤ x ∧ x < 2147483648) (hrr : -2147483648 ≤ r ∧ r < 2147483648) (hw : -2147483648 ≤ w ∧ w < 2147483648) :
    op1 G b n (fun n k Q => mX G 163 0 [.ref b, .int (iI x), .int (iI r), .int (iI w), mU] [] (wH h0 b I A P R o) n k Q) (fun h n k Q => mX G 198 0 [.ref (b + 43), .int (iI x), .int (iI r), .int (iI w)] [] h n k Q) := by
  have n1 := hM.2.2.2.1.1
  have c := fun h1 X1 Y k Q (hA : RgA (gm Y A)) => c198 (G := G) (h0 := h1) (n := n) (k := k) (Q := Q) (I := gl X1 I) (A := gm Y A) (P := P) (R := R) (o := o) hb hA hx hrr hw n1
  simp (disch := decide) only [gl_at, gm_at, gl_up, gm_up] at c
  have z64 := fun k Q => d64 (n := n) (k := k) (Q := Q) (I := I) (A := A) (R := R) (o := o) (z := x) hr.2.1.1 hr.2.1.2.1 n1 hx
  have z66 := fun k Q' => d66 (n := n) (k := k) (Q := Q') (I := I) (A := A) (R := R) (o := o) (z := w) hr.2.1.1 hr.2.1.2.1 n1 hw
  have no : ∀ (hn : ¬ ((0 ≤ x ∧ x ≤ (I 31) - 1) ∧ (0 ≤ r ∧ r ≤ 3) ∧ (w = -1 ∨ 0 ≤ w ∧ w ≤ (I 31) - 1))), (∀ k Q, mX G 163 0 [.ref b, .int (iI x), .int (iI r), .int (iI w), mU] [] (wH h0 b I A P R o) n k Q ↔ Q (.inl (some (.int (iI 0))), wH h0 b I A P R o, n, k)) → op1 G b n (fun n k Q => mX G 163 0 [.ref b, .int (iI x), .int (iI r), .int (iI w), mU] [] (wH h0 b I A P R o) n k Q) (fun h n k Q => mX G 198 0 [.ref (b + 43), .int (iI x), .int (iI r), .int (iI w)] [] h n k Q) := by
    intro hn zc
    refine op_ro (o := o) (v := 0) hM hr hf hri zc ?_
    intro X1 Y hi k Q
    rw [c _ _ _ _ _ hi.1, if_neg hn, gl_up (by decide)]
  by_cases p1 : 0 ≤ x ∧ x < (I 31)
  · have e64 : rnV I W x = some (W 0 x.toNat 0) := if_pos p1
    rw [e64] at z64
    have hd := hr.2.1.1.2.2.2.2 x.toNat (Or.inl (by omega))
    obtain ⟨hn, ha, hT, h5, hrest⟩ := id hd.1
    by_cases p2 : w = -1 ∨ 0 ≤ w ∧ w < (I 31)
    · simp only [bI_t p2] at z66
      have z50 := fun k Q => d50 (n := n) (k := k) (Q := Q) (I := I) (A := A) (P := P) (R := R) (o := o) (x := r) (y := w) hn ha hrr
      by_cases p3 : 0 ≤ r ∧ r < 4
      · simp only [eq_true p3, if_true] at z50
        obtain ⟨⟨b1, b1'⟩, b2, b3, b4, b5, b6, b7, b8, b9, b10, b11, z1, z2, ⟨ow, ho⟩, z4⟩ := id hr
        have oo : oW ow P I A fa W := ho
        obtain ⟨o0, ⟨o1, o2, o3, o4⟩, ⟨o5, o6⟩, o7⟩ := ho.2.1 x.toNat (Or.inl (by omega))
        obtain ⟨⟨k1, k2⟩, k3, k4, k5, k6, k7⟩ := kept_node (x := x.toNat) (e1 := mI 4 (fun j => iI (upE (fun j => V 0 x.toNat j 0) r.toNat w j))) hr hM oo ha.1 (fun k N f hk q => by cases q; omega) o1 (by omega)
        have hk := ow_up (h0 := h0) (e1 := mI 4 (fun j => iI (upE (fun j => V 0 x.toNat j 0) r.toNat w j))) o1
        have hr1 : rst G (mUp h0 (W 1 x.toNat 0) (mI 4 (fun j => iI (upE (fun j => V 0 x.toNat j 0) r.toNat w j)))) b I A P R (updI I 27 0) (upA A 29 (upE (A 29) (4 * x + r).toNat w)) fa fb fcap fg W (upV V x.toNat (fun q j u => if q = 0 ∧ j = r.toNat then w else V q x.toNat j u)) X cap ng := by
          refine ⟨⟨k1, b1'⟩, ⟨⟨k3, b2.1.2.1, b2.1.2.2.1, b2.1.2.2.2.1, ?_⟩, b2.2⟩, k4, b4, b5, b6, b7, b8, b9, b10, b11, k5, k6, ⟨ow, ho⟩, k7⟩
          intro i hi
          have hi2 : (i : Int) < (I 31) ∨ i = 40 := hi
          by_cases q : i = x.toNat
          · subst q
            obtain ⟨hd1, hd2, hd3, hd4⟩ := hd
            refine ⟨?_, ?_, ?_, ?_⟩
            · simp only [upV_eq]
              refine ⟨⟨hn.1, hn.2.1, by rw [hk _ (by omega)]; exact hn.2.2⟩, ⟨?_, ?_, ?_, ?_⟩, nT_eq (hk _ (by omega)) (hk _ (by omega)) hT, ?_, hrest⟩
              · rw [mUp_same]
                congr 2
                funext j
                congr 1
                show upE (fun j => V 0 x.toNat j 0) r.toNat w j = if True ∧ j = r.toNat then w else V 0 x.toNat j 0
                unfold upE
                by_cases w1 : j = r.toNat
                · rw [if_pos w1, if_pos ⟨trivial, w1⟩]
                · rw [if_neg w1, if_neg (fun t => w1 t.2)]
              · rw [hk _ (by omega)]; exact ha.2.1
              · rw [hk _ (by omega)]; exact ha.2.2.1
              · rw [hk _ (by omega)]; exact ha.2.2.2
              · intro j hj
                have hj' : (j : Int) < (A 32) x.toNat := hj
                obtain ⟨c1, c2, c3⟩ := h5 j hj
                obtain ⟨q1, q2⟩ := o7 j hj'
                have i5 := hM.2.2.2.1.2.2.1 x.toNat (by omega)
                have w1 : ow (W 4 x.toNat j) ≠ 100 * x.toNat + 10 := by omega
                have w2 : ow (W 4 x.toNat j + 1) ≠ 100 * x.toNat + 10 := by omega
                exact ⟨c1, nT_eq (t0 := W 4 x.toNat j) (hk _ w1) (hk _ w2) c2, c3⟩
            · intro j hj
              rw [upV_eq]
              show (if 0 = 0 ∧ j = r.toNat then w else V 0 x.toNat j 0) = if x.toNat = 40 then -1 else upE (A 29) (4 * x + r).toNat w (4 * x.toNat + j)
              have hj4 := hd2 j hj
              have x40 : ¬ x.toNat = 40 := by omega
              rw [if_neg x40] at hj4 ⊢
              unfold upE
              by_cases w1 : j = r.toNat
              · rw [if_pos ⟨rfl, w1⟩, if_pos (by omega)]
              · rw [if_neg (fun t => w1 t.2), if_neg (by omega), hj4]
            · intro j hj
              simp only [upV_eq]
              exact hd3 j hj
            · intro u hu
              simp only [upV_eq]
              exact hd4 u hu
          · have d := dN1_up (w := fun q j => W q x.toNat j) (v := fun q j u => if q = 0 ∧ j = r.toNat then w else V q x.toNat j u) (z := X x.toNat) q (k2 i hi2 q)
            have eW : upW W x.toNat (fun q j => W q x.toNat j) = W := by
              funext q i j
              unfold upW
              split
              · rename_i h; rw [h]
              · rfl
            have eX : upX X x.toNat (X x.toNat) = X := by
              funext i j
              unfold upX
              split
              · rename_i h; rw [h]
              · rfl
            rw [eW, eX] at d
            refine dN1_cg (J := I) (B := A) rfl rfl rfl rfl ?_ rfl (fun j hj => ⟨⟨rfl, rfl, rfl⟩, fun u hu => rfl⟩) (fun u hu => rfl) d
            intro j hj
            show upE (A 29) (4 * x + r).toNat w (4 * i + j) = (A 29) (4 * i + j)
            exact upE_ne (by omega)
        obtain ⟨A2, e1, e2, e3⟩ := op_end (o := o) hr1 kpM_refl hM (iM_goes hM (by omega)) hf hri
        refine ⟨1, _, I, A, P, R, o, _, ?_, k6, ?_, e3⟩
        · intro k Q
          dsimp only
          generalize upE (fun j => V 0 x.toNat j 0) r.toNat w = gg at *
          simp (maxSteps := 1000000) (disch := first | omega | (simp only [updI_at, upA_at, Nat.reduceEqDiff, reduceIte]; omega) | exact mIsRef_rf _ | exact rfl) only [↓s163_0, ↓s163_1, ↓s163_4, ↓s163_5, ↓s163_8, ↓s163_10, ↓s163_12, ↓s163_15, ↓s163_16, ↓s163_19, ↓s163_20, ↓s163_23, ↓s163_26, ↓s163_28, ↓s163_29, ↓s163_30, ↓s163_33, ↓s163_36, ↓s163_37, ↓s163_40, ↓s163_41, wc_17, wg_0_5, mN1_int, mN1_ref, mN1_null, mN1_U, mN1_rf, mCats_nil, mCats_int, mCats_ref, mCats_null, mCats_long, mCats_rf, mIsRef_ref, mIsRef_null, mIsRef_va, mRf_ref, mRf_null, mRf_rf, true_and, and_true, true_or, or_true, eq_self_iff_true, mK_v, mK_0, Nat.reduceAdd, Nat.reduceLeDiff, Nat.zero_le, iL_0, iL_1, iL_m1, iI_add, iI_sub, iI_mul, iI_neg, updI_at, upA_at, upP_at, upR_at, Nat.reduceEqDiff, reduceIte, Int.reduceAdd, Int.reduceSub, Int.reduceMul, Int.reduceDiv, Int.reduceMod, Int.reduceLT, Int.reduceLE, Int.reduceEq, Int.reduceNeg, not_true_eq_false, not_false_eq_true, Decidable.not_not, z64, z66, z50, iI_eq, va_some, reduceCtorEq, ng_c hn]
        · intro k Q
          dsimp only
          rw [e1, c _ _ _ _ _ e2.1, if_pos ⟨by omega, by omega, by omega⟩]
      · refine no (by omega) ?_
        intro k Q
        simp only [p3, if_false] at z50
        simp (maxSteps := 1000000) (disch := first | omega | (simp only [updI_at, upA_at, Nat.reduceEqDiff, reduceIte]; omega) | exact mIsRef_rf _ | exact rfl) only [↓s163_0, ↓s163_1, ↓s163_4, ↓s163_5, ↓s163_8, ↓s163_10, ↓s163_12, ↓s163_15, ↓s163_16, ↓s163_19, ↓s163_20, ↓s163_23, ↓s163_26, ↓s163_28, ↓s163_29, ↓s163_30, ↓s163_33, ↓s163_36, ↓s163_37, ↓s163_40, ↓s163_41, wc_17, wg_0_5, mN1_int, mN1_ref, mN1_null, mN1_U, mN1_rf, mCats_nil, mCats_int, mCats_ref, mCats_null, mCats_long, mCats_rf, mIsRef_ref, mIsRef_null, mIsRef_va, mRf_ref, mRf_null, mRf_rf, true_and, and_true, true_or, or_true, eq_self_iff_true, mK_v, mK_0, Nat.reduceAdd, Nat.reduceLeDiff, Nat.zero_le, iL_0, iL_1, iL_m1, iI_add, iI_sub, iI_mul, iI_neg, updI_at, upA_at, upP_at, upR_at, Nat.reduceEqDiff, reduceIte, Int.reduceAdd, Int.reduceSub, Int.reduceMul, Int.reduceDiv, Int.reduceMod, Int.reduceLT, Int.reduceLE, Int.reduceEq, Int.reduceNeg, not_true_eq_false, not_false_eq_true, Decidable.not_not, z64, z66, z50, iI_eq, va_some, reduceCtorEq, ng_c hn]
    · refine no (by omega) ?_
      intro k Q
      simp only [bI_f p2] at z66
      simp (maxSteps := 1000000) (disch := first | omega | (simp only [updI_at, upA_at, Nat.reduceEqDiff, reduceIte]; omega) | exact mIsRef_rf _ | exact rfl) only [↓s163_0, ↓s163_1, ↓s163_4, ↓s163_5, ↓s163_8, ↓s163_10, ↓s163_12, ↓s163_15, ↓s163_16, ↓s163_19, ↓s163_20, ↓s163_23, ↓s163_26, ↓s163_28, ↓s163_29, ↓s163_30, ↓s163_33, ↓s163_36, ↓s163_37, ↓s163_40, ↓s163_41, wc_17, wg_0_5, mN1_int, mN1_ref, mN1_null, mN1_U, mN1_rf, mCats_nil, mCats_int, mCats_ref, mCats_null, mCats_long, mCats_rf, mIsRef_ref, mIsRef_null, mIsRef_va, mRf_ref, mRf_null, mRf_rf, true_and, and_true, true_or, or_true, eq_self_iff_true, mK_v, mK_0, Nat.reduceAdd, Nat.reduceLeDiff, Nat.zero_le, iL_0, iL_1, iL_m1, iI_add, iI_sub, iI_mul, iI_neg, updI_at, upA_at, upP_at, upR_at, Nat.reduceEqDiff, reduceIte, Int.reduceAdd, Int.reduceSub, Int.reduceMul, Int.reduceDiv, Int.reduceMod, Int.reduceLT, Int.reduceLE, Int.reduceEq, Int.reduceNeg, not_true_eq_false, not_false_eq_true, Decidable.not_not, z64, z66, iI_eq, va_some, reduceCtorEq]
  · refine no (by omega) ?_
    intro k Q
    have e64 : rnV I W x = none := if_neg p1
    rw [e64, va_none] at z64
    simp (maxSteps := 1000000) (disch := first | omega | (simp only [updI_at, upA_at, Nat.reduceEqDiff, reduceIte]; omega) | exact mIsRef_rf _ | exact rfl) only [↓s163_0, ↓s163_1, ↓s163_4, ↓s163_5, ↓s163_8, ↓s163_10, ↓s163_12, ↓s163_15, ↓s163_16, ↓s163_19, ↓s163_20, ↓s163_23, ↓s163_26, ↓s163_28, ↓s163_29, ↓s163_30, ↓s163_33, ↓s163_36, ↓s163_37, ↓s163_40, ↓s163_41, wc_17, wg_0_5, mN1_int, mN1_ref, mN1_null, mN1_U, mN1_rf, mCats_nil, mCats_int, mCats_ref, mCats_null, mCats_long, mCats_rf, mIsRef_ref, mIsRef_null, mIsRef_va, mRf_ref, mRf_null, mRf_rf, true_and, and_true, true_or, or_true, eq_self_iff_true, mK_v, mK_0, Nat.reduceAdd, Nat.reduceLeDiff, Nat.zero_le, iL_0, iL_1, iL_m1, iI_add, iI_sub, iI_mul, iI_neg, updI_at, upA_at, upP_at, upR_at, Nat.reduceEqDiff, reduceIte, Int.reduceAdd, Int.reduceSub, Int.reduceMul, Int.reduceDiv, Int.reduceMod, Int.reduceLT, Int.reduceLE, Int.reduceEq, Int.reduceNeg, not_true_eq_false, not_false_eq_true, Decidable.not_not, z64, iI_eq]
end
end MOPS4
