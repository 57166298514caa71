/-! The calls: pick, with. -/
section MOPS5
variable {G : mG} {h h0 : mH} {n k b : Nat} {Q : mR → Prop} {I : Nat → Int} {A : Nat → Nat → Int} {P : Nat → Nat} {R : Nat → Option Nat} {o : Nat → Int64}
section
variable {fa : Nat → Nat} {fb : Nat → Nat → Int} {fcap : Nat} {fg : Nat → Option Nat} {W : Nat → Nat → Nat → Nat} {V : Nat → Nat → Nat → Nat → Int} {X : Nat → Nat → Option Nat} {cap : Nat} {ng : Nat → Option Nat} {h1 : mH} {ow : Nat → Nat}
theorem upW_id (x : Nat) : upW W x (fun q j => W q x j) = W := by
  funext q i j
  unfold upW
  split
  · rename_i h; rw [h]
  · rfl
theorem upX_id (x : Nat) : upX X x (X x) = X := by
  funext i j
  unfold upX
  split
  · rename_i h; rw [h]
  · rfl
theorem upV_id (x : Nat) : upV V x (fun q j u => V q x j u) = V := by
  funext q i j u
  unfold upV
  split
  · rename_i h; rw [h]
  · rfl
/-- an ITEM of Node x goes elsewhere -/
theorem rst_pick {x s : Nat} {y : Int} (hM : iM I A) (hr : rst G h0 b I A P R I A fa fb fcap fg W V X cap ng) (hx : (x : Int) < (I 31) ∨ x = 40) (hs : (s : Int) < (A 32) x) : rst G (mUp h0 (W 1 x 0 + 2) (mI (rmN A x) (fun j => iI (upE (fun j => V 2 x j 0) s y j)))) b I A P R (updI I 27 0) (upA A 34 (upE (A 34) (5 * x + s) y)) fa fb fcap fg W (upV V x (fun q j u => if q = 2 ∧ j = s then y else V q x j u)) X cap ng := by
  have n1 := hM.2.2.2.1.1
  have hd := hr.2.1.1.2.2.2.2 x hx
  obtain ⟨hn, ha, hT, h5, hrest⟩ := id hd.1
  obtain ⟨⟨b1, b1'⟩, b2, b3, b4, b5, b6, b7, b8, b9, b10, b11, z1, z2, ⟨ow, ho⟩, z4⟩ := id hr
  have oo : oW ow P I A fa W := ho
  obtain ⟨o0, ⟨o1, o2, o3, o4⟩, ⟨o5, o6⟩, o7⟩ := ho.2.1 x hx
  obtain ⟨⟨k1, k2⟩, k3, k4, k5, k6, k7⟩ := kept_node (x := x) (e1 := mI (rmN A x) (fun j => iI (upE (fun j => V 2 x j 0) s y j))) hr hM oo ha.2.2.1 (fun k N f hk q => by cases q; omega) o3 (by omega)
  have hk := ow_up (h0 := h0) (e1 := mI (rmN A x) (fun j => iI (upE (fun j => V 2 x j 0) s y j))) o3
  refine ⟨⟨k1, b1'⟩, ⟨⟨k3, b2.1.2.1, b2.1.2.2.1, b2.1.2.2.2.1, ?_⟩, b2.2⟩, k4, b4, b5, b6, b7, b8, b9, b10, b11, k5, k6, ⟨ow, ho⟩, k7⟩
  intro i hi
  have hi2 : (i : Int) < (I 31) ∨ i = 40 := hi
  by_cases q : i = x
  · subst q
    obtain ⟨hd1, hd2, hd3, hd4⟩ := hd
    refine ⟨?_, ?_, ?_, ?_⟩
    · simp only [upV_eq]
      refine ⟨⟨hn.1, hn.2.1, by rw [hk _ (by omega)]; exact hn.2.2⟩, ⟨?_, ?_, ?_, ?_⟩, nT_eq (hk _ (by omega)) (hk _ (by omega)) hT, ?_, hrest⟩
      · rw [hk _ (by omega)]; exact ha.1
      · rw [hk _ (by omega)]; exact ha.2.1
      · rw [mUp_same]
        congr 2
        funext j
        congr 1
        show upE (fun j => V 2 i j 0) s y j = if True ∧ j = s then y else V 2 i j 0
        unfold upE
        by_cases w1 : j = s
        · rw [if_pos w1, if_pos ⟨trivial, w1⟩]
        · rw [if_neg w1, if_neg (fun t => w1 t.2)]
      · rw [hk _ (by omega)]; exact ha.2.2.2
      · intro j hj
        have hj' : (j : Int) < (A 32) i := hj
        obtain ⟨c1, c2, c3⟩ := h5 j hj
        obtain ⟨q1, q2⟩ := o7 j hj'
        have i5 := hM.2.2.2.1.2.2.1 i (by omega)
        have w1 : ow (W 4 i j) ≠ 100 * i + 30 := by omega
        have w2 : ow (W 4 i j + 1) ≠ 100 * i + 30 := by omega
        exact ⟨c1, nT_eq (t0 := W 4 i j) (hk _ w1) (hk _ w2) c2, c3⟩
    · intro j hj
      simp only [upV_eq]
      exact hd2 j hj
    · intro j hj
      have hj' : (j : Int) < (A 32) i := hj
      obtain ⟨q1, q2, q3⟩ := hd3 j hj'
      simp only [upV_eq]
      refine ⟨q1, ?_, q3⟩
      show (if True ∧ j = s then y else V 2 i j 0) = upE (A 34) (5 * i + s) y (5 * i + j)
      unfold upE
      by_cases w1 : j = s
      · rw [if_pos ⟨trivial, w1⟩, if_pos (by omega)]
      · rw [if_neg (fun t => w1 t.2), if_neg (by omega), q2]
    · intro u hu
      simp only [upV_eq]
      exact hd4 u hu
  · have d := dN1_up (w := fun q j => W q x j) (v := fun q j u => if q = 2 ∧ j = s then y else V q x j u) (z := X x) q (k2 i hi2 q)
    rw [upW_id, upX_id] at d
    refine dN1_cg (J := I) (B := A) rfl rfl rfl rfl (fun j hj => rfl) rfl ?_ (fun u hu => rfl) d
    intro j hj
    refine ⟨⟨rfl, ?_, rfl⟩, fun u hu => rfl⟩
    show upE (A 34) (5 * x + s) y (5 * i + j) = (A 34) (5 * i + j)
    have i5 := hM.2.2.2.1.2.2.1 i (by omega)
    have i6 := hM.2.2.2.1.2.2.1 x (by omega)
    exact upE_ne (by omega)
theorem op_pick {x y w : Int} (hb : G.2.2.2 ≤ b) (hM : iM I A) (hr : rst G h0 b I A P R I A fa fb fcap fg W V X cap ng) (hf : fre P b n W) (hri : ri I A) (hx : -2147483648 ≤ x ∧ x < 2147483648) (hy : -2147483648 ≤ y ∧ y < 2147483648) (hw : -2147483648 ≤ w ∧ w < 2147483648) :
    op1 G b n (fun n k Q => mX G 164 0 [.ref b, .int (iI x), .int (iI y), .int (iI w), mU] [] (wH h0 b I A P R o) n k Q) (fun h n k Q => mX G 199 0 [.ref (b + 43), .int (iI x), .int (iI y), .int (iI w), mU] [] h n k Q) := by
  have n1 := hM.2.2.2.1.1
  have c := fun h1 X1 Y k Q (hA : RgA (gm Y A)) => c199 (G := G) (h0 := h1) (n := n) (k := k) (Q := Q) (I := gl X1 I) (A := gm Y A) (P := P) (R := R) (o := o) hb hA hx hy hw n1 hM.2.2.2.1.2.2.1
  simp (disch := decide) only [gl_at, gm_at, gl_up, gm_up] at c
  have z65 := fun k Q => d65 (n := n) (k := k) (Q := Q) (I := I) (A := A) (R := R) (o := o) (z := x) hr.2.1.1 hr.2.1.2.1 n1 hx
  have z66 := fun k Q' => d66 (n := n) (k := k) (Q := Q') (I := I) (A := A) (R := R) (o := o) (z := w) hr.2.1.1 hr.2.1.2.1 n1 hw
  have no : ∀ (hn : ¬ ((x = -1 ∨ 0 ≤ x ∧ x ≤ (I 31) - 1) ∧ (w = -1 ∨ 0 ≤ w ∧ w ≤ (I 31) - 1) ∧ 0 ≤ seek (fun j => (A 33) j.toNat = y) ((A 32) (if x = -1 then 40 else x).toNat).toNat (5 * (if x = -1 then 40 else x)))), (∀ k Q, mX G 164 0 [.ref b, .int (iI x), .int (iI y), .int (iI w), mU] [] (wH h0 b I A P R o) n k Q ↔ Q (.inl (some (.int (iI 0))), wH h0 b I A P R o, n, k)) → op1 G b n (fun n k Q => mX G 164 0 [.ref b, .int (iI x), .int (iI y), .int (iI w), mU] [] (wH h0 b I A P R o) n k Q) (fun h n k Q => mX G 199 0 [.ref (b + 43), .int (iI x), .int (iI y), .int (iI w), mU] [] h n k Q) := by
    intro hn zc
    refine op_ro (o := o) (v := 0) hM hr hf hri zc ?_
    intro X1 Y hi k Q
    rw [c _ _ _ _ _ hi.1, if_neg hn, gl_up (by decide)]
  by_cases p1 : x = -1 ∨ 0 ≤ x ∧ x < (I 31)
  · obtain ⟨xx, ex, exi, e65⟩ : ∃ xx : Nat, (if x = -1 then (40 : Int) else x) = xx ∧ ((xx : Int) < (I 31) ∨ xx = 40) ∧ (if x = -1 then some (b + 19) else rnV I W x) = some (W 0 xx 0) := by
      by_cases q : x = -1
      · refine ⟨40, if_pos q, Or.inr rfl, ?_⟩
        rw [if_pos q, hr.2.1.1.2.2.1]
      · refine ⟨x.toNat, by rw [if_neg q]; omega, Or.inl (by omega), ?_⟩
        rw [if_neg q]
        exact if_pos (by omega)
    rw [e65] at z65
    rw [ex] at c no
    rw [show ((xx : Nat) : Int).toNat = xx by omega] at c no
    have hd := hr.2.1.1.2.2.2.2 xx exi
    obtain ⟨hn, ha, hT, h5, hr1, hr2, hr3, hr4⟩ := id hd.1
    have i5 := hM.2.2.2.1.2.2.1 xx (by omega)
    by_cases p2 : w = -1 ∨ 0 ≤ w ∧ w < (I 31)
    · simp only [bI_t p2] at z66
      have z52 := fun k Q => d52 (n := n) (k := k) (Q := Q) (I := I) (A := A) (P := P) (R := R) (o := o) (x := y) (y := w) hn ha hr1.2.2.2.2 hr1.1.2 hr1.2.2.2.1 hr4 hy
      have e7 : nF A xx 7 = (A 32) xx := rfl
      rw [e7] at z52
      rcases seek_it (y := y) hd i5.1 with ⟨s1, s2⟩ | ⟨s1, s2, s3⟩
      · refine no (by rw [s2]; omega) ?_
        intro k Q
        simp only [s1, show ¬ (0 : Int) ≤ -1 by decide, if_false] at z52
        simp (maxSteps := 1000000) (disch := first | omega | (simp only [updI_at, upA_at, Nat.reduceEqDiff, reduceIte]; omega) | exact mIsRef_rf _ | exact rfl) only [↓s164_0, ↓s164_1, ↓s164_4, ↓s164_5, ↓s164_8, ↓s164_10, ↓s164_12, ↓s164_15, ↓s164_16, ↓s164_19, ↓s164_20, ↓s164_23, ↓s164_26, ↓s164_28, ↓s164_29, ↓s164_30, ↓s164_33, ↓s164_36, ↓s164_37, ↓s164_40, ↓s164_41, wc_17, wg_0_5, mN1_int, mN1_ref, mN1_null, mN1_U, mN1_rf, mCats_nil, mCats_int, mCats_ref, mCats_null, mCats_long, mCats_rf, mIsRef_ref, mIsRef_null, mIsRef_va, mRf_ref, mRf_null, mRf_rf, true_and, and_true, true_or, or_true, eq_self_iff_true, mK_v, mK_0, Nat.reduceAdd, Nat.reduceLeDiff, Nat.zero_le, iL_0, iL_1, iL_m1, iI_add, iI_sub, iI_mul, iI_neg, updI_at, upA_at, upP_at, upR_at, Nat.reduceEqDiff, reduceIte, Int.reduceAdd, Int.reduceSub, Int.reduceMul, Int.reduceDiv, Int.reduceMod, Int.reduceLT, Int.reduceLE, Int.reduceEq, Int.reduceNeg, not_true_eq_false, not_false_eq_true, Decidable.not_not, z65, z66, z52, iI_eq, va_some, reduceCtorEq, ng_c hn]
      · rw [s1] at c
        generalize seek (fun j => V 1 xx j.toNat 0 = y) ((A 32) xx).toNat 0 = s at *
        simp only [eq_true s2, if_true] at z52
        have hp := rst_pick (x := xx) (s := s.toNat) (y := w) hM hr exi (by omega)
        obtain ⟨A2, e1, e2, e3⟩ := op_end (o := o) hp kpM_refl hM (iM_pick hM (by omega)) hf hri
        refine ⟨1, _, I, A, P, R, o, _, ?_, hp.2.2.2.2.2.2.2.2.2.2.2.2.1, ?_, e3⟩
        · intro k Q
          dsimp only
          generalize upE (fun j => V 2 xx j 0) s.toNat w = gg at *
          simp (maxSteps := 1000000) (disch := first | omega | (simp only [updI_at, upA_at, Nat.reduceEqDiff, reduceIte]; omega) | exact mIsRef_rf _ | exact rfl) only [↓s164_0, ↓s164_1, ↓s164_4, ↓s164_5, ↓s164_8, ↓s164_10, ↓s164_12, ↓s164_15, ↓s164_16, ↓s164_19, ↓s164_20, ↓s164_23, ↓s164_26, ↓s164_28, ↓s164_29, ↓s164_30, ↓s164_33, ↓s164_36, ↓s164_37, ↓s164_40, ↓s164_41, wc_17, wg_0_5, mN1_int, mN1_ref, mN1_null, mN1_U, mN1_rf, mCats_nil, mCats_int, mCats_ref, mCats_null, mCats_long, mCats_rf, mIsRef_ref, mIsRef_null, mIsRef_va, mRf_ref, mRf_null, mRf_rf, true_and, and_true, true_or, or_true, eq_self_iff_true, mK_v, mK_0, Nat.reduceAdd, Nat.reduceLeDiff, Nat.zero_le, iL_0, iL_1, iL_m1, iI_add, iI_sub, iI_mul, iI_neg, updI_at, upA_at, upP_at, upR_at, Nat.reduceEqDiff, reduceIte, Int.reduceAdd, Int.reduceSub, Int.reduceMul, Int.reduceDiv, Int.reduceMod, Int.reduceLT, Int.reduceLE, Int.reduceEq, Int.reduceNeg, not_true_eq_false, not_false_eq_true, Decidable.not_not, z65, z66, z52, iI_eq, va_some, reduceCtorEq, ng_c hn]
        · intro k Q
          dsimp only
          rw [e1, c _ _ _ _ _ e2.1, if_pos ⟨by omega, by omega, by omega⟩, show (5 * (xx : Int) + s).toNat = 5 * xx + s.toNat by omega]
    · refine no (by omega) ?_
      intro k Q
      simp only [bI_f p2] at z66
      simp (maxSteps := 1000000) (disch := first | omega | (simp only [updI_at, upA_at, Nat.reduceEqDiff, reduceIte]; omega) | exact mIsRef_rf _ | exact rfl) only [↓s164_0, ↓s164_1, ↓s164_4, ↓s164_5, ↓s164_8, ↓s164_10, ↓s164_12, ↓s164_15, ↓s164_16, ↓s164_19, ↓s164_20, ↓s164_23, ↓s164_26, ↓s164_28, ↓s164_29, ↓s164_30, ↓s164_33, ↓s164_36, ↓s164_37, ↓s164_40, ↓s164_41, wc_17, wg_0_5, mN1_int, mN1_ref, mN1_null, mN1_U, mN1_rf, mCats_nil, mCats_int, mCats_ref, mCats_null, mCats_long, mCats_rf, mIsRef_ref, mIsRef_null, mIsRef_va, mRf_ref, mRf_null, mRf_rf, true_and, and_true, true_or, or_true, eq_self_iff_true, mK_v, mK_0, Nat.reduceAdd, Nat.reduceLeDiff, Nat.zero_le, iL_0, iL_1, iL_m1, iI_add, iI_sub, iI_mul, iI_neg, updI_at, upA_at, upP_at, upR_at, Nat.reduceEqDiff, reduceIte, Int.reduceAdd, Int.reduceSub, Int.reduceMul, Int.reduceDiv, Int.reduceMod, Int.reduceLT, Int.reduceLE, Int.reduceEq, Int.reduceNeg, not_true_eq_false, not_false_eq_true, Decidable.not_not, z65, z66, iI_eq, va_some, reduceCtorEq]
  · refine no (by omega) ?_
    intro k Q
    have e65 : (if x = -1 then some (b + 19) else rnV I W x) = none := by
      rw [if_neg (by omega)]
      exact if_neg (by omega)
    rw [e65, va_none] at z65
    simp (maxSteps := 1000000) (disch := first | omega | (simp only [updI_at, upA_at, Nat.reduceEqDiff, reduceIte]; omega) | exact mIsRef_rf _ | exact rfl) only [↓s164_0, ↓s164_1, ↓s164_4, ↓s164_5, ↓s164_8, ↓s164_10, ↓s164_12, ↓s164_15, ↓s164_16, ↓s164_19, ↓s164_20, ↓s164_23, ↓s164_26, ↓s164_28, ↓s164_29, ↓s164_30, ↓s164_33, ↓s164_36, ↓s164_37, ↓s164_40, ↓s164_41, wc_17, wg_0_5, mN1_int, mN1_ref, mN1_null, mN1_U, mN1_rf, mCats_nil, mCats_int, mCats_ref, mCats_null, mCats_long, mCats_rf, mIsRef_ref, mIsRef_null, mIsRef_va, mRf_ref, mRf_null, mRf_rf, true_and, and_true, true_or, or_true, eq_self_iff_true, mK_v, mK_0, Nat.reduceAdd, Nat.reduceLeDiff, Nat.zero_le, iL_0, iL_1, iL_m1, iI_add, iI_sub, iI_mul, iI_neg, updI_at, upA_at, upP_at, upR_at, Nat.reduceEqDiff, reduceIte, Int.reduceAdd, Int.reduceSub, Int.reduceMul, Int.reduceDiv, Int.reduceMod, Int.reduceLT, Int.reduceLE, Int.reduceEq, Int.reduceNeg, not_true_eq_false, not_false_eq_true, Decidable.not_not, z65, iI_eq]
theorem rst_with {x : Nat} {r w z : Int} (hM : iM I A) (hr : rst G h0 b I A P R I A fa fb fcap fg W V X cap ng) (hx : (x : Int) < (I 31)) (h1 : 0 ≤ r ∧ r ≤ 255) (h2 : 0 ≤ w ∧ w ≤ 255) : rst G (mUp h0 (W 0 x 0) (nOb (W 1 x 0) (W 2 x 0) (rfV fa z) (upE (upE (nF A x) 10 r) 11 w))) b I A P R (updI I 27 0) (upA (upA (upA A 26 (upE (A 26) x r)) 27 (upE (A 27) x w)) 28 (upE (A 28) x z)) fa fb fcap fg W V X cap ng := by
  have n1 := hM.2.2.2.1.1
  have hd := hr.2.1.1.2.2.2.2 x (Or.inl hx)
  obtain ⟨hn, ha, hT, h5, hr1, ⟨hr2, hr3, hr4, hr5⟩, hr6⟩ := id hd.1
  obtain ⟨⟨b1, b1'⟩, b2, b3, b4, b5, b6, b7, b8, b9, b10, b11, z1, z2, ⟨ow, ho⟩, z4⟩ := id hr
  have oo : oW ow P I A fa W := ho
  obtain ⟨o0, ⟨o1, o2, o3, o4⟩, ⟨o5, o6⟩, o7⟩ := ho.2.1 x (Or.inl hx)
  obtain ⟨⟨k1, k2⟩, k3, k4, k5, k6, k7⟩ := kept_node (x := x) (e1 := nOb (W 1 x 0) (W 2 x 0) (rfV fa z) (upE (upE (nF A x) 10 r) 11 w)) hr hM oo hn.2.2 (fun k N f hk q => by cases q) o0 (by omega)
  have hk := ow_up (h0 := h0) (e1 := nOb (W 1 x 0) (W 2 x 0) (rfV fa z) (upE (upE (nF A x) 10 r) 11 w)) o0
  refine ⟨⟨k1, b1'⟩, ⟨⟨k3, b2.1.2.1, b2.1.2.2.1, b2.1.2.2.2.1, ?_⟩, b2.2⟩, k4, b4, b5, b6, b7, b8, b9, b10, b11, k5, k6, ⟨ow, ho⟩, k7⟩
  intro i hi
  have hi2 : (i : Int) < (I 31) ∨ i = 40 := hi
  by_cases q : i = x
  · subst q
    obtain ⟨hd1, hd2, hd3, hd4⟩ := hd
    have i40 : ¬ i = 40 := by omega
    have e10 : nF (upA (upA (upA A 26 (upE (A 26) i r)) 27 (upE (A 27) i w)) 28 (upE (A 28) i z)) i 10 = r := (if_neg i40).trans (upE_same _ _ _)
    have e11 : nF (upA (upA (upA A 26 (upE (A 26) i r)) 27 (upE (A 27) i w)) 28 (upE (A 28) i z)) i 11 = w := (if_neg i40).trans (upE_same _ _ _)
    have e9 : nfl fa (upA (upA (upA A 26 (upE (A 26) i r)) 27 (upE (A 27) i w)) 28 (upE (A 28) i z)) i = rfV fa z := by
      unfold nfl
      rw [if_neg i40]
      show rfV fa (upE (A 28) i z i) = rfV fa z
      rw [upE_same]
    refine ⟨⟨⟨hn.1, hn.2.1, ?_⟩, ⟨?_, ?_, ?_, ?_⟩, nT_eq (hk _ (by omega)) (hk _ (by omega)) hT, ?_, hr1, ⟨hr2, hr3, by rw [e10]; exact h1, by rw [e11]; exact h2⟩, hr6⟩, hd2, hd3, hd4⟩
    · rw [mUp_same, e10, e11, e9]
      rfl
    · rw [hk _ (by omega)]; exact ha.1
    · rw [hk _ (by omega)]; exact ha.2.1
    · rw [hk _ (by omega)]; exact ha.2.2.1
    · rw [hk _ (by omega)]; exact ha.2.2.2
    · intro j hj
      have hj' : (j : Int) < (A 32) i := hj
      obtain ⟨c1, c2, c3⟩ := h5 j hj
      obtain ⟨q1, q2⟩ := o7 j hj'
      have w1 : ow (W 4 i j) ≠ 100 * i := by omega
      have w2 : ow (W 4 i j + 1) ≠ 100 * i := by omega
      exact ⟨c1, nT_eq (t0 := W 4 i j) (hk _ w1) (hk _ w2) c2, c3⟩
  · refine dN1_cg (J := I) (B := A) ?_ rfl rfl ?_ (fun j hj => rfl) rfl (fun j hj => ⟨⟨rfl, rfl, rfl⟩, fun u hu => rfl⟩) (fun u hu => rfl) (k2 i hi2 q)
    · funext j
      unfold nF
      have e1 : upA (upA (upA A 26 (upE (A 26) x r)) 27 (upE (A 27) x w)) 28 (upE (A 28) x z) 26 i = (A 26) i := upE_ne q
      have e2 : upA (upA (upA A 26 (upE (A 26) x r)) 27 (upE (A 27) x w)) 28 (upE (A 28) x z) 27 i = (A 27) i := upE_ne q
      rw [e1, e2]
      rfl
    · unfold nfl
      have e1 : upA (upA (upA A 26 (upE (A 26) x r)) 27 (upE (A 27) x w)) 28 (upE (A 28) x z) 28 i = (A 28) i := upE_ne q
      rw [e1]
theorem op_with {x r w z : Int} (hb : G.2.2.2 ≤ b) (hM : iM I A) (hr : rst G h0 b I A P R I A fa fb fcap fg W V X cap ng) (hf : fre P b n W) (hri : ri I A) (hx : -2147483648 ≤ x ∧ x < 2147483648) (hrr : -2147483648 ≤ r ∧ r < 2147483648) (hw : -2147483648 ≤ w ∧ w < 2147483648) (hz : -2147483648 ≤ z ∧ z < 2147483648) :
    op1 G b n (fun n k Q => mX G 162 0 [.ref b, .int (iI x), .int (iI r), .int (iI w), .int (iI z), mU] [] (wH h0 b I A P R o) n k Q) (fun h n k Q => mX G 196 0 [.ref (b + 43), .int (iI x), .int (iI r), .int (iI w), .int (iI z)] [] h n k Q) := by
  have n1 := hM.2.2.2.1.1
  have f1 := hM.2.1.1
  have c := fun h1 X1 Y k Q (hA : RgA (gm Y A)) => c196 (G := G) (h0 := h1) (n := n) (k := k) (Q := Q) (I := gl X1 I) (A := gm Y A) (P := P) (R := R) (o := o) hb hA hx hrr hw hz n1 f1
  simp (disch := decide) only [gl_at, gm_at, gl_up, gm_up] at c
  have z64 := fun k Q => d64 (n := n) (k := k) (Q := Q) (I := I) (A := A) (R := R) (o := o) (z := x) hr.2.1.1 hr.2.1.2.1 n1 hx
  have zr := fun k Q => d174 (G := G) (h := wH h0 b I A P R o) (n := n) (k := k) (Q := Q) hrr
  have zw := fun k Q => d174 (G := G) (h := wH h0 b I A P R o) (n := n) (k := k) (Q := Q) hw
  have z36 := fun k Q => d36 (n := n) (k := k) (Q := Q) (I := I) (A := A) (R := R) (o := o) (z := z) hr.1.1 hr.1.2.1 f1 hz
  have no : ∀ (hn : ¬ ((0 ≤ x ∧ x ≤ (I 31) - 1) ∧ (0 ≤ r ∧ r ≤ 255) ∧ (0 ≤ w ∧ w ≤ 255) ∧ (z = -1 ∨ 0 ≤ z ∧ z ≤ (I 29) - 1))), (∀ k Q, mX G 162 0 [.ref b, .int (iI x), .int (iI r), .int (iI w), .int (iI z), mU] [] (wH h0 b I A P R o) n k Q ↔ Q (.inl (some (.int (iI 0))), wH h0 b I A P R o, n, k)) → op1 G b n (fun n k Q => mX G 162 0 [.ref b, .int (iI x), .int (iI r), .int (iI w), .int (iI z), mU] [] (wH h0 b I A P R o) n k Q) (fun h n k Q => mX G 196 0 [.ref (b + 43), .int (iI x), .int (iI r), .int (iI w), .int (iI z)] [] h n k Q) := by
    intro hn zc
    refine op_ro (o := o) (v := 0) hM hr hf hri zc ?_
    intro X1 Y hi k Q
    rw [c _ _ _ _ _ hi.1, if_neg hn, gl_up (by decide)]
  by_cases p1 : 0 ≤ x ∧ x < (I 31)
  · have e64 : rnV I W x = some (W 0 x.toNat 0) := if_pos p1
    rw [e64] at z64
    have hd := hr.2.1.1.2.2.2.2 x.toNat (Or.inl (by omega))
    obtain ⟨hn, ha, hT, h5, hrest⟩ := id hd.1
    by_cases p2 : 0 ≤ r ∧ r ≤ 255
    · simp only [bI_t p2] at zr
      by_cases p3 : 0 ≤ w ∧ w ≤ 255
      · simp only [bI_t p3] at zw
        have st : ∀ k Q, (z = -1 ∨ 0 ≤ z ∧ z < (I 29)) → (mX G 162 0 [.ref b, .int (iI x), .int (iI r), .int (iI w), .int (iI z), mU] [] (wH h0 b I A P R o) n k Q ↔ mX G 162 51 [.ref b, .int (iI x), .int (iI r), .int (iI w), .int (iI z), .ref (W 0 x.toNat 0)] [] (wH h0 b I A P R o) n k Q) := by
          intro k Q hzz
          by_cases q : z = -1
          · simp (maxSteps := 1000000) (disch := first | omega | (simp only [updI_at, upA_at, Nat.reduceEqDiff, reduceIte]; omega) | exact mIsRef_rf _ | exact rfl) only [↓s162_0, ↓s162_1, ↓s162_4, ↓s162_5, ↓s162_8, ↓s162_10, ↓s162_12, ↓s162_15, ↓s162_16, ↓s162_19, ↓s162_22, ↓s162_23, ↓s162_26, ↓s162_29, ↓s162_30, ↓s162_31, ↓s162_33, ↓s162_34, ↓s162_37, ↓s162_38, ↓s162_41, ↓s162_43, ↓s162_46, ↓s162_49, ↓s162_50, ↓s162_53, ↓s162_54, ↓s162_57, ↓s162_59, ↓s162_60, ↓s162_63, ↓s162_65, ↓s162_66, ↓s162_69, ↓s162_71, ↓s162_74, ↓s162_77, ↓s162_78, wc_17, wc_6, wg_0_2, wg_0_5, mN1_int, mN1_ref, mN1_null, mN1_U, mN1_rf, mCats_nil, mCats_int, mCats_ref, mCats_null, mCats_long, mCats_rf, mIsRef_ref, mIsRef_null, mIsRef_va, mRf_ref, mRf_null, mRf_rf, true_and, and_true, true_or, or_true, eq_self_iff_true, mK_v, mK_0, Nat.reduceAdd, Nat.reduceLeDiff, Nat.zero_le, iL_0, iL_1, iL_m1, iI_add, iI_sub, iI_mul, iI_neg, updI_at, upA_at, upP_at, upR_at, Nat.reduceEqDiff, reduceIte, Int.reduceAdd, Int.reduceSub, Int.reduceMul, Int.reduceDiv, Int.reduceMod, Int.reduceLT, Int.reduceLE, Int.reduceEq, Int.reduceNeg, not_true_eq_false, not_false_eq_true, Decidable.not_not, z64, zr, zw, iI_eq, va_some, reduceCtorEq, q]
          · simp only [eq_true (show 0 ≤ z ∧ z < (I 29) by omega), if_true] at z36
            simp (maxSteps := 1000000) (disch := first | omega | (simp only [updI_at, upA_at, Nat.reduceEqDiff, reduceIte]; omega) | exact mIsRef_rf _ | exact rfl) only [↓s162_0, ↓s162_1, ↓s162_4, ↓s162_5, ↓s162_8, ↓s162_10, ↓s162_12, ↓s162_15, ↓s162_16, ↓s162_19, ↓s162_22, ↓s162_23, ↓s162_26, ↓s162_29, ↓s162_30, ↓s162_31, ↓s162_33, ↓s162_34, ↓s162_37, ↓s162_38, ↓s162_41, ↓s162_43, ↓s162_46, ↓s162_49, ↓s162_50, ↓s162_53, ↓s162_54, ↓s162_57, ↓s162_59, ↓s162_60, ↓s162_63, ↓s162_65, ↓s162_66, ↓s162_69, ↓s162_71, ↓s162_74, ↓s162_77, ↓s162_78, wc_17, wc_6, wg_0_2, wg_0_5, mN1_int, mN1_ref, mN1_null, mN1_U, mN1_rf, mCats_nil, mCats_int, mCats_ref, mCats_null, mCats_long, mCats_rf, mIsRef_ref, mIsRef_null, mIsRef_va, mRf_ref, mRf_null, mRf_rf, true_and, and_true, true_or, or_true, eq_self_iff_true, mK_v, mK_0, Nat.reduceAdd, Nat.reduceLeDiff, Nat.zero_le, iL_0, iL_1, iL_m1, iI_add, iI_sub, iI_mul, iI_neg, updI_at, upA_at, upP_at, upR_at, Nat.reduceEqDiff, reduceIte, Int.reduceAdd, Int.reduceSub, Int.reduceMul, Int.reduceDiv, Int.reduceMod, Int.reduceLT, Int.reduceLE, Int.reduceEq, Int.reduceNeg, not_true_eq_false, not_false_eq_true, Decidable.not_not, z64, zr, zw, z36, iI_eq, va_some, reduceCtorEq, q]
        by_cases p4 : z = -1 ∨ 0 ≤ z ∧ z < (I 29)
        · have hp := rst_with (x := x.toNat) (r := r) (w := w) (z := z) hM hr (by omega) p2 p3
          obtain ⟨A2, e1, e2, e3⟩ := op_end (o := o) hp kpM_refl hM (iM_with hM p2 p3 (by omega)) hf hri
          refine ⟨1, _, I, A, P, R, o, _, ?_, hp.2.2.2.2.2.2.2.2.2.2.2.2.1, ?_, e3⟩
          · intro k Q
            refine (st k Q p4).trans ?_
            have hn1 := nO_up (fl' := nfl fa A x.toNat) (t' := W 2 x.toNat 0) hn (upE (nF A x.toNat) 10 r)
            have hn2 := nO_up (fl' := nfl fa A x.toNat) (t' := W 2 x.toNat 0) hn1 (upE (upE (nF A x.toNat) 10 r) 11 w)
            rw [mUp_mUp] at hn2
            obtain ⟨⟨b1, b1'⟩, b2, b3, b4, b5, b6, b7, b8, b9, b10, b11, z1, z2, ⟨ow, ho⟩, z4⟩ := id hr
            have o0 := (ho.2.1 x.toNat (Or.inl (by omega))).1
            have hd2 := keep_f (P := P) (W := W) ho (ow_up (h0 := h0) (e1 := nOb (W 1 x.toNat 0) (W 2 x.toNat 0) (nfl fa A x.toNat) (upE (upE (nF A x.toNat) 10 r) 11 w)) o0) (by omega) b1
            have g10 := fun K => np_10 (I := I) (A := A) (P := P) (R := R) (o := o) (K := K) (r := r) hn
            have g11 := fun K => np_11 (I := I) (A := A) (P := P) (R := R) (o := o) (K := K) (r := w) hn1
            rw [mUp_mUp] at g11
            have z36' := fun k Q => d36 (n := n) (k := k) (Q := Q) (I := I) (A := A) (R := R) (o := o) (z := z) hd2 hr.1.2.1 f1 hz
            by_cases q : 0 ≤ z ∧ z < (I 29)
            · simp only [eq_true q, if_true] at z36'
              have g9 := fun K => np_9 (v := .ref (fa z.toNat)) (fl' := rfV fa z) (I := I) (A := A) (P := P) (R := R) (o := o) (K := K) hn2 (by rw [show rfV fa z = some (fa z.toNat) from if_neg (by omega)]; rfl)
              rw [mUp_mUp] at g9
              simp (maxSteps := 1000000) (disch := first | omega | (simp only [updI_at, upA_at, Nat.reduceEqDiff, reduceIte]; omega) | exact mIsRef_rf _ | exact rfl) only [↓s162_0, ↓s162_1, ↓s162_4, ↓s162_5, ↓s162_8, ↓s162_10, ↓s162_12, ↓s162_15, ↓s162_16, ↓s162_19, ↓s162_22, ↓s162_23, ↓s162_26, ↓s162_29, ↓s162_30, ↓s162_31, ↓s162_33, ↓s162_34, ↓s162_37, ↓s162_38, ↓s162_41, ↓s162_43, ↓s162_46, ↓s162_49, ↓s162_50, ↓s162_51, ↓s162_53, ↓s162_54, ↓s162_57, ↓s162_59, ↓s162_60, ↓s162_63, ↓s162_65, ↓s162_66, ↓s162_69, ↓s162_71, ↓s162_74, ↓s162_77, ↓s162_78, wc_17, wc_6, wg_0_2, wg_0_5, mN1_int, mN1_ref, mN1_null, mN1_U, mN1_rf, mCats_nil, mCats_int, mCats_ref, mCats_null, mCats_long, mCats_rf, mIsRef_ref, mIsRef_null, mIsRef_va, mRf_ref, mRf_null, mRf_rf, true_and, and_true, true_or, or_true, eq_self_iff_true, mK_v, mK_0, Nat.reduceAdd, Nat.reduceLeDiff, Nat.zero_le, iL_0, iL_1, iL_m1, iI_add, iI_sub, iI_mul, iI_neg, updI_at, upA_at, upP_at, upR_at, Nat.reduceEqDiff, reduceIte, Int.reduceAdd, Int.reduceSub, Int.reduceMul, Int.reduceDiv, Int.reduceMod, Int.reduceLT, Int.reduceLE, Int.reduceEq, Int.reduceNeg, not_true_eq_false, not_false_eq_true, Decidable.not_not, g10, g11, z36', g9]
            · simp only [q, if_false] at z36'
              have g9 := fun K => np_9 (v := .null) (fl' := rfV fa z) (I := I) (A := A) (P := P) (R := R) (o := o) (K := K) hn2 (by rw [show rfV fa z = none from if_pos (by omega)]; rfl)
              rw [mUp_mUp] at g9
              simp (maxSteps := 1000000) (disch := first | omega | (simp only [updI_at, upA_at, Nat.reduceEqDiff, reduceIte]; omega) | exact mIsRef_rf _ | exact rfl) only [↓s162_0, ↓s162_1, ↓s162_4, ↓s162_5, ↓s162_8, ↓s162_10, ↓s162_12, ↓s162_15, ↓s162_16, ↓s162_19, ↓s162_22, ↓s162_23, ↓s162_26, ↓s162_29, ↓s162_30, ↓s162_31, ↓s162_33, ↓s162_34, ↓s162_37, ↓s162_38, ↓s162_41, ↓s162_43, ↓s162_46, ↓s162_49, ↓s162_50, ↓s162_51, ↓s162_53, ↓s162_54, ↓s162_57, ↓s162_59, ↓s162_60, ↓s162_63, ↓s162_65, ↓s162_66, ↓s162_69, ↓s162_71, ↓s162_74, ↓s162_77, ↓s162_78, wc_17, wc_6, wg_0_2, wg_0_5, mN1_int, mN1_ref, mN1_null, mN1_U, mN1_rf, mCats_nil, mCats_int, mCats_ref, mCats_null, mCats_long, mCats_rf, mIsRef_ref, mIsRef_null, mIsRef_va, mRf_ref, mRf_null, mRf_rf, true_and, and_true, true_or, or_true, eq_self_iff_true, mK_v, mK_0, Nat.reduceAdd, Nat.reduceLeDiff, Nat.zero_le, iL_0, iL_1, iL_m1, iI_add, iI_sub, iI_mul, iI_neg, updI_at, upA_at, upP_at, upR_at, Nat.reduceEqDiff, reduceIte, Int.reduceAdd, Int.reduceSub, Int.reduceMul, Int.reduceDiv, Int.reduceMod, Int.reduceLT, Int.reduceLE, Int.reduceEq, Int.reduceNeg, not_true_eq_false, not_false_eq_true, Decidable.not_not, g10, g11, z36', g9]
          · intro k Q
            dsimp only
            rw [e1, c _ _ _ _ _ e2.1, if_pos ⟨by omega, p2, p3, by omega⟩]
        · refine no (by omega) ?_
          intro k Q
          simp only [show ¬ (0 ≤ z ∧ z < (I 29)) by omega, if_false] at z36
          simp (maxSteps := 1000000) (disch := first | omega | (simp only [updI_at, upA_at, Nat.reduceEqDiff, reduceIte]; omega) | exact mIsRef_rf _ | exact rfl) only [↓s162_0, ↓s162_1, ↓s162_4, ↓s162_5, ↓s162_8, ↓s162_10, ↓s162_12, ↓s162_15, ↓s162_16, ↓s162_19, ↓s162_22, ↓s162_23, ↓s162_26, ↓s162_29, ↓s162_30, ↓s162_31, ↓s162_33, ↓s162_34, ↓s162_37, ↓s162_38, ↓s162_41, ↓s162_43, ↓s162_46, ↓s162_49, ↓s162_50, ↓s162_53, ↓s162_54, ↓s162_57, ↓s162_59, ↓s162_60, ↓s162_63, ↓s162_65, ↓s162_66, ↓s162_69, ↓s162_71, ↓s162_74, ↓s162_77, ↓s162_78, wc_17, wc_6, wg_0_2, wg_0_5, mN1_int, mN1_ref, mN1_null, mN1_U, mN1_rf, mCats_nil, mCats_int, mCats_ref, mCats_null, mCats_long, mCats_rf, mIsRef_ref, mIsRef_null, mIsRef_va, mRf_ref, mRf_null, mRf_rf, true_and, and_true, true_or, or_true, eq_self_iff_true, mK_v, mK_0, Nat.reduceAdd, Nat.reduceLeDiff, Nat.zero_le, iL_0, iL_1, iL_m1, iI_add, iI_sub, iI_mul, iI_neg, updI_at, upA_at, upP_at, upR_at, Nat.reduceEqDiff, reduceIte, Int.reduceAdd, Int.reduceSub, Int.reduceMul, Int.reduceDiv, Int.reduceMod, Int.reduceLT, Int.reduceLE, Int.reduceEq, Int.reduceNeg, not_true_eq_false, not_false_eq_true, Decidable.not_not, z64, zr, zw, z36, iI_eq, va_some, reduceCtorEq, show ¬ z = -1 by omega]
      · refine no (by omega) ?_
        intro k Q
        simp only [bI_f p3] at zw
        simp (maxSteps := 1000000) (disch := first | omega | (simp only [updI_at, upA_at, Nat.reduceEqDiff, reduceIte]; omega) | exact mIsRef_rf _ | exact rfl) only [↓s162_0, ↓s162_1, ↓s162_4, ↓s162_5, ↓s162_8, ↓s162_10, ↓s162_12, ↓s162_15, ↓s162_16, ↓s162_19, ↓s162_22, ↓s162_23, ↓s162_26, ↓s162_29, ↓s162_30, ↓s162_31, ↓s162_33, ↓s162_34, ↓s162_37, ↓s162_38, ↓s162_41, ↓s162_43, ↓s162_46, ↓s162_49, ↓s162_50, ↓s162_53, ↓s162_54, ↓s162_57, ↓s162_59, ↓s162_60, ↓s162_63, ↓s162_65, ↓s162_66, ↓s162_69, ↓s162_71, ↓s162_74, ↓s162_77, ↓s162_78, wc_17, wc_6, wg_0_2, wg_0_5, mN1_int, mN1_ref, mN1_null, mN1_U, mN1_rf, mCats_nil, mCats_int, mCats_ref, mCats_null, mCats_long, mCats_rf, mIsRef_ref, mIsRef_null, mIsRef_va, mRf_ref, mRf_null, mRf_rf, true_and, and_true, true_or, or_true, eq_self_iff_true, mK_v, mK_0, Nat.reduceAdd, Nat.reduceLeDiff, Nat.zero_le, iL_0, iL_1, iL_m1, iI_add, iI_sub, iI_mul, iI_neg, updI_at, upA_at, upP_at, upR_at, Nat.reduceEqDiff, reduceIte, Int.reduceAdd, Int.reduceSub, Int.reduceMul, Int.reduceDiv, Int.reduceMod, Int.reduceLT, Int.reduceLE, Int.reduceEq, Int.reduceNeg, not_true_eq_false, not_false_eq_true, Decidable.not_not, z64, zr, zw, iI_eq, va_some, reduceCtorEq]
    · refine no (by omega) ?_
      intro k Q
      simp only [bI_f p2] at zr
      simp (maxSteps := 1000000) (disch := first | omega | (simp only [updI_at, upA_at, Nat.reduceEqDiff, reduceIte]; omega) | exact mIsRef_rf _ | exact rfl) only [↓s162_0, ↓s162_1, ↓s162_4, ↓s162_5, ↓s162_8, ↓s162_10, ↓s162_12, ↓s162_15, ↓s162_16, ↓s162_19, ↓s162_22, ↓s162_23, ↓s162_26, ↓s162_29, ↓s162_30, ↓s162_31, ↓s162_33, ↓s162_34, ↓s162_37, ↓s162_38, ↓s162_41, ↓s162_43, ↓s162_46, ↓s162_49, ↓s162_50, ↓s162_53, ↓s162_54, ↓s162_57, ↓s162_59, ↓s162_60, ↓s162_63, ↓s162_65, ↓s162_66, ↓s162_69, ↓s162_71, ↓s162_74, ↓s162_77, ↓s162_78, wc_17, wc_6, wg_0_2, wg_0_5, mN1_int, mN1_ref, mN1_null, mN1_U, mN1_rf, mCats_nil, mCats_int, mCats_ref, mCats_null, mCats_long, mCats_rf, mIsRef_ref, mIsRef_null, mIsRef_va, mRf_ref, mRf_null, mRf_rf, true_and, and_true, true_or, or_true, eq_self_iff_true, mK_v, mK_0, Nat.reduceAdd, Nat.reduceLeDiff, Nat.zero_le, iL_0, iL_1, iL_m1, iI_add, iI_sub, iI_mul, iI_neg, updI_at, upA_at, upP_at, upR_at, Nat.reduceEqDiff, reduceIte, Int.reduceAdd, Int.reduceSub, Int.reduceMul, Int.reduceDiv, Int.reduceMod, Int.reduceLT, Int.reduceLE, Int.reduceEq, Int.reduceNeg, not_true_eq_false, not_false_eq_true, Decidable.not_not, z64, zr, iI_eq, va_some, reduceCtorEq]
  · refine no (by omega) ?_
    intro k Q
    have e64 : rnV I W x = none := if_neg p1
    rw [e64, va_none] at z64
    simp (maxSteps := 1000000) (disch := first | omega | (simp only [updI_at, upA_at, Nat.reduceEqDiff, reduceIte]; omega) | exact mIsRef_rf _ | exact rfl) only [↓s162_0, ↓s162_1, ↓s162_4, ↓s162_5, ↓s162_8, ↓s162_10, ↓s162_12, ↓s162_15, ↓s162_16, ↓s162_19, ↓s162_22, ↓s162_23, ↓s162_26, ↓s162_29, ↓s162_30, ↓s162_31, ↓s162_33, ↓s162_34, ↓s162_37, ↓s162_38, ↓s162_41, ↓s162_43, ↓s162_46, ↓s162_49, ↓s162_50, ↓s162_53, ↓s162_54, ↓s162_57, ↓s162_59, ↓s162_60, ↓s162_63, ↓s162_65, ↓s162_66, ↓s162_69, ↓s162_71, ↓s162_74, ↓s162_77, ↓s162_78, wc_17, wc_6, wg_0_2, wg_0_5, mN1_int, mN1_ref, mN1_null, mN1_U, mN1_rf, mCats_nil, mCats_int, mCats_ref, mCats_null, mCats_long, mCats_rf, mIsRef_ref, mIsRef_null, mIsRef_va, mRf_ref, mRf_null, mRf_rf, true_and, and_true, true_or, or_true, eq_self_iff_true, mK_v, mK_0, Nat.reduceAdd, Nat.reduceLeDiff, Nat.zero_le, iL_0, iL_1, iL_m1, iI_add, iI_sub, iI_mul, iI_neg, updI_at, upA_at, upP_at, upR_at, Nat.reduceEqDiff, reduceIte, Int.reduceAdd, Int.reduceSub, Int.reduceMul, Int.reduceDiv, Int.reduceMod, Int.reduceLT, Int.reduceLE, Int.reduceEq, Int.reduceNeg, not_true_eq_false, not_false_eq_true, Decidable.not_not, z64, iI_eq]
end
end MOPS5
