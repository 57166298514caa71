/-! Class: Session.startNode, start, repeat, nodeNumber, pendingBody, pendingSize. -/
section MSESS
variable {G : mG} {h h0 : mH} {n k b : Nat} {Q : mR → Prop} {I : Nat → Int} {A : Nat → Nat → Int} {P : Nat → Nat} {R : Nat → Option Nat} {o : Nat → Int64}
section
variable {J : Nat → Int} {B : Nat → Nat → Int} {fa : Nat → Nat} {W : Nat → Nat → Nat → Nat} {V : Nat → Nat → Nat → Nat → Int} {X : Nat → Nat → Option Nat} {cap : Nat} {ng : Nat → Option Nat}
/-- a Node's place by its number: 40 the MENU, -1 none -/
def cnV (J : Nat → Int) (W : Nat → Nat → Nat → Nat) (x : Int) : Option Nat := if x = 40 then some (W 0 40 0) else rnV J W x
theorem cn_rn {y : Int} (hy : ¬ y = 40) : rnV J W y = cnV J W y := (if_neg hy).symm
theorem cnV_neg : cnV J W (-1) = none := by unfold cnV rnV; rw [if_neg (by decide), if_neg (by omega)]
theorem cnV_pos {x : Int} (hx : x = 40 ∨ 0 ≤ x ∧ x < J 31) : cnV J W x = some (W 0 x.toNat 0) := by
  unfold cnV rnV
  by_cases p : x = 40
  · rw [if_pos p, p]; rfl
  · rw [if_neg p, if_pos (by omega)]
theorem ty_eq {x : Int} (hN : iNo J B) (hx : x = 40 ∨ 0 ≤ x ∧ x < J 31) : tyC (nF B x.toNat 1) = tyA B x := by
  have n1 := hN.1
  unfold tyC tyA
  by_cases p : x = 40
  · rw [if_pos p, p]; rfl
  · have nx : ¬ x.toNat = 40 := by omega
    have f1 : nF B x.toNat 1 = B 24 x.toNat := if_neg nx
    have := (hN.2.1 x.toNat (by omega)).1
    rw [f1, if_neg (by omega), if_neg p]
/-- the class's profile is the reference's -/
def pfR (I : Nat → Int) (A : Nat → Nat → Int) (J : Nat → Int) (B : Nat → Nat → Int) : Prop := (I 23) = J 40 ∧ (∀ j : Nat, (j : Int) < J 40 → (A 6) j = B 43 j) ∧ (∀ j, 0 ≤ (A 6) j ∧ (A 6) j ≤ 255)
theorem hasT_eq {x : Int} (hp : pfR I A J B) (hx : 0 ≤ x) : (x / 8 < (I 23) ∧ (A 6) (x / 8).toNat / 2 ^ (x % 8).toNat % 2 = 1) ↔ hasT J B x := by
  obtain ⟨p1, p2, p3⟩ := hp
  unfold hasT
  rw [p1]
  constructor
  · intro ⟨h1, h2⟩
    exact ⟨h1, by rw [← p2 _ (by omega)]; exact h2⟩
  · intro ⟨h1, h2⟩
    exact ⟨h1, by rw [p2 _ (by omega)]; exact h2⟩
def stC (I : Nat → Int) (z : Int) : Nat → Int := if z = -1 then I else updI (updI (updI I 22 0) 21 (if (I 21) < 254 then (I 21) + 1 else 1)) 20 1
def stR (R : Nat → Option Nat) (W : Nat → Nat → Nat → Nat) (z : Int) : Nat → Option Nat := if z = -1 then R else upR R 2 (some (W 0 z.toNat 0))
theorem d107_l {v : Option Nat} (hb : G.2.2.2 ≤ b) (hd : dNo G h0 b (P 3) J B fa W V X cap ng) (hn : (I 18) = J 31) (hM : iM J B) (hT : sTy G h0 b) (hp : pfR I A J B) (hm : 0 ≤ (I 21) ∧ (I 21) ≤ 254) : ∀ (d : Nat) (c x : Int), 0 ≤ c → c + d = 17 → (x = -1 ∨ x = 40 ∨ 0 ≤ x ∧ x < J 31) →
    (mX G 107 4 [.ref (b + 28), va_rf v, va_rf (cnV J W x), .int (iI c)] [] (wH h0 b I A P R o) n k Q ↔ Q (.inl none, wH h0 b (stC I (stN J B d x)) A P (stR R W (stN J B d x)) o, n, k)) := by
  have hN := hM.2.2.2.1
  have n1 := hN.1
  have pl := hM.2.2.2.2.1.2.2.2.2.2.2.1
  intro d
  induction d with
  | zero =>
    intro c x h1 h2 h3
    obtain rfl : c = 17 := by omega
    have e : stN J B 0 x = -1 := rfl
    rw [s107_4, e]
    unfold stC stR
    rw [if_pos rfl, if_pos rfl]
    simp (maxSteps := 1000000) (disch := first | omega | (simp only [updI_at, upA_at, Nat.reduceEqDiff, reduceIte]; omega) | exact mIsRef_rf _ | exact rfl) only [↓s107_0, ↓s107_1, ↓s107_2, ↓s107_3, ↓s107_5, ↓s107_7, ↓s107_10, ↓s107_11, ↓s107_14, ↓s107_15, ↓s107_16, ↓s107_19, ↓s107_22, ↓s107_25, ↓s107_26, ↓s107_27, ↓s107_30, ↓s107_31, ↓s107_32, ↓s107_35, ↓s107_36, ↓s107_39, ↓s107_40, ↓s107_41, ↓s107_44, ↓s107_45, ↓s107_46, ↓s107_49, ↓s107_52, ↓s107_53, ↓s107_56, ↓s107_59, iL_17, iL_3, wc_17, wc_28, wg_28_0, wp_28_6, wp_28_6n, wp_28_6s, wp_28_8, mN1_int, mN1_ref, mN1_null, mN1_U, mN1_rf, mCats_nil, mCats_int, mCats_ref, mCats_null, mCats_long, mCats_rf, mIsRef_ref, mIsRef_null, mIsRef_va, mRf_ref, mRf_null, mRf_rf, true_and, and_true, true_or, or_true, eq_self_iff_true, mK_v, mK_0, Nat.reduceAdd, Nat.reduceLeDiff, Nat.zero_le, iL_0, iL_1, iL_m1, iI_add, iI_sub, iI_mul, iI_neg, updI_at, upA_at, upP_at, upR_at, Nat.reduceEqDiff, reduceIte, Int.reduceAdd, Int.reduceSub, Int.reduceMul, Int.reduceDiv, Int.reduceMod, Int.reduceLT, Int.reduceLE, Int.reduceEq, Int.reduceNeg, not_true_eq_false, not_false_eq_true, Decidable.not_not, iI_le]
  | succ d ih =>
    intro c x h1 h2 h3
    have hc : ¬ 17 ≤ c := by omega
    rw [s107_4]
    by_cases p : x = -1
    · have e : stN J B (d + 1) x = -1 := by rw [stN, if_pos p]
      have e2 : cnV J W x = none := by rw [p]; exact cnV_neg
      rw [e]
      unfold stC stR
      rw [if_pos rfl, if_pos rfl]
      simp (maxSteps := 1000000) (disch := first | omega | (simp only [updI_at, upA_at, Nat.reduceEqDiff, reduceIte]; omega) | exact mIsRef_rf _ | exact rfl) only [↓s107_0, ↓s107_1, ↓s107_2, ↓s107_3, ↓s107_5, ↓s107_7, ↓s107_10, ↓s107_11, ↓s107_14, ↓s107_15, ↓s107_16, ↓s107_19, ↓s107_22, ↓s107_25, ↓s107_26, ↓s107_27, ↓s107_30, ↓s107_31, ↓s107_32, ↓s107_35, ↓s107_36, ↓s107_39, ↓s107_40, ↓s107_41, ↓s107_44, ↓s107_45, ↓s107_46, ↓s107_49, ↓s107_52, ↓s107_53, ↓s107_56, ↓s107_59, iL_17, iL_3, wc_17, wc_28, wg_28_0, wp_28_6, wp_28_6n, wp_28_6s, wp_28_8, mN1_int, mN1_ref, mN1_null, mN1_U, mN1_rf, mCats_nil, mCats_int, mCats_ref, mCats_null, mCats_long, mCats_rf, mIsRef_ref, mIsRef_null, mIsRef_va, mRf_ref, mRf_null, mRf_rf, true_and, and_true, true_or, or_true, eq_self_iff_true, mK_v, mK_0, Nat.reduceAdd, Nat.reduceLeDiff, Nat.zero_le, iL_0, iL_1, iL_m1, iI_add, iI_sub, iI_mul, iI_neg, updI_at, upA_at, upP_at, upR_at, Nat.reduceEqDiff, reduceIte, Int.reduceAdd, Int.reduceSub, Int.reduceMul, Int.reduceDiv, Int.reduceMod, Int.reduceLT, Int.reduceLE, Int.reduceEq, Int.reduceNeg, not_true_eq_false, not_false_eq_true, Decidable.not_not, iI_le, hc, e2, va_none]
    · have hx : x = 40 ∨ 0 ≤ x ∧ x < J 31 := h3.resolve_left p
      have e2 : cnV J W x = some (W 0 x.toNat 0) := cnV_pos hx
      have ni := hd.2.2.2.2 x.toNat (by omega)
      obtain ⟨⟨hn1, ha1, ht1, hi1, hr1, ⟨hs1, hs2⟩⟩, hw, hrest⟩ := ni
      have ty := ty_eq (B := B) hN hx
      have tr := tyA_rng B x
      have z44 := fun Q' => d44 (n := n) (k := k) (Q := Q') (I := I) (A := A) (P := P) (R := R) (o := o) hn1 hs1.1 hT
      rw [ty] at z44
      have z117 := fun Q' => d117 (G := G) (h0 := h0) (b := b) (n := n) (k := k) (Q := Q') (I := I) (A := A) (P := P) (R := R) (o := o) (x := tyA B x) (by omega) (by rw [hp.1]; exact pl) hp.2.2
      have he := hasT_eq (x := tyA B x) hp (by omega)
      by_cases q : hasT J B (tyA B x)
      · have e : stN J B (d + 1) x = x := by rw [stN, if_neg p, if_pos q]
        simp only [bI_t (he.mpr q)] at z117
        rw [e]
        unfold stC stR
        rw [if_neg p, if_neg p]
        simp (maxSteps := 1000000) (disch := first | omega | (simp only [updI_at, upA_at, lwI_at, Nat.reduceEqDiff, reduceIte, List.length_append, List.length_cons, List.length_nil, txtL_len, Nat.reduceAdd]; omega) | exact mIsRef_rf _ | exact rfl | assumption) only [↓s107_0, ↓s107_1, ↓s107_2, ↓s107_3, ↓s107_5, ↓s107_7, ↓s107_10, ↓s107_11, ↓s107_14, ↓s107_15, ↓s107_16, ↓s107_19, ↓s107_22, ↓s107_25, ↓s107_26, ↓s107_27, ↓s107_30, ↓s107_31, ↓s107_32, ↓s107_35, ↓s107_36, ↓s107_39, ↓s107_40, ↓s107_41, ↓s107_44, ↓s107_45, ↓s107_46, ↓s107_49, ↓s107_52, ↓s107_53, ↓s107_56, ↓s107_59, iL_17, iL_3, wc_17, wc_28, wg_28_0, wp_28_6, wp_28_6n, wp_28_6s, wp_28_8, mN1_int, mN1_ref, mN1_null, mN1_U, mN1_rf, mCats_nil, mCats_int, mCats_ref, mCats_null, mCats_long, mCats_rf, mIsRef_ref, mIsRef_null, mIsRef_va, mRf_ref, mRf_null, mRf_rf, true_and, and_true, true_or, or_true, eq_self_iff_true, mK_v, mK_0, Nat.reduceAdd, Nat.reduceLeDiff, Nat.zero_le, iL_0, iL_1, iL_m1, iI_add, iI_sub, iI_mul, iI_neg, updI_at, upA_at, upP_at, upR_at, Nat.reduceEqDiff, reduceIte, Int.reduceAdd, Int.reduceSub, Int.reduceMul, Int.reduceDiv, Int.reduceMod, Int.reduceLT, Int.reduceLE, Int.reduceEq, Int.reduceNeg, not_true_eq_false, not_false_eq_true, Decidable.not_not, iI_le, iI_eq, hc, e2, va_some, reduceCtorEq, ng_c hn1, z44, z117, d116]
      · have e : stN J B (d + 1) x = stN J B d (if x = 40 then -1 else B 29 (4 * x + 3).toNat) := by rw [stN, if_neg p, if_neg q]
        simp only [bI_f (fun t => q (he.mp t))] at z117
        have z49 := fun Q' => d49 (n := n) (k := k) (Q := Q') (I := I) (A := A) (P := P) (R := R) (o := o) (x := 3) hn1 ha1 (by omega)
        have wv : (if (0 : Int) ≤ 3 ∧ (3 : Int) < 4 then V 0 x.toNat (3 : Int).toNat 0 else -1) = if x = 40 then -1 else B 29 (4 * x + 3).toNat := by
          rw [if_pos (by omega), show (3 : Int).toNat = 3 from rfl, hw 3 (by omega)]
          by_cases r : x = 40
          · rw [if_pos r, if_pos (by omega)]
          · rw [if_neg r, if_neg (by omega), show 4 * x.toNat + 3 = (4 * x + 3).toNat by omega]
        rw [wv] at z49
        have gr : (if x = 40 then (-1 : Int) else B 29 (4 * x + 3).toNat) = -1 ∨ 0 ≤ (if x = 40 then (-1 : Int) else B 29 (4 * x + 3).toNat) ∧ (if x = 40 then (-1 : Int) else B 29 (4 * x + 3).toNat) < J 31 := by
          by_cases r : x = 40
          · rw [if_pos r]; exact Or.inl rfl
          · rw [if_neg r]
            have g := (hN.2.1 x.toNat (by omega)).2.2.2.2.2.2 3 (by omega)
            rw [show 4 * x.toNat + 3 = (4 * x + 3).toNat by omega] at g
            omega
        have z64 := fun Q' => d64 (n := n) (k := k) (Q := Q') (I := I) (A := A) (R := R) (o := o) (z := if x = 40 then -1 else B 29 (4 * x + 3).toNat) hd hn n1 (by omega)
        have e3 : rnV J W (if x = 40 then -1 else B 29 (4 * x + 3).toNat) = cnV J W (if x = 40 then -1 else B 29 (4 * x + 3).toNat) := by
          exact cn_rn (by omega)
        rw [e3] at z64
        rw [e, ← ih (c + 1) _ (by omega) (by omega) (by omega)]
        generalize (if x = 40 then (-1 : Int) else B 29 (4 * x + 3).toNat) = y at *
        simp (maxSteps := 1000000) (disch := first | omega | (simp only [updI_at, upA_at, lwI_at, Nat.reduceEqDiff, reduceIte, List.length_append, List.length_cons, List.length_nil, txtL_len, Nat.reduceAdd]; omega) | exact mIsRef_rf _ | exact rfl | assumption) only [↓s107_0, ↓s107_1, ↓s107_2, ↓s107_3, ↓s107_5, ↓s107_7, ↓s107_10, ↓s107_11, ↓s107_14, ↓s107_15, ↓s107_16, ↓s107_19, ↓s107_22, ↓s107_25, ↓s107_26, ↓s107_27, ↓s107_30, ↓s107_31, ↓s107_32, ↓s107_35, ↓s107_36, ↓s107_39, ↓s107_40, ↓s107_41, ↓s107_44, ↓s107_45, ↓s107_46, ↓s107_49, ↓s107_52, ↓s107_53, ↓s107_56, ↓s107_59, iL_17, iL_3, wc_17, wc_28, wg_28_0, wp_28_6, wp_28_6n, wp_28_6s, wp_28_8, mN1_int, mN1_ref, mN1_null, mN1_U, mN1_rf, mCats_nil, mCats_int, mCats_ref, mCats_null, mCats_long, mCats_rf, mIsRef_ref, mIsRef_null, mIsRef_va, mRf_ref, mRf_null, mRf_rf, true_and, and_true, true_or, or_true, eq_self_iff_true, mK_v, mK_0, Nat.reduceAdd, Nat.reduceLeDiff, Nat.zero_le, iL_0, iL_1, iL_m1, iI_add, iI_sub, iI_mul, iI_neg, updI_at, upA_at, upP_at, upR_at, Nat.reduceEqDiff, reduceIte, Int.reduceAdd, Int.reduceSub, Int.reduceMul, Int.reduceDiv, Int.reduceMod, Int.reduceLT, Int.reduceLE, Int.reduceEq, Int.reduceNeg, not_true_eq_false, not_false_eq_true, Decidable.not_not, iI_le, iI_eq, hc, e2, va_some, reduceCtorEq, ng_c hn1, z44, z117, z49, z64]
theorem d107 {x : Int} (hb : G.2.2.2 ≤ b) (hd : dNo G h0 b (P 3) J B fa W V X cap ng) (hn : (I 18) = J 31) (hM : iM J B) (hT : sTy G h0 b) (hp : pfR I A J B) (hm : 0 ≤ (I 21) ∧ (I 21) ≤ 254) (hx : x = -1 ∨ x = 40 ∨ 0 ≤ x ∧ x < J 31) : mX G 107 0 [.ref (b + 28), va_rf (cnV J W x), mU, mU] [] (wH h0 b I A P R o) n k Q ↔ Q (.inl none, wH h0 b (stC I (stN J B 17 x)) A P (stR R W (stN J B 17 x)) o, n, k) := by
  have z := d107_l (n := n) (k := k) (Q := Q) (R := R) (o := o) (v := cnV J W x) hb hd hn hM hT hp hm 17 0 x (by omega) (by omega) hx
  rw [← z]
  simp (maxSteps := 1000000) (disch := first | omega | (simp only [updI_at, upA_at, Nat.reduceEqDiff, reduceIte]; omega) | exact mIsRef_rf _ | exact rfl) only [↓s107_0, ↓s107_1, ↓s107_2, ↓s107_3, mN1_int, mN1_ref, mN1_null, mN1_U, mN1_rf, mCats_nil, mCats_int, mCats_ref, mCats_null, mCats_long, mCats_rf, mIsRef_ref, mIsRef_null, mIsRef_va, mRf_ref, mRf_null, mRf_rf, true_and, and_true, true_or, or_true, eq_self_iff_true, mK_v, mK_0, Nat.reduceAdd, Nat.reduceLeDiff, Nat.zero_le, iL_0, iL_1, iL_m1, iI_add, iI_sub, iI_mul, iI_neg, updI_at, upA_at, upP_at, upR_at, Nat.reduceEqDiff, reduceIte, Int.reduceAdd, Int.reduceSub, Int.reduceMul, Int.reduceDiv, Int.reduceMod, Int.reduceLT, Int.reduceLE, Int.reduceEq, Int.reduceNeg, not_true_eq_false, not_false_eq_true, Decidable.not_not]
theorem d106 {x : Int} (hb : G.2.2.2 ≤ b) (hd : dNo G h0 b (P 3) J B fa W V X cap ng) (hn : (I 18) = J 31) (hM : iM J B) (hT : sTy G h0 b) (hp : pfR I A J B) (hm : 0 ≤ (I 21) ∧ (I 21) ≤ 254) (hx : x = -1 ∨ 0 ≤ x ∧ x < J 31) : mX G 106 0 [.ref (b + 28), .int (iI x)] [] (wH h0 b I A P R o) n k Q ↔ Q (.inl none, wH h0 b (stC I (stN J B 17 x)) A P (stR R W (stN J B 17 x)) o, n, k) := by
  have n1 := hM.2.2.2.1.1
  have z64 := fun Q' => d64 (n := n) (k := k) (Q := Q') (I := I) (A := A) (R := R) (o := o) (z := x) hd hn n1 (by omega)
  have e3 : rnV J W x = cnV J W x := by
    unfold cnV
    rw [if_neg (by omega)]
  rw [e3] at z64
  have z107 := fun Q' => d107 (n := n) (k := k) (Q := Q') (R := R) (o := o) (x := x) hb hd hn hM hT hp hm (by omega)
  by_cases p : x = -1
  · have e2 : cnV J W x = none := by rw [p]; exact cnV_neg
    rw [e2, va_none] at z107 z64
    simp (maxSteps := 1000000) (disch := first | omega | (simp only [updI_at, upA_at, Nat.reduceEqDiff, reduceIte]; omega) | exact mIsRef_rf _ | exact rfl) only [↓s106_0, ↓s106_1, ↓s106_2, ↓s106_5, ↓s106_6, ↓s106_12, wc_17, wg_28_0, ↓s106_9 (p0 := Value.null) rfl, wc_28, mN1_int, mN1_ref, mN1_null, mN1_U, mN1_rf, mCats_nil, mCats_int, mCats_ref, mCats_null, mCats_long, mCats_rf, mIsRef_ref, mIsRef_null, mIsRef_va, mRf_ref, mRf_null, mRf_rf, true_and, and_true, true_or, or_true, eq_self_iff_true, mK_v, mK_0, Nat.reduceAdd, Nat.reduceLeDiff, Nat.zero_le, iL_0, iL_1, iL_m1, iI_add, iI_sub, iI_mul, iI_neg, updI_at, upA_at, upP_at, upR_at, Nat.reduceEqDiff, reduceIte, Int.reduceAdd, Int.reduceSub, Int.reduceMul, Int.reduceDiv, Int.reduceMod, Int.reduceLT, Int.reduceLE, Int.reduceEq, Int.reduceNeg, not_true_eq_false, not_false_eq_true, Decidable.not_not, z64, z107]
  · have e2 : cnV J W x = some (W 0 x.toNat 0) := cnV_pos (by omega)
    rw [e2, va_some] at z107 z64
    simp (maxSteps := 1000000) (disch := first | omega | (simp only [updI_at, upA_at, Nat.reduceEqDiff, reduceIte]; omega) | exact mIsRef_rf _ | exact rfl) only [↓s106_0, ↓s106_1, ↓s106_2, ↓s106_5, ↓s106_6, ↓s106_9r, ↓s106_12, wc_17, wc_28, wg_28_0, mN1_int, mN1_ref, mN1_null, mN1_U, mN1_rf, mCats_nil, mCats_int, mCats_ref, mCats_null, mCats_long, mCats_rf, mIsRef_ref, mIsRef_null, mIsRef_va, mRf_ref, mRf_null, mRf_rf, true_and, and_true, true_or, or_true, eq_self_iff_true, mK_v, mK_0, Nat.reduceAdd, Nat.reduceLeDiff, Nat.zero_le, iL_0, iL_1, iL_m1, iI_add, iI_sub, iI_mul, iI_neg, updI_at, upA_at, upP_at, upR_at, Nat.reduceEqDiff, reduceIte, Int.reduceAdd, Int.reduceSub, Int.reduceMul, Int.reduceDiv, Int.reduceMod, Int.reduceLT, Int.reduceLE, Int.reduceEq, Int.reduceNeg, not_true_eq_false, not_false_eq_true, Decidable.not_not, z64, z107]
theorem d108 (hb : G.2.2.2 ≤ b) (hr : 0 ≤ (I 22) ∧ (I 22) ≤ 2) (hm : 0 ≤ (I 21) ∧ (I 21) ≤ 254) : mX G 108 0 [.ref (b + 28)] [] (wH h0 b I A P R o) n k Q ↔ if (I 22) < 2 then Q (.inl (some (.int (iI 1))), wH h0 b (updI (updI (updI I 22 ((I 22) + 1)) 21 (if (I 21) < 254 then (I 21) + 1 else 1)) 20 1) A P R o, n, k) else Q (.inl (some (.int (iI 0))), wH h0 b I A P R o, n, k) := by
  by_cases p : (I 22) < 2
  · rw [if_pos p]
    simp (maxSteps := 1000000) (disch := first | omega | (simp only [updI_at, upA_at, lwI_at, Nat.reduceEqDiff, reduceIte, List.length_append, List.length_cons, List.length_nil, txtL_len, Nat.reduceAdd]; omega) | exact mIsRef_rf _ | exact rfl | assumption) only [↓s108_0, ↓s108_1, ↓s108_4, ↓s108_5, ↓s108_8, ↓s108_9, ↓s108_10, ↓s108_11, ↓s108_12, ↓s108_15, ↓s108_16, ↓s108_17, ↓s108_20, ↓s108_21, ↓s108_24, ↓s108_25, iL_2, wc_28, wg_28_8, wp_28_8, mN1_int, mN1_ref, mN1_null, mN1_U, mN1_rf, mCats_nil, mCats_int, mCats_ref, mCats_null, mCats_long, mCats_rf, mIsRef_ref, mIsRef_null, mIsRef_va, mRf_ref, mRf_null, mRf_rf, true_and, and_true, true_or, or_true, eq_self_iff_true, mK_v, mK_0, Nat.reduceAdd, Nat.reduceLeDiff, Nat.zero_le, iL_0, iL_1, iL_m1, iI_add, iI_sub, iI_mul, iI_neg, updI_at, upA_at, upP_at, upR_at, Nat.reduceEqDiff, reduceIte, Int.reduceAdd, Int.reduceSub, Int.reduceMul, Int.reduceDiv, Int.reduceMod, Int.reduceLT, Int.reduceLE, Int.reduceEq, Int.reduceNeg, not_true_eq_false, not_false_eq_true, Decidable.not_not, iI_lt, p, d116]
  · rw [if_neg p]
    simp (maxSteps := 1000000) (disch := first | omega | (simp only [updI_at, upA_at, lwI_at, Nat.reduceEqDiff, reduceIte, List.length_append, List.length_cons, List.length_nil, txtL_len, Nat.reduceAdd]; omega) | exact mIsRef_rf _ | exact rfl | assumption) only [↓s108_0, ↓s108_1, ↓s108_4, ↓s108_5, ↓s108_8, ↓s108_9, ↓s108_10, ↓s108_11, ↓s108_12, ↓s108_15, ↓s108_16, ↓s108_17, ↓s108_20, ↓s108_21, ↓s108_24, ↓s108_25, iL_2, wc_28, wg_28_8, wp_28_8, mN1_int, mN1_ref, mN1_null, mN1_U, mN1_rf, mCats_nil, mCats_int, mCats_ref, mCats_null, mCats_long, mCats_rf, mIsRef_ref, mIsRef_null, mIsRef_va, mRf_ref, mRf_null, mRf_rf, true_and, and_true, true_or, or_true, eq_self_iff_true, mK_v, mK_0, Nat.reduceAdd, Nat.reduceLeDiff, Nat.zero_le, iL_0, iL_1, iL_m1, iI_add, iI_sub, iI_mul, iI_neg, updI_at, upA_at, upP_at, upR_at, Nat.reduceEqDiff, reduceIte, Int.reduceAdd, Int.reduceSub, Int.reduceMul, Int.reduceDiv, Int.reduceMod, Int.reduceLT, Int.reduceLE, Int.reduceEq, Int.reduceNeg, not_true_eq_false, not_false_eq_true, Decidable.not_not, iI_lt, p]
/-- the class's current Node is the reference's -/
def cuR (R : Nat → Option Nat) (J : Nat → Int) (W : Nat → Nat → Nat → Nat) : Prop := R 2 = if J 41 = 0 then none else some (W 0 (J 42).toNat 0)
theorem d110 (hd : dNo G h0 b (P 3) J B fa W V X cap ng) (hS : iSe J B) (hR : cuR R J W) : mX G 110 0 [.ref (b + 28)] [] (wH h0 b I A P R o) n k Q ↔ Q (.inl (some (.int (iI (if J 41 = 0 ∨ J 42 = 40 then -1 else J 42)))), wH h0 b I A P R o, n, k) := by
  have e4 := hS.2.2.2.1
  unfold cuR at hR
  by_cases p : J 41 = 0
  · rw [if_pos p] at hR
    rw [if_pos (Or.inl p)]
    simp (maxSteps := 1000000) (disch := first | omega | (simp only [updI_at, upA_at, Nat.reduceEqDiff, reduceIte]; omega) | exact mIsRef_rf _ | exact rfl) only [↓s110_0, ↓s110_1, ↓s110_4, ↓s110_7, ↓s110_8, ↓s110_11, ↓s110_12, ↓s110_15, ↓s110_18, wg_28_6, mN1_int, mN1_ref, mN1_null, mN1_U, mN1_rf, mCats_nil, mCats_int, mCats_ref, mCats_null, mCats_long, mCats_rf, mIsRef_ref, mIsRef_null, mIsRef_va, mRf_ref, mRf_null, mRf_rf, true_and, and_true, true_or, or_true, eq_self_iff_true, mK_v, mK_0, Nat.reduceAdd, Nat.reduceLeDiff, Nat.zero_le, iL_0, iL_1, iL_m1, iI_add, iI_sub, iI_mul, iI_neg, updI_at, upA_at, upP_at, upR_at, Nat.reduceEqDiff, reduceIte, Int.reduceAdd, Int.reduceSub, Int.reduceMul, Int.reduceDiv, Int.reduceMod, Int.reduceLT, Int.reduceLE, Int.reduceEq, Int.reduceNeg, not_true_eq_false, not_false_eq_true, Decidable.not_not, hR, va_none]
  · rw [if_neg p] at hR
    have e5 := hS.2.2.2.2.1 p
    have hn1 := (hd.2.2.2.2 (J 42).toNat (by omega)).1.1
    have e0 : nF B (J 42).toNat 0 = if J 41 = 0 ∨ J 42 = 40 then -1 else J 42 := by
      show (if (J 42).toNat = 40 then (-1 : Int) else (((J 42).toNat : Nat) : Int)) = _
      by_cases q : J 42 = 40
      · rw [if_pos (by omega), if_pos (Or.inr q)]
      · rw [if_neg (by omega), if_neg (fun t => t.elim p q)]
        omega
    simp (maxSteps := 1000000) (disch := first | omega | (simp only [updI_at, upA_at, Nat.reduceEqDiff, reduceIte]; omega) | exact mIsRef_rf _ | exact rfl) only [↓s110_0, ↓s110_1, ↓s110_4, ↓s110_7, ↓s110_8, ↓s110_11, ↓s110_12, ↓s110_15, ↓s110_18, wg_28_6, mN1_int, mN1_ref, mN1_null, mN1_U, mN1_rf, mCats_nil, mCats_int, mCats_ref, mCats_null, mCats_long, mCats_rf, mIsRef_ref, mIsRef_null, mIsRef_va, mRf_ref, mRf_null, mRf_rf, true_and, and_true, true_or, or_true, eq_self_iff_true, mK_v, mK_0, Nat.reduceAdd, Nat.reduceLeDiff, Nat.zero_le, iL_0, iL_1, iL_m1, iI_add, iI_sub, iI_mul, iI_neg, updI_at, upA_at, upP_at, upR_at, Nat.reduceEqDiff, reduceIte, Int.reduceAdd, Int.reduceSub, Int.reduceMul, Int.reduceDiv, Int.reduceMod, Int.reduceLT, Int.reduceLE, Int.reduceEq, Int.reduceNeg, not_true_eq_false, not_false_eq_true, Decidable.not_not, hR, va_some, reduceCtorEq, ng_0 hn1, e0]
def pbI (I : Nat → Int) (l : List Int) : Nat → Int := lwI (updI I 24 0) 24 l
def pbA (I : Nat → Int) (A : Nat → Nat → Int) (l : List Int) : Nat → Nat → Int := lwA (updI I 24 0) A 24 7 l
theorem d112 (hb : G.2.2.2 ≤ b) (hd : dNo G h0 b (P 3) J B fa W V X cap ng) (hM : iM J B) (hT : sTy G h0 b) (hR : cuR R J W) (hs : ¬ J 41 = 0) (hm : (I 21) = J 43) (hE : ∀ j : Nat, j < 32 → (A 4) j = B 38 j) : mX G 112 0 [.ref (b + 28)] [] (wH h0 b I A P R o) n k Q ↔ Q (.inl (some (.ref (b + 31))), wH h0 b (pbI I (bodL J B)) (pbA I A (bodL J B)) P R o, n, k) := by
  have hS := hM.2.2.2.2.1
  have hN := hM.2.2.2.1
  have e4 := hS.2.2.2.1
  have e5 := hS.2.2.2.2.1 hs
  have en := hS.2.1
  unfold cuR at hR
  rw [if_neg hs] at hR
  have h1 := hd.2.2.2.2 (J 42).toNat (by omega)
  have hE2 : ∀ j : Nat, j < 32 → -1 ≤ (A 4) j ∧ (A 4) j ≤ 40 := fun j hj => by
    have := hN.2.2.2.2.2.2.1 j hj
    have := hN.1
    rw [hE j hj]; omega
  have hev : evL (A 4) 32 0 = evL (B 38) 32 0 := by
    have key : ∀ (d c : Nat), c + d = 32 → evL (A 4) d c = evL (B 38) d c := by
      intro d
      induction d with
      | zero => intro c _; rfl
      | succ d ih => intro c hc; rw [evL, evL, hE c (by omega), ih (c + 1) (by omega)]
    exact key 32 0 rfl
  have z53 := fun Q' => d53 (n := n) (k := k) (Q := Q') (I := updI I 24 0) (A := A) (P := P) (R := R) (o := o) (m := J 43) hb h1.1 hT hE2 en rfl
  rw [bod_eq hN hS hs h1 hev] at z53
  have hn1 := h1.1.1
  have eb : ∀ l, lwI (updI I 24 0) 24 l = pbI I l := fun _ => rfl
  have ea : ∀ l, lwA (updI I 24 0) A 24 7 l = pbA I A l := fun _ => rfl
  simp (maxSteps := 1000000) (disch := first | omega | (simp only [updI_at, upA_at, Nat.reduceEqDiff, reduceIte]; omega) | exact mIsRef_rf _ | exact rfl) only [↓s112_0, ↓s112_1, ↓s112_4, ↓s112_7, ↓s112_8, ↓s112_11, ↓s112_14, ↓s112_15, ↓s112_18, ↓s112_19, ↓s112_22, ↓s112_23, ↓s112_26, ↓s112_27, ↓s112_30r, ↓s112_33, ↓s112_34, ↓s112_37, wc_1, wc_12, wc_14, wc_29, wc_31, wc_39, wc_4, wc_41, wg_28_0, wg_28_2, wg_28_6, wg_28_7, mN1_int, mN1_ref, mN1_null, mN1_U, mN1_rf, mCats_nil, mCats_int, mCats_ref, mCats_null, mCats_long, mCats_rf, mIsRef_ref, mIsRef_null, mIsRef_va, mRf_ref, mRf_null, mRf_rf, true_and, and_true, true_or, or_true, eq_self_iff_true, mK_v, mK_0, Nat.reduceAdd, Nat.reduceLeDiff, Nat.zero_le, iL_0, iL_1, iL_m1, iI_add, iI_sub, iI_mul, iI_neg, updI_at, upA_at, upP_at, upR_at, Nat.reduceEqDiff, reduceIte, Int.reduceAdd, Int.reduceSub, Int.reduceMul, Int.reduceDiv, Int.reduceMod, Int.reduceLT, Int.reduceLE, Int.reduceEq, Int.reduceNeg, not_true_eq_false, not_false_eq_true, Decidable.not_not, d83_31, hR, va_some, reduceCtorEq, hm, ng_c hn1, z53, eb, ea]
theorem d113 (hb : G.2.2.2 ≤ b) (hd : dNo G h0 b (P 3) J B fa W V X cap ng) (hM : iM J B) (hT : sTy G h0 b) (hR : cuR R J W) (hs : ¬ J 41 = 0) (hm : (I 21) = J 43) (hE : ∀ j : Nat, j < 32 → (A 4) j = B 38 j) : mX G 113 0 [.ref (b + 28), mU] [] (wH h0 b I A P R o) n k Q ↔ Q (.inl (some (.int (iI (whL (bodL J B))))), wH h0 b (pbI I (bodL J B)) (pbA I A (bodL J B)) P R o, n, k) := by
  have z := fun Q' => d112 (n := n) (k := k) (Q := Q') (o := o) hb hd hM hT hR hs hm hE
  have bl := bodL_len (bok_of hM.2.2.2.1 hM.2.2.2.2.1 hs)
  have e : pbI I (bodL J B) 24 = (bodL J B).length := by
    unfold pbI; rw [lwI_at, if_pos rfl, updI_at, if_pos rfl]; omega
  unfold whL
  by_cases p : ((bodL J B).length : Int) ≤ 127
  · have p' : ((bodL J B).length : Int) < 128 := by omega
    rw [if_pos p, show ((bodL J B).length : Int) + 2 = 1 + 1 + (bodL J B).length by omega]
    simp (maxSteps := 1000000) (disch := first | omega | (simp only [updI_at, upA_at, Nat.reduceEqDiff, reduceIte]; omega) | exact mIsRef_rf _ | exact rfl) only [↓s113_0, ↓s113_1, ↓s113_4, ↓s113_7, ↓s113_8, ↓s113_9, ↓s113_10, ↓s113_13, ↓s113_14, ↓s113_15, ↓s113_16, wc_1, wc_12, wc_14, wc_28, wc_29, wc_31, wc_39, wc_4, wc_41, mN1_int, mN1_ref, mN1_null, mN1_U, mN1_rf, mCats_nil, mCats_int, mCats_ref, mCats_null, mCats_long, mCats_rf, mIsRef_ref, mIsRef_null, mIsRef_va, mRf_ref, mRf_null, mRf_rf, true_and, and_true, true_or, or_true, eq_self_iff_true, mK_v, mK_0, Nat.reduceAdd, Nat.reduceLeDiff, Nat.zero_le, iL_0, iL_1, iL_m1, iI_add, iI_sub, iI_mul, iI_neg, updI_at, upA_at, upP_at, upR_at, Nat.reduceEqDiff, reduceIte, Int.reduceAdd, Int.reduceSub, Int.reduceMul, Int.reduceDiv, Int.reduceMod, Int.reduceLT, Int.reduceLE, Int.reduceEq, Int.reduceNeg, not_true_eq_false, not_false_eq_true, Decidable.not_not, z, d79_31, e, c177, if_pos p']
  · have p' : ¬ ((bodL J B).length : Int) < 128 := by omega
    rw [if_neg p, show ((bodL J B).length : Int) + 3 = 1 + 2 + (bodL J B).length by omega]
    simp (maxSteps := 1000000) (disch := first | omega | (simp only [updI_at, upA_at, Nat.reduceEqDiff, reduceIte]; omega) | exact mIsRef_rf _ | exact rfl) only [↓s113_0, ↓s113_1, ↓s113_4, ↓s113_7, ↓s113_8, ↓s113_9, ↓s113_10, ↓s113_13, ↓s113_14, ↓s113_15, ↓s113_16, wc_1, wc_12, wc_14, wc_28, wc_29, wc_31, wc_39, wc_4, wc_41, mN1_int, mN1_ref, mN1_null, mN1_U, mN1_rf, mCats_nil, mCats_int, mCats_ref, mCats_null, mCats_long, mCats_rf, mIsRef_ref, mIsRef_null, mIsRef_va, mRf_ref, mRf_null, mRf_rf, true_and, and_true, true_or, or_true, eq_self_iff_true, mK_v, mK_0, Nat.reduceAdd, Nat.reduceLeDiff, Nat.zero_le, iL_0, iL_1, iL_m1, iI_add, iI_sub, iI_mul, iI_neg, updI_at, upA_at, upP_at, upR_at, Nat.reduceEqDiff, reduceIte, Int.reduceAdd, Int.reduceSub, Int.reduceMul, Int.reduceDiv, Int.reduceMod, Int.reduceLT, Int.reduceLE, Int.reduceEq, Int.reduceNeg, not_true_eq_false, not_false_eq_true, Decidable.not_not, z, d79_31, e, c177, if_neg p']
end
end MSESS
