/-! The Nodes and the MENU (number 40): where they lie, what they hold. Class: Program.get, nodeOrMenu, isNodeOrNone, size. A Node writes what the reference's body() does. -/
section MPROG
variable {G : mG} {h h0 : mH} {n k b : Nat} {Q : mR → Prop} {I : Nat → Int} {A : Nat → Nat → Int} {P : Nat → Nat} {R : Nat → Option Nat} {o : Nat → Int64}
def nF (B : Nat → Nat → Int) (i : Nat) : Nat → Int := fun j => if j = 0 then (if i = 40 then -1 else (i : Int)) else if j = 1 then (if i = 40 then 8 else B 24 i) else if j = 2 then (if i = 40 then 0 else B 25 i) else if j = 7 then B 32 i else if j = 10 then (if i = 40 then 0 else B 26 i) else if j = 11 then (if i = 40 then 255 else B 27 i) else 0
def rmN (B : Nat → Nat → Int) (i : Nat) : Nat := if i = 40 ∨ B 24 i = 2 then 5 else 0
def tln (J : Nat → Int) (B : Nat → Nat → Int) (i : Nat) : Int := if i = 40 then J 32 else B 30 i
def nfl (fa : Nat → Nat) (B : Nat → Nat → Int) (i : Nat) : Option Nat := if i = 40 then none else rfV fa (B 28 i)
/-- a Node's, or the MENU's: W addresses (0 Node, 1 arrays, 2 text, 3 its room, 4 items' texts, 5 their room), V numbers (0 ways, 1 identifiers, 2 items' ways, 3 text, 4 items' lengths, 5 items' texts) -/
def dN1 (G : mG) (h0 : mH) (b : Nat) (J : Nat → Int) (B : Nat → Nat → Int) (fa : Nat → Nat) (W : Nat → Nat → Nat → Nat) (V : Nat → Nat → Nat → Nat → Int) (X : Nat → Nat → Option Nat) (i : Nat) : Prop :=
  nN G h0 b (W 0 i 0) (W 1 i 0) (W 2 i 0) (rmN B i) (W 3 i 0) (nfl fa B i) (nF B i) (fun j => V 0 i j 0) (fun j => V 1 i j 0) (fun j => V 2 i j 0) (fun j => V 3 i j 0) (X i) (tln J B i) (fun j => W 4 i j) (fun j => W 5 i j) (fun j => V 4 i j 0) (fun j u => V 5 i j u) ∧
  (∀ j, j < 4 → V 0 i j 0 = if i = 40 then -1 else B 29 (4 * i + j)) ∧
  (∀ j : Nat, (j : Int) < B 32 i → V 1 i j 0 = B 33 (5 * i + j) ∧ V 2 i j 0 = B 34 (5 * i + j) ∧ V 4 i j 0 = B 35 (5 * i + j) ∧ (∀ u : Nat, (u : Int) < B 35 (5 * i + j) → V 5 i j u = B 36 (20 * (5 * i + j) + u))) ∧
  (∀ u : Nat, (u : Int) < tln J B i → V 3 i u 0 = if i = 40 then B 37 u else B 31 (100 * i + u))
def dNo (G : mG) (h0 : mH) (b p3 : Nat) (J : Nat → Int) (B : Nat → Nat → Int) (fa : Nat → Nat) (W : Nat → Nat → Nat → Nat) (V : Nat → Nat → Nat → Nat → Int) (X : Nat → Nat → Option Nat) (cap : Nat) (ng : Nat → Option Nat) : Prop :=
  (hol b p3 ∧ (0 < J 31 → h0 p3 = some (mA 4 cap ng))) ∧ (J 31 ≤ cap ∧ cap ≤ 100) ∧ W 0 40 0 = b + 19 ∧ (∀ i : Nat, (i : Int) < J 31 → ng i = some (W 0 i 0)) ∧ (∀ i : Nat, ((i : Int) < J 31 ∨ i = 40) → dN1 G h0 b J B fa W V X i)
section
variable {J : Nat → Int} {B : Nat → Nat → Int} {fa : Nat → Nat} {W : Nat → Nat → Nat → Nat} {V : Nat → Nat → Nat → Nat → Int} {X : Nat → Nat → Option Nat} {cap : Nat} {ng : Nat → Option Nat}
theorem d63 : mX G 63 0 [.ref (b + 17)] [] (wH h0 b I A P R o) n k Q ↔ Q (.inl (some (.int (iI (I 18)))), wH h0 b I A P R o, n, k) := by
  simp (maxSteps := 1000000) (disch := first | omega | (simp only [updI_at, upA_at, Nat.reduceEqDiff, reduceIte]; omega) | exact mIsRef_rf _ | exact rfl) only [↓s63_0, ↓s63_1, ↓s63_4, ↓s63_7, wc_18, wc_7, wg_17_0, mN1_int, mN1_ref, mN1_null, mN1_U, mN1_rf, mCats_nil, mCats_int, mCats_ref, mCats_null, mCats_long, mCats_rf, mIsRef_ref, mIsRef_null, mIsRef_va, mRf_ref, mRf_null, mRf_rf, true_and, and_true, true_or, or_true, eq_self_iff_true, mK_v, mK_0, Nat.reduceAdd, Nat.reduceLeDiff, Nat.zero_le, iL_0, iL_1, iL_m1, iI_add, iI_sub, iI_mul, iI_neg, updI_at, upA_at, upP_at, upR_at, Nat.reduceEqDiff, reduceIte, Int.reduceAdd, Int.reduceSub, Int.reduceMul, Int.reduceDiv, Int.reduceMod, Int.reduceLT, Int.reduceLE, Int.reduceEq, Int.reduceNeg, not_true_eq_false, not_false_eq_true, Decidable.not_not, d269n]
/-- the Node of a number, or null -/
def rnV (J : Nat → Int) (W : Nat → Nat → Nat → Nat) (z : Int) : Option Nat := if 0 ≤ z ∧ z < J 31 then some (W 0 z.toNat 0) else none
theorem d64 {z : Int} (hd : dNo G h0 b (P 3) J B fa W V X cap ng) (hn : (I 18) = J 31) (hf : 0 ≤ J 31 ∧ J 31 ≤ 40) (hz : -2147483648 ≤ z ∧ z < 2147483648) : mX G 64 0 [.ref (b + 17), .int (iI z)] [] (wH h0 b I A P R o) n k Q ↔ Q (.inl (some (va_rf (rnV J W z))), wH h0 b I A P R o, n, k) := by
  obtain ⟨⟨l1, l3⟩, ⟨c1, c2⟩, m1, hi, hN⟩ := hd
  unfold rnV
  by_cases p1 : z < 0
  · rw [if_neg (by omega)]
    simp (maxSteps := 1000000) (disch := first | omega | (simp only [updI_at, upA_at, Nat.reduceEqDiff, reduceIte]; omega) | exact mIsRef_rf _ | exact rfl) only [↓s64_0, ↓s64_1, ↓s64_4, ↓s64_5, ↓s64_6, ↓s64_9, ↓s64_12, ↓s64_15, ↓s64_16, ↓s64_19, ↓s64_20, ↓s64_23, ↓s64_23n, ↓s64_26, ↓s64_29, ↓s64_30, wc_18, wc_7, wg_17_0, mN1_int, mN1_ref, mN1_null, mN1_U, mN1_rf, mCats_nil, mCats_int, mCats_ref, mCats_null, mCats_long, mCats_rf, mIsRef_ref, mIsRef_null, mIsRef_va, mRf_ref, mRf_null, mRf_rf, true_and, and_true, true_or, or_true, eq_self_iff_true, mK_v, mK_0, Nat.reduceAdd, Nat.reduceLeDiff, Nat.zero_le, iL_0, iL_1, iL_m1, iI_add, iI_sub, iI_mul, iI_neg, updI_at, upA_at, upP_at, upR_at, Nat.reduceEqDiff, reduceIte, Int.reduceAdd, Int.reduceSub, Int.reduceMul, Int.reduceDiv, Int.reduceMod, Int.reduceLT, Int.reduceLE, Int.reduceEq, Int.reduceNeg, not_true_eq_false, not_false_eq_true, Decidable.not_not, iI_lt, p1, va_none]
  · by_cases p2 : z < J 31
    · rw [if_pos ⟨by omega, p2⟩]
      have i1 := hi z.toNat (by omega)
      have i2 := (hN z.toNat (by omega)).1.1
      have zg := fun Q' => d271n (G := G) (h0 := h0) (b := b) (n := n) (k := k) (Q := Q') (I := I) (A := A) (P := P) (R := R) (o := o) (z := z) l1 (l3 (by omega)) c2 (by omega) (by omega) (by omega)
      rw [i1] at zg
      have p2' : ¬ (I 18) ≤ z := by omega
      simp (maxSteps := 1000000) (disch := first | omega | (simp only [updI_at, upA_at, Nat.reduceEqDiff, reduceIte]; omega) | exact mIsRef_rf _ | exact rfl) only [↓s64_0, ↓s64_1, ↓s64_4, ↓s64_5, ↓s64_6, ↓s64_9, ↓s64_12, ↓s64_15, ↓s64_16, ↓s64_19, ↓s64_20, ↓s64_23, ↓s64_23n, ↓s64_26, ↓s64_29, ↓s64_30, wc_18, wc_7, wg_17_0, mN1_int, mN1_ref, mN1_null, mN1_U, mN1_rf, mCats_nil, mCats_int, mCats_ref, mCats_null, mCats_long, mCats_rf, mIsRef_ref, mIsRef_null, mIsRef_va, mRf_ref, mRf_null, mRf_rf, true_and, and_true, true_or, or_true, eq_self_iff_true, mK_v, mK_0, Nat.reduceAdd, Nat.reduceLeDiff, Nat.zero_le, iL_0, iL_1, iL_m1, iI_add, iI_sub, iI_mul, iI_neg, updI_at, upA_at, upP_at, upR_at, Nat.reduceEqDiff, reduceIte, Int.reduceAdd, Int.reduceSub, Int.reduceMul, Int.reduceDiv, Int.reduceMod, Int.reduceLT, Int.reduceLE, Int.reduceEq, Int.reduceNeg, not_true_eq_false, not_false_eq_true, Decidable.not_not, iI_lt, iI_le, p1, p2', d269n, zg, va_some, ng_c i2]
    · rw [if_neg (by omega)]
      have p2' : (I 18) ≤ z := by omega
      simp (maxSteps := 1000000) (disch := first | omega | (simp only [updI_at, upA_at, Nat.reduceEqDiff, reduceIte]; omega) | exact mIsRef_rf _ | exact rfl) only [↓s64_0, ↓s64_1, ↓s64_4, ↓s64_5, ↓s64_6, ↓s64_9, ↓s64_12, ↓s64_15, ↓s64_16, ↓s64_19, ↓s64_20, ↓s64_23, ↓s64_23n, ↓s64_26, ↓s64_29, ↓s64_30, wc_18, wc_7, wg_17_0, mN1_int, mN1_ref, mN1_null, mN1_U, mN1_rf, mCats_nil, mCats_int, mCats_ref, mCats_null, mCats_long, mCats_rf, mIsRef_ref, mIsRef_null, mIsRef_va, mRf_ref, mRf_null, mRf_rf, true_and, and_true, true_or, or_true, eq_self_iff_true, mK_v, mK_0, Nat.reduceAdd, Nat.reduceLeDiff, Nat.zero_le, iL_0, iL_1, iL_m1, iI_add, iI_sub, iI_mul, iI_neg, updI_at, upA_at, upP_at, upR_at, Nat.reduceEqDiff, reduceIte, Int.reduceAdd, Int.reduceSub, Int.reduceMul, Int.reduceDiv, Int.reduceMod, Int.reduceLT, Int.reduceLE, Int.reduceEq, Int.reduceNeg, not_true_eq_false, not_false_eq_true, Decidable.not_not, iI_lt, iI_le, p1, p2', d269n, va_none]
theorem d65 {z : Int} (hd : dNo G h0 b (P 3) J B fa W V X cap ng) (hn : (I 18) = J 31) (hf : 0 ≤ J 31 ∧ J 31 ≤ 40) (hz : -2147483648 ≤ z ∧ z < 2147483648) : mX G 65 0 [.ref (b + 17), .int (iI z)] [] (wH h0 b I A P R o) n k Q ↔ Q (.inl (some (va_rf (if z = -1 then some (b + 19) else rnV J W z))), wH h0 b I A P R o, n, k) := by
  have z64 := fun Q' => d64 (n := n) (k := k) (Q := Q') (I := I) (A := A) (R := R) (o := o) (z := z) hd hn hf hz
  by_cases p1 : z = -1
  · rw [if_pos p1]
    simp (maxSteps := 1000000) (disch := first | omega | (simp only [updI_at, upA_at, Nat.reduceEqDiff, reduceIte]; omega) | exact mIsRef_rf _ | exact rfl) only [↓s65_0, ↓s65_1, ↓s65_2, ↓s65_5, ↓s65_6, ↓s65_9, ↓s65_12, ↓s65_13, ↓s65_14, ↓s65_17, wc_17, wg_17_1, mN1_int, mN1_ref, mN1_null, mN1_U, mN1_rf, mCats_nil, mCats_int, mCats_ref, mCats_null, mCats_long, mCats_rf, mIsRef_ref, mIsRef_null, mIsRef_va, mRf_ref, mRf_null, mRf_rf, true_and, and_true, true_or, or_true, eq_self_iff_true, mK_v, mK_0, Nat.reduceAdd, Nat.reduceLeDiff, Nat.zero_le, iL_0, iL_1, iL_m1, iI_add, iI_sub, iI_mul, iI_neg, updI_at, upA_at, upP_at, upR_at, Nat.reduceEqDiff, reduceIte, Int.reduceAdd, Int.reduceSub, Int.reduceMul, Int.reduceDiv, Int.reduceMod, Int.reduceLT, Int.reduceLE, Int.reduceEq, Int.reduceNeg, not_true_eq_false, not_false_eq_true, Decidable.not_not, iI_eq, p1, va_some]
  · rw [if_neg p1]
    simp (maxSteps := 1000000) (disch := first | omega | (simp only [updI_at, upA_at, Nat.reduceEqDiff, reduceIte]; omega) | exact mIsRef_rf _ | exact rfl) only [↓s65_0, ↓s65_1, ↓s65_2, ↓s65_5, ↓s65_6, ↓s65_9, ↓s65_12, ↓s65_13, ↓s65_14, ↓s65_17, wc_17, wg_17_1, mN1_int, mN1_ref, mN1_null, mN1_U, mN1_rf, mCats_nil, mCats_int, mCats_ref, mCats_null, mCats_long, mCats_rf, mIsRef_ref, mIsRef_null, mIsRef_va, mRf_ref, mRf_null, mRf_rf, true_and, and_true, true_or, or_true, eq_self_iff_true, mK_v, mK_0, Nat.reduceAdd, Nat.reduceLeDiff, Nat.zero_le, iL_0, iL_1, iL_m1, iI_add, iI_sub, iI_mul, iI_neg, updI_at, upA_at, upP_at, upR_at, Nat.reduceEqDiff, reduceIte, Int.reduceAdd, Int.reduceSub, Int.reduceMul, Int.reduceDiv, Int.reduceMod, Int.reduceLT, Int.reduceLE, Int.reduceEq, Int.reduceNeg, not_true_eq_false, not_false_eq_true, Decidable.not_not, iI_eq, p1, z64]
theorem d66 {z : Int} (hd : dNo G h0 b (P 3) J B fa W V X cap ng) (hn : (I 18) = J 31) (hf : 0 ≤ J 31 ∧ J 31 ≤ 40) (hz : -2147483648 ≤ z ∧ z < 2147483648) : mX G 66 0 [.ref (b + 17), .int (iI z)] [] (wH h0 b I A P R o) n k Q ↔ Q (.inl (some (.int (iI (bI (z = -1 ∨ 0 ≤ z ∧ z < J 31))))), wH h0 b I A P R o, n, k) := by
  have z64 := fun Q' => d64 (n := n) (k := k) (Q := Q') (I := I) (A := A) (R := R) (o := o) (z := z) hd hn hf hz
  by_cases p1 : z = -1
  · rw [bI_t (Or.inl p1)]
    simp (maxSteps := 1000000) (disch := first | omega | (simp only [updI_at, upA_at, Nat.reduceEqDiff, reduceIte]; omega) | exact mIsRef_rf _ | exact rfl) only [↓s66_0, ↓s66_1, ↓s66_2, ↓s66_5, ↓s66_6, ↓s66_7, ↓s66_10, ↓s66_13, ↓s66_14, ↓s66_17, ↓s66_18, wc_17, mN1_int, mN1_ref, mN1_null, mN1_U, mN1_rf, mCats_nil, mCats_int, mCats_ref, mCats_null, mCats_long, mCats_rf, mIsRef_ref, mIsRef_null, mIsRef_va, mRf_ref, mRf_null, mRf_rf, true_and, and_true, true_or, or_true, eq_self_iff_true, mK_v, mK_0, Nat.reduceAdd, Nat.reduceLeDiff, Nat.zero_le, iL_0, iL_1, iL_m1, iI_add, iI_sub, iI_mul, iI_neg, updI_at, upA_at, upP_at, upR_at, Nat.reduceEqDiff, reduceIte, Int.reduceAdd, Int.reduceSub, Int.reduceMul, Int.reduceDiv, Int.reduceMod, Int.reduceLT, Int.reduceLE, Int.reduceEq, Int.reduceNeg, not_true_eq_false, not_false_eq_true, Decidable.not_not, iI_eq, p1]
  · by_cases p2 : 0 ≤ z ∧ z < J 31
    · rw [bI_t (Or.inr p2)]
      have e : rnV J W z = some (W 0 z.toNat 0) := if_pos p2
      simp (maxSteps := 1000000) (disch := first | omega | (simp only [updI_at, upA_at, Nat.reduceEqDiff, reduceIte]; omega) | exact mIsRef_rf _ | exact rfl) only [↓s66_0, ↓s66_1, ↓s66_2, ↓s66_5, ↓s66_6, ↓s66_7, ↓s66_10, ↓s66_13, ↓s66_14, ↓s66_17, ↓s66_18, wc_17, mN1_int, mN1_ref, mN1_null, mN1_U, mN1_rf, mCats_nil, mCats_int, mCats_ref, mCats_null, mCats_long, mCats_rf, mIsRef_ref, mIsRef_null, mIsRef_va, mRf_ref, mRf_null, mRf_rf, true_and, and_true, true_or, or_true, eq_self_iff_true, mK_v, mK_0, Nat.reduceAdd, Nat.reduceLeDiff, Nat.zero_le, iL_0, iL_1, iL_m1, iI_add, iI_sub, iI_mul, iI_neg, updI_at, upA_at, upP_at, upR_at, Nat.reduceEqDiff, reduceIte, Int.reduceAdd, Int.reduceSub, Int.reduceMul, Int.reduceDiv, Int.reduceMod, Int.reduceLT, Int.reduceLE, Int.reduceEq, Int.reduceNeg, not_true_eq_false, not_false_eq_true, Decidable.not_not, iI_eq, p1, z64, e, reduceCtorEq]
    · rw [bI_f (fun t => t.elim p1 p2)]
      have e : rnV J W z = none := if_neg p2
      simp (maxSteps := 1000000) (disch := first | omega | (simp only [updI_at, upA_at, Nat.reduceEqDiff, reduceIte]; omega) | exact mIsRef_rf _ | exact rfl) only [↓s66_0, ↓s66_1, ↓s66_2, ↓s66_5, ↓s66_6, ↓s66_7, ↓s66_10, ↓s66_13, ↓s66_14, ↓s66_17, ↓s66_18, wc_17, mN1_int, mN1_ref, mN1_null, mN1_U, mN1_rf, mCats_nil, mCats_int, mCats_ref, mCats_null, mCats_long, mCats_rf, mIsRef_ref, mIsRef_null, mIsRef_va, mRf_ref, mRf_null, mRf_rf, true_and, and_true, true_or, or_true, eq_self_iff_true, mK_v, mK_0, Nat.reduceAdd, Nat.reduceLeDiff, Nat.zero_le, iL_0, iL_1, iL_m1, iI_add, iI_sub, iI_mul, iI_neg, updI_at, upA_at, upP_at, upR_at, Nat.reduceEqDiff, reduceIte, Int.reduceAdd, Int.reduceSub, Int.reduceMul, Int.reduceDiv, Int.reduceMod, Int.reduceLT, Int.reduceLE, Int.reduceEq, Int.reduceNeg, not_true_eq_false, not_false_eq_true, Decidable.not_not, iI_eq, p1, z64, e]
end
theorem itm_eq {B : Nat → Nat → Int} {gi tl : Nat → Int} {tg : Nat → Nat → Int} {s : Nat} : ∀ (d c : Nat), (∀ j, c ≤ j → j < c + d → gi j = B 33 (s + j) ∧ tl j = B 35 (s + j) ∧ (∀ u : Nat, (u : Int) < B 35 (s + j) → tg j u = B 36 (20 * (s + j) + u))) → itmC gi tl tg d c = itmL B d (s + c)
  | 0, _, _ => rfl
  | d + 1, c, h => by
    obtain ⟨h1, h2, h3⟩ := h c (Nat.le_refl c) (by omega)
    rw [itmC, itmL, itm_eq d (c + 1) (fun j q1 q2 => h j (by omega) (by omega)), h1, h2, show s + (c + 1) = s + c + 1 by omega]
    rw [txtL_eq (g := tg c) (f := B 36) (B 35 (s + c)).toNat 0 (20 * (s + c)) (fun j hj => by rw [Nat.zero_add]; exact h3 j (by omega))]
/-- the current Node: 40 is the MENU -/
theorem bod_eq {J : Nat → Int} {B : Nat → Nat → Int} {fa : Nat → Nat} {W : Nat → Nat → Nat → Nat} {V : Nat → Nat → Nat → Nat → Int} {X : Nat → Nat → Option Nat} {ev : Nat → Int} (hN : iNo J B) (hS : iSe J B) (hs : ¬ J 41 = 0) (h1 : dN1 G h0 b J B fa W V X (J 42).toNat) (hev : evL ev 32 0 = evL (B 38) 32 0) :
    hdL (J 43) (tyC (nF B (J 42).toNat 1)) (nF B (J 42).toNat 2) (if nF B (J 42).toNat 1 = 0 then 2 else if nF B (J 42).toNat 1 = 3 then 131 else 130) ++ ndC (nF B (J 42).toNat) (fun j => V 1 (J 42).toNat j 0) (fun j => V 3 (J 42).toNat j 0) (tln J B (J 42).toNat) (fun j => V 4 (J 42).toNat j 0) (fun j u => V 5 (J 42).toNat j u) ev = bodL J B := by
  obtain ⟨n1, n2, n3, n4, n5, n6, n7⟩ := hN
  have e4 := hS.2.2.2.1
  have e5 := hS.2.2.2.2.1 hs
  obtain ⟨hh, hw, hi, ht⟩ := h1
  have f7 : nF B (J 42).toNat 7 = B 32 (J 42).toNat := rfl
  have it := itm_eq (B := B) (gi := fun j => V 1 (J 42).toNat j 0) (tl := fun j => V 4 (J 42).toNat j 0) (tg := fun j u => V 5 (J 42).toNat j u) (s := 5 * (J 42).toNat) (B 32 (J 42).toNat).toNat 0 (fun j q1 q2 => by
    obtain ⟨a1, a2, a3, a4⟩ := hi j (by omega)
    exact ⟨a1, a3, a4⟩)
  rw [Nat.add_zero] at it
  unfold bodL
  by_cases p : J 42 = 40
  · rw [if_pos p]
    rw [p] at it ht f7 ⊢
    rw [show (40 : Int).toNat = 40 from rfl] at it ht f7 ⊢
    have f1 : nF B 40 1 = 8 := rfl
    have f2 : nF B 40 2 = 0 := rfl
    have tt : tln J B 40 = J 32 := rfl
    rw [f1, f2, tt]
    unfold ndC
    rw [f1, f7, it]
    unfold menL ttC tyC
    rw [tt] at ht
    rw [txtL_eq (g := fun j => V 3 40 j 0) (f := B 37) (J 32).toNat 0 0 (fun j hj => by rw [Nat.zero_add]; exact ht j (by omega))]
    simp only [Int.reduceEq, if_true, if_false, false_and, List.append_assoc]
  · rw [if_neg p]
    have nx : ¬ (J 42).toNat = 40 := by omega
    have f1 : nF B (J 42).toNat 1 = B 24 (J 42).toNat := if_neg nx
    have f2 : nF B (J 42).toNat 2 = B 25 (J 42).toNat := if_neg nx
    have f10 : nF B (J 42).toNat 10 = B 26 (J 42).toNat := if_neg nx
    have f11 : nF B (J 42).toNat 11 = B 27 (J 42).toNat := if_neg nx
    have tt : tln J B (J 42).toNat = B 30 (J 42).toNat := if_neg nx
    obtain ⟨j1, j2, j3, j4, j5, j6, j7⟩ := n2 (J 42).toNat (by omega)
    have tx : txtL (fun j => V 3 (J 42).toNat j 0) (B 30 (J 42).toNat).toNat 0 = txtL (B 31) (B 30 (J 42).toNat).toNat (100 * J 42).toNat := by
      refine txtL_eq _ _ _ (fun j hj => ?_)
      rw [Nat.zero_add]
      have := ht j (by rw [tt]; omega)
      rw [if_neg nx] at this
      rw [this]
      congr 1
      omega
    have ty : tyC (B 24 (J 42).toNat) = typF (B 24 (J 42).toNat) := if_neg (by omega)
    rw [f1, f2, tt, ty]
    congr 1
    unfold ndC nodL
    rw [f1, f2, f7, f10, f11, it, show (5 * J 42).toNat = 5 * (J 42).toNat by omega]
    unfold shC ttC msC titL msgL timL tmC evtL evC
    rw [tx, hev]
    by_cases s0 : B 24 (J 42).toNat = 0
    · rw [if_pos s0, if_pos s0]
    · rw [if_neg s0, if_neg s0]
      by_cases s1 : B 24 (J 42).toNat = 1
      · rw [if_pos s1, if_pos s1]
        simp only [List.append_assoc]
      · rw [if_neg s1, if_neg s1]
        by_cases s2 : B 24 (J 42).toNat = 2
        · rw [if_pos s2, if_pos s2]
          by_cases q : 0 < B 30 (J 42).toNat
          · rw [if_neg (by omega), if_pos q]
          · rw [if_pos ⟨rfl, by omega⟩, if_neg q]
        · rw [if_neg s2, if_neg s2]
          by_cases s3 : B 24 (J 42).toNat = 3
          · rw [if_pos s3, if_pos s3]
            by_cases q : 0 < B 30 (J 42).toNat
            · rw [if_neg (by omega), if_pos q]
            · rw [if_pos ⟨rfl, by omega⟩, if_neg q]
          · rw [if_neg s3, if_neg s3]
            by_cases s4 : B 24 (J 42).toNat = 4
            · rw [if_pos s4, if_pos s4]
            · rw [if_neg s4, if_neg s4]
              by_cases s7 : B 24 (J 42).toNat = 7
              · rw [if_pos s7, if_pos s7]
              · rw [if_neg s7, if_neg s7, if_neg (by omega)]
end MPROG
