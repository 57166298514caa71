/-! Class: terminalProfile. -/
section MPRFL
variable {G : mG} {h h0 : mH} {n k b : Nat} {Q : mR → Prop} {I : Nat → Int} {A : Nat → Nat → Int} {P : Nat → Nat} {R : Nat → Option Nat} {o : Nat → Int64}
theorem rcp_at {g : Nat → Int} {f : Int → Int} : ∀ (d j : Nat), rcp g 0 f d j = if j < d then f j % 256 else g j
  | 0, j => by rw [rcp, if_neg (Nat.not_lt_zero j)]
  | d + 1, j => by
    rw [rcp]
    unfold upE
    rw [show ((0 : Int) + (d : Int)).toNat = d by omega, rcp_at d j]
    by_cases p : j = d
    · rw [if_pos p, if_pos (by omega), p]
    · rw [if_neg p]
      by_cases q : j < d
      · rw [if_pos q, if_pos (by omega)]
      · rw [if_neg q, if_neg (by omega)]
def opI (I : Nat → Int) : Nat → Int := updI (updI (updI (updI (updI (updI I 20 0) 19 0) 23 0) 21 0) 19 1) 23 (I 7)
def opA (I : Nat → Int) (A : Nat → Nat → Int) : Nat → Nat → Int := upA (upA A 8 (cpE (A 8) zer 0 9)) 6 (rcp (A 6) 0 (fun j => rget (I 7) (A 1) j) ((I 7)).toNat)
theorem d105' (hb : G.2.2.2 ≤ b) (hg : ∀ j, 0 ≤ (A 1) j ∧ (A 1) j ≤ 255) (hl : 0 ≤ (I 7) ∧ (I 7) ≤ 255) : mX G 105 0 [.ref (b + 28), .ref (b + 4)] [] (wH h0 b I A P R o) n k Q ↔ Q (.inl none, wH h0 b (opI I) (opA I A) P (upR R 2 none) o, n, k) := d105 hb hg hl
section
variable {J : Nat → Int} {B : Nat → Nat → Int} {fa : Nat → Nat} {W : Nat → Nat → Nat → Nat} {V : Nat → Nat → Nat → Nat → Int} {X : Nat → Nat → Option Nat} {cap : Nat} {ng : Nat → Option Nat}
theorem pfR_op (hg : ∀ j, 0 ≤ (A 1) j ∧ (A 1) j ≤ 255) (hp : ∀ j, 0 ≤ (A 6) j ∧ (A 6) j ≤ 255) (hl : (I 7) = J 49) (hd : 0 ≤ J 49 ∧ J 49 ≤ 255) (hr : ∀ j : Nat, (j : Int) < J 49 → (A 1) j = B 14 (5 + j)) : pfR (opI I) (opA I A) (pfI J) (pfA J B) := by
  have e1 : opA I A 6 = rcp (A 6) 0 (fun j => rget (I 7) (A 1) j) ((I 7)).toNat := rfl
  have e2 : pfA J B 43 = cpE (B 43) (tpG B) 0 (J 49) := rfl
  have e3 : pfI J 40 = J 49 := rfl
  have e4 : opI I 23 = (I 7) := rfl
  refine ⟨by rw [e3, e4, hl], ?_, ?_⟩
  · intro j hj
    rw [e3] at hj
    have g := hg j
    rw [e1, e2, rcp_at, if_pos (by omega)]
    unfold rget cpE
    rw [if_pos ⟨by omega, by omega⟩, if_pos ⟨by omega, by omega⟩, show ((j : Int) - 0).toNat = j by omega, show ((j : Int)).toNat = j by omega]
    show (A 1) j % 256 = B 14 (5 + j)
    rw [← hr j hj]
    omega
  · intro j
    rw [e1, rcp_at]
    split
    · omega
    · exact hp j
def pfC (I : Nat → Int) (A : Nat → Nat → Int) (J : Nat → Int) (B : Nat → Nat → Int) : Z3 := if J 49 = 0 then (26368, I, A) else if B 32 40 ≤ 0 then (36864, opI I, opA I A) else (36864, stC (opI I) (stN (pfI J) (pfA J B) 17 40), opA I A)
def pfQ (R : Nat → Option Nat) (J : Nat → Int) (B : Nat → Nat → Int) (W : Nat → Nat → Nat → Nat) : Nat → Option Nat := if J 49 = 0 then R else if B 32 40 ≤ 0 then upR R 2 none else stR (upR R 2 none) W (stN (pfI J) (pfA J B) 17 40)
theorem d129 (hb : G.2.2.2 ≤ b) (hd : dNo G h0 b (P 3) J B fa W V X cap ng) (hn : (I 18) = J 31) (hM : iM J B) (hC : iCm J) (hT : sTy G h0 b) (hg : ∀ j, 0 ≤ (A 1) j ∧ (A 1) j ≤ 255) (hp : ∀ j, 0 ≤ (A 6) j ∧ (A 6) j ≤ 255) (hl : (I 7) = J 49) (hr : ∀ j : Nat, (j : Int) < J 49 → (A 1) j = B 14 (5 + j)) : mX G 129 0 [.ref (b + 34), .ref (b + 3)] [] (wH h0 b I A P R o) n k Q ↔ Q (.inl (some (.int (iI (pfC I A J B).1))), wH h0 b (pfC I A J B).2.1 (pfC I A J B).2.2 P (pfQ R J B W) o, n, k) := by
  have c3 := hC.2.2.1
  have zw := fun Q' => d75 (G := G) (h0 := h0) (b := b) (n := n) (k := k) (Q := Q') (I := I) (A := A) (P := P) (R := R) (o := o) (by omega)
  have zo := fun Q' => d105' (n := n) (k := k) (Q := Q') (h0 := h0) (I := I) (A := A) (P := P) (R := R) (o := o) hb hg (by omega)
  have m1 := hd.2.2.1
  have hn4 := (hd.2.2.2.2 40 (Or.inr rfl)).1.1
  rw [m1] at hn4
  have z46 := fun Q' => d46 (n := n) (k := k) (Q := Q') (I := opI I) (A := opA I A) (P := P) (R := upR R 2 none) (o := o) hn4
  have e7 : nF B 40 7 = B 32 40 := rfl
  rw [e7] at z46
  have i4 := hM.2.2.2.1.2.2.1 40 (by omega)
  unfold pfC pfQ
  by_cases p1 : J 49 = 0
  · rw [if_pos p1, if_pos p1]
    simp only [bI_f (show ¬ 0 < (I 7) by omega)] at zw
    simp (maxSteps := 1000000) (disch := first | omega | (simp only [updI_at, upA_at, Nat.reduceEqDiff, reduceIte]; omega) | exact mIsRef_rf _ | exact rfl) only [↓s129_0, ↓s129_1, ↓s129_4, ↓s129_7, ↓s129_10, ↓s129_11, ↓s129_12, ↓s129_15, ↓s129_16, ↓s129_19r, ↓s129_22, ↓s129_23, ↓s129_26, ↓s129_29, ↓s129_32, ↓s129_35, ↓s129_36, ↓s129_39, ↓s129_40, ↓s129_43, ↓s129_46r, ↓s129_49, ↓s129_51, iL_26368, iL_36864, wc_28, wc_3, wg_17_1, wg_34_1, wg_34_2, wg_3_0, mN1_int, mN1_ref, mN1_null, mN1_U, mN1_rf, mCats_nil, mCats_int, mCats_ref, mCats_null, mCats_long, mCats_rf, mIsRef_ref, mIsRef_null, mIsRef_va, mRf_ref, mRf_null, mRf_rf, true_and, and_true, true_or, or_true, eq_self_iff_true, mK_v, mK_0, Nat.reduceAdd, Nat.reduceLeDiff, Nat.zero_le, iL_0, iL_1, iL_m1, iI_add, iI_sub, iI_mul, iI_neg, updI_at, upA_at, upP_at, upR_at, Nat.reduceEqDiff, reduceIte, Int.reduceAdd, Int.reduceSub, Int.reduceMul, Int.reduceDiv, Int.reduceMod, Int.reduceLT, Int.reduceLE, Int.reduceEq, Int.reduceNeg, not_true_eq_false, not_false_eq_true, Decidable.not_not, zw, iI_eq]
  · rw [if_neg p1, if_neg p1]
    simp only [bI_t (show 0 < (I 7) by omega)] at zw
    by_cases p2 : B 32 40 ≤ 0
    · rw [if_pos p2, if_pos p2]
      simp (maxSteps := 1000000) (disch := first | omega | (simp only [updI_at, upA_at, Nat.reduceEqDiff, reduceIte]; omega) | exact mIsRef_rf _ | exact rfl) only [↓s129_0, ↓s129_1, ↓s129_4, ↓s129_7, ↓s129_10, ↓s129_11, ↓s129_12, ↓s129_15, ↓s129_16, ↓s129_19r, ↓s129_22, ↓s129_23, ↓s129_26, ↓s129_29, ↓s129_32, ↓s129_35, ↓s129_36, ↓s129_39, ↓s129_40, ↓s129_43, ↓s129_46r, ↓s129_49, ↓s129_51, iL_26368, iL_36864, wc_28, wc_3, wg_17_1, wg_34_1, wg_34_2, wg_3_0, mN1_int, mN1_ref, mN1_null, mN1_U, mN1_rf, mCats_nil, mCats_int, mCats_ref, mCats_null, mCats_long, mCats_rf, mIsRef_ref, mIsRef_null, mIsRef_va, mRf_ref, mRf_null, mRf_rf, true_and, and_true, true_or, or_true, eq_self_iff_true, mK_v, mK_0, Nat.reduceAdd, Nat.reduceLeDiff, Nat.zero_le, iL_0, iL_1, iL_m1, iI_add, iI_sub, iI_mul, iI_neg, updI_at, upA_at, upP_at, upR_at, Nat.reduceEqDiff, reduceIte, Int.reduceAdd, Int.reduceSub, Int.reduceMul, Int.reduceDiv, Int.reduceMod, Int.reduceLT, Int.reduceLE, Int.reduceEq, Int.reduceNeg, not_true_eq_false, not_false_eq_true, Decidable.not_not, zw, iI_eq, iI_le, zo, ng_c hn4, z46, p2]
    · rw [if_neg p2, if_neg p2]
      have z107 := fun Q' => d107 (n := n) (k := k) (Q := Q') (J := pfI J) (B := pfA J B) (I := opI I) (A := opA I A) (R := upR R 2 none) (o := o) (x := 40) hb hd hn (iM_pf hM hC) hT (pfR_op hg hp hl c3 hr) (show (0 : Int) ≤ 0 ∧ (0 : Int) ≤ 254 by omega) (Or.inr (Or.inl rfl))
      have ec : cnV (pfI J) W 40 = some (b + 19) := by unfold cnV; rw [if_pos rfl, m1]
      rw [ec, va_some] at z107
      generalize stN (pfI J) (pfA J B) 17 40 = zz at *
      generalize opA I A = A1 at *
      simp (maxSteps := 1000000) (disch := first | omega | (simp only [updI_at, upA_at, Nat.reduceEqDiff, reduceIte]; omega) | exact mIsRef_rf _ | exact rfl) only [↓s129_0, ↓s129_1, ↓s129_4, ↓s129_7, ↓s129_10, ↓s129_11, ↓s129_12, ↓s129_15, ↓s129_16, ↓s129_19r, ↓s129_22, ↓s129_23, ↓s129_26, ↓s129_29, ↓s129_32, ↓s129_35, ↓s129_36, ↓s129_39, ↓s129_40, ↓s129_43, ↓s129_46r, ↓s129_49, ↓s129_51, iL_26368, iL_36864, wc_28, wc_3, wg_17_1, wg_34_1, wg_34_2, wg_3_0, mN1_int, mN1_ref, mN1_null, mN1_U, mN1_rf, mCats_nil, mCats_int, mCats_ref, mCats_null, mCats_long, mCats_rf, mIsRef_ref, mIsRef_null, mIsRef_va, mRf_ref, mRf_null, mRf_rf, true_and, and_true, true_or, or_true, eq_self_iff_true, mK_v, mK_0, Nat.reduceAdd, Nat.reduceLeDiff, Nat.zero_le, iL_0, iL_1, iL_m1, iI_add, iI_sub, iI_mul, iI_neg, updI_at, upA_at, upP_at, upR_at, Nat.reduceEqDiff, reduceIte, Int.reduceAdd, Int.reduceSub, Int.reduceMul, Int.reduceDiv, Int.reduceMod, Int.reduceLT, Int.reduceLE, Int.reduceEq, Int.reduceNeg, not_true_eq_false, not_false_eq_true, Decidable.not_not, zw, iI_eq, iI_le, zo, ng_c hn4, z46, p2, z107]
end
end MPRFL
