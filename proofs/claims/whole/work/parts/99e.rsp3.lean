/-! Class: askResponse, terminalResponse. -/
section MRSP3
variable {G : mG} {h h0 : mH} {n k b : Nat} {Q : mR → Prop} {I : Nat → Int} {A : Nat → Nat → Int} {P : Nat → Nat} {R : Nat → Option Nat} {o : Nat → Int64}
theorem clF_oth {N : Int} {g : Nat → Int} {j : Nat} (h1 : j ≠ 9) (h2 : j ≠ 10) (h3 : j ≠ 11) : ∀ (d : Nat) (a : Int) (A : Nat → Nat → Int), (clF N g d a A).2 j = A j
  | 0, _, _ => rfl
  | d + 1, a, A => by
    rw [clF]
    split
    · rfl
    · split
      · rfl
      · rw [clF_oth h1 h2 h3 d, tOne_oth _ _ _ _ _ h1 h2 h3]
theorem clF_iTl {N : Int} {g : Nat → Int} (hg : ∀ j, 0 ≤ g j ∧ g j ≤ 255) (hN : N ≤ 255) : ∀ (d : Nat) (a : Int) (A : Nat → Nat → Int), -1 ≤ a → iTl A → iTl (clF N g d a A).2
  | 0, _, _, _, h => h
  | d + 1, a, A, h0, h => by
    rw [clF]
    split
    · exact h
    · rename_i p
      split
      · exact h
      · rename_i q
        have tr := tRng (N := N) (a := a) hg
        have q' := q
        unfold tBad at q'
        exact clF_iTl hg hN d _ _ (by omega) (iTl_one hg hN h (by omega) q)
theorem t0A_oth {j : Nat} (h1 : j ≠ 9) (h2 : j ≠ 10) (h3 : j ≠ 11) : t0A A 128 j = A j := by
  unfold t0A
  rw [upA_at, if_neg h3, upA_at, if_neg h2, upA_at, if_neg h1]
section
variable {J : Nat → Int} {B : Nat → Nat → Int} {fa : Nat → Nat} {fb : Nat → Nat → Int} {fcap : Nat} {fg : Nat → Option Nat} {W : Nat → Nat → Nat → Nat} {V : Nat → Nat → Nat → Nat → Int} {X : Nat → Nat → Option Nat} {cap : Nat} {ng : Nat → Option Nat}
/-- the class's arrays after a list of TLVs was read from place a on -/
def rdA (I : Nat → Int) (A : Nat → Nat → Int) (a : Int) : Nat → Nat → Int := (clF (I 7) (A 1) 255 a (t0A A 128)).2
theorem rdA_oth {a : Int} {j : Nat} (h1 : j ≠ 9) (h2 : j ≠ 10) (h3 : j ≠ 11) : rdA I A a j = A j := by
  unfold rdA
  rw [clF_oth h1 h2 h3, t0A_oth h1 h2 h3]
/-- what holds between class and reference while a command of CLA 80 is carried out -/
def rq0 (I : Nat → Int) (A : Nat → Nat → Int) (J : Nat → Int) (B : Nat → Nat → Int) : Prop := ((I 7) = J 49 ∧ (0 ≤ J 49 ∧ J 49 ≤ 255)) ∧ (∀ j : Nat, (j : Int) < J 49 → (A 1) j = B 14 (5 + j)) ∧ (∀ j, 0 ≤ (A 1) j ∧ (A 1) j ≤ 255)
theorem rd_ok {K : Int → Prop} [DecidablePred K] {a : Int} (hq : rq0 I A J B) (hT : iTl A) (hM : iM J B) (hC : iCm J) (ha : 0 ≤ a ∧ a ≤ J 49) :
    ((clF (I 7) (A 1) 255 a (t0A A 128)).1 = -1 ∧ (tlF K a J B).1 = 0) ∨ ((¬ (clF (I 7) (A 1) 255 a (t0A A 128)).1 = -1 ∧ (tlF K a J B).1 = 1) ∧ tR K ((tlF K a J B).2.1 49) (rdA I A a) (tlF K a J B).2.1 (tlF K a J B).2.2 ∧ rqR I (rdA I A a) (upR R 3 (some (b + 4))) b (tlF K a J B).2.1 (tlF K a J B).2.2) := by
  obtain ⟨⟨q1, q2⟩, q3, q4⟩ := hq
  obtain ⟨a1, a2, a3, a4, a5, a6, a7⟩ := tlF_ok (K := K) (a := a) hM hC ha.1
  have sd : (tlF K a J B).2.1 49 = J 49 := a6 _ (by decide) (by decide)
  have st : (tlF K a J B).2.2 14 = B 14 := a7 _ (by decide) (by decide)
  have er : rdA I A a 1 = (A 1) := rdA_oth (by decide) (by decide) (by decide)
  rcases tR_both (K := K) (I := I) (A := A) hT hM.2.2.2.2.2.2 q1 q2 q3 ha.1 ha.2 with h | ⟨h1, h2⟩
  · exact Or.inl h
  · refine Or.inr ⟨h1, ?_, ⟨?_, ?_, ?_, ?_⟩⟩
    · rw [sd]; exact h2
    · rw [sd]; exact ⟨q1, q2⟩
    · intro j hj
      rw [sd] at hj
      rw [er, st]; exact q3 j hj
    · rw [er]; exact q4
    · rw [upR_at, if_pos rfl]
theorem d133 (hb : G.2.2.2 ≤ b) (hq : rq0 I A J B) (hL : iTl A) (hM : iM J B) (hC : iCm J) (hs : ¬ J 41 = 0) (hm : (I 21) = J 43) (hS : sTy G h0 b) (hg : sTg G h0 b 1 K1) (hd : dNo G h0 b (P 3) J B fa W V X cap ng) : mX G 133 0 [.ref (b + 34), .ref (W 0 (J 42).toNat 0), .ref (b + 4)] [] (wH h0 b I A P R o) n k Q ↔
    Q (.inl (some (.int (iI (if (tlF K1 0 J B).1 = 0 then 27264 else arT (tlF K1 0 J B).2.1 (tlF K1 0 J B).2.2)))), wH h0 b I (rdA I A 0) P (upR R 3 (some (b + 4))) o, n, k) := by
  have hq' := hq
  obtain ⟨⟨q1, q2⟩, q3, q4⟩ := hq
  obtain ⟨a1, a2, a3, a4, a5, a6, a7⟩ := tlF_ok (K := K1) (a := 0) hM hC (by omega)
  have z119 := fun Q' => d119 (n := n) (k := k) (Q := Q') (h0 := h0) (I := I) (A := A) (P := P) (R := R) (o := o) (f := 0) hb (by omega) q4 hL (by omega)
  have e4 := hM.2.2.2.2.1.2.2.2.1
  have e5 := hM.2.2.2.2.1.2.2.2.2.1 hs
  rcases rd_ok (K := K1) (R := R) (b := b) hq' hL hM hC (show (0 : Int) ≤ 0 ∧ 0 ≤ J 49 by omega) with h | ⟨h1, h2, h3⟩
  · rw [if_pos h.2]
    simp only [bI_f (show ¬ ¬ (clF (I 7) (A 1) 255 0 (t0A A 128)).1 = -1 from fun t => t h.1)] at z119
    have ea : (clF (I 7) (A 1) 255 0 (t0A A 128)).2 = rdA I A 0 := rfl
    rw [ea] at z119
    generalize rdA I A 0 = A1 at *
    simp (maxSteps := 1000000) (disch := first | omega | (simp only [updI_at, upA_at, Nat.reduceEqDiff, reduceIte]; omega) | exact mIsRef_rf _ | exact rfl) only [↓s133_0, ↓s133_1, ↓s133_4, ↓s133_5, ↓s133_6r, ↓s133_9, ↓s133_12, ↓s133_15, ↓s133_16, ↓s133_17, ↓s133_20, ↓s133_23r, ↓s133_26, ↓s133_29, ↓s133_32, ↓s133_33, ↓s133_34, ↓s133_37, ↓s133_38, ↓s133_41, ↓s133_44, ↓s133_45, ↓s133_48, ↓s133_49, ↓s133_52, ↓s133_55, ↓s133_58, ↓s133_59, ↓s133_60, ↓s133_61r, ↓s133_64, ↓s133_67, ↓s133_68, ↓s133_71, ↓s133_72, ↓s133_75, ↓s133_78, ↓s133_80, ↓s133_83, ↓s133_86, iL_27264, iL_27265, iL_27272, iL_3, iL_36864, wc_34, wc_35, wg_34_4, mN1_int, mN1_ref, mN1_null, mN1_U, mN1_rf, mCats_nil, mCats_int, mCats_ref, mCats_null, mCats_long, mCats_rf, mIsRef_ref, mIsRef_null, mIsRef_va, mRf_ref, mRf_null, mRf_rf, true_and, and_true, true_or, or_true, eq_self_iff_true, mK_v, mK_0, Nat.reduceAdd, Nat.reduceLeDiff, Nat.zero_le, iL_0, iL_1, iL_m1, iI_add, iI_sub, iI_mul, iI_neg, updI_at, upA_at, upP_at, upR_at, Nat.reduceEqDiff, reduceIte, Int.reduceAdd, Int.reduceSub, Int.reduceMul, Int.reduceDiv, Int.reduceMod, Int.reduceLT, Int.reduceLE, Int.reduceEq, Int.reduceNeg, not_true_eq_false, not_false_eq_true, Decidable.not_not, z119, iI_eq]
  · rw [if_neg (by omega)]
    simp only [bI_t h1.1] at z119
    have ea : (clF (I 7) (A 1) 255 0 (t0A A 128)).2 = rdA I A 0 := rfl
    rw [ea] at z119
    have sn : (tlF K1 0 J B).2.1 42 = J 42 := a6 _ (by decide) (by decide)
    have ss : (tlF K1 0 J B).2.1 41 = J 41 := a6 _ (by decide) (by decide)
    have sm : (tlF K1 0 J B).2.1 43 = J 43 := a6 _ (by decide) (by decide)
    have hd2 := dNo_tl a6 a7 hd
    have sN : (tlF K1 0 J B).2.1 31 = J 31 := a6 _ (by decide) (by decide)
    have hn2 := hd2.2.2.2.2 (J 42).toNat (by rw [sN]; omega)
    have hL2 : iTl (rdA I A 0) := clF_iTl q4 (by omega) 255 0 _ (by omega) (iTl_0 hL)
    rw [← sn] at hn2
    have zt := d133_t (n := n) (k := k) (Q := Q) (I := I) (A := rdA I A 0) (P := P) (o := o) h3 hL2 h2 a2 (by rw [ss]; exact hs) (by rw [sm]; exact hm) hS hg hn2
    rw [sn] at zt
    rw [← zt]
    generalize rdA I A 0 = A1 at *
    simp (maxSteps := 1000000) (disch := first | omega | (simp only [updI_at, upA_at, Nat.reduceEqDiff, reduceIte]; omega) | exact mIsRef_rf _ | exact rfl) only [↓s133_0, ↓s133_1, ↓s133_4, ↓s133_5, ↓s133_6r, ↓s133_9, ↓s133_12, ↓s133_15, ↓s133_17, ↓s133_20, ↓s133_23r, ↓s133_26, ↓s133_29, ↓s133_32, ↓s133_33, ↓s133_34, ↓s133_37, ↓s133_38, ↓s133_41, ↓s133_44, ↓s133_45, ↓s133_48, ↓s133_49, ↓s133_52, ↓s133_55, ↓s133_58, ↓s133_59, ↓s133_60, ↓s133_61r, ↓s133_64, ↓s133_67, ↓s133_68, ↓s133_71, ↓s133_72, ↓s133_75, ↓s133_78, ↓s133_80, ↓s133_83, ↓s133_86, iL_27264, iL_27265, iL_27272, iL_3, iL_36864, wc_34, wc_35, wg_34_4, mN1_int, mN1_ref, mN1_null, mN1_U, mN1_rf, mCats_nil, mCats_int, mCats_ref, mCats_null, mCats_long, mCats_rf, mIsRef_ref, mIsRef_null, mIsRef_va, mRf_ref, mRf_null, mRf_rf, true_and, and_true, true_or, or_true, eq_self_iff_true, mK_v, mK_0, Nat.reduceAdd, Nat.reduceLeDiff, Nat.zero_le, iL_0, iL_1, iL_m1, iI_add, iI_sub, iI_mul, iI_neg, updI_at, upA_at, upP_at, upR_at, Nat.reduceEqDiff, reduceIte, Int.reduceAdd, Int.reduceSub, Int.reduceMul, Int.reduceDiv, Int.reduceMod, Int.reduceLT, Int.reduceLE, Int.reduceEq, Int.reduceNeg, not_true_eq_false, not_false_eq_true, Decidable.not_not, z119, iI_eq]
end
end MRSP3
