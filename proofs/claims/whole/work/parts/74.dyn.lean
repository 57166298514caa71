/-! The objects made later: they lie in the world's holes or behind it. Class: CardFile. -/
section MDYN
variable {G : mG} {h h0 : mH} {n k b : Nat} {Q : mR → Prop} {I : Nat → Int} {A : Nat → Nat → Int} {P : Nat → Nat} {R : Nat → Option Nat} {o : Nat → Int64}
def hol (b a : Nat) : Prop := a < b ∨ b + 79 ≤ a ∨ a = b + 8 ∨ a = b + 9 ∨ a = b + 10 ∨ a = b + 19 ∨ a = b + 20 ∨ a = b + 21 ∨ a = b + 22 ∨ a = b + 23 ∨ a = b + 24 ∨ a = b + 25
theorem hol_none {a : Nat} (h : hol b a) : a < b ∨ ((wL b I A P R o)[a - b]?).join = none := by
  rcases h with h | h | h | h | h | h | h | h | h | h | h | h
  · exact Or.inl h
  · right
    rw [List.getElem?_eq_none (show (wL b I A P R o).length ≤ a - b by show 79 ≤ a - b; omega)]
    rfl
  all_goals
    right
    subst h
    rw [Nat.add_sub_cancel_left]
    rfl
theorem wH_hole {a : Nat} (h : hol b a) : wH h0 b I A P R o a = h0 a := fx_hole (hol_none h)
theorem wH_put {a : Nat} {e : mE} (h : hol b a) : mUp (wH h0 b I A P R o) a e = wH (mUp h0 a e) b I A P R o := fx_put (hol_none h)
theorem hGet {a ci j : Nat} {fs : List Value} {v : Value} {K : Value → Prop} (hh : h a = some (mO ci fs)) (hv : fs[j]? = some v) : mGet h a ci j K ↔ K v := by
  unfold mGet; rw [hh]; dsimp only [mO]; rw [hv]; exact ⟨fun q => q.2, fun q => ⟨rfl, q⟩⟩
theorem hPut {a ci j : Nat} {fs : List Value} {v : Value} {K : mH → Prop} (hh : h a = some (mO ci fs)) (hj : j < fs.length) (hb : G.2.2.2 ≤ a) (hf : mFits ci j v = true) : mPut G h a ci j v K ↔ K (mUp h a (mO ci (fs.set j v))) := by
  unfold mPut; rw [hh]; dsimp only [mO]
  exact ⟨fun q => q.2, fun q => ⟨⟨rfl, hj, hb, hf⟩, q⟩⟩
theorem hRecv {a ci : Nat} {fs : List Value} (hh : h a = some (mO ci fs)) : mRecv h a ci ↔ True := by
  unfold mRecv; rw [hh]; exact ⟨fun _ => trivial, fun _ => rfl⟩
theorem hLen {a N : Nat} {f : Nat → Int32} {K : Nat → Prop} (hh : h a = some (mI N f)) : mLen h a K ↔ K N := by
  unfold mLen; rw [hh]
theorem hLd {a N : Nat} {g : Nat → Int} {z : Int} {K : Int32 → Prop} (hh : h a = some (mI N (fun j => iI (g j)))) (hN : N < 2147483648) (h1 : 0 ≤ z) (h2 : z < N) : mLdI h a (iI z) K ↔ K (iI (g z.toNat)) := by
  unfold mLdI; rw [hh]; dsimp only [mI]
  have q := iI_ix h1 h2 hN
  rw [iI_nat (by omega) (by omega)] at q ⊢
  exact ⟨fun q => q.2, fun w => ⟨⟨Or.inl rfl, q.1, q.2⟩, w⟩⟩
theorem hSt {a N : Nat} {g : Nat → Int} {z x : Int} {K : mH → Prop} (hh : h a = some (mI N (fun j => iI (g j)))) (hN : N < 2147483648) (hb : G.2.2.2 ≤ a) (h1 : 0 ≤ z) (h2 : z < N) : mStI G h a (iI z) (iI x) K ↔ K (mUp h a (mI N (fun j => iI (upE g z.toNat x j)))) := by
  unfold mStI; rw [hh]; dsimp only [mI]
  have q := iI_ix h1 h2 hN
  rw [iI_nat (by omega) (by omega)] at q ⊢
  rw [updI_iI]
  exact ⟨fun q => q.2, fun w => ⟨⟨rfl, hb, q.1, q.2⟩, w⟩⟩
/-- a CardFile's fields: 0 number, 2 kind, 3 id, 4 size, 5 many, 7 read, 8 write -/
def fO (p : Nat) (ab : Option Nat) (F : Nat → Int) : mE := mO 1 [.int (iI (F 0)), va_rf ab, .int (iI (F 2)), .int (iI (F 3)), .int (iI (F 4)), .int (iI (F 5)), .ref (p + 1), .int (iI (F 7)), .int (iI (F 8))]
def cO (G : mG) (h0 : mH) (b p : Nat) (ab : Option Nat) (F : Nat → Int) : Prop := (hol b p ∧ hol b (p + 1)) ∧ G.2.2.2 ≤ p ∧ h0 p = some (fO p ab F)
/-- the heap with the bytes of the CardFile at p -/
def fW (h0 : mH) (p N : Nat) (g : Nat → Int) : mH := mUp h0 (p + 1) (mI N (fun j => iI (g j)))
theorem fW_self {p N : Nat} {g : Nat → Int} (hh : h0 (p + 1) = some (mI N (fun j => iI (g j)))) : fW h0 p N g = h0 := mUp_self hh
theorem fW_fW {p N : Nat} {g g' : Nat → Int} : fW (fW h0 p N g) p N g' = fW h0 p N g' := mUp_mUp _ _ _ _
section
variable {p N : Nat} {g F : Nat → Int} {ab : Option Nat} {K : Value → Prop}
theorem fW_at (hc : cO G h0 b p ab F) : wH (fW h0 p N g) b I A P R o p = some (fO p ab F) := by
  rw [wH_hole hc.1.1]; unfold fW; rw [mUp_ne (by omega)]; exact hc.2.2
theorem fW_by (hc : cO G h0 b p ab F) : wH (fW h0 p N g) b I A P R o (p + 1) = some (mI N (fun j => iI (g j))) := by
  rw [wH_hole hc.1.2]; exact mUp_same _ _ _
theorem fg_c (hc : cO G h0 b p ab F) : mRecv (wH (fW h0 p N g) b I A P R o) p 1 ↔ True := hRecv (fW_at hc)
theorem fg_0 (hc : cO G h0 b p ab F) : mGet (wH (fW h0 p N g) b I A P R o) p 1 0 K ↔ K (.int (iI (F 0))) := hGet (fW_at hc) rfl
theorem fg_1 (hc : cO G h0 b p ab F) : mGet (wH (fW h0 p N g) b I A P R o) p 1 1 K ↔ K (va_rf ab) := hGet (fW_at hc) rfl
theorem fg_2 (hc : cO G h0 b p ab F) : mGet (wH (fW h0 p N g) b I A P R o) p 1 2 K ↔ K (.int (iI (F 2))) := hGet (fW_at hc) rfl
theorem fg_3 (hc : cO G h0 b p ab F) : mGet (wH (fW h0 p N g) b I A P R o) p 1 3 K ↔ K (.int (iI (F 3))) := hGet (fW_at hc) rfl
theorem fg_4 (hc : cO G h0 b p ab F) : mGet (wH (fW h0 p N g) b I A P R o) p 1 4 K ↔ K (.int (iI (F 4))) := hGet (fW_at hc) rfl
theorem fg_5 (hc : cO G h0 b p ab F) : mGet (wH (fW h0 p N g) b I A P R o) p 1 5 K ↔ K (.int (iI (F 5))) := hGet (fW_at hc) rfl
theorem fg_6 (hc : cO G h0 b p ab F) : mGet (wH (fW h0 p N g) b I A P R o) p 1 6 K ↔ K (.ref (p + 1)) := hGet (fW_at hc) rfl
theorem fg_7 (hc : cO G h0 b p ab F) : mGet (wH (fW h0 p N g) b I A P R o) p 1 7 K ↔ K (.int (iI (F 7))) := hGet (fW_at hc) rfl
theorem fg_8 (hc : cO G h0 b p ab F) : mGet (wH (fW h0 p N g) b I A P R o) p 1 8 K ↔ K (.int (iI (F 8))) := hGet (fW_at hc) rfl
theorem fg_n {K : Nat → Prop} (hc : cO G h0 b p ab F) : mLen (wH (fW h0 p N g) b I A P R o) (p + 1) K ↔ K N := hLen (fW_by hc)
theorem fg_l {z : Int} {K : Int32 → Prop} (hc : cO G h0 b p ab F) (hN : N < 2147483648) (h1 : 0 ≤ z) (h2 : z < N) : mLdI (wH (fW h0 p N g) b I A P R o) (p + 1) (iI z) K ↔ K (iI (g z.toNat)) := hLd (fW_by hc) hN h1 h2
theorem fg_s {z x : Int} {K : mH → Prop} (hc : cO G h0 b p ab F) (hN : N < 2147483648) (h1 : 0 ≤ z) (h2 : z < N) : mStI G (wH (fW h0 p N g) b I A P R o) (p + 1) (iI z) (iI x) K ↔ K (wH (fW h0 p N (upE g z.toNat x)) b I A P R o) := by
  have hb := hc.2.1
  rw [hSt (fW_by hc) hN (by omega) h1 h2, wH_put hc.1.2]
  rw [show mUp (fW h0 p N g) (p + 1) (mI N (fun j => iI (upE g z.toNat x j))) = fW h0 p N (upE g z.toNat x) from mUp_mUp _ _ _ _]
theorem d1 (hc : cO G h0 b p ab F) : mX G 1 0 [.ref p] [] (wH (fW h0 p N g) b I A P R o) n k Q ↔ Q (.inl (some (.int (iI N))), wH (fW h0 p N g) b I A P R o, n, k) := by
  simp (maxSteps := 1000000) (disch := first | omega | (simp only [updI_at, upA_at, Nat.reduceEqDiff, reduceIte]; omega) | exact mIsRef_rf _ | exact rfl) only [↓s1_0, ↓s1_1, ↓s1_4, ↓s1_5, mN1_int, mN1_ref, mN1_null, mN1_U, mN1_rf, mCats_nil, mCats_int, mCats_ref, mCats_null, mCats_long, mCats_rf, mIsRef_ref, mIsRef_null, mIsRef_va, mRf_ref, mRf_null, mRf_rf, true_and, and_true, true_or, or_true, eq_self_iff_true, mK_v, mK_0, Nat.reduceAdd, Nat.reduceLeDiff, Nat.zero_le, iL_0, iL_1, iL_m1, iI_add, iI_sub, iI_mul, iI_neg, updI_at, upA_at, upP_at, upR_at, Nat.reduceEqDiff, reduceIte, Int.reduceAdd, Int.reduceSub, Int.reduceMul, Int.reduceDiv, Int.reduceMod, Int.reduceLT, Int.reduceLE, Int.reduceEq, Int.reduceNeg, not_true_eq_false, not_false_eq_true, Decidable.not_not, fg_6 hc, fg_n hc, iI_nI]
theorem d2 (hc : cO G h0 b p ab F) (hk : 0 ≤ F 2 ∧ F 2 ≤ 3) : mX G 2 0 [.ref p] [] (wH (fW h0 p N g) b I A P R o) n k Q ↔ Q (.inl (some (.int (iI (bI (F 2 = 2 ∨ F 2 = 3))))), wH (fW h0 p N g) b I A P R o, n, k) := by
  by_cases p1 : F 2 = 2
  · rw [bI_t (Or.inl p1)]
    simp (maxSteps := 1000000) (disch := first | omega | (simp only [updI_at, upA_at, Nat.reduceEqDiff, reduceIte]; omega) | exact mIsRef_rf _ | exact rfl) only [↓s2_0, ↓s2_1, ↓s2_4, ↓s2_5, ↓s2_8, ↓s2_9, ↓s2_12, ↓s2_13, ↓s2_16, ↓s2_17, ↓s2_20, ↓s2_21, iL_2, iL_3, mN1_int, mN1_ref, mN1_null, mN1_U, mN1_rf, mCats_nil, mCats_int, mCats_ref, mCats_null, mCats_long, mCats_rf, mIsRef_ref, mIsRef_null, mIsRef_va, mRf_ref, mRf_null, mRf_rf, true_and, and_true, true_or, or_true, eq_self_iff_true, mK_v, mK_0, Nat.reduceAdd, Nat.reduceLeDiff, Nat.zero_le, iL_0, iL_1, iL_m1, iI_add, iI_sub, iI_mul, iI_neg, updI_at, upA_at, upP_at, upR_at, Nat.reduceEqDiff, reduceIte, Int.reduceAdd, Int.reduceSub, Int.reduceMul, Int.reduceDiv, Int.reduceMod, Int.reduceLT, Int.reduceLE, Int.reduceEq, Int.reduceNeg, not_true_eq_false, not_false_eq_true, Decidable.not_not, fg_2 hc, iI_eq, p1]
  · by_cases p2 : F 2 = 3
    · rw [bI_t (Or.inr p2)]
      simp (maxSteps := 1000000) (disch := first | omega | (simp only [updI_at, upA_at, Nat.reduceEqDiff, reduceIte]; omega) | exact mIsRef_rf _ | exact rfl) only [↓s2_0, ↓s2_1, ↓s2_4, ↓s2_5, ↓s2_8, ↓s2_9, ↓s2_12, ↓s2_13, ↓s2_16, ↓s2_17, ↓s2_20, ↓s2_21, iL_2, iL_3, mN1_int, mN1_ref, mN1_null, mN1_U, mN1_rf, mCats_nil, mCats_int, mCats_ref, mCats_null, mCats_long, mCats_rf, mIsRef_ref, mIsRef_null, mIsRef_va, mRf_ref, mRf_null, mRf_rf, true_and, and_true, true_or, or_true, eq_self_iff_true, mK_v, mK_0, Nat.reduceAdd, Nat.reduceLeDiff, Nat.zero_le, iL_0, iL_1, iL_m1, iI_add, iI_sub, iI_mul, iI_neg, updI_at, upA_at, upP_at, upR_at, Nat.reduceEqDiff, reduceIte, Int.reduceAdd, Int.reduceSub, Int.reduceMul, Int.reduceDiv, Int.reduceMod, Int.reduceLT, Int.reduceLE, Int.reduceEq, Int.reduceNeg, not_true_eq_false, not_false_eq_true, Decidable.not_not, fg_2 hc, iI_eq, p2]
    · rw [bI_f (fun t => t.elim p1 p2)]
      simp (maxSteps := 1000000) (disch := first | omega | (simp only [updI_at, upA_at, Nat.reduceEqDiff, reduceIte]; omega) | exact mIsRef_rf _ | exact rfl) only [↓s2_0, ↓s2_1, ↓s2_4, ↓s2_5, ↓s2_8, ↓s2_9, ↓s2_12, ↓s2_13, ↓s2_16, ↓s2_17, ↓s2_20, ↓s2_21, iL_2, iL_3, mN1_int, mN1_ref, mN1_null, mN1_U, mN1_rf, mCats_nil, mCats_int, mCats_ref, mCats_null, mCats_long, mCats_rf, mIsRef_ref, mIsRef_null, mIsRef_va, mRf_ref, mRf_null, mRf_rf, true_and, and_true, true_or, or_true, eq_self_iff_true, mK_v, mK_0, Nat.reduceAdd, Nat.reduceLeDiff, Nat.zero_le, iL_0, iL_1, iL_m1, iI_add, iI_sub, iI_mul, iI_neg, updI_at, upA_at, upP_at, upR_at, Nat.reduceEqDiff, reduceIte, Int.reduceAdd, Int.reduceSub, Int.reduceMul, Int.reduceDiv, Int.reduceMod, Int.reduceLT, Int.reduceLE, Int.reduceEq, Int.reduceNeg, not_true_eq_false, not_false_eq_true, Decidable.not_not, fg_2 hc, iI_eq, p1, p2]
theorem d3 {z : Int} (hc : cO G h0 b p ab F) (hN : N ≤ 100000) (hz : -2147483648 ≤ z ∧ z < 2147483648) : mX G 3 0 [.ref p, .int (iI z)] [] (wH (fW h0 p N g) b I A P R o) n k Q ↔ Q (.inl (some (.int (iI (rget N g z)))), wH (fW h0 p N g) b I A P R o, n, k) := by
  unfold rget
  by_cases p1 : z < 0
  · rw [if_neg (by omega)]
    simp (maxSteps := 1000000) (disch := first | omega | (simp only [updI_at, upA_at, Nat.reduceEqDiff, reduceIte]; omega) | exact mIsRef_rf _ | exact rfl) only [↓s3_0, ↓s3_1, ↓s3_4, ↓s3_5, ↓s3_6, ↓s3_9, ↓s3_10, ↓s3_13, ↓s3_14, ↓s3_17, ↓s3_18, ↓s3_19, ↓s3_22, ↓s3_23, mN1_int, mN1_ref, mN1_null, mN1_U, mN1_rf, mCats_nil, mCats_int, mCats_ref, mCats_null, mCats_long, mCats_rf, mIsRef_ref, mIsRef_null, mIsRef_va, mRf_ref, mRf_null, mRf_rf, true_and, and_true, true_or, or_true, eq_self_iff_true, mK_v, mK_0, Nat.reduceAdd, Nat.reduceLeDiff, Nat.zero_le, iL_0, iL_1, iL_m1, iI_add, iI_sub, iI_mul, iI_neg, updI_at, upA_at, upP_at, upR_at, Nat.reduceEqDiff, reduceIte, Int.reduceAdd, Int.reduceSub, Int.reduceMul, Int.reduceDiv, Int.reduceMod, Int.reduceLT, Int.reduceLE, Int.reduceEq, Int.reduceNeg, not_true_eq_false, not_false_eq_true, Decidable.not_not, iI_lt, p1]
  · by_cases p2 : z < N
    · rw [if_pos ⟨by omega, p2⟩]
      simp (maxSteps := 1000000) (disch := first | omega | (simp only [updI_at, upA_at, Nat.reduceEqDiff, reduceIte]; omega) | exact mIsRef_rf _ | exact rfl) only [↓s3_0, ↓s3_1, ↓s3_4, ↓s3_5, ↓s3_6, ↓s3_9, ↓s3_10, ↓s3_13, ↓s3_14, ↓s3_17, ↓s3_18, ↓s3_19, ↓s3_22, ↓s3_23, mN1_int, mN1_ref, mN1_null, mN1_U, mN1_rf, mCats_nil, mCats_int, mCats_ref, mCats_null, mCats_long, mCats_rf, mIsRef_ref, mIsRef_null, mIsRef_va, mRf_ref, mRf_null, mRf_rf, true_and, and_true, true_or, or_true, eq_self_iff_true, mK_v, mK_0, Nat.reduceAdd, Nat.reduceLeDiff, Nat.zero_le, iL_0, iL_1, iL_m1, iI_add, iI_sub, iI_mul, iI_neg, updI_at, upA_at, upP_at, upR_at, Nat.reduceEqDiff, reduceIte, Int.reduceAdd, Int.reduceSub, Int.reduceMul, Int.reduceDiv, Int.reduceMod, Int.reduceLT, Int.reduceLE, Int.reduceEq, Int.reduceNeg, not_true_eq_false, not_false_eq_true, Decidable.not_not, iI_lt, iI_le, iI_nI, p1, fg_6 hc, fg_n hc, Int.not_le.mpr p2, fg_l hc]
    · rw [if_neg (by omega)]
      simp (maxSteps := 1000000) (disch := first | omega | (simp only [updI_at, upA_at, Nat.reduceEqDiff, reduceIte]; omega) | exact mIsRef_rf _ | exact rfl) only [↓s3_0, ↓s3_1, ↓s3_4, ↓s3_5, ↓s3_6, ↓s3_9, ↓s3_10, ↓s3_13, ↓s3_14, ↓s3_17, ↓s3_18, ↓s3_19, ↓s3_22, ↓s3_23, mN1_int, mN1_ref, mN1_null, mN1_U, mN1_rf, mCats_nil, mCats_int, mCats_ref, mCats_null, mCats_long, mCats_rf, mIsRef_ref, mIsRef_null, mIsRef_va, mRf_ref, mRf_null, mRf_rf, true_and, and_true, true_or, or_true, eq_self_iff_true, mK_v, mK_0, Nat.reduceAdd, Nat.reduceLeDiff, Nat.zero_le, iL_0, iL_1, iL_m1, iI_add, iI_sub, iI_mul, iI_neg, updI_at, upA_at, upP_at, upR_at, Nat.reduceEqDiff, reduceIte, Int.reduceAdd, Int.reduceSub, Int.reduceMul, Int.reduceDiv, Int.reduceMod, Int.reduceLT, Int.reduceLE, Int.reduceEq, Int.reduceNeg, not_true_eq_false, not_false_eq_true, Decidable.not_not, iI_lt, iI_le, iI_nI, p1, fg_6 hc, fg_n hc, Int.not_lt.mp p2]
theorem d6 {z : Int} (hc : cO G h0 b p ab F) : mX G 6 0 [.ref p, .int (iI z)] [] (wH (fW h0 p N g) b I A P R o) n k Q ↔ Q (.inl (some (.int (iI ((z - 1) * F 4)))), wH (fW h0 p N g) b I A P R o, n, k) := by
  simp (maxSteps := 1000000) (disch := first | omega | (simp only [updI_at, upA_at, Nat.reduceEqDiff, reduceIte]; omega) | exact mIsRef_rf _ | exact rfl) only [↓s6_0, ↓s6_1, ↓s6_2, ↓s6_3, ↓s6_4, ↓s6_7, ↓s6_8, mN1_int, mN1_ref, mN1_null, mN1_U, mN1_rf, mCats_nil, mCats_int, mCats_ref, mCats_null, mCats_long, mCats_rf, mIsRef_ref, mIsRef_null, mIsRef_va, mRf_ref, mRf_null, mRf_rf, true_and, and_true, true_or, or_true, eq_self_iff_true, mK_v, mK_0, Nat.reduceAdd, Nat.reduceLeDiff, Nat.zero_le, iL_0, iL_1, iL_m1, iI_add, iI_sub, iI_mul, iI_neg, updI_at, upA_at, upP_at, upR_at, Nat.reduceEqDiff, reduceIte, Int.reduceAdd, Int.reduceSub, Int.reduceMul, Int.reduceDiv, Int.reduceMod, Int.reduceLT, Int.reduceLE, Int.reduceEq, Int.reduceNeg, not_true_eq_false, not_false_eq_true, Decidable.not_not, fg_4 hc]
theorem d10 {z x : Int} (hc : cO G h0 b p ab F) (hN : N ≤ 100000) (hz : 0 ≤ z ∧ z < N) (hx : -2147483648 ≤ x ∧ x < 2147483648) : mX G 10 0 [.ref p, .int (iI z), .int (iI x)] [] (wH (fW h0 p N g) b I A P R o) n k Q ↔ Q (.inl none, wH (fW h0 p N (upE g z.toNat (x % 256))) b I A P R o, n, k) := by
  have h1 : ¬ z < 0 := by omega
  have h2 : ¬ (N : Int) ≤ z := by omega
  simp (maxSteps := 1000000) (disch := first | omega | (simp only [updI_at, upA_at, Nat.reduceEqDiff, reduceIte]; omega) | exact mIsRef_rf _ | exact rfl) only [↓s10_0, ↓s10_1, ↓s10_4, ↓s10_5, ↓s10_6, ↓s10_9, ↓s10_10, ↓s10_13, ↓s10_14, ↓s10_17, ↓s10_18, ↓s10_19, ↓s10_22, ↓s10_23, ↓s10_24, iL_255, mN1_int, mN1_ref, mN1_null, mN1_U, mN1_rf, mCats_nil, mCats_int, mCats_ref, mCats_null, mCats_long, mCats_rf, mIsRef_ref, mIsRef_null, mIsRef_va, mRf_ref, mRf_null, mRf_rf, true_and, and_true, true_or, or_true, eq_self_iff_true, mK_v, mK_0, Nat.reduceAdd, Nat.reduceLeDiff, Nat.zero_le, iL_0, iL_1, iL_m1, iI_add, iI_sub, iI_mul, iI_neg, updI_at, upA_at, upP_at, upR_at, Nat.reduceEqDiff, reduceIte, Int.reduceAdd, Int.reduceSub, Int.reduceMul, Int.reduceDiv, Int.reduceMod, Int.reduceLT, Int.reduceLE, Int.reduceEq, Int.reduceNeg, not_true_eq_false, not_false_eq_true, Decidable.not_not, iI_lt, iI_le, iI_nI, h1, h2, fg_6 hc, fg_n hc, fg_s hc, iI_and255, iI_toInt]
/-- what a row's get answers, wherever the files' bytes stand -/
def rG (G : mG) (b r : Nat) (I : Nat → Int) (A : Nat → Nat → Int) (f : Int → Int) : Prop := ∀ (h0 : mH) (P : Nat → Nat) (R : Nat → Option Nat) (o : Nat → Int64) (n k : Nat) (Q : mR → Prop) (z : Int), -2147483648 ≤ z → z < 2147483648 → (mX G 80 0 [.ref r, .int (iI z)] [] (wH h0 b I A P R o) n k Q ↔ Q (.inl (some (.int (iI (f z)))), wH h0 b I A P R o, n, k))
def rC (b r : Nat) : Prop := ∀ (h0 : mH) (I : Nat → Int) (A : Nat → Nat → Int) (P : Nat → Nat) (R : Nat → Option Nat) (o : Nat → Int64), mRecv (wH h0 b I A P R o) r 7 ↔ True
theorem d4_l {r : Nat} {f : Int → Int} {t s m : Int} (hc : cO G h0 b p ab F) (hN : N ≤ 100000) (hr : rG G b r I A f) (hrc : rC b r) (hf : ∀ z, -1 ≤ f z ∧ f z ≤ 255) (ht : 0 ≤ t ∧ t + m ≤ N) (hs : 0 ≤ s ∧ s ≤ 100000) : ∀ (d : Nat) (c : Int), 0 ≤ c → c + d = m →
    (mX G 4 3 [.ref p, .int (iI t), .ref r, .int (iI s), .int (iI m), .int (iI c)] [] (wH (fW h0 p N (cpE g (fun j => f (s + j) % 256) t c)) b I A P R o) n k Q ↔ Q (.inl none, wH (fW h0 p N (cpE g (fun j => f (s + j) % 256) t m)) b I A P R o, n, k)) := by
  intro d
  induction d with
  | zero =>
    intro c h1 h2
    obtain rfl : c = m := by omega
    rw [s4_3]
    simp (maxSteps := 1000000) (disch := first | omega | (simp only [updI_at, upA_at, Nat.reduceEqDiff, reduceIte]; omega) | exact mIsRef_rf _ | exact rfl) only [↓s4_0, ↓s4_1, ↓s4_5, ↓s4_7, ↓s4_10, ↓s4_11, ↓s4_12, ↓s4_14, ↓s4_15, ↓s4_16, ↓s4_17, ↓s4_19, ↓s4_20, ↓s4_23, ↓s4_26, ↓s4_29, ↓s4_32, wc_1, wc_12, wc_14, wc_29, wc_31, wc_39, wc_4, wc_41, mN1_int, mN1_ref, mN1_null, mN1_U, mN1_rf, mCats_nil, mCats_int, mCats_ref, mCats_null, mCats_long, mCats_rf, mIsRef_ref, mIsRef_null, mIsRef_va, mRf_ref, mRf_null, mRf_rf, true_and, and_true, true_or, or_true, eq_self_iff_true, mK_v, mK_0, Nat.reduceAdd, Nat.reduceLeDiff, Nat.zero_le, iL_0, iL_1, iL_m1, iI_add, iI_sub, iI_mul, iI_neg, updI_at, upA_at, upP_at, upR_at, Nat.reduceEqDiff, reduceIte, Int.reduceAdd, Int.reduceSub, Int.reduceMul, Int.reduceDiv, Int.reduceMod, Int.reduceLT, Int.reduceLE, Int.reduceEq, Int.reduceNeg, not_true_eq_false, not_false_eq_true, Decidable.not_not, iI_le, Int.le_refl]
  | succ d ih =>
    intro c h1 h2
    have hc' : ¬ m ≤ c := by omega
    have fr := hf (s + c)
    have e := cpE_s (g := g) (f := fun j => f (s + j) % 256) (lo := t) (c := c) (by omega) h1
    rw [show s + ((c.toNat : Nat) : Int) = s + c by omega] at e
    have z := fun Q' => hr (fW h0 p N (cpE g (fun j => f (s + j) % 256) t c)) P R o n k Q' (s + c) (by omega) (by omega)
    rw [s4_3]
    simp (maxSteps := 1000000) (disch := first | omega | (simp only [updI_at, upA_at, Nat.reduceEqDiff, reduceIte]; omega) | exact mIsRef_rf _ | exact rfl) only [↓s4_0, ↓s4_1, ↓s4_5, ↓s4_7, ↓s4_10, ↓s4_11, ↓s4_12, ↓s4_14, ↓s4_15, ↓s4_16, ↓s4_17, ↓s4_19, ↓s4_20, ↓s4_23, ↓s4_26, ↓s4_29, ↓s4_32, wc_1, wc_12, wc_14, wc_29, wc_31, wc_39, wc_4, wc_41, mN1_int, mN1_ref, mN1_null, mN1_U, mN1_rf, mCats_nil, mCats_int, mCats_ref, mCats_null, mCats_long, mCats_rf, mIsRef_ref, mIsRef_null, mIsRef_va, mRf_ref, mRf_null, mRf_rf, true_and, and_true, true_or, or_true, eq_self_iff_true, mK_v, mK_0, Nat.reduceAdd, Nat.reduceLeDiff, Nat.zero_le, iL_0, iL_1, iL_m1, iI_add, iI_sub, iI_mul, iI_neg, updI_at, upA_at, upP_at, upR_at, Nat.reduceEqDiff, reduceIte, Int.reduceAdd, Int.reduceSub, Int.reduceMul, Int.reduceDiv, Int.reduceMod, Int.reduceLT, Int.reduceLE, Int.reduceEq, Int.reduceNeg, not_true_eq_false, not_false_eq_true, Decidable.not_not, iI_le, hc', hrc _ _ _ _ _ _, fg_c hc, z, d10 hc hN]
    rw [e]
    exact ih (c + 1) (by omega) (by omega)
theorem d4 {r : Nat} {f : Int → Int} {t s m : Int} (hc : cO G h0 b p ab F) (hN : N ≤ 100000) (hr : rG G b r I A f) (hrc : rC b r) (hf : ∀ z, -1 ≤ f z ∧ f z ≤ 255) (ht : 0 ≤ t ∧ t + m ≤ N) (hs : 0 ≤ s ∧ s ≤ 100000) (hm : 0 ≤ m) :
    mX G 4 0 [.ref p, .int (iI t), .ref r, .int (iI s), .int (iI m), mU] [] (wH (fW h0 p N g) b I A P R o) n k Q ↔ Q (.inl none, wH (fW h0 p N (cpE g (fun j => f (s + j) % 256) t m)) b I A P R o, n, k) := by
  simp (maxSteps := 1000000) (disch := first | omega | (simp only [updI_at, upA_at, Nat.reduceEqDiff, reduceIte]; omega) | exact mIsRef_rf _ | exact rfl) only [↓s4_0, ↓s4_1, mN1_int, mN1_ref, mN1_null, mN1_U, mN1_rf, mCats_nil, mCats_int, mCats_ref, mCats_null, mCats_long, mCats_rf, mIsRef_ref, mIsRef_null, mIsRef_va, mRf_ref, mRf_null, mRf_rf, true_and, and_true, true_or, or_true, eq_self_iff_true, mK_v, mK_0, Nat.reduceAdd, Nat.reduceLeDiff, Nat.zero_le, iL_0, iL_1, iL_m1, iI_add, iI_sub, iI_mul, iI_neg, updI_at, upA_at, upP_at, upR_at, Nat.reduceEqDiff, reduceIte, Int.reduceAdd, Int.reduceSub, Int.reduceMul, Int.reduceDiv, Int.reduceMod, Int.reduceLT, Int.reduceLE, Int.reduceEq, Int.reduceNeg, not_true_eq_false, not_false_eq_true, Decidable.not_not]
  have z := d4_l (n := n) (k := k) (Q := Q) (P := P) (R := R) (o := o) (g := g) hc hN hr hrc hf ht hs m.toNat 0 (by omega) (by omega)
  rw [cpE_0] at z
  exact z
theorem d4_n {r : Nat} {t s m : Int} (hm : m ≤ 0) (hm2 : -1000 ≤ m) : mX G 4 0 [.ref p, .int (iI t), .ref r, .int (iI s), .int (iI m), mU] [] h n k Q ↔ Q (.inl none, h, n, k) := by
  simp (maxSteps := 1000000) (disch := first | omega | (simp only [updI_at, upA_at, Nat.reduceEqDiff, reduceIte]; omega) | exact mIsRef_rf _ | exact rfl) only [↓s4_0, ↓s4_1, ↓s4_3, ↓s4_5, ↓s4_7, ↓s4_10, ↓s4_11, ↓s4_12, ↓s4_14, ↓s4_15, ↓s4_16, ↓s4_17, ↓s4_19, ↓s4_20, ↓s4_23, ↓s4_26, ↓s4_29, ↓s4_32, wc_1, wc_12, wc_14, wc_29, wc_31, wc_39, wc_4, wc_41, mN1_int, mN1_ref, mN1_null, mN1_U, mN1_rf, mCats_nil, mCats_int, mCats_ref, mCats_null, mCats_long, mCats_rf, mIsRef_ref, mIsRef_null, mIsRef_va, mRf_ref, mRf_null, mRf_rf, true_and, and_true, true_or, or_true, eq_self_iff_true, mK_v, mK_0, Nat.reduceAdd, Nat.reduceLeDiff, Nat.zero_le, iL_0, iL_1, iL_m1, iI_add, iI_sub, iI_mul, iI_neg, updI_at, upA_at, upP_at, upR_at, Nat.reduceEqDiff, reduceIte, Int.reduceAdd, Int.reduceSub, Int.reduceMul, Int.reduceDiv, Int.reduceMod, Int.reduceLT, Int.reduceLE, Int.reduceEq, Int.reduceNeg, not_true_eq_false, not_false_eq_true, Decidable.not_not, iI_le, hm]
end
end MDYN
