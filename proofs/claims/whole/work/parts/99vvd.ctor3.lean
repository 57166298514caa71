/-! Behind its arrays. -/
section MCTOR3D
variable {G : mG} {h h0 : mH} {n k b : Nat} {Q : mR → Prop} {I : Nat → Int} {A : Nat → Nat → Int} {P : Nat → Nat} {R : Nat → Option Nat} {o : Nat → Int64}
theorem c184_o {h : mH} {fs : List Value} (hb : G.2.2.2 ≤ b) (hm : h (b + 43) = some (mO 13 fs)) (hl : fs.length = 61) (f32 : fs[32]? = some (.ref (b + 70))) (q70 : h (b + 70) = some (mZ 9 (fun _ => iI 0))) : mX G 184 406 [.ref (b + 43), .int (iI 9)] [] h n k Q ↔ Q (.inl none, mUp h (b + 43) (mO 13 (((((((fs.set 38 (.int (iI 0))).set 39 (.int (iI (-1)))).set 40 (.int (iI 0))).set 37 (.int (iI 0))).set 41 (.int (iI 0))).set 44 (.int (iI 0))).set 46 (.int (iI 0)))), n, k) := by
  have rc0 : mRecv h (b + 43) 13 ↔ True := hRecv hm
  have k0 : ∀ K, mPut G h (b + 43) 13 38 (.int (iI 0)) K ↔ K (mUp h (b + 43) (mO 13 (fs.set 38 (.int (iI 0))))) := fun K => hPut hm (by omega) (by omega) rfl
  have pz : ∀ (j : Nat) (w : Value) (l : List Value) (K : mH → Prop), l.length = 61 → j < 61 → mFits 13 j w = true → (mPut G (mUp h (b + 43) (mO 13 l)) (b + 43) 13 j w K ↔ K (mUp h (b + 43) (mO 13 (l.set j w)))) := fun j w l K h1 h2 h3 => (hPut (mUp_same _ _ _) (by omega) (by omega) h3).trans (by rw [mUp_mUp])
  have l1 : (fs.set 38 (.int (iI 0))).length = 61 := by rw [List.length_set]; exact hl
  have g1 : (fs.set 38 (.int (iI 0)))[32]? = some (.ref (b + 70)) := by rw [List.getElem?_set_ne (by decide)]; exact f32
  generalize fs.set 38 (.int (iI 0)) = s1 at *
  have k1 := fun K => pz 39 (.int (iI (-1))) s1 K l1 (by decide) rfl
  have l2 : (s1.set 39 (.int (iI (-1)))).length = 61 := by rw [List.length_set]; exact l1
  have g2 : (s1.set 39 (.int (iI (-1))))[32]? = some (.ref (b + 70)) := by rw [List.getElem?_set_ne (by decide)]; exact g1
  generalize s1.set 39 (.int (iI (-1))) = s2 at *
  have k2 := fun K => pz 40 (.int (iI 0)) s2 K l2 (by decide) rfl
  have l3 : (s2.set 40 (.int (iI 0))).length = 61 := by rw [List.length_set]; exact l2
  have g3 : (s2.set 40 (.int (iI 0)))[32]? = some (.ref (b + 70)) := by rw [List.getElem?_set_ne (by decide)]; exact g2
  generalize s2.set 40 (.int (iI 0)) = s3 at *
  have k3 := fun K => pz 37 (.int (iI 0)) s3 K l3 (by decide) rfl
  have l4 : (s3.set 37 (.int (iI 0))).length = 61 := by rw [List.length_set]; exact l3
  have g4 : (s3.set 37 (.int (iI 0)))[32]? = some (.ref (b + 70)) := by rw [List.getElem?_set_ne (by decide)]; exact g3
  generalize s3.set 37 (.int (iI 0)) = s4 at *
  have k4 := fun K => pz 41 (.int (iI 0)) s4 K l4 (by decide) rfl
  have l5 : (s4.set 41 (.int (iI 0))).length = 61 := by rw [List.length_set]; exact l4
  have g5 : (s4.set 41 (.int (iI 0)))[32]? = some (.ref (b + 70)) := by rw [List.getElem?_set_ne (by decide)]; exact g4
  generalize s4.set 41 (.int (iI 0)) = s5 at *
  have rc5 : mRecv (mUp h (b + 43) (mO 13 s5)) (b + 43) 13 ↔ True := hRecv (mUp_same _ _ _)
  have k5 := fun K => pz 44 (.int (iI 0)) s5 K l5 (by decide) rfl
  have l6 : (s5.set 44 (.int (iI 0))).length = 61 := by rw [List.length_set]; exact l5
  have g6 : (s5.set 44 (.int (iI 0)))[32]? = some (.ref (b + 70)) := by rw [List.getElem?_set_ne (by decide)]; exact g5
  generalize s5.set 44 (.int (iI 0)) = s6 at *
  have k6 := fun K => pz 46 (.int (iI 0)) s6 K l6 (by decide) rfl
  have g7 : (s6.set 46 (.int (iI 0)))[32]? = some (.ref (b + 70)) := by rw [List.getElem?_set_ne (by decide)]; exact g6
  generalize s6.set 46 (.int (iI 0)) = s7 at *
  have zl := fun n k Q => r202_l (G := G) (h := mUp h (b + 43) (mO 13 s7)) (m := b + 43) (p := b + 70) (fs := s7) (n := n) (k := k) (Q := Q) (mUp_same _ _ _) g7 (by rw [mUp_ne (by omega)]; exact q70) (by omega) 9 0 (by omega) (by omega)
  simp (maxSteps := 1000000) (disch := first | omega | (simp only [updI_at, upA_at, Nat.reduceEqDiff, reduceIte]; omega) | exact mIsRef_rf _ | exact rfl) only [↓s184_406, ↓s184_407, ↓s184_410, wc_43, ↓s201_0, ↓s201_1, ↓s201_2, ↓s201_5, ↓s201_6, ↓s201_7, ↓s201_10, ↓s201_11, ↓s201_12, ↓s201_15, ↓s201_16, ↓s201_17, ↓s201_20, ↓s201_21, ↓s201_22, ↓s201_25, ↓s201_26, ↓s201_29, wc_43, wp_43_37, wp_43_38, wp_43_39, wp_43_40, wp_43_41, ↓s202_0, ↓s202_1, ↓s202_2, ↓s202_5, ↓s202_6, ↓s202_7, ↓s202_10, ↓s202_11, ↓s202_13, ↓s202_15, ↓s202_18, ↓s202_19, ↓s202_22, ↓s202_23, ↓s202_24, ↓s202_25, ↓s202_28, ↓s202_31, iL_9, wg_43_32, wl_70, wn_70, wp_43_44, wp_43_46, ws_70, mN1_int, mN1_ref, mN1_null, mN1_U, mN1_rf, mCats_nil, mCats_int, mCats_ref, mCats_null, mCats_long, mCats_rf, mIsRef_ref, mIsRef_null, mIsRef_va, mRf_ref, mRf_null, mRf_rf, true_and, and_true, true_or, or_true, eq_self_iff_true, mK_v, mK_0, Nat.reduceAdd, Nat.reduceLeDiff, Nat.zero_le, iL_0, iL_1, iL_m1, iI_add, iI_sub, iI_mul, iI_neg, updI_at, upA_at, upP_at, upR_at, Nat.reduceEqDiff, reduceIte, Int.reduceAdd, Int.reduceSub, Int.reduceMul, Int.reduceDiv, Int.reduceMod, Int.reduceLT, Int.reduceLE, Int.reduceEq, Int.reduceNeg, not_true_eq_false, not_false_eq_true, Decidable.not_not, rc0, rc5, k0, k1, k2, k3, k4, k5, k6, zl]
theorem c184_b {h : mH} {fs : List Value} (hb : G.2.2.2 ≤ b) (hm : h (b + 43) = some (mO 13 fs)) (hl : fs.length = 61) (f4 : fs[4]? = some (.ref (b + 45))) (f5 : fs[5]? = some (.ref (b + 46))) (f30 : fs[30]? = some (.ref (b + 68))) (f31 : fs[31]? = some (.ref (b + 69))) (f32 : fs[32]? = some (.ref (b + 70))) (f33 : fs[33]? = some (.ref (b + 71))) (f34 : fs[34]? = some (.ref (b + 72))) (q70 : h (b + 70) = some (mZ 9 (fun _ => iI 0))) (q45 : h (b + 45) = some (mI 40 (fun _ => iI 0))) (q46 : h (b + 46) = some (mI 40 (fun _ => iI 0))) (q68 : h (b + 68) = some (mI 32 (fun _ => iI 0))) (q69 : h (b + 69) = some (mI 9 (fun _ => iI 0))) (q71 : h (b + 71) = some (mI 8 (fun _ => iI 0))) (q72 : h (b + 72) = some (mI 8 (fun _ => iI 0))) :
    mX G 184 305 [.ref (b + 43), mU] [] h n k Q ↔ Q (.inl none, mUp (mUp (mUp (mUp (mUp (mUp (mUp (h) (b + 45) (mI 40 (fun j => iI (upE zer 0 16128 j)))) (b + 46) (mI 40 (fun j => iI (upE zer 0 (-1) j)))) (b + 71) (mI 8 (fun j => iI (cpE zer pinI 0 8 j)))) (b + 72) (mI 8 (fun j => iI (cpE zer (fun _ => 56) 0 8 j)))) (b + 68) (mI 32 (fun j => iI (cpE zer (fun _ => -1) 0 32 j)))) (b + 69) (mI 9 (fun j => iI (cpE zer (fun _ => -1) 0 9 j)))) (b + 43) (mO 13 (((((((fs.set 38 (.int (iI 0))).set 39 (.int (iI (-1)))).set 40 (.int (iI 0))).set 37 (.int (iI 0))).set 41 (.int (iI 0))).set 44 (.int (iI 0))).set 46 (.int (iI 0)))), n, k) := by
  have x1 : ∀ K, mGet h (b + 43) 13 4 K ↔ K (.ref (b + 45)) := fun K => hGet hm f4
  have x2 : ∀ K, mStI G h (b + 45) (iI 0) (iI 16128) K ↔ K (mUp h (b + 45) (mI 40 (fun j => iI (upE zer 0 16128 j)))) := fun K => hSt (g := zer) (z := 0) q45 (by omega) (by omega) (by omega) (by omega)
  have m1 : mUp h (b + 45) (mI 40 (fun j => iI (upE zer 0 16128 j))) (b + 43) = some (mO 13 fs) := by rw [mUp_ne (by omega)]; exact hm
  have a46 : mUp h (b + 45) (mI 40 (fun j => iI (upE zer 0 16128 j))) (b + 46) = some (mI 40 (fun _ => iI 0)) := by rw [mUp_ne (by omega)]; exact q46
  have a68 : mUp h (b + 45) (mI 40 (fun j => iI (upE zer 0 16128 j))) (b + 68) = some (mI 32 (fun _ => iI 0)) := by rw [mUp_ne (by omega)]; exact q68
  have a69 : mUp h (b + 45) (mI 40 (fun j => iI (upE zer 0 16128 j))) (b + 69) = some (mI 9 (fun _ => iI 0)) := by rw [mUp_ne (by omega)]; exact q69
  have a70 : mUp h (b + 45) (mI 40 (fun j => iI (upE zer 0 16128 j))) (b + 70) = some (mZ 9 (fun _ => iI 0)) := by rw [mUp_ne (by omega)]; exact q70
  have a71 : mUp h (b + 45) (mI 40 (fun j => iI (upE zer 0 16128 j))) (b + 71) = some (mI 8 (fun _ => iI 0)) := by rw [mUp_ne (by omega)]; exact q71
  have a72 : mUp h (b + 45) (mI 40 (fun j => iI (upE zer 0 16128 j))) (b + 72) = some (mI 8 (fun _ => iI 0)) := by rw [mUp_ne (by omega)]; exact q72
  generalize mUp h (b + 45) (mI 40 (fun j => iI (upE zer 0 16128 j))) = h1 at *
  have x3 : ∀ K, mGet h1 (b + 43) 13 5 K ↔ K (.ref (b + 46)) := fun K => hGet m1 f5
  have x4 : ∀ K, mStI G h1 (b + 46) (iI 0) (iI (-1)) K ↔ K (mUp h1 (b + 46) (mI 40 (fun j => iI (upE zer 0 (-1) j)))) := fun K => hSt (g := zer) (z := 0) a46 (by omega) (by omega) (by omega) (by omega)
  have m2 : mUp h1 (b + 46) (mI 40 (fun j => iI (upE zer 0 (-1) j))) (b + 43) = some (mO 13 fs) := by rw [mUp_ne (by omega)]; exact m1
  have r68 : mUp h1 (b + 46) (mI 40 (fun j => iI (upE zer 0 (-1) j))) (b + 68) = some (mI 32 (fun _ => iI 0)) := by rw [mUp_ne (by omega)]; exact a68
  have r69 : mUp h1 (b + 46) (mI 40 (fun j => iI (upE zer 0 (-1) j))) (b + 69) = some (mI 9 (fun _ => iI 0)) := by rw [mUp_ne (by omega)]; exact a69
  have r70 : mUp h1 (b + 46) (mI 40 (fun j => iI (upE zer 0 (-1) j))) (b + 70) = some (mZ 9 (fun _ => iI 0)) := by rw [mUp_ne (by omega)]; exact a70
  have r71 : mUp h1 (b + 46) (mI 40 (fun j => iI (upE zer 0 (-1) j))) (b + 71) = some (mI 8 (fun _ => iI 0)) := by rw [mUp_ne (by omega)]; exact a71
  have r72 : mUp h1 (b + 46) (mI 40 (fun j => iI (upE zer 0 (-1) j))) (b + 72) = some (mI 8 (fun _ => iI 0)) := by rw [mUp_ne (by omega)]; exact a72
  generalize mUp h1 (b + 46) (mI 40 (fun j => iI (upE zer 0 (-1) j))) = h2 at *
  have y1 : mX G 184 305 [.ref (b + 43), mU] [] h n k Q ↔ mX G 184 323 [.ref (b + 43), .int (iI 0)] [] h2 n k Q := by
    simp (maxSteps := 1000000) (disch := first | omega | (simp only [updI_at, upA_at, Nat.reduceEqDiff, reduceIte]; omega) | exact mIsRef_rf _ | exact rfl) only [↓s184_305, ↓s184_306, ↓s184_309, ↓s184_310, ↓s184_313, ↓s184_314, ↓s184_315, ↓s184_318, ↓s184_319, ↓s184_320, ↓s184_321, ↓s184_322, iL_16128, wg_43_4, wg_43_5, wl_45, wl_46, wn_45, wn_46, ws_45, ws_46, mN1_int, mN1_ref, mN1_null, mN1_U, mN1_rf, mCats_nil, mCats_int, mCats_ref, mCats_null, mCats_long, mCats_rf, mIsRef_ref, mIsRef_null, mIsRef_va, mRf_ref, mRf_null, mRf_rf, true_and, and_true, true_or, or_true, eq_self_iff_true, mK_v, mK_0, Nat.reduceAdd, Nat.reduceLeDiff, Nat.zero_le, iL_0, iL_1, iL_m1, iI_add, iI_sub, iI_mul, iI_neg, updI_at, upA_at, upP_at, upR_at, Nat.reduceEqDiff, reduceIte, Int.reduceAdd, Int.reduceSub, Int.reduceMul, Int.reduceDiv, Int.reduceMod, Int.reduceLT, Int.reduceLE, Int.reduceEq, Int.reduceNeg, not_true_eq_false, not_false_eq_true, Decidable.not_not, x1, x2, x3, x4]
  rw [y1]
  have y2 := c184_p (G := G) (h := h2) (m := b + 43) (p := b + 71) (p2 := b + 72) (fs := fs) (n := n) (k := k) (Q := Q) m2 f33 f34 (by omega) (by omega) 8 0 (by omega) (by omega)
  rw [cpE_0, cpE_0, mUp_self (h := h2) (a := b + 71) (e := mI 8 (fun j => iI (zer j))) r71, mUp_self (h := h2) (a := b + 72) (e := mI 8 (fun j => iI (zer j))) r72] at y2
  rw [y2]
  have m3 : mUp (mUp h2 (b + 71) (mI 8 (fun j => iI (cpE zer pinI 0 8 j)))) (b + 72) (mI 8 (fun j => iI (cpE zer (fun _ => 56) 0 8 j))) (b + 43) = some (mO 13 fs) := by rw [mUp_ne (by omega), mUp_ne (by omega)]; exact m2
  have t68 : mUp (mUp h2 (b + 71) (mI 8 (fun j => iI (cpE zer pinI 0 8 j)))) (b + 72) (mI 8 (fun j => iI (cpE zer (fun _ => 56) 0 8 j))) (b + 68) = some (mI 32 (fun _ => iI 0)) := by rw [mUp_ne (by omega), mUp_ne (by omega)]; exact r68
  have t69 : mUp (mUp h2 (b + 71) (mI 8 (fun j => iI (cpE zer pinI 0 8 j)))) (b + 72) (mI 8 (fun j => iI (cpE zer (fun _ => 56) 0 8 j))) (b + 69) = some (mI 9 (fun _ => iI 0)) := by rw [mUp_ne (by omega), mUp_ne (by omega)]; exact r69
  have t70 : mUp (mUp h2 (b + 71) (mI 8 (fun j => iI (cpE zer pinI 0 8 j)))) (b + 72) (mI 8 (fun j => iI (cpE zer (fun _ => 56) 0 8 j))) (b + 70) = some (mZ 9 (fun _ => iI 0)) := by rw [mUp_ne (by omega), mUp_ne (by omega)]; exact r70
  generalize mUp (mUp h2 (b + 71) (mI 8 (fun j => iI (cpE zer pinI 0 8 j)))) (b + 72) (mI 8 (fun j => iI (cpE zer (fun _ => 56) 0 8 j))) = h3 at *
  have y3 := c184_e (G := G) (h := h3) (m := b + 43) (p := b + 68) (fs := fs) (n := n) (k := k) (Q := Q) m3 f30 (by omega) (by omega) 32 0 (by omega) (by omega)
  rw [cpE_0, mUp_self (h := h3) (a := b + 68) (e := mI 32 (fun j => iI (zer j))) t68] at y3
  have y3a : mX G 184 364 [.ref (b + 43), .int (iI 8)] [] h3 n k Q ↔ mX G 184 366 [.ref (b + 43), .int (iI 0)] [] h3 n k Q := by
    simp (maxSteps := 1000000) (disch := first | omega | (simp only [updI_at, upA_at, Nat.reduceEqDiff, reduceIte]; omega) | exact mIsRef_rf _ | exact rfl) only [↓s184_364, ↓s184_365, mN1_int, mN1_ref, mN1_null, mN1_U, mN1_rf, mCats_nil, mCats_int, mCats_ref, mCats_null, mCats_long, mCats_rf, mIsRef_ref, mIsRef_null, mIsRef_va, mRf_ref, mRf_null, mRf_rf, true_and, and_true, true_or, or_true, eq_self_iff_true, mK_v, mK_0, Nat.reduceAdd, Nat.reduceLeDiff, Nat.zero_le, iL_0, iL_1, iL_m1, iI_add, iI_sub, iI_mul, iI_neg, updI_at, upA_at, upP_at, upR_at, Nat.reduceEqDiff, reduceIte, Int.reduceAdd, Int.reduceSub, Int.reduceMul, Int.reduceDiv, Int.reduceMod, Int.reduceLT, Int.reduceLE, Int.reduceEq, Int.reduceNeg, not_true_eq_false, not_false_eq_true, Decidable.not_not]
  rw [y3a, y3]
  have m4 : mUp h3 (b + 68) (mI 32 (fun j => iI (cpE zer (fun _ => -1) 0 32 j))) (b + 43) = some (mO 13 fs) := by rw [mUp_ne (by omega)]; exact m3
  have u69 : mUp h3 (b + 68) (mI 32 (fun j => iI (cpE zer (fun _ => -1) 0 32 j))) (b + 69) = some (mI 9 (fun _ => iI 0)) := by rw [mUp_ne (by omega)]; exact t69
  have u70 : mUp h3 (b + 68) (mI 32 (fun j => iI (cpE zer (fun _ => -1) 0 32 j))) (b + 70) = some (mZ 9 (fun _ => iI 0)) := by rw [mUp_ne (by omega)]; exact t70
  generalize mUp h3 (b + 68) (mI 32 (fun j => iI (cpE zer (fun _ => -1) 0 32 j))) = h4 at *
  have y4 := c184_t (G := G) (h := h4) (m := b + 43) (p := b + 69) (fs := fs) (n := n) (k := k) (Q := Q) m4 f31 (by omega) (by omega) 9 0 (by omega) (by omega)
  rw [cpE_0, mUp_self (h := h4) (a := b + 69) (e := mI 9 (fun j => iI (zer j))) u69] at y4
  have y4a : mX G 184 385 [.ref (b + 43), .int (iI 32)] [] h4 n k Q ↔ mX G 184 387 [.ref (b + 43), .int (iI 0)] [] h4 n k Q := by
    simp (maxSteps := 1000000) (disch := first | omega | (simp only [updI_at, upA_at, Nat.reduceEqDiff, reduceIte]; omega) | exact mIsRef_rf _ | exact rfl) only [↓s184_385, ↓s184_386, mN1_int, mN1_ref, mN1_null, mN1_U, mN1_rf, mCats_nil, mCats_int, mCats_ref, mCats_null, mCats_long, mCats_rf, mIsRef_ref, mIsRef_null, mIsRef_va, mRf_ref, mRf_null, mRf_rf, true_and, and_true, true_or, or_true, eq_self_iff_true, mK_v, mK_0, Nat.reduceAdd, Nat.reduceLeDiff, Nat.zero_le, iL_0, iL_1, iL_m1, iI_add, iI_sub, iI_mul, iI_neg, updI_at, upA_at, upP_at, upR_at, Nat.reduceEqDiff, reduceIte, Int.reduceAdd, Int.reduceSub, Int.reduceMul, Int.reduceDiv, Int.reduceMod, Int.reduceLT, Int.reduceLE, Int.reduceEq, Int.reduceNeg, not_true_eq_false, not_false_eq_true, Decidable.not_not]
  rw [y4a, y4]
  exact c184_o hb (by rw [mUp_ne (by omega)]; exact m4) hl f32 (by rw [mUp_ne (by omega)]; exact u70)
end MCTOR3D
