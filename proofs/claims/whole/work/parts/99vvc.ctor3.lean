/-! Its loops. -/
section MCTOR3C
variable {G : mG} {h h0 : mH} {n k b : Nat} {Q : mR → Prop} {I : Nat → Int} {A : Nat → Nat → Int} {P : Nat → Nat} {R : Nat → Option Nat} {o : Nat → Int64}
theorem hStZ {a N : Nat} {g : Nat → Int} {z x : Int} {K : mH → Prop} (hh : h a = some (mZ N (fun j => iI (g j)))) (hN : N < 2147483648) (hb : G.2.2.2 ≤ a) (h1 : 0 ≤ z) (h2 : z < N) (hx : x = 0 ∨ x = 1) : mStZ G h a (iI z) (iI x) K ↔ K (mUp h a (mZ N (fun j => iI (upE g z.toNat x j)))) := by
  unfold mStZ; rw [hh]; dsimp only [mZ]
  have q := iI_ix h1 h2 hN
  rw [iI_nat (by omega) (by omega)] at q ⊢
  rw [updI_iI]
  exact ⟨fun q => q.2, fun w => ⟨⟨rfl, hb, q.1, q.2, by rcases hx with rfl | rfl <;> decide⟩, w⟩⟩
theorem upE_z (i : Nat) : upE zer i 0 = zer := by
  funext j
  unfold upE
  split <;> rfl
section
variable {m p p2 : Nat} {fs : List Value}
theorem c184_p (hm : h m = some (mO 13 fs)) (f1 : fs[33]? = some (.ref p)) (f2 : fs[34]? = some (.ref p2)) (hmp : m ≠ p ∧ m ≠ p2 ∧ p ≠ p2) (hb : G.2.2.2 ≤ p ∧ G.2.2.2 ≤ p2) : ∀ (d : Nat) (c : Int), 0 ≤ c → c + d = 8 →
    (mX G 184 323 [.ref m, .int (iI c)] [] (mUp (mUp h p (mI 8 (fun j => iI (cpE zer pinI 0 c j)))) p2 (mI 8 (fun j => iI (cpE zer (fun _ => 56) 0 c j)))) n k Q ↔ mX G 184 364 [.ref m, .int (iI 8)] [] (mUp (mUp h p (mI 8 (fun j => iI (cpE zer pinI 0 8 j)))) p2 (mI 8 (fun j => iI (cpE zer (fun _ => 56) 0 8 j)))) n k Q) := by
  intro d
  induction d with
  | zero =>
    intro c h1 h2
    obtain rfl : c = 8 := by omega
    rw [s184_323]
    simp (maxSteps := 1000000) (disch := first | omega | (simp only [updI_at, upA_at, Nat.reduceEqDiff, reduceIte]; omega) | exact mIsRef_rf _ | exact rfl) only [↓s184_324, ↓s184_326, ↓s184_329, ↓s184_330, ↓s184_333, ↓s184_334, ↓s184_335, ↓s184_336, ↓s184_339, ↓s184_341, ↓s184_342, ↓s184_343, ↓s184_346, ↓s184_349, ↓s184_350, ↓s184_351, ↓s184_354, ↓s184_355, ↓s184_357, ↓s184_358, ↓s184_361, iL_255, iL_4, iL_49, iL_56, iL_8, wg_43_33, wg_43_34, wl_71, wl_72, wn_71, wn_72, ws_71, ws_72, mN1_int, mN1_ref, mN1_null, mN1_U, mN1_rf, mCats_nil, mCats_int, mCats_ref, mCats_null, mCats_long, mCats_rf, mIsRef_ref, mIsRef_null, mIsRef_va, mRf_ref, mRf_null, mRf_rf, true_and, and_true, true_or, or_true, eq_self_iff_true, mK_v, mK_0, Nat.reduceAdd, Nat.reduceLeDiff, Nat.zero_le, iL_0, iL_1, iL_m1, iI_add, iI_sub, iI_mul, iI_neg, updI_at, upA_at, upP_at, upR_at, Nat.reduceEqDiff, reduceIte, Int.reduceAdd, Int.reduceSub, Int.reduceMul, Int.reduceDiv, Int.reduceMod, Int.reduceLT, Int.reduceLE, Int.reduceEq, Int.reduceNeg, not_true_eq_false, not_false_eq_true, Decidable.not_not, iI_le]
  | succ d ih =>
    intro c h1 h2
    have hc' : ¬ (8 : Int) ≤ c := by omega
    have e1 := cpE_s (g := zer) (f := pinI) (lo := 0) (c := c) (by omega) h1
    have e2 := cpE_s (g := zer) (f := fun _ => 56) (lo := 0) (c := c) (by omega) h1
    rw [Int.zero_add] at e1 e2
    rw [← ih (c + 1) (by omega) (by omega)]
    have q0 : mUp (mUp h p (mI 8 (fun j => iI (cpE zer pinI 0 c j)))) p2 (mI 8 (fun j => iI (cpE zer (fun _ => 56) 0 c j))) m = some (mO 13 fs) := by rw [mUp_ne hmp.2.1, mUp_ne hmp.1]; exact hm
    have g1 : ∀ K, mGet (mUp (mUp h p (mI 8 (fun j => iI (cpE zer pinI 0 c j)))) p2 (mI 8 (fun j => iI (cpE zer (fun _ => 56) 0 c j)))) m 13 33 K ↔ K (.ref p) := fun K => hGet q0 f1
    have s1 : ∀ K, mStI G (mUp (mUp h p (mI 8 (fun j => iI (cpE zer pinI 0 c j)))) p2 (mI 8 (fun j => iI (cpE zer (fun _ => 56) 0 c j)))) p (iI c) (iI (pinI c.toNat)) K ↔ K (mUp (mUp h p (mI 8 (fun j => iI (cpE zer pinI 0 (c + 1) j)))) p2 (mI 8 (fun j => iI (cpE zer (fun _ => 56) 0 c j)))) := fun K => by
      rw [hSt (g := cpE zer pinI 0 c) (x := pinI c.toNat) (z := c) (by rw [mUp_ne hmp.2.2, mUp_same]) (by omega) hb.1 h1 (by omega), e1, mUp_comm (Ne.symm hmp.2.2), mUp_mUp]
    have q1 : mUp (mUp h p (mI 8 (fun j => iI (cpE zer pinI 0 (c + 1) j)))) p2 (mI 8 (fun j => iI (cpE zer (fun _ => 56) 0 c j))) m = some (mO 13 fs) := by rw [mUp_ne hmp.2.1, mUp_ne hmp.1]; exact hm
    have g2 : ∀ K, mGet (mUp (mUp h p (mI 8 (fun j => iI (cpE zer pinI 0 (c + 1) j)))) p2 (mI 8 (fun j => iI (cpE zer (fun _ => 56) 0 c j)))) m 13 34 K ↔ K (.ref p2) := fun K => hGet q1 f2
    have s2 : ∀ K, mStI G (mUp (mUp h p (mI 8 (fun j => iI (cpE zer pinI 0 (c + 1) j)))) p2 (mI 8 (fun j => iI (cpE zer (fun _ => 56) 0 c j)))) p2 (iI c) (iI 56) K ↔ K (mUp (mUp h p (mI 8 (fun j => iI (cpE zer pinI 0 (c + 1) j)))) p2 (mI 8 (fun j => iI (cpE zer (fun _ => 56) 0 (c + 1) j)))) := fun K => by
      rw [hSt (g := cpE zer (fun _ => 56) 0 c) (x := 56) (z := c) (mUp_same _ _ _) (by omega) hb.2 h1 (by omega), e2, mUp_mUp]
    generalize mUp (mUp h p (mI 8 (fun j => iI (cpE zer pinI 0 c j)))) p2 (mI 8 (fun j => iI (cpE zer (fun _ => 56) 0 c j))) = H1 at *
    generalize mUp (mUp h p (mI 8 (fun j => iI (cpE zer pinI 0 (c + 1) j)))) p2 (mI 8 (fun j => iI (cpE zer (fun _ => 56) 0 c j))) = H2 at *
    generalize mUp (mUp h p (mI 8 (fun j => iI (cpE zer pinI 0 (c + 1) j)))) p2 (mI 8 (fun j => iI (cpE zer (fun _ => 56) 0 (c + 1) j))) = H3 at *
    rw [s184_323]
    by_cases q : c < 4
    · have ep : pinI c.toNat = 49 + c := by unfold pinI; rw [if_pos (by omega)]; omega
      rw [ep] at s1
      have q' : ¬ 4 ≤ c := by omega
      simp (maxSteps := 1000000) (disch := first | omega | (simp only [updI_at, upA_at, Nat.reduceEqDiff, reduceIte]; omega) | exact mIsRef_rf _ | exact rfl) only [↓s184_324, ↓s184_326, ↓s184_329, ↓s184_330, ↓s184_333, ↓s184_334, ↓s184_335, ↓s184_336, ↓s184_339, ↓s184_341, ↓s184_342, ↓s184_343, ↓s184_346, ↓s184_349, ↓s184_350, ↓s184_351, ↓s184_354, ↓s184_355, ↓s184_357, ↓s184_358, ↓s184_361, iL_255, iL_4, iL_49, iL_56, iL_8, wg_43_33, wg_43_34, wl_71, wl_72, wn_71, wn_72, ws_71, ws_72, mN1_int, mN1_ref, mN1_null, mN1_U, mN1_rf, mCats_nil, mCats_int, mCats_ref, mCats_null, mCats_long, mCats_rf, mIsRef_ref, mIsRef_null, mIsRef_va, mRf_ref, mRf_null, mRf_rf, true_and, and_true, true_or, or_true, eq_self_iff_true, mK_v, mK_0, Nat.reduceAdd, Nat.reduceLeDiff, Nat.zero_le, iL_0, iL_1, iL_m1, iI_add, iI_sub, iI_mul, iI_neg, updI_at, upA_at, upP_at, upR_at, Nat.reduceEqDiff, reduceIte, Int.reduceAdd, Int.reduceSub, Int.reduceMul, Int.reduceDiv, Int.reduceMod, Int.reduceLT, Int.reduceLE, Int.reduceEq, Int.reduceNeg, not_true_eq_false, not_false_eq_true, Decidable.not_not, iI_le, hc', q', g1, s1, g2, s2]
    · have ep : pinI c.toNat = 255 := by unfold pinI; rw [if_neg (by omega)]
      rw [ep] at s1
      have q' : 4 ≤ c := by omega
      simp (maxSteps := 1000000) (disch := first | omega | (simp only [updI_at, upA_at, Nat.reduceEqDiff, reduceIte]; omega) | exact mIsRef_rf _ | exact rfl) only [↓s184_324, ↓s184_326, ↓s184_329, ↓s184_330, ↓s184_333, ↓s184_334, ↓s184_335, ↓s184_336, ↓s184_339, ↓s184_341, ↓s184_342, ↓s184_343, ↓s184_346, ↓s184_349, ↓s184_350, ↓s184_351, ↓s184_354, ↓s184_355, ↓s184_357, ↓s184_358, ↓s184_361, iL_255, iL_4, iL_49, iL_56, iL_8, wg_43_33, wg_43_34, wl_71, wl_72, wn_71, wn_72, ws_71, ws_72, mN1_int, mN1_ref, mN1_null, mN1_U, mN1_rf, mCats_nil, mCats_int, mCats_ref, mCats_null, mCats_long, mCats_rf, mIsRef_ref, mIsRef_null, mIsRef_va, mRf_ref, mRf_null, mRf_rf, true_and, and_true, true_or, or_true, eq_self_iff_true, mK_v, mK_0, Nat.reduceAdd, Nat.reduceLeDiff, Nat.zero_le, iL_0, iL_1, iL_m1, iI_add, iI_sub, iI_mul, iI_neg, updI_at, upA_at, upP_at, upR_at, Nat.reduceEqDiff, reduceIte, Int.reduceAdd, Int.reduceSub, Int.reduceMul, Int.reduceDiv, Int.reduceMod, Int.reduceLT, Int.reduceLE, Int.reduceEq, Int.reduceNeg, not_true_eq_false, not_false_eq_true, Decidable.not_not, iI_le, hc', q', g1, s1, g2, s2]
theorem c184_e (hm : h m = some (mO 13 fs)) (f1 : fs[30]? = some (.ref p)) (hmp : m ≠ p) (hb : G.2.2.2 ≤ p) : ∀ (d : Nat) (c : Int), 0 ≤ c → c + d = 32 →
    (mX G 184 366 [.ref m, .int (iI c)] [] (mUp h p (mI 32 (fun j => iI (cpE zer (fun _ => -1) 0 c j)))) n k Q ↔ mX G 184 385 [.ref m, .int (iI 32)] [] (mUp h p (mI 32 (fun j => iI (cpE zer (fun _ => -1) 0 32 j)))) n k Q) := by
  intro d
  induction d with
  | zero =>
    intro c h1 h2
    obtain rfl : c = 32 := by omega
    rw [s184_366]
    simp (maxSteps := 1000000) (disch := first | omega | (simp only [updI_at, upA_at, Nat.reduceEqDiff, reduceIte]; omega) | exact mIsRef_rf _ | exact rfl) only [↓s184_367, ↓s184_369, ↓s184_372, ↓s184_373, ↓s184_376, ↓s184_377, ↓s184_378, ↓s184_379, ↓s184_382, iL_32, wg_43_30, wl_68, wn_68, ws_68, mN1_int, mN1_ref, mN1_null, mN1_U, mN1_rf, mCats_nil, mCats_int, mCats_ref, mCats_null, mCats_long, mCats_rf, mIsRef_ref, mIsRef_null, mIsRef_va, mRf_ref, mRf_null, mRf_rf, true_and, and_true, true_or, or_true, eq_self_iff_true, mK_v, mK_0, Nat.reduceAdd, Nat.reduceLeDiff, Nat.zero_le, iL_0, iL_1, iL_m1, iI_add, iI_sub, iI_mul, iI_neg, updI_at, upA_at, upP_at, upR_at, Nat.reduceEqDiff, reduceIte, Int.reduceAdd, Int.reduceSub, Int.reduceMul, Int.reduceDiv, Int.reduceMod, Int.reduceLT, Int.reduceLE, Int.reduceEq, Int.reduceNeg, not_true_eq_false, not_false_eq_true, Decidable.not_not, iI_le]
  | succ d ih =>
    intro c h1 h2
    have hc' : ¬ (32 : Int) ≤ c := by omega
    have e1 := cpE_s (g := zer) (f := fun _ => -1) (lo := 0) (c := c) (by omega) h1
    rw [Int.zero_add] at e1
    rw [← ih (c + 1) (by omega) (by omega)]
    have q0 : mUp h p (mI 32 (fun j => iI (cpE zer (fun _ => -1) 0 c j))) m = some (mO 13 fs) := by rw [mUp_ne hmp]; exact hm
    have g1 : ∀ K, mGet (mUp h p (mI 32 (fun j => iI (cpE zer (fun _ => -1) 0 c j)))) m 13 30 K ↔ K (.ref p) := fun K => hGet q0 f1
    have s1 : ∀ K, mStI G (mUp h p (mI 32 (fun j => iI (cpE zer (fun _ => -1) 0 c j)))) p (iI c) (iI (-1)) K ↔ K (mUp h p (mI 32 (fun j => iI (cpE zer (fun _ => -1) 0 (c + 1) j)))) := fun K => by
      rw [hSt (g := cpE zer (fun _ => -1) 0 c) (x := -1) (z := c) (mUp_same _ _ _) (by omega) hb h1 (by omega), e1, mUp_mUp]
    generalize mUp h p (mI 32 (fun j => iI (cpE zer (fun _ => -1) 0 c j))) = H1 at *
    generalize mUp h p (mI 32 (fun j => iI (cpE zer (fun _ => -1) 0 (c + 1) j))) = H2 at *
    rw [s184_366]
    simp (maxSteps := 1000000) (disch := first | omega | (simp only [updI_at, upA_at, Nat.reduceEqDiff, reduceIte]; omega) | exact mIsRef_rf _ | exact rfl) only [↓s184_367, ↓s184_369, ↓s184_372, ↓s184_373, ↓s184_376, ↓s184_377, ↓s184_378, ↓s184_379, ↓s184_382, iL_32, wg_43_30, wl_68, wn_68, ws_68, mN1_int, mN1_ref, mN1_null, mN1_U, mN1_rf, mCats_nil, mCats_int, mCats_ref, mCats_null, mCats_long, mCats_rf, mIsRef_ref, mIsRef_null, mIsRef_va, mRf_ref, mRf_null, mRf_rf, true_and, and_true, true_or, or_true, eq_self_iff_true, mK_v, mK_0, Nat.reduceAdd, Nat.reduceLeDiff, Nat.zero_le, iL_0, iL_1, iL_m1, iI_add, iI_sub, iI_mul, iI_neg, updI_at, upA_at, upP_at, upR_at, Nat.reduceEqDiff, reduceIte, Int.reduceAdd, Int.reduceSub, Int.reduceMul, Int.reduceDiv, Int.reduceMod, Int.reduceLT, Int.reduceLE, Int.reduceEq, Int.reduceNeg, not_true_eq_false, not_false_eq_true, Decidable.not_not, iI_le, hc', g1, s1]
theorem c184_t (hm : h m = some (mO 13 fs)) (f1 : fs[31]? = some (.ref p)) (hmp : m ≠ p) (hb : G.2.2.2 ≤ p) : ∀ (d : Nat) (c : Int), 0 ≤ c → c + d = 9 →
    (mX G 184 387 [.ref m, .int (iI c)] [] (mUp h p (mI 9 (fun j => iI (cpE zer (fun _ => -1) 0 c j)))) n k Q ↔ mX G 184 406 [.ref m, .int (iI 9)] [] (mUp h p (mI 9 (fun j => iI (cpE zer (fun _ => -1) 0 9 j)))) n k Q) := by
  intro d
  induction d with
  | zero =>
    intro c h1 h2
    obtain rfl : c = 9 := by omega
    rw [s184_387]
    simp (maxSteps := 1000000) (disch := first | omega | (simp only [updI_at, upA_at, Nat.reduceEqDiff, reduceIte]; omega) | exact mIsRef_rf _ | exact rfl) only [↓s184_388, ↓s184_390, ↓s184_393, ↓s184_394, ↓s184_397, ↓s184_398, ↓s184_399, ↓s184_400, ↓s184_403, iL_9, wg_43_31, wl_69, wn_69, ws_69, mN1_int, mN1_ref, mN1_null, mN1_U, mN1_rf, mCats_nil, mCats_int, mCats_ref, mCats_null, mCats_long, mCats_rf, mIsRef_ref, mIsRef_null, mIsRef_va, mRf_ref, mRf_null, mRf_rf, true_and, and_true, true_or, or_true, eq_self_iff_true, mK_v, mK_0, Nat.reduceAdd, Nat.reduceLeDiff, Nat.zero_le, iL_0, iL_1, iL_m1, iI_add, iI_sub, iI_mul, iI_neg, updI_at, upA_at, upP_at, upR_at, Nat.reduceEqDiff, reduceIte, Int.reduceAdd, Int.reduceSub, Int.reduceMul, Int.reduceDiv, Int.reduceMod, Int.reduceLT, Int.reduceLE, Int.reduceEq, Int.reduceNeg, not_true_eq_false, not_false_eq_true, Decidable.not_not, iI_le]
  | succ d ih =>
    intro c h1 h2
    have hc' : ¬ (9 : Int) ≤ c := by omega
    have e1 := cpE_s (g := zer) (f := fun _ => -1) (lo := 0) (c := c) (by omega) h1
    rw [Int.zero_add] at e1
    rw [← ih (c + 1) (by omega) (by omega)]
    have q0 : mUp h p (mI 9 (fun j => iI (cpE zer (fun _ => -1) 0 c j))) m = some (mO 13 fs) := by rw [mUp_ne hmp]; exact hm
    have g1 : ∀ K, mGet (mUp h p (mI 9 (fun j => iI (cpE zer (fun _ => -1) 0 c j)))) m 13 31 K ↔ K (.ref p) := fun K => hGet q0 f1
    have s1 : ∀ K, mStI G (mUp h p (mI 9 (fun j => iI (cpE zer (fun _ => -1) 0 c j)))) p (iI c) (iI (-1)) K ↔ K (mUp h p (mI 9 (fun j => iI (cpE zer (fun _ => -1) 0 (c + 1) j)))) := fun K => by
      rw [hSt (g := cpE zer (fun _ => -1) 0 c) (x := -1) (z := c) (mUp_same _ _ _) (by omega) hb h1 (by omega), e1, mUp_mUp]
    generalize mUp h p (mI 9 (fun j => iI (cpE zer (fun _ => -1) 0 c j))) = H1 at *
    generalize mUp h p (mI 9 (fun j => iI (cpE zer (fun _ => -1) 0 (c + 1) j))) = H2 at *
    rw [s184_387]
    simp (maxSteps := 1000000) (disch := first | omega | (simp only [updI_at, upA_at, Nat.reduceEqDiff, reduceIte]; omega) | exact mIsRef_rf _ | exact rfl) only [↓s184_388, ↓s184_390, ↓s184_393, ↓s184_394, ↓s184_397, ↓s184_398, ↓s184_399, ↓s184_400, ↓s184_403, iL_9, wg_43_31, wl_69, wn_69, ws_69, mN1_int, mN1_ref, mN1_null, mN1_U, mN1_rf, mCats_nil, mCats_int, mCats_ref, mCats_null, mCats_long, mCats_rf, mIsRef_ref, mIsRef_null, mIsRef_va, mRf_ref, mRf_null, mRf_rf, true_and, and_true, true_or, or_true, eq_self_iff_true, mK_v, mK_0, Nat.reduceAdd, Nat.reduceLeDiff, Nat.zero_le, iL_0, iL_1, iL_m1, iI_add, iI_sub, iI_mul, iI_neg, updI_at, upA_at, upP_at, upR_at, Nat.reduceEqDiff, reduceIte, Int.reduceAdd, Int.reduceSub, Int.reduceMul, Int.reduceDiv, Int.reduceMod, Int.reduceLT, Int.reduceLE, Int.reduceEq, Int.reduceNeg, not_true_eq_false, not_false_eq_true, Decidable.not_not, iI_le, hc', g1, s1]
theorem r202_l (hm : h m = some (mO 13 fs)) (f1 : fs[32]? = some (.ref p)) (hp : h p = some (mZ 9 (fun _ => iI 0))) (hb : G.2.2.2 ≤ p) : ∀ (d : Nat) (c : Int), 0 ≤ c → c + d = 9 → (mX G 202 12 [.ref m, .int (iI c)] [] h n k Q ↔ Q (.inl none, h, n, k)) := by
  intro d
  induction d with
  | zero =>
    intro c h1 h2
    obtain rfl : c = 9 := by omega
    rw [s202_12]
    simp (maxSteps := 1000000) (disch := first | omega | (simp only [updI_at, upA_at, Nat.reduceEqDiff, reduceIte]; omega) | exact mIsRef_rf _ | exact rfl) only [↓s202_0, ↓s202_1, ↓s202_2, ↓s202_5, ↓s202_6, ↓s202_7, ↓s202_10, ↓s202_11, ↓s202_13, ↓s202_15, ↓s202_18, ↓s202_19, ↓s202_22, ↓s202_23, ↓s202_24, ↓s202_25, ↓s202_28, ↓s202_31, iL_9, wg_43_32, wl_70, wn_70, wp_43_44, wp_43_46, ws_70, mN1_int, mN1_ref, mN1_null, mN1_U, mN1_rf, mCats_nil, mCats_int, mCats_ref, mCats_null, mCats_long, mCats_rf, mIsRef_ref, mIsRef_null, mIsRef_va, mRf_ref, mRf_null, mRf_rf, true_and, and_true, true_or, or_true, eq_self_iff_true, mK_v, mK_0, Nat.reduceAdd, Nat.reduceLeDiff, Nat.zero_le, iL_0, iL_1, iL_m1, iI_add, iI_sub, iI_mul, iI_neg, updI_at, upA_at, upP_at, upR_at, Nat.reduceEqDiff, reduceIte, Int.reduceAdd, Int.reduceSub, Int.reduceMul, Int.reduceDiv, Int.reduceMod, Int.reduceLT, Int.reduceLE, Int.reduceEq, Int.reduceNeg, not_true_eq_false, not_false_eq_true, Decidable.not_not, iI_le]
  | succ d ih =>
    intro c h1 h2
    have hc' : ¬ (9 : Int) ≤ c := by omega
    have g1 : ∀ K, mGet h m 13 32 K ↔ K (.ref p) := fun K => hGet hm f1
    have s1 : ∀ K, mStZ G h p (iI c) (iI 0) K ↔ K h := fun K => by
      rw [hStZ (g := zer) (x := 0) (z := c) hp (by omega) hb h1 (by omega) (Or.inl rfl), upE_z]
      rw [mUp_self (e := mZ 9 (fun j => iI (zer j))) hp]
    rw [s202_12, ← ih (c + 1) (by omega) (by omega)]
    simp (maxSteps := 1000000) (disch := first | omega | (simp only [updI_at, upA_at, Nat.reduceEqDiff, reduceIte]; omega) | exact mIsRef_rf _ | exact rfl) only [↓s202_0, ↓s202_1, ↓s202_2, ↓s202_5, ↓s202_6, ↓s202_7, ↓s202_10, ↓s202_11, ↓s202_13, ↓s202_15, ↓s202_18, ↓s202_19, ↓s202_22, ↓s202_23, ↓s202_24, ↓s202_25, ↓s202_28, ↓s202_31, iL_9, wg_43_32, wl_70, wn_70, wp_43_44, wp_43_46, ws_70, mN1_int, mN1_ref, mN1_null, mN1_U, mN1_rf, mCats_nil, mCats_int, mCats_ref, mCats_null, mCats_long, mCats_rf, mIsRef_ref, mIsRef_null, mIsRef_va, mRf_ref, mRf_null, mRf_rf, true_and, and_true, true_or, or_true, eq_self_iff_true, mK_v, mK_0, Nat.reduceAdd, Nat.reduceLeDiff, Nat.zero_le, iL_0, iL_1, iL_m1, iI_add, iI_sub, iI_mul, iI_neg, updI_at, upA_at, upP_at, upR_at, Nat.reduceEqDiff, reduceIte, Int.reduceAdd, Int.reduceSub, Int.reduceMul, Int.reduceDiv, Int.reduceMod, Int.reduceLT, Int.reduceLE, Int.reduceEq, Int.reduceNeg, not_true_eq_false, not_false_eq_true, Decidable.not_not, iI_le, hc', g1, s1]
end
end MCTOR3C
