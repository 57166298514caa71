/-! Reference: keep, over, fine, response, profile, fetch. -/
section MRESP
variable {G : mG} {h h0 : mH} {n k b : Nat} {Q : mR → Prop} {I : Nat → Int} {A : Nat → Nat → Int} {P : Nat → Nat} {R : Nat → Option Nat} {o : Nat → Int64}
theorem seek_lo (p : Int → Prop) [DecidablePred p] : ∀ (d : Nat) (i : Int), seek p d i = -1 ∨ i ≤ seek p d i
  | 0, _ => Or.inl rfl
  | d + 1, i => by
    rw [seek_s]
    split
    · right; omega
    · have := seek_lo p d (i + 1)
      omega
def itF (A : Nat → Nat → Int) (x y : Int) : Int := seek (fun j => (A 33) j.toNat = y) ((A 32) x.toNat).toNat (5 * x)
theorem c193' {x y : Int} (hA : RgA A) (hx : 0 ≤ x ∧ x ≤ 40) (hy : -2147483648 ≤ y ∧ y < 2147483648) (hf : 0 ≤ (A 32) x.toNat ∧ (A 32) x.toNat ≤ 5) :
    mX G 193 0 [.ref (b + 43), .int (iI x), .int (iI y), mU] [] (wH h0 b I A P R o) n k Q ↔ Q (.inl (some (.int (iI (itF A x y)))), wH h0 b I A P R o, n, k) := c193 hA hx hy hf
theorem itF_rng {A : Nat → Nat → Int} {x y : Int} (hx : 0 ≤ x) (hf : 0 ≤ (A 32) x.toNat) : itF A x y = -1 ∨ 5 * x ≤ itF A x y ∧ itF A x y < 5 * x + (A 32) x.toNat := by
  have q1 := seek_lo (fun j => (A 33) j.toNat = y) ((A 32) x.toNat).toNat (5 * x)
  have q2 := seek_rng (fun j => (A 33) j.toNat = y) ((A 32) x.toNat).toNat (5 * x) (by omega)
  unfold itF
  omega
def kpG (A : Nat → Nat → Int) (s m : Int) : Nat → Int := fun j => if (j : Int) < m then (A 14) (s + j).toNat else 255
def kpA (A : Nat → Nat → Int) (f s m : Int) : Nat → Nat → Int := if (A 17) f.toNat = 1 then upA A 23 (cpE (A 23) (kpG A s m) ((A 22) f.toNat) ((A 18) f.toNat)) else A
theorem c254_l {f s m : Int} (hb : G.2.2.2 ≤ b) (hf : 0 ≤ f ∧ f < 40) (hk : (A 17) f.toNat = 1) (hz : 0 ≤ (A 18) f.toNat ∧ (A 18) f.toNat ≤ 1000) (hg : 0 ≤ (A 22) f.toNat ∧ (A 22) f.toNat + (A 18) f.toNat ≤ 8000) (hs : 0 ≤ s ∧ s + m ≤ 300) (hm : -10 ≤ m ∧ m ≤ 300) : ∀ (d : Nat) (c : Int), 0 ≤ c → c + d = (A 18) f.toNat →
    (mX G 254 3 [.ref (b + 43), .int (iI f), .int (iI s), .int (iI m), .int (iI c)] [] (wH h0 b I (upA A 23 (cpE (A 23) (kpG A s m) ((A 22) f.toNat) c)) P R o) n k Q ↔ Q (.inl none, wH h0 b I (upA A 23 (cpE (A 23) (kpG A s m) ((A 22) f.toNat) ((A 18) f.toNat))) P R o, n, k)) := by
  intro d
  induction d with
  | zero =>
    intro c h1 h2
    obtain rfl : c = (A 18) f.toNat := by omega
    rw [s254_3]
    simp (maxSteps := 1000000) (disch := first | omega | (simp only [updI_at, upA_at, lwI_at, Nat.reduceEqDiff, reduceIte, List.length_append, List.length_cons, List.length_nil, txtL_len, Nat.reduceAdd]; omega) | exact mIsRef_rf _ | exact rfl | assumption) only [↓s254_0, ↓s254_1, ↓s254_4, ↓s254_7, ↓s254_8, ↓s254_9, ↓s254_10, ↓s254_13, ↓s254_15, ↓s254_16, ↓s254_19, ↓s254_20, ↓s254_21, ↓s254_24, ↓s254_25, ↓s254_28, ↓s254_29, ↓s254_32, ↓s254_33, ↓s254_34, ↓s254_36, ↓s254_37, ↓s254_39, ↓s254_40, ↓s254_43, ↓s254_44, ↓s254_47, ↓s254_48, ↓s254_50, ↓s254_51, ↓s254_52, ↓s254_55, ↓s254_58, ↓s254_59, ↓s254_62, ↓s254_65, iL_255, wg_43_1, wg_43_11, wg_43_12, wg_43_6, wg_43_7, wl_44, wl_47, wl_48, wl_52, wl_53, wn_44, wn_47, wn_48, wn_52, wn_53, ws_44, ws_47, ws_48, ws_52, ws_53, mN1_int, mN1_ref, mN1_null, mN1_U, mN1_rf, mCats_nil, mCats_int, mCats_ref, mCats_null, mCats_long, mCats_rf, mIsRef_ref, mIsRef_null, mIsRef_va, mRf_ref, mRf_null, mRf_rf, true_and, and_true, true_or, or_true, eq_self_iff_true, mK_v, mK_0, Nat.reduceAdd, Nat.reduceLeDiff, Nat.zero_le, iL_0, iL_1, iL_m1, iI_add, iI_sub, iI_mul, iI_neg, updI_at, upA_at, upP_at, upR_at, Nat.reduceEqDiff, reduceIte, Int.reduceAdd, Int.reduceSub, Int.reduceMul, Int.reduceDiv, Int.reduceMod, Int.reduceLT, Int.reduceLE, Int.reduceEq, Int.reduceNeg, not_true_eq_false, not_false_eq_true, Decidable.not_not, iI_le, iI_eq, hk, Int.le_refl]
  | succ d ih =>
    intro c h1 h2
    have hc : ¬ (A 18) f.toNat ≤ c := by omega
    have e := cpE_s (g := (A 23)) (f := kpG A s m) (lo := (A 22) f.toNat) (c := c) (by omega) h1
    rw [s254_3]
    by_cases p : m ≤ c
    · have e2 : kpG A s m c.toNat = 255 := if_neg (by omega)
      rw [e2] at e
      simp (maxSteps := 1000000) (disch := first | omega | (simp only [updI_at, upA_at, lwI_at, Nat.reduceEqDiff, reduceIte, List.length_append, List.length_cons, List.length_nil, txtL_len, Nat.reduceAdd]; omega) | exact mIsRef_rf _ | exact rfl | assumption) only [↓s254_0, ↓s254_1, ↓s254_4, ↓s254_7, ↓s254_8, ↓s254_9, ↓s254_10, ↓s254_13, ↓s254_15, ↓s254_16, ↓s254_19, ↓s254_20, ↓s254_21, ↓s254_24, ↓s254_25, ↓s254_28, ↓s254_29, ↓s254_32, ↓s254_33, ↓s254_34, ↓s254_36, ↓s254_37, ↓s254_39, ↓s254_40, ↓s254_43, ↓s254_44, ↓s254_47, ↓s254_48, ↓s254_50, ↓s254_51, ↓s254_52, ↓s254_55, ↓s254_58, ↓s254_59, ↓s254_62, ↓s254_65, iL_255, wg_43_1, wg_43_11, wg_43_12, wg_43_6, wg_43_7, wl_44, wl_47, wl_48, wl_52, wl_53, wn_44, wn_47, wn_48, wn_52, wn_53, ws_44, ws_47, ws_48, ws_52, ws_53, mN1_int, mN1_ref, mN1_null, mN1_U, mN1_rf, mCats_nil, mCats_int, mCats_ref, mCats_null, mCats_long, mCats_rf, mIsRef_ref, mIsRef_null, mIsRef_va, mRf_ref, mRf_null, mRf_rf, true_and, and_true, true_or, or_true, eq_self_iff_true, mK_v, mK_0, Nat.reduceAdd, Nat.reduceLeDiff, Nat.zero_le, iL_0, iL_1, iL_m1, iI_add, iI_sub, iI_mul, iI_neg, updI_at, upA_at, upP_at, upR_at, Nat.reduceEqDiff, reduceIte, Int.reduceAdd, Int.reduceSub, Int.reduceMul, Int.reduceDiv, Int.reduceMod, Int.reduceLT, Int.reduceLE, Int.reduceEq, Int.reduceNeg, not_true_eq_false, not_false_eq_true, Decidable.not_not, iI_le, iI_eq, hk, hc, p, upA_upA]
      rw [e]
      exact ih (c + 1) (by omega) (by omega)
    · have e2 : kpG A s m c.toNat = (A 14) (s + c).toNat := by
        unfold kpG
        rw [if_pos (by omega), show s + ((c.toNat : Nat) : Int) = s + c by omega]
      rw [e2] at e
      simp (maxSteps := 1000000) (disch := first | omega | (simp only [updI_at, upA_at, lwI_at, Nat.reduceEqDiff, reduceIte, List.length_append, List.length_cons, List.length_nil, txtL_len, Nat.reduceAdd]; omega) | exact mIsRef_rf _ | exact rfl | assumption) only [↓s254_0, ↓s254_1, ↓s254_4, ↓s254_7, ↓s254_8, ↓s254_9, ↓s254_10, ↓s254_13, ↓s254_15, ↓s254_16, ↓s254_19, ↓s254_20, ↓s254_21, ↓s254_24, ↓s254_25, ↓s254_28, ↓s254_29, ↓s254_32, ↓s254_33, ↓s254_34, ↓s254_36, ↓s254_37, ↓s254_39, ↓s254_40, ↓s254_43, ↓s254_44, ↓s254_47, ↓s254_48, ↓s254_50, ↓s254_51, ↓s254_52, ↓s254_55, ↓s254_58, ↓s254_59, ↓s254_62, ↓s254_65, iL_255, wg_43_1, wg_43_11, wg_43_12, wg_43_6, wg_43_7, wl_44, wl_47, wl_48, wl_52, wl_53, wn_44, wn_47, wn_48, wn_52, wn_53, ws_44, ws_47, ws_48, ws_52, ws_53, mN1_int, mN1_ref, mN1_null, mN1_U, mN1_rf, mCats_nil, mCats_int, mCats_ref, mCats_null, mCats_long, mCats_rf, mIsRef_ref, mIsRef_null, mIsRef_va, mRf_ref, mRf_null, mRf_rf, true_and, and_true, true_or, or_true, eq_self_iff_true, mK_v, mK_0, Nat.reduceAdd, Nat.reduceLeDiff, Nat.zero_le, iL_0, iL_1, iL_m1, iI_add, iI_sub, iI_mul, iI_neg, updI_at, upA_at, upP_at, upR_at, Nat.reduceEqDiff, reduceIte, Int.reduceAdd, Int.reduceSub, Int.reduceMul, Int.reduceDiv, Int.reduceMod, Int.reduceLT, Int.reduceLE, Int.reduceEq, Int.reduceNeg, not_true_eq_false, not_false_eq_true, Decidable.not_not, iI_le, iI_eq, hk, hc, p, upA_upA]
      rw [e]
      exact ih (c + 1) (by omega) (by omega)
theorem c254 {f s m : Int} (hb : G.2.2.2 ≤ b) (hM : iM I A) (hf : 0 ≤ f ∧ f < (I 29)) (hs : 0 ≤ s ∧ s + m ≤ 300) (hm : -10 ≤ m ∧ m ≤ 300) : mX G 254 0 [.ref (b + 43), .int (iI f), .int (iI s), .int (iI m), mU] [] (wH h0 b I A P R o) n k Q ↔ Q (.inl none, wH h0 b I (kpA A f s m) P R o, n, k) := by
  obtain ⟨hA, ⟨f1, f2, f3, f4⟩, hH, hN, hS, hT⟩ := hM
  obtain ⟨o1, o2, o3, o4, o5⟩ := f3 f.toNat (by omega)
  have g := hA 17 f.toNat
  unfold kpA
  by_cases p : (A 17) f.toNat = 1
  · rw [if_pos p]
    rw [p] at o2
    have o6 := shp_1 o2
    rw [o6.2] at o4
    have o7 := shp_sz o2
    have e : wH h0 b I A P R o = wH h0 b I (upA A 23 (cpE (A 23) (kpG A s m) ((A 22) f.toNat) 0)) P R o := by rw [cpE_0, upA_self]
    simp (maxSteps := 1000000) (disch := first | omega | (simp only [updI_at, upA_at, lwI_at, Nat.reduceEqDiff, reduceIte, List.length_append, List.length_cons, List.length_nil, txtL_len, Nat.reduceAdd]; omega) | exact mIsRef_rf _ | exact rfl | assumption) only [↓s254_0, ↓s254_1, mN1_int, mN1_ref, mN1_null, mN1_U, mN1_rf, mCats_nil, mCats_int, mCats_ref, mCats_null, mCats_long, mCats_rf, mIsRef_ref, mIsRef_null, mIsRef_va, mRf_ref, mRf_null, mRf_rf, true_and, and_true, true_or, or_true, eq_self_iff_true, mK_v, mK_0, Nat.reduceAdd, Nat.reduceLeDiff, Nat.zero_le, iL_0, iL_1, iL_m1, iI_add, iI_sub, iI_mul, iI_neg, updI_at, upA_at, upP_at, upR_at, Nat.reduceEqDiff, reduceIte, Int.reduceAdd, Int.reduceSub, Int.reduceMul, Int.reduceDiv, Int.reduceMod, Int.reduceLT, Int.reduceLE, Int.reduceEq, Int.reduceNeg, not_true_eq_false, not_false_eq_true, Decidable.not_not]
    rw [e]
    exact c254_l hb (by omega) p (by omega) (by omega) hs hm ((A 18) f.toNat).toNat 0 (by omega) (by omega)
  · rw [if_neg p]
    simp (maxSteps := 1000000) (disch := first | omega | (simp only [updI_at, upA_at, lwI_at, Nat.reduceEqDiff, reduceIte, List.length_append, List.length_cons, List.length_nil, txtL_len, Nat.reduceAdd]; omega) | exact mIsRef_rf _ | exact rfl | assumption) only [↓s254_0, ↓s254_1, ↓s254_3, ↓s254_4, ↓s254_7, ↓s254_8, ↓s254_9, ↓s254_10, ↓s254_13, ↓s254_15, ↓s254_16, ↓s254_19, ↓s254_20, ↓s254_21, ↓s254_24, ↓s254_25, ↓s254_28, ↓s254_29, ↓s254_32, ↓s254_33, ↓s254_34, ↓s254_36, ↓s254_37, ↓s254_39, ↓s254_40, ↓s254_43, ↓s254_44, ↓s254_47, ↓s254_48, ↓s254_50, ↓s254_51, ↓s254_52, ↓s254_55, ↓s254_58, ↓s254_59, ↓s254_62, ↓s254_65, iL_255, wg_43_1, wg_43_11, wg_43_12, wg_43_6, wg_43_7, wl_44, wl_47, wl_48, wl_52, wl_53, wn_44, wn_47, wn_48, wn_52, wn_53, ws_44, ws_47, ws_48, ws_52, ws_53, mN1_int, mN1_ref, mN1_null, mN1_U, mN1_rf, mCats_nil, mCats_int, mCats_ref, mCats_null, mCats_long, mCats_rf, mIsRef_ref, mIsRef_null, mIsRef_va, mRf_ref, mRf_null, mRf_rf, true_and, and_true, true_or, or_true, eq_self_iff_true, mK_v, mK_0, Nat.reduceAdd, Nat.reduceLeDiff, Nat.zero_le, iL_0, iL_1, iL_m1, iI_add, iI_sub, iI_mul, iI_neg, updI_at, upA_at, upP_at, upR_at, Nat.reduceEqDiff, reduceIte, Int.reduceAdd, Int.reduceSub, Int.reduceMul, Int.reduceDiv, Int.reduceMod, Int.reduceLT, Int.reduceLE, Int.reduceEq, Int.reduceNeg, not_true_eq_false, not_false_eq_true, Decidable.not_not, iI_eq, p]
theorem stN_rng {I : Nat → Int} {A : Nat → Nat → Int} (hN : iNo I A) : ∀ (d : Nat) (t : Int), (t = -1 ∨ t = 40 ∨ 0 ≤ t ∧ t < (I 31)) → (stN I A d t = -1 ∨ stN I A d t = 40 ∨ 0 ≤ stN I A d t ∧ stN I A d t < (I 31))
  | 0, _, _ => Or.inl rfl
  | d + 1, t, h => by
    rw [stN]
    split
    · exact Or.inl rfl
    · split
      · exact h
      · refine stN_rng hN d _ ?_
        split
        · exact Or.inl rfl
        · have g := (hN.2.1 t.toNat (by omega)).2.2.2.2.2.2 3 (by omega)
          rw [show 4 * t.toNat + 3 = (4 * t + 3).toNat by omega] at g
          omega
theorem iM_st0 {I : Nat → Int} {A : Nat → Nat → Int} (hM : iM I A) : iM (updI I 41 0) A := by
  obtain ⟨hA, hF, hH, hN, hS, hT⟩ := hM
  obtain ⟨e1, e2, e3, e4, e5, e6⟩ := hS
  exact ⟨hA, hF, hH, hN, ⟨(by show (0 : Int) ≤ 0 ∧ (0 : Int) ≤ 2; omega), e2, e3, e4, fun q => absurd rfl q, e6⟩, hT⟩
theorem iM_start {I : Nat → Int} {A : Nat → Nat → Int} {x : Int} (hM : iM I A) (hx : x = -1 ∨ x = 40 ∨ 0 ≤ x ∧ x < (I 31)) : iM (stI I A x) A := by
  unfold stI
  have r := stN_rng hM.2.2.2.1 17 x hx
  split
  · exact hM
  · obtain ⟨hA, hF, hH, hN, hS, hT⟩ := hM
    obtain ⟨e1, e2, e3, e4, e5, e6⟩ := hS
    have n1 := hN.1
    rename_i q
    refine ⟨hA, hF, hH, hN, ⟨(by show (0 : Int) ≤ 1 ∧ (1 : Int) ≤ 2; omega), ?_, (by show (0 : Int) ≤ 0 ∧ (0 : Int) ≤ 2; omega), ?_, ?_, e6⟩, hT⟩
    · show 0 ≤ (if (I 43) = 254 then 1 else (I 43) + 1) ∧ (if (I 43) = 254 then 1 else (I 43) + 1) ≤ 254
      split <;> omega
    · show 0 ≤ stN I A 17 x ∧ stN I A 17 x ≤ 40
      omega
    · intro _
      show stN I A 17 x < (I 31) ∨ stN I A 17 x = 40
      omega
theorem d208 (hb : G.2.2.2 ≤ b) (hM : iM I A) : mX G 208 0 [.ref (b + 43)] [] (wH h0 b I A P R o) n k Q ↔ Q (.inl (some (.int (iI (dnF I A).1))), wH h0 b (dnF I A).2.1 (dnF I A).2.2 P R o, n, k) := c208 hb hM.1 hM.2.2.2.2.1.1 (fun t => bok_of hM.2.2.2.1 hM.2.2.2.2.1 (by omega))
/-- a node's way by an outcome -/
def wyF (I : Nat → Int) (A : Nat → Nat → Int) (w : Int) : Int := if (I 42) = 40 then -1 else (A 29) (4 * (I 42) + w).toNat
def ovF (I : Nat → Int) (A : Nat → Nat → Int) (w : Int) : Z3 := dnF (stI (updI I 41 0) A (wyF I A w)) A
theorem stI_m1 (I : Nat → Int) (A : Nat → Nat → Int) : stI I A (-1) = I := by
  unfold stI; rw [stN, if_pos rfl, if_pos rfl]
theorem wyF_rng {I : Nat → Int} {A : Nat → Nat → Int} {w : Int} (hM : iM I A) (hs : ¬ (I 41) = 0) (hw : 0 ≤ w ∧ w < 4) : wyF I A w = -1 ∨ wyF I A w = 40 ∨ 0 ≤ wyF I A w ∧ wyF I A w < (I 31) := by
  unfold wyF
  split
  · exact Or.inl rfl
  · have e4 := hM.2.2.2.2.1.2.2.2.1
    have e5 := hM.2.2.2.2.1.2.2.2.2.1 hs
    have g := (hM.2.2.2.1.2.1 ((I 42)).toNat (by omega)).2.2.2.2.2.2 w.toNat (by omega)
    rw [show 4 * ((I 42)).toNat + w.toNat = (4 * (I 42) + w).toNat by omega] at g
    omega
theorem c252 {w : Int} (hb : G.2.2.2 ≤ b) (hM : iM I A) (hs : ¬ (I 41) = 0) (hw : 0 ≤ w ∧ w < 4) : mX G 252 0 [.ref (b + 43), .int (iI w)] [] (wH h0 b I A P R o) n k Q ↔ Q (.inl (some (.int (iI (ovF I A w).1))), wH h0 b (ovF I A w).2.1 (ovF I A w).2.2 P R o, n, k) := by
  have r := wyF_rng hM hs hw
  have e4 := hM.2.2.2.2.1.2.2.2.1
  have hA := hM.1
  have hM1 := iM_st0 hM
  have hM2 := iM_start hM1 r
  unfold ovF
  by_cases p : (I 42) = 40
  · have e : wyF I A w = -1 := if_pos p
    rw [e, stI_m1] at hM2 ⊢
    have e2 : updI I 41 0 42 = 40 := p
    simp (maxSteps := 1000000) (disch := first | omega | (simp only [updI_at, upA_at, lwI_at, Nat.reduceEqDiff, reduceIte, List.length_append, List.length_cons, List.length_nil, txtL_len, Nat.reduceAdd]; omega) | exact mIsRef_rf _ | exact rfl | assumption) only [↓s252_0, ↓s252_1, ↓s252_2, ↓s252_5, ↓s252_6, ↓s252_9, ↓s252_11, ↓s252_14, ↓s252_15, ↓s252_16, ↓s252_19, ↓s252_20, ↓s252_21, ↓s252_24, ↓s252_25, ↓s252_26, ↓s252_27, ↓s252_28, ↓s252_31, ↓s252_32, ↓s252_35, iL_4, iL_40, wc_43, wg_43_20, wg_43_45, wl_59, wn_59, wp_43_44, ws_59, mN1_int, mN1_ref, mN1_null, mN1_U, mN1_rf, mCats_nil, mCats_int, mCats_ref, mCats_null, mCats_long, mCats_rf, mIsRef_ref, mIsRef_null, mIsRef_va, mRf_ref, mRf_null, mRf_rf, true_and, and_true, true_or, or_true, eq_self_iff_true, mK_v, mK_0, Nat.reduceAdd, Nat.reduceLeDiff, Nat.zero_le, iL_0, iL_1, iL_m1, iI_add, iI_sub, iI_mul, iI_neg, updI_at, upA_at, upP_at, upR_at, Nat.reduceEqDiff, reduceIte, Int.reduceAdd, Int.reduceSub, Int.reduceMul, Int.reduceDiv, Int.reduceMod, Int.reduceLT, Int.reduceLE, Int.reduceEq, Int.reduceNeg, not_true_eq_false, not_false_eq_true, Decidable.not_not, iI_eq, p, d208]
  · have e : wyF I A w = (A 29) (4 * (I 42) + w).toNat := if_neg p
    rw [e] at hM2 r ⊢
    simp (maxSteps := 1000000) (disch := first | omega | (simp only [updI_at, upA_at, lwI_at, Nat.reduceEqDiff, reduceIte, List.length_append, List.length_cons, List.length_nil, txtL_len, Nat.reduceAdd]; omega) | exact mIsRef_rf _ | exact rfl | assumption) only [↓s252_0, ↓s252_1, ↓s252_2, ↓s252_5, ↓s252_6, ↓s252_9, ↓s252_11, ↓s252_14, ↓s252_15, ↓s252_16, ↓s252_19, ↓s252_20, ↓s252_21, ↓s252_24, ↓s252_25, ↓s252_26, ↓s252_27, ↓s252_28, ↓s252_31, ↓s252_32, ↓s252_35, iL_4, iL_40, wc_43, wg_43_20, wg_43_45, wl_59, wn_59, wp_43_44, ws_59, mN1_int, mN1_ref, mN1_null, mN1_U, mN1_rf, mCats_nil, mCats_int, mCats_ref, mCats_null, mCats_long, mCats_rf, mIsRef_ref, mIsRef_null, mIsRef_va, mRf_ref, mRf_null, mRf_rf, true_and, and_true, true_or, or_true, eq_self_iff_true, mK_v, mK_0, Nat.reduceAdd, Nat.reduceLeDiff, Nat.zero_le, iL_0, iL_1, iL_m1, iI_add, iI_sub, iI_mul, iI_neg, updI_at, upA_at, upP_at, upR_at, Nat.reduceEqDiff, reduceIte, Int.reduceAdd, Int.reduceSub, Int.reduceMul, Int.reduceDiv, Int.reduceMod, Int.reduceLT, Int.reduceLE, Int.reduceEq, Int.reduceNeg, not_true_eq_false, not_false_eq_true, Decidable.not_not, iI_eq, p, c237, d208]
end MRESP
