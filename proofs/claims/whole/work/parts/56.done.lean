/-! Reference: body, length, done; path, describe. -/
section MDONE
variable {G : mG} {h h0 : mH} {n k b : Nat} {Q : mR → Prop} {I : Nat → Int} {A : Nat → Nat → Int} {P : Nat → Nat} {R : Nat → Option Nat} {o : Nat → Int64}
theorem c244 (hb : G.2.2.2 ≤ b) (hA : RgA A) (hk : bok I A) : mX G 244 0 [.ref (b + 43), mU, mU, mU] [] (wH h0 b I A P R o) n k Q ↔ Q (.inl none, wH h0 b (lwI (updI I 53 0) 53 (bodL I A)) (lwA (updI I 53 0) A 53 47 (bodL I A)) P R o, n, k) := by
  have e := c244_5 (G := G) (h0 := h0) (b := b) (n := n) (k := k) (Q := Q) (I := updI I 53 0) (A := A) (P := P) (R := R) (o := o) hb hA rfl hk
  rw [lwI_nil, lwA_nil] at e
  simp (maxSteps := 1000000) (disch := first | omega | (simp only [updI_at, upA_at, Nat.reduceEqDiff, reduceIte]; omega) | exact mIsRef_rf _ | exact rfl) only [↓s244_0, ↓s244_1, ↓s244_2, wp_43_60, mN1_int, mN1_ref, mN1_null, mN1_U, mN1_rf, mCats_nil, mCats_int, mCats_ref, mCats_null, mCats_long, mCats_rf, mIsRef_ref, mIsRef_null, mIsRef_va, mRf_ref, mRf_null, mRf_rf, true_and, and_true, true_or, or_true, eq_self_iff_true, mK_v, mK_0, Nat.reduceAdd, Nat.reduceLeDiff, Nat.zero_le, iL_0, iL_1, iL_m1, iI_add, iI_sub, iI_mul, iI_neg, updI_at, upA_at, upP_at, upR_at, Nat.reduceEqDiff, reduceIte, Int.reduceAdd, Int.reduceSub, Int.reduceMul, Int.reduceDiv, Int.reduceMod, Int.reduceLT, Int.reduceLE, Int.reduceEq, Int.reduceNeg, not_true_eq_false, not_false_eq_true, Decidable.not_not]
  exact e
theorem titL_len {A : Nat → Nat → Int} {x : Int} (h : 0 ≤ (A 30) x.toNat ∧ (A 30) x.toNat ≤ 100) : (titL A x).length ≤ 102 := by
  unfold titL; split
  · rw [tagL_2 (by omega)]; simp only [List.length_append, List.length_cons, List.length_nil, txtL_len]; omega
  · exact Nat.zero_le _
theorem bodL_len {I : Nat → Int} {A : Nat → Nat → Int} (hk : bok I A) : 9 ≤ (bodL I A).length ∧ (bodL I A).length ≤ 230 := by
  obtain ⟨k1, k2, k3, k4, k5, k6⟩ := hk
  unfold bodL
  split
  · rename_i p
    have q := itmL_len A ((A 32) 40).toNat 200 (fun j q1 q2 => k6 j (by omega) (by rw [p] at k5 ⊢; rw [show (40 : Int).toNat = 40 from rfl] at *; omega))
    rw [p] at k5
    rw [show (40 : Int).toNat = 40 from rfl] at k5
    unfold menL hdL
    rw [tagL_2 (by omega)]
    simp only [List.length_append, List.length_cons, List.length_nil, txtL_len]
    omega
  · rename_i p
    obtain ⟨j1, j2, j3⟩ := k4 p
    have q := itmL_len A ((A 32) ((I 42)).toNat).toNat (5 * (I 42)).toNat (fun j q1 q2 => k6 j (by omega) (by omega))
    have q2 := titL_len (x := (I 42)) j2
    have q3 := evL_len (A 38) 32 0
    unfold hdL nodL
    simp only [List.length_append, List.length_cons, List.length_nil]
    split
    · rw [tagL_2 (by omega)]; simp only [List.length_append, List.length_cons, List.length_nil, txtL_len]; omega
    · split
      · rw [tagL_2 (by omega)]; simp only [List.length_append, List.length_cons, List.length_nil, txtL_len]; omega
      · split
        · simp only [List.length_append]; omega
        · split
          · unfold msgL
            rw [tagL_2 (by omega)]; simp only [List.length_append, List.length_cons, List.length_nil, txtL_len]; omega
          · split
            · unfold timL
              split <;> simp only [List.length_append, List.length_cons, List.length_nil] <;> omega
            · split
              · unfold evtL
                rw [tagL_2 (by omega)]; simp only [List.length_append, List.length_cons, List.length_nil]; omega
              · simp only [List.length_nil]; omega
/-- how long a proactive command is with its head -/
def whL (l : List Int) : Int := l.length + (if (l.length : Int) ≤ 127 then 2 else 3)
theorem c248 (hb : G.2.2.2 ≤ b) (hA : RgA A) (hk : bok I A) : mX G 248 0 [.ref (b + 43)] [] (wH h0 b I A P R o) n k Q ↔ Q (.inl (some (.int (iI (whL (bodL I A))))), wH h0 b (lwI (updI I 53 0) 53 (bodL I A)) (lwA (updI I 53 0) A 53 47 (bodL I A)) P R o, n, k) := by
  have q := bodL_len hk
  by_cases p : ((bodL I A).length : Int) ≤ 127
  · simp (maxSteps := 1000000) (disch := first | omega | (simp only [updI_at, upA_at, Nat.reduceEqDiff, reduceIte]; omega) | exact mIsRef_rf _ | exact rfl) only [↓s248_0, ↓s248_1, ↓s248_4, ↓s248_5, ↓s248_8, ↓s248_9, ↓s248_12, ↓s248_14, ↓s248_17, ↓s248_18, ↓s248_21, ↓s248_22, ↓s248_23, iL_127, iL_2, iL_3, wc_43, wg_43_60, mN1_int, mN1_ref, mN1_null, mN1_U, mN1_rf, mCats_nil, mCats_int, mCats_ref, mCats_null, mCats_long, mCats_rf, mIsRef_ref, mIsRef_null, mIsRef_va, mRf_ref, mRf_null, mRf_rf, true_and, and_true, true_or, or_true, eq_self_iff_true, mK_v, mK_0, Nat.reduceAdd, Nat.reduceLeDiff, Nat.zero_le, iL_0, iL_1, iL_m1, iI_add, iI_sub, iI_mul, iI_neg, updI_at, upA_at, upP_at, upR_at, Nat.reduceEqDiff, reduceIte, Int.reduceAdd, Int.reduceSub, Int.reduceMul, Int.reduceDiv, Int.reduceMod, Int.reduceLT, Int.reduceLE, Int.reduceEq, Int.reduceNeg, not_true_eq_false, not_false_eq_true, Decidable.not_not, c244, lwI_at, iI_le, Int.zero_add, p, whL]
  · simp (maxSteps := 1000000) (disch := first | omega | (simp only [updI_at, upA_at, Nat.reduceEqDiff, reduceIte]; omega) | exact mIsRef_rf _ | exact rfl) only [↓s248_0, ↓s248_1, ↓s248_4, ↓s248_5, ↓s248_8, ↓s248_9, ↓s248_12, ↓s248_14, ↓s248_17, ↓s248_18, ↓s248_21, ↓s248_22, ↓s248_23, iL_127, iL_2, iL_3, wc_43, wg_43_60, mN1_int, mN1_ref, mN1_null, mN1_U, mN1_rf, mCats_nil, mCats_int, mCats_ref, mCats_null, mCats_long, mCats_rf, mIsRef_ref, mIsRef_null, mIsRef_va, mRf_ref, mRf_null, mRf_rf, true_and, and_true, true_or, or_true, eq_self_iff_true, mK_v, mK_0, Nat.reduceAdd, Nat.reduceLeDiff, Nat.zero_le, iL_0, iL_1, iL_m1, iI_add, iI_sub, iI_mul, iI_neg, updI_at, upA_at, upP_at, upR_at, Nat.reduceEqDiff, reduceIte, Int.reduceAdd, Int.reduceSub, Int.reduceMul, Int.reduceDiv, Int.reduceMod, Int.reduceLT, Int.reduceLE, Int.reduceEq, Int.reduceNeg, not_true_eq_false, not_false_eq_true, Decidable.not_not, c244, lwI_at, iI_le, Int.zero_add, p, whL]
/-- what a method answers, and what it makes of the numbers and the arrays -/
abbrev Z3 := Int × (Nat → Int) × (Nat → Nat → Int)
def dnF (I : Nat → Int) (A : Nat → Nat → Int) : Z3 := if (I 41) = 1 then (37120 + whL (bodL I A), lwI (updI I 53 0) 53 (bodL I A), lwA (updI I 53 0) A 53 47 (bodL I A)) else (36864, I, A)
theorem whL_rng {l : List Int} (h : l.length ≤ 230) : 2 ≤ whL l ∧ whL l ≤ 233 := by unfold whL; split <;> omega
theorem c208 (hb : G.2.2.2 ≤ b) (hA : RgA A) (hs : 0 ≤ (I 41) ∧ (I 41) ≤ 2) (hk : (I 41) = 1 → bok I A) : mX G 208 0 [.ref (b + 43)] [] (wH h0 b I A P R o) n k Q ↔ Q (.inl (some (.int (iI (dnF I A).1))), wH h0 b (dnF I A).2.1 (dnF I A).2.2 P R o, n, k) := by
  unfold dnF
  by_cases p : (I 41) = 1
  · have q := whL_rng (bodL_len (hk p)).2
    have e : iI 37120 ||| iI (whL (bodL I A)) = iI (37120 + whL (bodL I A)) := iI_or8 (x := 145) (by omega) (by omega) (by omega) (by omega)
    have hk' := hk p
    rw [if_pos p]
    simp (maxSteps := 1000000) (disch := first | omega | (simp only [updI_at, upA_at, lwI_at, Nat.reduceEqDiff, reduceIte, List.length_append, List.length_cons, List.length_nil, txtL_len, Nat.reduceAdd]; omega) | exact mIsRef_rf _ | exact rfl | assumption) only [↓s208_0, ↓s208_1, ↓s208_4, ↓s208_5, ↓s208_8, ↓s208_11, ↓s208_12, ↓s208_15, ↓s208_16, ↓s208_19, ↓s208_21, iL_36864, iL_37120, wc_43, wg_43_44, mN1_int, mN1_ref, mN1_null, mN1_U, mN1_rf, mCats_nil, mCats_int, mCats_ref, mCats_null, mCats_long, mCats_rf, mIsRef_ref, mIsRef_null, mIsRef_va, mRf_ref, mRf_null, mRf_rf, true_and, and_true, true_or, or_true, eq_self_iff_true, mK_v, mK_0, Nat.reduceAdd, Nat.reduceLeDiff, Nat.zero_le, iL_0, iL_1, iL_m1, iI_add, iI_sub, iI_mul, iI_neg, updI_at, upA_at, upP_at, upR_at, Nat.reduceEqDiff, reduceIte, Int.reduceAdd, Int.reduceSub, Int.reduceMul, Int.reduceDiv, Int.reduceMod, Int.reduceLT, Int.reduceLE, Int.reduceEq, Int.reduceNeg, not_true_eq_false, not_false_eq_true, Decidable.not_not, iI_eq, p, c248, e]
  · rw [if_neg p]
    simp (maxSteps := 1000000) (disch := first | omega | (simp only [updI_at, upA_at, lwI_at, Nat.reduceEqDiff, reduceIte, List.length_append, List.length_cons, List.length_nil, txtL_len, Nat.reduceAdd]; omega) | exact mIsRef_rf _ | exact rfl | assumption) only [↓s208_0, ↓s208_1, ↓s208_4, ↓s208_5, ↓s208_8, ↓s208_11, ↓s208_12, ↓s208_15, ↓s208_16, ↓s208_19, ↓s208_21, iL_36864, iL_37120, wc_43, wg_43_44, mN1_int, mN1_ref, mN1_null, mN1_U, mN1_rf, mCats_nil, mCats_int, mCats_ref, mCats_null, mCats_long, mCats_rf, mIsRef_ref, mIsRef_null, mIsRef_va, mRf_ref, mRf_null, mRf_rf, true_and, and_true, true_or, or_true, eq_self_iff_true, mK_v, mK_0, Nat.reduceAdd, Nat.reduceLeDiff, Nat.zero_le, iL_0, iL_1, iL_m1, iI_add, iI_sub, iI_mul, iI_neg, updI_at, upA_at, upP_at, upR_at, Nat.reduceEqDiff, reduceIte, Int.reduceAdd, Int.reduceSub, Int.reduceMul, Int.reduceDiv, Int.reduceMod, Int.reduceLT, Int.reduceLE, Int.reduceEq, Int.reduceNeg, not_true_eq_false, not_false_eq_true, Decidable.not_not, iI_eq, p]
/-- a path through the directories -/
def pth (F : Int → Int → Int) (g : Int → Int) : Nat → Int → Int → Int
  | 0, _, f => f
  | d + 1, k, f => if f < 0 then f else pth F g d (k + 2) (F f (g k * 256 + g (k + 1)))
theorem pth_neg (F : Int → Int → Int) (g : Int → Int) : ∀ (d : Nat) (k f : Int), f < 0 → pth F g d k f = f
  | 0, _, _, _ => rfl
  | _ + 1, _, _, h => if_pos h
theorem c211_l (hA : RgA A) (hg : ∀ j, 0 ≤ (A 14) j ∧ (A 14) j ≤ 255) (hf : 1 ≤ (I 29) ∧ (I 29) ≤ 40) (hd : (I 49) ≤ 255) : ∀ (d : Nat) (c f : Int), 0 ≤ c → c + 2 * d = (I 49) → -1 ≤ f → f < (I 29) →
    (mX G 211 4 [.ref (b + 43), .int (iI f), .int (iI c)] [] (wH h0 b I A P R o) n k Q ↔ Q (.inl (some (.int (iI (pth (fIn I A) (fun j => (A 14) (5 + j).toNat) d c f)))), wH h0 b I A P R o, n, k)) := by
  intro d
  induction d with
  | zero =>
    intro c f h1 h2 h3 h4
    rw [s211_4]
    have hc : (I 49) ≤ c := by omega
    simp (maxSteps := 1000000) (disch := first | omega | (simp only [updI_at, upA_at, Nat.reduceEqDiff, reduceIte]; omega) | exact mIsRef_rf _ | exact rfl) only [↓s211_0, ↓s211_1, ↓s211_2, ↓s211_3, ↓s211_5, ↓s211_6, ↓s211_9, ↓s211_12, ↓s211_13, ↓s211_16, ↓s211_17, ↓s211_18, ↓s211_19, ↓s211_20, ↓s211_23, ↓s211_25, ↓s211_26, ↓s211_27, ↓s211_28, ↓s211_29, ↓s211_30, ↓s211_33, ↓s211_34, ↓s211_37, ↓s211_38, ↓s211_41, ↓s211_44, ↓s211_45, iL_2, iL_8, wc_43, wg_43_53, mN1_int, mN1_ref, mN1_null, mN1_U, mN1_rf, mCats_nil, mCats_int, mCats_ref, mCats_null, mCats_long, mCats_rf, mIsRef_ref, mIsRef_null, mIsRef_va, mRf_ref, mRf_null, mRf_rf, true_and, and_true, true_or, or_true, eq_self_iff_true, mK_v, mK_0, Nat.reduceAdd, Nat.reduceLeDiff, Nat.zero_le, iL_0, iL_1, iL_m1, iI_add, iI_sub, iI_mul, iI_neg, updI_at, upA_at, upP_at, upR_at, Nat.reduceEqDiff, reduceIte, Int.reduceAdd, Int.reduceSub, Int.reduceMul, Int.reduceDiv, Int.reduceMod, Int.reduceLT, Int.reduceLE, Int.reduceEq, Int.reduceNeg, not_true_eq_false, not_false_eq_true, Decidable.not_not, iI_le, hc, pth]
  | succ d ih =>
    intro c f h1 h2 h3 h4
    have hc : ¬ (I 49) ≤ c := by omega
    have g1 := hg (5 + c).toNat
    have g2 := hg (5 + (c + 1)).toNat
    rw [s211_4]
    by_cases p : f < 0
    · simp (maxSteps := 1000000) (disch := first | omega | (simp only [updI_at, upA_at, Nat.reduceEqDiff, reduceIte]; omega) | exact mIsRef_rf _ | exact rfl) only [↓s211_0, ↓s211_1, ↓s211_2, ↓s211_3, ↓s211_5, ↓s211_6, ↓s211_9, ↓s211_12, ↓s211_13, ↓s211_16, ↓s211_17, ↓s211_18, ↓s211_19, ↓s211_20, ↓s211_23, ↓s211_25, ↓s211_26, ↓s211_27, ↓s211_28, ↓s211_29, ↓s211_30, ↓s211_33, ↓s211_34, ↓s211_37, ↓s211_38, ↓s211_41, ↓s211_44, ↓s211_45, iL_2, iL_8, wc_43, wg_43_53, mN1_int, mN1_ref, mN1_null, mN1_U, mN1_rf, mCats_nil, mCats_int, mCats_ref, mCats_null, mCats_long, mCats_rf, mIsRef_ref, mIsRef_null, mIsRef_va, mRf_ref, mRf_null, mRf_rf, true_and, and_true, true_or, or_true, eq_self_iff_true, mK_v, mK_0, Nat.reduceAdd, Nat.reduceLeDiff, Nat.zero_le, iL_0, iL_1, iL_m1, iI_add, iI_sub, iI_mul, iI_neg, updI_at, upA_at, upP_at, upR_at, Nat.reduceEqDiff, reduceIte, Int.reduceAdd, Int.reduceSub, Int.reduceMul, Int.reduceDiv, Int.reduceMod, Int.reduceLT, Int.reduceLE, Int.reduceEq, Int.reduceNeg, not_true_eq_false, not_false_eq_true, Decidable.not_not, iI_le, iI_lt, hc, p, pth]
    · simp (maxSteps := 1000000) (disch := first | omega | exact hA | (simp only [updI_at, upA_at, Nat.reduceEqDiff, reduceIte]; omega) | exact (hA _ _).1 | exact (hA _ _).2) only [↓s211_0, ↓s211_1, ↓s211_2, ↓s211_3, ↓s211_5, ↓s211_6, ↓s211_9, ↓s211_12, ↓s211_13, ↓s211_16, ↓s211_17, ↓s211_18, ↓s211_19, ↓s211_20, ↓s211_23, ↓s211_25, ↓s211_26, ↓s211_27, ↓s211_28, ↓s211_29, ↓s211_30, ↓s211_33, ↓s211_34, ↓s211_37, ↓s211_38, ↓s211_41, ↓s211_44, ↓s211_45, iL_2, iL_8, wc_43, wg_43_53, mN1_int, mN1_ref, mN1_null, mN1_U, mN1_rf, mCats_nil, mCats_int, mCats_ref, mCats_null, mCats_long, mCats_rf, mIsRef_ref, mIsRef_null, mIsRef_va, mRf_ref, mRf_null, mRf_rf, true_and, and_true, true_or, or_true, eq_self_iff_true, mK_v, mK_0, Nat.reduceAdd, Nat.reduceLeDiff, Nat.zero_le, iL_0, iL_1, iL_m1, iI_add, iI_sub, iI_mul, iI_neg, updI_at, upA_at, upP_at, upR_at, Nat.reduceEqDiff, reduceIte, Int.reduceAdd, Int.reduceSub, Int.reduceMul, Int.reduceDiv, Int.reduceMod, Int.reduceLT, Int.reduceLE, Int.reduceEq, Int.reduceNeg, not_true_eq_false, not_false_eq_true, Decidable.not_not, iI_le, iI_lt, hc, p, c207, iI_shl8, iI_or8, c188']
      have r := fIn_rng (A := A) (x := f) (y := (A 14) (5 + c).toNat * 256 + (A 14) (5 + (c + 1)).toNat) hf
      rw [ih (c + 2) _ (by omega) (by omega) r.1 r.2, pth, if_neg p]
theorem c211 {d : Nat} (hA : RgA A) (hg : ∀ j, 0 ≤ (A 14) j ∧ (A 14) j ≤ 255) (hf : 1 ≤ (I 29) ∧ (I 29) ≤ 40) (hd : (I 49) ≤ 255) (he : (I 49) = 2 * d) : mX G 211 0 [.ref (b + 43), mU, mU] [] (wH h0 b I A P R o) n k Q ↔ Q (.inl (some (.int (iI (pth (fIn I A) (fun j => (A 14) (5 + j).toNat) d 0 0)))), wH h0 b I A P R o, n, k) := by
  simp (maxSteps := 1000000) (disch := first | omega | (simp only [updI_at, upA_at, Nat.reduceEqDiff, reduceIte]; omega) | exact mIsRef_rf _ | exact rfl) only [↓s211_0, ↓s211_1, ↓s211_2, ↓s211_3, mN1_int, mN1_ref, mN1_null, mN1_U, mN1_rf, mCats_nil, mCats_int, mCats_ref, mCats_null, mCats_long, mCats_rf, mIsRef_ref, mIsRef_null, mIsRef_va, mRf_ref, mRf_null, mRf_rf, true_and, and_true, true_or, or_true, eq_self_iff_true, mK_v, mK_0, Nat.reduceAdd, Nat.reduceLeDiff, Nat.zero_le, iL_0, iL_1, iL_m1, iI_add, iI_sub, iI_mul, iI_neg, updI_at, upA_at, upP_at, upR_at, Nat.reduceEqDiff, reduceIte, Int.reduceAdd, Int.reduceSub, Int.reduceMul, Int.reduceDiv, Int.reduceMod, Int.reduceLT, Int.reduceLE, Int.reduceEq, Int.reduceNeg, not_true_eq_false, not_false_eq_true, Decidable.not_not]
  exact c211_l hA hg hf hd d 0 0 (by omega) (by omega) (by omega) (by omega)
def desL (A : Nat → Nat → Int) (f : Nat) : List Int :=
  if (A 17) f = 1 then [98, 15, 130, 1, 1, 131, 2, (A 15) f / 256 % 256, (A 15) f % 256, 128, 2, (A 18) f / 256 % 256, (A 18) f % 256, 138, 2, (A 20) f % 256, (A 21) f % 256]
  else if 1 < (A 17) f then [98, 13, 130, 3, (A 17) f % 256, (A 18) f % 256, (A 19) f % 256, 131, 2, (A 15) f / 256 % 256, (A 15) f % 256, 138, 2, (A 20) f % 256, (A 21) f % 256]
  else [98, 11, 130, 1, (A 17) f % 256, 131, 2, (A 15) f / 256 % 256, (A 15) f % 256, 138, 2, (A 20) f % 256, (A 21) f % 256]
theorem a204 {x : Int} {l : List Int} (hb : G.2.2.2 ≤ b) (hx : -2147483648 ≤ x ∧ x < 2147483648) (h1 : 0 ≤ (I 46)) (ho : (I 46) + l.length < 300) : mX G 204 0 [.ref (b + 43), .int (iI x)] [] (wH h0 b (lwI I 46 (l)) (lwA I A 46 44 (l)) P R o) n k Q ↔ Q (.inl none, wH h0 b (lwI I 46 (l ++ [x % 256])) (lwA I A 46 44 (l ++ [x % 256])) P R o, n, k) := by
  have e := c204 (G := G) (h0 := h0) (b := b) (n := n) (k := k) (Q := Q) (I := lwI I 46 l) (A := lwA I A 46 44 l) (P := P) (R := R) (o := o) hb hx (by rw [lwI_at, if_pos rfl]; omega)
  rw [e, ← lwI_lwI, ← lwA_lwA]
  exact Iff.rfl
theorem put1 {g : Nat → Int} {v y z : Int} {l : List Int} : upE (putL g 0 (y :: z :: l)) 1 v = putL g 0 (y :: v :: l) := by
  have key : ∀ (l : List Int) (g g' : Nat → Int) (t : Int), 2 ≤ t → (∀ j, j ≠ 1 → g j = g' j) → g' 1 = v → upE (putL g t l) 1 v = putL g' t l := by
    intro l
    induction l with
    | nil =>
      intro g g' t _ h1 h2
      funext j
      unfold putL upE
      split
      · rename_i q; rw [q, h2]
      · rename_i q; exact h1 j q
    | cons x l ih =>
      intro g g' t hq0 h1 h2
      rw [putL, putL]
      refine ih _ _ _ (by omega) ?_ ?_
      · intro j hj
        unfold upE
        split
        · rfl
        · exact h1 j hj
      · unfold upE
        rw [if_neg (by omega), h2]
  rw [putL, putL, putL, putL]
  refine key l _ _ _ (by omega) ?_ ?_
  · intro j hj
    unfold upE
    rw [show ((0 : Int) + 1).toNat = 1 from rfl, if_neg hj, if_neg hj]
  · exact if_pos rfl
theorem c212 {f : Int} (hb : G.2.2.2 ≤ b) (hA : RgA A) (hf : 0 ≤ f ∧ f < 40) (ho : (I 46) = 0) : mX G 212 0 [.ref (b + 43), .int (iI f)] [] (wH h0 b I A P R o) n k Q ↔ Q (.inl none, wH h0 b (lwI I 46 (desL A f.toNat)) (lwA I A 46 44 (desL A f.toNat)) P R o, n, k) := by
  have g1 := hA 17 f.toNat
  have g2 := hA 18 f.toNat
  have g3 := hA 19 f.toNat
  have g4 := hA 15 f.toNat
  have g5 := hA 20 f.toNat
  have g6 := hA 21 f.toNat
  have e : wH h0 b I A P R o = (wH h0 b (lwI I 46 ([])) (lwA I A 46 44 ([])) P R o) := by rw [lwI_nil, lwA_nil]
  have z : ∀ (y z : Int) (l : List Int) (v : Int), upA (lwA I A 46 44 (y :: z :: l)) 44 (upE (putL (A 44) 0 (y :: z :: l)) 1 v) = lwA I A 46 44 (y :: v :: l) := by
    intro y z l v
    unfold lwA
    rw [upA_upA, put1, ho]
  rw [e]
  unfold desL
  by_cases p : (A 17) f.toNat = 1
  · rw [if_pos p]
    simp (maxSteps := 1000000) (disch := first | omega | (simp only [updI_at, upA_at, lwI_at, Nat.reduceEqDiff, reduceIte, List.length_append, List.length_cons, List.length_nil, txtL_len, Nat.reduceAdd]; omega) | exact mIsRef_rf _ | exact rfl | assumption) only [↓s212_0, ↓s212_1, ↓s212_3, ↓s212_6, ↓s212_7, ↓s212_8, ↓s212_11, ↓s212_12, ↓s212_15, ↓s212_18, ↓s212_19, ↓s212_20, ↓s212_23, ↓s212_24, ↓s212_25, ↓s212_26, ↓s212_29, ↓s212_30, ↓s212_33, ↓s212_34, ↓s212_37, ↓s212_38, ↓s212_39, ↓s212_42, ↓s212_43, ↓s212_44, ↓s212_47, ↓s212_48, ↓s212_51, ↓s212_52, ↓s212_53, ↓s212_54, ↓s212_57, ↓s212_58, ↓s212_59, ↓s212_62, ↓s212_63, ↓s212_64, ↓s212_67, ↓s212_68, ↓s212_69, ↓s212_72, ↓s212_73, ↓s212_74, ↓s212_77, ↓s212_78, ↓s212_81, ↓s212_84, ↓s212_85, ↓s212_86, ↓s212_89, ↓s212_90, ↓s212_91, ↓s212_94, ↓s212_95, ↓s212_96, ↓s212_98, ↓s212_99, ↓s212_102, ↓s212_103, ↓s212_104, ↓s212_107, ↓s212_108, ↓s212_109, ↓s212_112, ↓s212_113, ↓s212_116, ↓s212_117, ↓s212_118, ↓s212_119, ↓s212_122, ↓s212_123, ↓s212_126, ↓s212_129, ↓s212_130, ↓s212_131, ↓s212_134, ↓s212_135, ↓s212_136, ↓s212_139, ↓s212_140, ↓s212_141, ↓s212_143, ↓s212_144, ↓s212_147, ↓s212_148, ↓s212_149, ↓s212_152, ↓s212_153, ↓s212_154, ↓s212_157, ↓s212_158, ↓s212_161, ↓s212_164, ↓s212_165, ↓s212_166, ↓s212_169, ↓s212_170, ↓s212_171, ↓s212_174, ↓s212_175, ↓s212_176, ↓s212_179, ↓s212_180, ↓s212_181, ↓s212_184, ↓s212_185, ↓s212_186, ↓s212_189, ↓s212_190, ↓s212_193, ↓s212_194, ↓s212_195, ↓s212_198, ↓s212_199, ↓s212_200, ↓s212_201, iL_128, iL_130, iL_131, iL_138, iL_2, iL_3, iL_8, iL_98, wc_43, wg_43_10, wg_43_4, wg_43_49, wg_43_50, wg_43_6, wg_43_7, wg_43_8, wg_43_9, wl_45, wl_47, wl_48, wl_49, wl_50, wl_51, wl_74, wn_45, wn_47, wn_48, wn_49, wn_50, wn_51, wn_74, ws_45, ws_47, ws_48, ws_49, ws_50, ws_51, ws_74, mN1_int, mN1_ref, mN1_null, mN1_U, mN1_rf, mCats_nil, mCats_int, mCats_ref, mCats_null, mCats_long, mCats_rf, mIsRef_ref, mIsRef_null, mIsRef_va, mRf_ref, mRf_null, mRf_rf, true_and, and_true, true_or, or_true, eq_self_iff_true, mK_v, mK_0, Nat.reduceAdd, Nat.reduceLeDiff, Nat.zero_le, iL_0, iL_1, iL_m1, iI_add, iI_sub, iI_mul, iI_neg, updI_at, upA_at, upP_at, upR_at, Nat.reduceEqDiff, reduceIte, Int.reduceAdd, Int.reduceSub, Int.reduceMul, Int.reduceDiv, Int.reduceMod, Int.reduceLT, Int.reduceLE, Int.reduceEq, Int.reduceNeg, not_true_eq_false, not_false_eq_true, Decidable.not_not, a204, lwA_at, lwI_at, iI_le, iI_eq, iI_shr8, p, ho, List.append_assoc, List.cons_append, List.nil_append]
    simp only [List.length_cons, List.length_nil, Nat.reduceAdd, Int.cast_ofNat_Int, Int.reduceAdd, Int.reduceSub, show (1 : Int).toNat = 1 from rfl]
    rw [z]
    exact Iff.rfl
  · rw [if_neg p]
    by_cases q : 1 < (A 17) f.toNat
    · rw [if_pos q]
      simp (maxSteps := 1000000) (disch := first | omega | (simp only [updI_at, upA_at, lwI_at, Nat.reduceEqDiff, reduceIte, List.length_append, List.length_cons, List.length_nil, txtL_len, Nat.reduceAdd]; omega) | exact mIsRef_rf _ | exact rfl | assumption) only [↓s212_0, ↓s212_1, ↓s212_3, ↓s212_6, ↓s212_7, ↓s212_8, ↓s212_11, ↓s212_12, ↓s212_15, ↓s212_18, ↓s212_19, ↓s212_20, ↓s212_23, ↓s212_24, ↓s212_25, ↓s212_26, ↓s212_29, ↓s212_30, ↓s212_33, ↓s212_34, ↓s212_37, ↓s212_38, ↓s212_39, ↓s212_42, ↓s212_43, ↓s212_44, ↓s212_47, ↓s212_48, ↓s212_51, ↓s212_52, ↓s212_53, ↓s212_54, ↓s212_57, ↓s212_58, ↓s212_59, ↓s212_62, ↓s212_63, ↓s212_64, ↓s212_67, ↓s212_68, ↓s212_69, ↓s212_72, ↓s212_73, ↓s212_74, ↓s212_77, ↓s212_78, ↓s212_81, ↓s212_84, ↓s212_85, ↓s212_86, ↓s212_89, ↓s212_90, ↓s212_91, ↓s212_94, ↓s212_95, ↓s212_96, ↓s212_98, ↓s212_99, ↓s212_102, ↓s212_103, ↓s212_104, ↓s212_107, ↓s212_108, ↓s212_109, ↓s212_112, ↓s212_113, ↓s212_116, ↓s212_117, ↓s212_118, ↓s212_119, ↓s212_122, ↓s212_123, ↓s212_126, ↓s212_129, ↓s212_130, ↓s212_131, ↓s212_134, ↓s212_135, ↓s212_136, ↓s212_139, ↓s212_140, ↓s212_141, ↓s212_143, ↓s212_144, ↓s212_147, ↓s212_148, ↓s212_149, ↓s212_152, ↓s212_153, ↓s212_154, ↓s212_157, ↓s212_158, ↓s212_161, ↓s212_164, ↓s212_165, ↓s212_166, ↓s212_169, ↓s212_170, ↓s212_171, ↓s212_174, ↓s212_175, ↓s212_176, ↓s212_179, ↓s212_180, ↓s212_181, ↓s212_184, ↓s212_185, ↓s212_186, ↓s212_189, ↓s212_190, ↓s212_193, ↓s212_194, ↓s212_195, ↓s212_198, ↓s212_199, ↓s212_200, ↓s212_201, iL_128, iL_130, iL_131, iL_138, iL_2, iL_3, iL_8, iL_98, wc_43, wg_43_10, wg_43_4, wg_43_49, wg_43_50, wg_43_6, wg_43_7, wg_43_8, wg_43_9, wl_45, wl_47, wl_48, wl_49, wl_50, wl_51, wl_74, wn_45, wn_47, wn_48, wn_49, wn_50, wn_51, wn_74, ws_45, ws_47, ws_48, ws_49, ws_50, ws_51, ws_74, mN1_int, mN1_ref, mN1_null, mN1_U, mN1_rf, mCats_nil, mCats_int, mCats_ref, mCats_null, mCats_long, mCats_rf, mIsRef_ref, mIsRef_null, mIsRef_va, mRf_ref, mRf_null, mRf_rf, true_and, and_true, true_or, or_true, eq_self_iff_true, mK_v, mK_0, Nat.reduceAdd, Nat.reduceLeDiff, Nat.zero_le, iL_0, iL_1, iL_m1, iI_add, iI_sub, iI_mul, iI_neg, updI_at, upA_at, upP_at, upR_at, Nat.reduceEqDiff, reduceIte, Int.reduceAdd, Int.reduceSub, Int.reduceMul, Int.reduceDiv, Int.reduceMod, Int.reduceLT, Int.reduceLE, Int.reduceEq, Int.reduceNeg, not_true_eq_false, not_false_eq_true, Decidable.not_not, a204, lwA_at, lwI_at, iI_le, iI_eq, iI_shr8, p, Int.not_le.mpr q, ho, List.append_assoc, List.cons_append, List.nil_append]
      simp only [List.length_cons, List.length_nil, Nat.reduceAdd, Int.cast_ofNat_Int, Int.reduceAdd, Int.reduceSub, show (1 : Int).toNat = 1 from rfl]
      rw [z]
      exact Iff.rfl
    · rw [if_neg q]
      simp (maxSteps := 1000000) (disch := first | omega | (simp only [updI_at, upA_at, lwI_at, Nat.reduceEqDiff, reduceIte, List.length_append, List.length_cons, List.length_nil, txtL_len, Nat.reduceAdd]; omega) | exact mIsRef_rf _ | exact rfl | assumption) only [↓s212_0, ↓s212_1, ↓s212_3, ↓s212_6, ↓s212_7, ↓s212_8, ↓s212_11, ↓s212_12, ↓s212_15, ↓s212_18, ↓s212_19, ↓s212_20, ↓s212_23, ↓s212_24, ↓s212_25, ↓s212_26, ↓s212_29, ↓s212_30, ↓s212_33, ↓s212_34, ↓s212_37, ↓s212_38, ↓s212_39, ↓s212_42, ↓s212_43, ↓s212_44, ↓s212_47, ↓s212_48, ↓s212_51, ↓s212_52, ↓s212_53, ↓s212_54, ↓s212_57, ↓s212_58, ↓s212_59, ↓s212_62, ↓s212_63, ↓s212_64, ↓s212_67, ↓s212_68, ↓s212_69, ↓s212_72, ↓s212_73, ↓s212_74, ↓s212_77, ↓s212_78, ↓s212_81, ↓s212_84, ↓s212_85, ↓s212_86, ↓s212_89, ↓s212_90, ↓s212_91, ↓s212_94, ↓s212_95, ↓s212_96, ↓s212_98, ↓s212_99, ↓s212_102, ↓s212_103, ↓s212_104, ↓s212_107, ↓s212_108, ↓s212_109, ↓s212_112, ↓s212_113, ↓s212_116, ↓s212_117, ↓s212_118, ↓s212_119, ↓s212_122, ↓s212_123, ↓s212_126, ↓s212_129, ↓s212_130, ↓s212_131, ↓s212_134, ↓s212_135, ↓s212_136, ↓s212_139, ↓s212_140, ↓s212_141, ↓s212_143, ↓s212_144, ↓s212_147, ↓s212_148, ↓s212_149, ↓s212_152, ↓s212_153, ↓s212_154, ↓s212_157, ↓s212_158, ↓s212_161, ↓s212_164, ↓s212_165, ↓s212_166, ↓s212_169, ↓s212_170, ↓s212_171, ↓s212_174, ↓s212_175, ↓s212_176, ↓s212_179, ↓s212_180, ↓s212_181, ↓s212_184, ↓s212_185, ↓s212_186, ↓s212_189, ↓s212_190, ↓s212_193, ↓s212_194, ↓s212_195, ↓s212_198, ↓s212_199, ↓s212_200, ↓s212_201, iL_128, iL_130, iL_131, iL_138, iL_2, iL_3, iL_8, iL_98, wc_43, wg_43_10, wg_43_4, wg_43_49, wg_43_50, wg_43_6, wg_43_7, wg_43_8, wg_43_9, wl_45, wl_47, wl_48, wl_49, wl_50, wl_51, wl_74, wn_45, wn_47, wn_48, wn_49, wn_50, wn_51, wn_74, ws_45, ws_47, ws_48, ws_49, ws_50, ws_51, ws_74, mN1_int, mN1_ref, mN1_null, mN1_U, mN1_rf, mCats_nil, mCats_int, mCats_ref, mCats_null, mCats_long, mCats_rf, mIsRef_ref, mIsRef_null, mIsRef_va, mRf_ref, mRf_null, mRf_rf, true_and, and_true, true_or, or_true, eq_self_iff_true, mK_v, mK_0, Nat.reduceAdd, Nat.reduceLeDiff, Nat.zero_le, iL_0, iL_1, iL_m1, iI_add, iI_sub, iI_mul, iI_neg, updI_at, upA_at, upP_at, upR_at, Nat.reduceEqDiff, reduceIte, Int.reduceAdd, Int.reduceSub, Int.reduceMul, Int.reduceDiv, Int.reduceMod, Int.reduceLT, Int.reduceLE, Int.reduceEq, Int.reduceNeg, not_true_eq_false, not_false_eq_true, Decidable.not_not, a204, lwA_at, lwI_at, iI_le, iI_eq, iI_shr8, p, Int.not_lt.mp q, ho, List.append_assoc, List.cons_append, List.nil_append]
      simp only [List.length_cons, List.length_nil, Nat.reduceAdd, Int.cast_ofNat_Int, Int.reduceAdd, Int.reduceSub, show (1 : Int).toNat = 1 from rfl]
      rw [z]
      exact Iff.rfl
end MDONE
