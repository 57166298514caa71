/-! Class: fetch, terminalProfile. -/
section MFETC
variable {G : mG} {h h0 : mH} {n k b : Nat} {Q : mR → Prop} {I : Nat → Int} {A : Nat → Nat → Int} {P : Nat → Nat} {R : Nat → Option Nat} {o : Nat → Int64}
theorem a88g {x : Int} {l : List Int} (hb : G.2.2.2 ≤ b) (hx : 128 ≤ x ∧ x ≤ 255) (h1 : 0 ≤ (I 1)) (ho : (I 1) + l.length + 1 < 256) : mX G 88 0 [.ref (b + 1), .int (iI x)] [] (wH h0 b (lwI I 1 (l)) (lwA I A 1 0 (l)) P R o) n k Q ↔ Q (.inl none, wH h0 b (lwI I 1 (l ++ [129, x % 256])) (lwA I A 1 0 (l ++ [129, x % 256])) P R o, n, k) := by
  have e := d88_1 (G := G) (h0 := h0) (b := b) (n := n) (k := k) (Q := Q) (I := lwI I 1 l) (A := lwA I A 1 0 l) (P := P) (R := R) (o := o) (x := x) hb (by rw [lwI_at, if_pos rfl]; omega) (by rw [lwI_at, if_pos rfl]; omega) (by omega)
  rw [e, if_neg (by omega), ← lwI_lwI, ← lwA_lwA]
  exact Iff.rfl
theorem a90_l (hb : G.2.2.2 ≤ b) (hl : 0 ≤ (I 24) ∧ (I 24) ≤ 255) (hg : ∀ j, 0 ≤ (A 7) j ∧ (A 7) j ≤ 255) (hq : 0 ≤ (I 1)) : ∀ (d : Nat) (c : Int) (l : List Int), 0 ≤ c → c + d = (I 24) → (I 1) + l.length + d ≤ 256 →
    (mX G 90 2 [.ref (b + 1), .ref (b + 31), .int (iI c)] [] (wH h0 b (lwI I 1 (l)) (lwA I A 1 0 (l)) P R o) n k Q ↔ Q (.inl none, wH h0 b (lwI I 1 (l ++ txtL (A 7) d c.toNat)) (lwA I A 1 0 (l ++ txtL (A 7) d c.toNat)) P R o, n, k)) := by
  intro d
  induction d with
  | zero =>
    intro c l h1 h2 h3
    have hc' : (I 24) ≤ c := by omega
    rw [s90_2]
    simp (maxSteps := 1000000) (disch := first | omega | (simp only [updI_at, upA_at, lwI_at, Nat.reduceEqDiff, reduceIte, List.length_append, List.length_cons, List.length_nil, txtL_len, Nat.reduceAdd]; omega) | exact mIsRef_rf _ | exact rfl | assumption) only [↓s90_0, ↓s90_1, ↓s90_3, ↓s90_4, ↓s90_7, ↓s90_10, ↓s90_11, ↓s90_12, ↓s90_13, ↓s90_16, ↓s90_19, ↓s90_22, ↓s90_25, wc_1, wc_12, wc_14, wc_29, wc_31, wc_39, wc_4, wc_41, wg_12_1, wg_14_1, wg_1_1, wg_29_1, wg_31_1, wg_39_1, wg_41_1, wg_4_1, mN1_int, mN1_ref, mN1_null, mN1_U, mN1_rf, mCats_nil, mCats_int, mCats_ref, mCats_null, mCats_long, mCats_rf, mIsRef_ref, mIsRef_null, mIsRef_va, mRf_ref, mRf_null, mRf_rf, true_and, and_true, true_or, or_true, eq_self_iff_true, mK_v, mK_0, Nat.reduceAdd, Nat.reduceLeDiff, Nat.zero_le, iL_0, iL_1, iL_m1, iI_add, iI_sub, iI_mul, iI_neg, updI_at, upA_at, upP_at, upR_at, Nat.reduceEqDiff, reduceIte, Int.reduceAdd, Int.reduceSub, Int.reduceMul, Int.reduceDiv, Int.reduceMod, Int.reduceLT, Int.reduceLE, Int.reduceEq, Int.reduceNeg, not_true_eq_false, not_false_eq_true, Decidable.not_not, lwI_at, iI_le, hc', txtL, List.append_nil]
  | succ d ih =>
    intro c l h1 h2 h3
    have hc' : ¬ (I 24) ≤ c := by omega
    have gr := hg c.toNat
    have e : rget (I 24) (A 7) c = (A 7) c.toNat := if_pos ⟨h1, by omega⟩
    have z : ∀ Q' : mR → Prop, mX G 80 0 [.ref (b + 31), .int (iI c)] [] (wH h0 b (lwI I 1 (l)) (lwA I A 1 0 (l)) P R o) n k Q' ↔ Q' (.inl (some (.int (iI (rget (I 24) (A 7) c)))), wH h0 b (lwI I 1 (l)) (lwA I A 1 0 (l)) P R o, n, k) := fun Q' => d80_31 hl (by omega)
    rw [e] at z
    rw [s90_2]
    simp (maxSteps := 1000000) (disch := first | omega | (simp only [updI_at, upA_at, lwI_at, Nat.reduceEqDiff, reduceIte, List.length_append, List.length_cons, List.length_nil, txtL_len, Nat.reduceAdd]; omega) | exact mIsRef_rf _ | exact rfl | assumption) only [↓s90_0, ↓s90_1, ↓s90_3, ↓s90_4, ↓s90_7, ↓s90_10, ↓s90_11, ↓s90_12, ↓s90_13, ↓s90_16, ↓s90_19, ↓s90_22, ↓s90_25, wc_1, wc_12, wc_14, wc_29, wc_31, wc_39, wc_4, wc_41, wg_12_1, wg_14_1, wg_1_1, wg_29_1, wg_31_1, wg_39_1, wg_41_1, wg_4_1, mN1_int, mN1_ref, mN1_null, mN1_U, mN1_rf, mCats_nil, mCats_int, mCats_ref, mCats_null, mCats_long, mCats_rf, mIsRef_ref, mIsRef_null, mIsRef_va, mRf_ref, mRf_null, mRf_rf, true_and, and_true, true_or, or_true, eq_self_iff_true, mK_v, mK_0, Nat.reduceAdd, Nat.reduceLeDiff, Nat.zero_le, iL_0, iL_1, iL_m1, iI_add, iI_sub, iI_mul, iI_neg, updI_at, upA_at, upP_at, upR_at, Nat.reduceEqDiff, reduceIte, Int.reduceAdd, Int.reduceSub, Int.reduceMul, Int.reduceDiv, Int.reduceMod, Int.reduceLT, Int.reduceLE, Int.reduceEq, Int.reduceNeg, not_true_eq_false, not_false_eq_true, Decidable.not_not, lwI_at, iI_le, hc', z, a85]
    rw [ih (c + 1) _ (by omega) (by omega) (by simp only [List.length_append, List.length_cons, List.length_nil]; omega), txtL, List.append_assoc, show (c + 1).toNat = c.toNat + 1 by omega]
    exact Iff.rfl
theorem a90 {l : List Int} (hb : G.2.2.2 ≤ b) (hl : 0 ≤ (I 24) ∧ (I 24) ≤ 255) (hg : ∀ j, 0 ≤ (A 7) j ∧ (A 7) j ≤ 255) (hq : 0 ≤ (I 1)) (ho : (I 1) + l.length + (I 24) ≤ 256) : mX G 90 0 [.ref (b + 1), .ref (b + 31), mU] [] (wH h0 b (lwI I 1 (l)) (lwA I A 1 0 (l)) P R o) n k Q ↔ Q (.inl none, wH h0 b (lwI I 1 (l ++ txtL (A 7) ((I 24)).toNat 0)) (lwA I A 1 0 (l ++ txtL (A 7) ((I 24)).toNat 0)) P R o, n, k) := by
  have z := a90_l (n := n) (k := k) (Q := Q) (h0 := h0) (I := I) (A := A) (P := P) (R := R) (o := o) hb hl hg hq ((I 24)).toNat 0 l (by omega) (by omega) (by omega)
  rw [show (0 : Int).toNat = 0 from rfl] at z
  rw [← z]
  simp (maxSteps := 1000000) (disch := first | omega | (simp only [updI_at, upA_at, Nat.reduceEqDiff, reduceIte]; omega) | exact mIsRef_rf _ | exact rfl) only [↓s90_0, ↓s90_1, mN1_int, mN1_ref, mN1_null, mN1_U, mN1_rf, mCats_nil, mCats_int, mCats_ref, mCats_null, mCats_long, mCats_rf, mIsRef_ref, mIsRef_null, mIsRef_va, mRf_ref, mRf_null, mRf_rf, true_and, and_true, true_or, or_true, eq_self_iff_true, mK_v, mK_0, Nat.reduceAdd, Nat.reduceLeDiff, Nat.zero_le, iL_0, iL_1, iL_m1, iI_add, iI_sub, iI_mul, iI_neg, updI_at, upA_at, upP_at, upR_at, Nat.reduceEqDiff, reduceIte, Int.reduceAdd, Int.reduceSub, Int.reduceMul, Int.reduceDiv, Int.reduceMod, Int.reduceLT, Int.reduceLE, Int.reduceEq, Int.reduceNeg, not_true_eq_false, not_false_eq_true, Decidable.not_not]
section
variable {J : Nat → Int} {B : Nat → Nat → Int} {fa : Nat → Nat} {W : Nat → Nat → Nat → Nat} {V : Nat → Nat → Nat → Nat → Int} {X : Nat → Nat → Option Nat} {cap : Nat} {ng : Nat → Option Nat}
def ftC (I : Nat → Int) (A : Nat → Nat → Int) (J : Nat → Int) (B : Nat → Nat → Int) : Z3 := if J 50 < 0 then (26368, I, A) else if ¬ J 41 = 1 then (27013, I, A) else if ¬ J 50 = whL (bodL J B) then (27648 + whL (bodL J B), pbI I (bodL J B), pbA I A (bodL J B))
  else (36864, updI (lwI (pbI I (bodL J B)) 1 (ftL (bodL J B))) 20 2, lwA (pbI I (bodL J B)) (pbA I A (bodL J B)) 1 0 (ftL (bodL J B)))
theorem putL_P {p : Int → Prop} : ∀ (l : List Int) (g : Nat → Int) (t : Int), (∀ j, p (g j)) → (∀ x ∈ l, p x) → ∀ j, p (putL g t l j)
  | [], _, _, hg, _, j => hg j
  | x :: l, g, t, hg, hl, j => by
    rw [putL]
    exact putL_P l _ _ (upE_P hg (hl x List.mem_cons_self)) (fun y hy => hl y (List.mem_cons_of_mem x hy)) j
theorem d130_e {l : List Int} (hb : G.2.2.2 ≤ b) (hl : 9 ≤ l.length ∧ l.length ≤ 230) (hr : ∀ x ∈ l, 0 ≤ x ∧ x ≤ 255) (q7 : (I 1) = 0) (hg : ∀ j, 0 ≤ (A 7) j ∧ (A 7) j ≤ 255) {v : Int32} : mX G 130 63 [.ref (b + 34), .ref (b + 3), .ref (b + 31), .int v] [] (wH h0 b (pbI I l) (pbA I A l) P R o) n k Q ↔ Q (.inl (some (.int (iI 36864))), wH h0 b (updI (lwI (pbI I l) 1 (ftL l)) 20 2) (lwA (pbI I l) (pbA I A l) 1 0 (ftL l)) P R o, n, k) := by
  have lo : pbI I l 24 = l.length := by
    unfold pbI; rw [lwI_at, if_pos rfl, updI_at, if_pos rfl]; omega
  have ou : pbI I l 1 = 0 := q7
  have by1 : pbA I A l 7 = putL (A 7) 0 l := rfl
  have gb : ∀ j, 0 ≤ pbA I A l 7 j ∧ pbA I A l 7 j ≤ 255 := by rw [by1]; exact putL_P (p := fun x => 0 ≤ x ∧ x ≤ 255) l _ _ hg hr
  have tp := txtL_put l (A 7) 0
  rw [show ((0 : Nat) : Int) = 0 from rfl, ← by1] at tp
  generalize pbI I l = I1 at *
  generalize pbA I A l = A1 at *
  have e : wH h0 b I1 A1 P R o = wH h0 b (lwI I1 1 []) (lwA I1 A1 1 0 []) P R o := by rw [lwI_nil, lwA_nil]
  have z := fun Q' m => a90 (n := n) (k := k) (Q := Q') (h0 := h0) (I := I1) (A := A1) (P := P) (R := R) (o := o) (l := m) hb (by omega) gb (by omega)
  rw [lo, show ((l.length : Int)).toNat = l.length by omega, tp] at z
  rw [e]
  unfold ftL
  by_cases p : (l.length : Int) ≤ 127
  · rw [if_pos p]
    simp (maxSteps := 1000000) (disch := first | omega | (simp only [updI_at, upA_at, lwI_at, Nat.reduceEqDiff, reduceIte, List.length_append, List.length_cons, List.length_nil, txtL_len, Nat.reduceAdd]; omega) | exact mIsRef_rf _ | exact rfl | assumption) only [↓s130_0, ↓s130_1, ↓s130_4, ↓s130_7, ↓s130_10, ↓s130_11, ↓s130_12, ↓s130_15, ↓s130_18, ↓s130_19, ↓s130_22, ↓s130_25, ↓s130_26, ↓s130_27, ↓s130_30, ↓s130_33, ↓s130_34, ↓s130_35, ↓s130_36, ↓s130_39, ↓s130_42, ↓s130_43, ↓s130_44, ↓s130_47, ↓s130_48, ↓s130_49, ↓s130_50, ↓s130_53, ↓s130_54, ↓s130_57, ↓s130_60, ↓s130_61, ↓s130_62, ↓s130_63, ↓s130_64, ↓s130_67, ↓s130_70, ↓s130_73, ↓s130_74, ↓s130_77, ↓s130_78, ↓s130_81, ↓s130_84, ↓s130_85, ↓s130_88, ↓s130_89r, ↓s130_92, ↓s130_93, ↓s130_96, ↓s130_97, ↓s130_100, ↓s130_102, iL_2, iL_208, iL_26368, iL_27013, iL_27648, iL_36864, wc_1, wc_12, wc_14, wc_28, wc_29, wc_3, wc_31, wc_39, wc_4, wc_41, wg_28_5, wg_34_2, wg_34_3, wg_3_5, wp_28_5, mN1_int, mN1_ref, mN1_null, mN1_U, mN1_rf, mCats_nil, mCats_int, mCats_ref, mCats_null, mCats_long, mCats_rf, mIsRef_ref, mIsRef_null, mIsRef_va, mRf_ref, mRf_null, mRf_rf, true_and, and_true, true_or, or_true, eq_self_iff_true, mK_v, mK_0, Nat.reduceAdd, Nat.reduceLeDiff, Nat.zero_le, iL_0, iL_1, iL_m1, iI_add, iI_sub, iI_mul, iI_neg, updI_at, upA_at, upP_at, upR_at, Nat.reduceEqDiff, reduceIte, Int.reduceAdd, Int.reduceSub, Int.reduceMul, Int.reduceDiv, Int.reduceMod, Int.reduceLT, Int.reduceLE, Int.reduceEq, Int.reduceNeg, not_true_eq_false, not_false_eq_true, Decidable.not_not, lwI_at, d79_31, a85, a88, lo, ou, z, List.append_assoc, List.nil_append]
  · rw [if_neg p]
    simp (maxSteps := 1000000) (disch := first | omega | (simp only [updI_at, upA_at, lwI_at, Nat.reduceEqDiff, reduceIte, List.length_append, List.length_cons, List.length_nil, txtL_len, Nat.reduceAdd]; omega) | exact mIsRef_rf _ | exact rfl | assumption) only [↓s130_0, ↓s130_1, ↓s130_4, ↓s130_7, ↓s130_10, ↓s130_11, ↓s130_12, ↓s130_15, ↓s130_18, ↓s130_19, ↓s130_22, ↓s130_25, ↓s130_26, ↓s130_27, ↓s130_30, ↓s130_33, ↓s130_34, ↓s130_35, ↓s130_36, ↓s130_39, ↓s130_42, ↓s130_43, ↓s130_44, ↓s130_47, ↓s130_48, ↓s130_49, ↓s130_50, ↓s130_53, ↓s130_54, ↓s130_57, ↓s130_60, ↓s130_61, ↓s130_62, ↓s130_63, ↓s130_64, ↓s130_67, ↓s130_70, ↓s130_73, ↓s130_74, ↓s130_77, ↓s130_78, ↓s130_81, ↓s130_84, ↓s130_85, ↓s130_88, ↓s130_89r, ↓s130_92, ↓s130_93, ↓s130_96, ↓s130_97, ↓s130_100, ↓s130_102, iL_2, iL_208, iL_26368, iL_27013, iL_27648, iL_36864, wc_1, wc_12, wc_14, wc_28, wc_29, wc_3, wc_31, wc_39, wc_4, wc_41, wg_28_5, wg_34_2, wg_34_3, wg_3_5, wp_28_5, mN1_int, mN1_ref, mN1_null, mN1_U, mN1_rf, mCats_nil, mCats_int, mCats_ref, mCats_null, mCats_long, mCats_rf, mIsRef_ref, mIsRef_null, mIsRef_va, mRf_ref, mRf_null, mRf_rf, true_and, and_true, true_or, or_true, eq_self_iff_true, mK_v, mK_0, Nat.reduceAdd, Nat.reduceLeDiff, Nat.zero_le, iL_0, iL_1, iL_m1, iI_add, iI_sub, iI_mul, iI_neg, updI_at, upA_at, upP_at, upR_at, Nat.reduceEqDiff, reduceIte, Int.reduceAdd, Int.reduceSub, Int.reduceMul, Int.reduceDiv, Int.reduceMod, Int.reduceLT, Int.reduceLE, Int.reduceEq, Int.reduceNeg, not_true_eq_false, not_false_eq_true, Decidable.not_not, lwI_at, d79_31, a85, a88g, lo, ou, z, List.append_assoc, List.nil_append, List.cons_append]
theorem d130 (hb : G.2.2.2 ≤ b) (hd : dNo G h0 b (P 3) J B fa W V X cap ng) (hM : iM J B) (hC : iCm J) (hT : sTy G h0 b) (hR : cuR R J W) (hm : (I 21) = J 43) (hE : ∀ j : Nat, j < 32 → (A 4) j = B 38 j) (hw : (I 6) = J 50) (hs : (I 20) = J 41) (q7 : (I 1) = 0) (hg : ∀ j, 0 ≤ (A 7) j ∧ (A 7) j ≤ 255) : mX G 130 0 [.ref (b + 34), .ref (b + 3), mU, mU] [] (wH h0 b I A P R o) n k Q ↔ Q (.inl (some (.int (iI (ftC I A J B).1))), wH h0 b (ftC I A J B).2.1 (ftC I A J B).2.2 P R o, n, k) := by
  have c4 := hC.2.2.2.1
  have s3 := hM.2.2.2.2.1.1
  have zw := fun Q' => d76 (G := G) (h0 := h0) (b := b) (n := n) (k := k) (Q := Q') (I := I) (A := A) (P := P) (R := R) (o := o) (by omega)
  unfold ftC
  by_cases p1 : J 50 < 0
  · rw [if_pos p1]
    simp only [bI_f (show ¬ ¬ (I 6) = -1 by omega)] at zw
    simp (maxSteps := 1000000) (disch := first | omega | (simp only [updI_at, upA_at, Nat.reduceEqDiff, reduceIte]; omega) | exact mIsRef_rf _ | exact rfl) only [↓s130_0, ↓s130_1, ↓s130_4, ↓s130_7, ↓s130_10, ↓s130_11, ↓s130_12, ↓s130_15, ↓s130_18, ↓s130_19, ↓s130_22, ↓s130_25, ↓s130_26, ↓s130_27, ↓s130_30, ↓s130_33, ↓s130_34, ↓s130_35, ↓s130_36, ↓s130_39, ↓s130_42, ↓s130_43, ↓s130_44, ↓s130_47, ↓s130_48, ↓s130_49, ↓s130_50, ↓s130_53, ↓s130_54, ↓s130_57, ↓s130_60, ↓s130_61, ↓s130_62, ↓s130_63, ↓s130_64, ↓s130_67, ↓s130_70, ↓s130_73, ↓s130_74, ↓s130_77, ↓s130_78, ↓s130_81, ↓s130_84, ↓s130_85, ↓s130_88, ↓s130_89r, ↓s130_92, ↓s130_93, ↓s130_96, ↓s130_97, ↓s130_100, ↓s130_102, iL_2, iL_208, iL_26368, iL_27013, iL_27648, iL_36864, wc_1, wc_12, wc_14, wc_28, wc_29, wc_3, wc_31, wc_39, wc_4, wc_41, wg_28_5, wg_34_2, wg_34_3, wg_3_5, wp_28_5, mN1_int, mN1_ref, mN1_null, mN1_U, mN1_rf, mCats_nil, mCats_int, mCats_ref, mCats_null, mCats_long, mCats_rf, mIsRef_ref, mIsRef_null, mIsRef_va, mRf_ref, mRf_null, mRf_rf, true_and, and_true, true_or, or_true, eq_self_iff_true, mK_v, mK_0, Nat.reduceAdd, Nat.reduceLeDiff, Nat.zero_le, iL_0, iL_1, iL_m1, iI_add, iI_sub, iI_mul, iI_neg, updI_at, upA_at, upP_at, upR_at, Nat.reduceEqDiff, reduceIte, Int.reduceAdd, Int.reduceSub, Int.reduceMul, Int.reduceDiv, Int.reduceMod, Int.reduceLT, Int.reduceLE, Int.reduceEq, Int.reduceNeg, not_true_eq_false, not_false_eq_true, Decidable.not_not, zw, iI_eq]
  · rw [if_neg p1]
    simp only [bI_t (show ¬ (I 6) = -1 by omega)] at zw
    by_cases p2 : J 41 = 1
    · rw [if_neg (fun t => t p2)]
      have hk : bok J B := bok_of hM.2.2.2.1 hM.2.2.2.2.1 (by omega)
      have bl := bodL_len hk
      have br := bodL_rng hk
      have wl := whL_rng bl.2
      have z112 := fun Q' => d112 (n := n) (k := k) (Q := Q') (o := o) hb hd hM hT hR (by omega) hm hE
      have ze := fun v => d130_e (n := n) (k := k) (Q := Q) (h0 := h0) (I := I) (A := A) (P := P) (R := R) (o := o) (v := v) hb bl br q7 hg
      have lo : pbI I (bodL J B) 24 = (bodL J B).length := by
        unfold pbI; rw [lwI_at, if_pos rfl, updI_at, if_pos rfl]; omega
      have wa : pbI I (bodL J B) 6 = J 50 := hw
      have ew : whL (bodL J B) = 1 + (if ((bodL J B).length : Int) < 128 then 1 else 2) + (bodL J B).length := by
        unfold whL
        split <;> split <;> omega
      by_cases p3 : J 50 = whL (bodL J B)
      · rw [if_neg (fun t => t p3), ← ze (iI (whL (bodL J B)))]
        rw [ew] at p3 ⊢
        generalize bodL J B = l at *
        simp (maxSteps := 1000000) (disch := first | omega | (simp only [updI_at, upA_at, Nat.reduceEqDiff, reduceIte]; omega) | exact mIsRef_rf _ | exact rfl) only [↓s130_0, ↓s130_1, ↓s130_4, ↓s130_7, ↓s130_10, ↓s130_11, ↓s130_12, ↓s130_15, ↓s130_18, ↓s130_19, ↓s130_22, ↓s130_25, ↓s130_26, ↓s130_27, ↓s130_30, ↓s130_33, ↓s130_34, ↓s130_35, ↓s130_36, ↓s130_39, ↓s130_42, ↓s130_43, ↓s130_44, ↓s130_47, ↓s130_48, ↓s130_49, ↓s130_50, ↓s130_53, ↓s130_54, ↓s130_57, ↓s130_60, ↓s130_61, ↓s130_62, ↓s130_64, ↓s130_67, ↓s130_70, ↓s130_73, ↓s130_74, ↓s130_77, ↓s130_78, ↓s130_81, ↓s130_84, ↓s130_85, ↓s130_88, ↓s130_89r, ↓s130_92, ↓s130_93, ↓s130_96, ↓s130_97, ↓s130_100, ↓s130_102, iL_2, iL_208, iL_26368, iL_27013, iL_27648, iL_36864, wc_1, wc_12, wc_14, wc_28, wc_29, wc_3, wc_31, wc_39, wc_4, wc_41, wg_28_5, wg_34_2, wg_34_3, wg_3_5, wp_28_5, mN1_int, mN1_ref, mN1_null, mN1_U, mN1_rf, mCats_nil, mCats_int, mCats_ref, mCats_null, mCats_long, mCats_rf, mIsRef_ref, mIsRef_null, mIsRef_va, mRf_ref, mRf_null, mRf_rf, true_and, and_true, true_or, or_true, eq_self_iff_true, mK_v, mK_0, Nat.reduceAdd, Nat.reduceLeDiff, Nat.zero_le, iL_0, iL_1, iL_m1, iI_add, iI_sub, iI_mul, iI_neg, updI_at, upA_at, upP_at, upR_at, Nat.reduceEqDiff, reduceIte, Int.reduceAdd, Int.reduceSub, Int.reduceMul, Int.reduceDiv, Int.reduceMod, Int.reduceLT, Int.reduceLE, Int.reduceEq, Int.reduceNeg, not_true_eq_false, not_false_eq_true, Decidable.not_not, zw, hs, iI_eq, eq_true p2, z112, d79_31, lo, c177, wa, eq_true p3]
      · rw [if_pos p3]
        rw [ew] at p3 ⊢
        generalize bodL J B = l at *
        simp (maxSteps := 1000000) (disch := first | omega | (simp only [updI_at, upA_at, Nat.reduceEqDiff, reduceIte]; omega) | exact mIsRef_rf _ | exact rfl) only [↓s130_0, ↓s130_1, ↓s130_4, ↓s130_7, ↓s130_10, ↓s130_11, ↓s130_12, ↓s130_15, ↓s130_18, ↓s130_19, ↓s130_22, ↓s130_25, ↓s130_26, ↓s130_27, ↓s130_30, ↓s130_33, ↓s130_34, ↓s130_35, ↓s130_36, ↓s130_39, ↓s130_42, ↓s130_43, ↓s130_44, ↓s130_47, ↓s130_48, ↓s130_49, ↓s130_50, ↓s130_53, ↓s130_54, ↓s130_57, ↓s130_60, ↓s130_61, ↓s130_62, ↓s130_64, ↓s130_67, ↓s130_70, ↓s130_73, ↓s130_74, ↓s130_77, ↓s130_78, ↓s130_81, ↓s130_84, ↓s130_85, ↓s130_88, ↓s130_89r, ↓s130_92, ↓s130_93, ↓s130_96, ↓s130_97, ↓s130_100, ↓s130_102, iL_2, iL_208, iL_26368, iL_27013, iL_27648, iL_36864, wc_1, wc_12, wc_14, wc_28, wc_29, wc_3, wc_31, wc_39, wc_4, wc_41, wg_28_5, wg_34_2, wg_34_3, wg_3_5, wp_28_5, mN1_int, mN1_ref, mN1_null, mN1_U, mN1_rf, mCats_nil, mCats_int, mCats_ref, mCats_null, mCats_long, mCats_rf, mIsRef_ref, mIsRef_null, mIsRef_va, mRf_ref, mRf_null, mRf_rf, true_and, and_true, true_or, or_true, eq_self_iff_true, mK_v, mK_0, Nat.reduceAdd, Nat.reduceLeDiff, Nat.zero_le, iL_0, iL_1, iL_m1, iI_add, iI_sub, iI_mul, iI_neg, updI_at, upA_at, upP_at, upR_at, Nat.reduceEqDiff, reduceIte, Int.reduceAdd, Int.reduceSub, Int.reduceMul, Int.reduceDiv, Int.reduceMod, Int.reduceLT, Int.reduceLE, Int.reduceEq, Int.reduceNeg, not_true_eq_false, not_false_eq_true, Decidable.not_not, zw, hs, iI_eq, eq_true p2, z112, d79_31, lo, c177, wa, p3]
    · rw [if_pos p2]
      simp (maxSteps := 1000000) (disch := first | omega | (simp only [updI_at, upA_at, Nat.reduceEqDiff, reduceIte]; omega) | exact mIsRef_rf _ | exact rfl) only [↓s130_0, ↓s130_1, ↓s130_4, ↓s130_7, ↓s130_10, ↓s130_11, ↓s130_12, ↓s130_15, ↓s130_18, ↓s130_19, ↓s130_22, ↓s130_25, ↓s130_26, ↓s130_27, ↓s130_30, ↓s130_33, ↓s130_34, ↓s130_35, ↓s130_36, ↓s130_39, ↓s130_42, ↓s130_43, ↓s130_44, ↓s130_47, ↓s130_48, ↓s130_49, ↓s130_50, ↓s130_53, ↓s130_54, ↓s130_57, ↓s130_60, ↓s130_61, ↓s130_62, ↓s130_63, ↓s130_64, ↓s130_67, ↓s130_70, ↓s130_73, ↓s130_74, ↓s130_77, ↓s130_78, ↓s130_81, ↓s130_84, ↓s130_85, ↓s130_88, ↓s130_89r, ↓s130_92, ↓s130_93, ↓s130_96, ↓s130_97, ↓s130_100, ↓s130_102, iL_2, iL_208, iL_26368, iL_27013, iL_27648, iL_36864, wc_1, wc_12, wc_14, wc_28, wc_29, wc_3, wc_31, wc_39, wc_4, wc_41, wg_28_5, wg_34_2, wg_34_3, wg_3_5, wp_28_5, mN1_int, mN1_ref, mN1_null, mN1_U, mN1_rf, mCats_nil, mCats_int, mCats_ref, mCats_null, mCats_long, mCats_rf, mIsRef_ref, mIsRef_null, mIsRef_va, mRf_ref, mRf_null, mRf_rf, true_and, and_true, true_or, or_true, eq_self_iff_true, mK_v, mK_0, Nat.reduceAdd, Nat.reduceLeDiff, Nat.zero_le, iL_0, iL_1, iL_m1, iI_add, iI_sub, iI_mul, iI_neg, updI_at, upA_at, upP_at, upR_at, Nat.reduceEqDiff, reduceIte, Int.reduceAdd, Int.reduceSub, Int.reduceMul, Int.reduceDiv, Int.reduceMod, Int.reduceLT, Int.reduceLE, Int.reduceEq, Int.reduceNeg, not_true_eq_false, not_false_eq_true, Decidable.not_not, zw, hs, iI_eq, p2]
end
end MFETC
