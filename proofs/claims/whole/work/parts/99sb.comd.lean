/-! The class's command answers as the reference's. -/
section MCOMD
variable {G : mG} {h h0 : mH} {n k b : Nat} {Q : mR → Prop} {I : Nat → Int} {A : Nat → Nat → Int} {P : Nat → Nat} {R : Nat → Option Nat} {o : Nat → Int64}
section
variable {J : Nat → Int} {B : Nat → Nat → Int} {fa : Nat → Nat} {fb : Nat → Nat → Int} {fcap : Nat} {fg : Nat → Option Nat} {W : Nat → Nat → Nat → Nat} {V : Nat → Nat → Nat → Nat → Int} {X : Nat → Nat → Option Nat} {cap : Nat} {ng : Nat → Option Nat} {h1 : mH}
theorem cm_end {r : Nat} {st : Int} (hb : G.2.2.2 ≤ b) (hr : rst G h0 b I A P R J B fa fb fcap fg W V X cap ng) (hM : iM J B) (hs : 0 ≤ st ∧ st ≤ 65535) : mX G 167 33 [.ref b, .ref r, mU] [.int (iI st)] (wH h0 b I A P R o) n k Q ↔
    if st = 36864 then (if J 41 = 1 then Q (.inl (some (.int (iI (37120 + whL (bodL J B))))), wH h0 b (pbI (updI I 0 ((I 0) + 1)) (bodL J B)) (pbA (updI I 0 ((I 0) + 1)) A (bodL J B)) P R o, n, k) else Q (.inl (some (.int (iI 36864))), wH h0 b (updI I 0 ((I 0) + 1)) A P R o, n, k)) else Q (.inl (some (.int (iI st))), wH h0 b I A P R o, n, k) := by
  have e := hr.2.2.2.2.2.1
  have es : (I 20) = J 41 := e.1.2.1
  have sr := hM.2.2.2.2.1.1
  by_cases p : st = 36864
  · rw [if_pos p]
    by_cases q : J 41 = 1
    · rw [if_pos q]
      have z := fun n k Q' => d113 (n := n) (k := k) (Q := Q') (I := updI I 0 ((I 0) + 1)) (A := A) (o := o) hb hr.2.1.1 hM hr.2.2.1.1 e.2.2.1 (by omega) e.1.2.2.1 hr.2.2.2.2.2.2.1.1
      generalize hp : pbI (updI I 0 ((I 0) + 1)) (bodL J B) = I2 at *
      generalize pbA (updI I 0 ((I 0) + 1)) A (bodL J B) = A2 at *
      simp (maxSteps := 1000000) (disch := first | omega | (simp only [updI_at, upA_at, Nat.reduceEqDiff, reduceIte]; omega) | exact mIsRef_rf _ | exact rfl) only [↓s167_0, ↓s167_1, ↓s167_4, ↓s167_5, ↓s167_6, ↓s167_9, ↓s167_12, ↓s167_13, ↓s167_16, ↓s167_17r, ↓s167_20, ↓s167_23, ↓s167_24, ↓s167_27, ↓s167_30, ↓s167_33, ↓s167_34, ↓s167_35, ↓s167_38, ↓s167_41, ↓s167_42, ↓s167_43, ↓s167_46, ↓s167_47, ↓s167_48, ↓s167_51, ↓s167_52, ↓s167_55, ↓s167_58, ↓s167_59, ↓s167_62, ↓s167_65, ↓s167_66, ↓s167_69, ↓s167_72, ↓s167_73, ↓s167_74, ↓s167_75, iL_26368, iL_36864, iL_37120, wc_0, wc_1, wc_12, wc_14, wc_28, wc_29, wc_3, wc_31, wc_39, wc_4, wc_41, wg_0_0, wg_0_1, wg_0_10, wg_0_6, wg_28_5, wp_0_10, mN1_int, mN1_ref, mN1_null, mN1_U, mN1_rf, mCats_nil, mCats_int, mCats_ref, mCats_null, mCats_long, mCats_rf, mIsRef_ref, mIsRef_null, mIsRef_va, mRf_ref, mRf_null, mRf_rf, true_and, and_true, true_or, or_true, eq_self_iff_true, mK_v, mK_0, Nat.reduceAdd, Nat.reduceLeDiff, Nat.zero_le, iL_0, iL_1, iL_m1, iI_add, iI_sub, iI_mul, iI_neg, updI_at, upA_at, upP_at, upR_at, Nat.reduceEqDiff, reduceIte, Int.reduceAdd, Int.reduceSub, Int.reduceMul, Int.reduceDiv, Int.reduceMod, Int.reduceLT, Int.reduceLE, Int.reduceEq, Int.reduceNeg, not_true_eq_false, not_false_eq_true, Decidable.not_not, iI_eq, p, es, eq_true q, z]
    · rw [if_neg q]
      simp (maxSteps := 1000000) (disch := first | omega | (simp only [updI_at, upA_at, Nat.reduceEqDiff, reduceIte]; omega) | exact mIsRef_rf _ | exact rfl) only [↓s167_0, ↓s167_1, ↓s167_4, ↓s167_5, ↓s167_6, ↓s167_9, ↓s167_12, ↓s167_13, ↓s167_16, ↓s167_17r, ↓s167_20, ↓s167_23, ↓s167_24, ↓s167_27, ↓s167_30, ↓s167_33, ↓s167_34, ↓s167_35, ↓s167_38, ↓s167_41, ↓s167_42, ↓s167_43, ↓s167_46, ↓s167_47, ↓s167_48, ↓s167_51, ↓s167_52, ↓s167_55, ↓s167_58, ↓s167_59, ↓s167_62, ↓s167_65, ↓s167_66, ↓s167_69, ↓s167_72, ↓s167_73, ↓s167_74, ↓s167_75, iL_26368, iL_36864, iL_37120, wc_0, wc_1, wc_12, wc_14, wc_28, wc_29, wc_3, wc_31, wc_39, wc_4, wc_41, wg_0_0, wg_0_1, wg_0_10, wg_0_6, wg_28_5, wp_0_10, mN1_int, mN1_ref, mN1_null, mN1_U, mN1_rf, mCats_nil, mCats_int, mCats_ref, mCats_null, mCats_long, mCats_rf, mIsRef_ref, mIsRef_null, mIsRef_va, mRf_ref, mRf_null, mRf_rf, true_and, and_true, true_or, or_true, eq_self_iff_true, mK_v, mK_0, Nat.reduceAdd, Nat.reduceLeDiff, Nat.zero_le, iL_0, iL_1, iL_m1, iI_add, iI_sub, iI_mul, iI_neg, updI_at, upA_at, upP_at, upR_at, Nat.reduceEqDiff, reduceIte, Int.reduceAdd, Int.reduceSub, Int.reduceMul, Int.reduceDiv, Int.reduceMod, Int.reduceLT, Int.reduceLE, Int.reduceEq, Int.reduceNeg, not_true_eq_false, not_false_eq_true, Decidable.not_not, iI_eq, p, es, q]
  · rw [if_neg p]
    simp (maxSteps := 1000000) (disch := first | omega | (simp only [updI_at, upA_at, Nat.reduceEqDiff, reduceIte]; omega) | exact mIsRef_rf _ | exact rfl) only [↓s167_0, ↓s167_1, ↓s167_4, ↓s167_5, ↓s167_6, ↓s167_9, ↓s167_12, ↓s167_13, ↓s167_16, ↓s167_17r, ↓s167_20, ↓s167_23, ↓s167_24, ↓s167_27, ↓s167_30, ↓s167_33, ↓s167_34, ↓s167_35, ↓s167_38, ↓s167_41, ↓s167_42, ↓s167_43, ↓s167_46, ↓s167_47, ↓s167_48, ↓s167_51, ↓s167_52, ↓s167_55, ↓s167_58, ↓s167_59, ↓s167_62, ↓s167_65, ↓s167_66, ↓s167_69, ↓s167_72, ↓s167_73, ↓s167_74, ↓s167_75, iL_26368, iL_36864, iL_37120, wc_0, wc_1, wc_12, wc_14, wc_28, wc_29, wc_3, wc_31, wc_39, wc_4, wc_41, wg_0_0, wg_0_1, wg_0_10, wg_0_6, wg_28_5, wp_0_10, mN1_int, mN1_ref, mN1_null, mN1_U, mN1_rf, mCats_nil, mCats_int, mCats_ref, mCats_null, mCats_long, mCats_rf, mIsRef_ref, mIsRef_null, mIsRef_va, mRf_ref, mRf_null, mRf_rf, true_and, and_true, true_or, or_true, eq_self_iff_true, mK_v, mK_0, Nat.reduceAdd, Nat.reduceLeDiff, Nat.zero_le, iL_0, iL_1, iL_m1, iI_add, iI_sub, iI_mul, iI_neg, updI_at, upA_at, upP_at, upR_at, Nat.reduceEqDiff, reduceIte, Int.reduceAdd, Int.reduceSub, Int.reduceMul, Int.reduceDiv, Int.reduceMod, Int.reduceLT, Int.reduceLE, Int.reduceEq, Int.reduceNeg, not_true_eq_false, not_false_eq_true, Decidable.not_not, iI_eq, p]
def cfZ (z : Z3) : Z3 := if z.1 = 36864 ∨ z.1 / 256 = 145 then (z.1, updI z.2.1 45 (z.2.1 45 + 1), z.2.2) else z
theorem comF_eq : comF I A = cfZ (cdF I A) := rfl
theorem rst_dd (hr : rst G h0 b I A P R J B fa fb fcap fg W V X cap ng) : rst G h0 b (updI I 0 ((I 0) + 1)) A P R (updI J 45 (J 45 + 1)) B fa fb fcap fg W V X cap ng := by
  obtain ⟨a1, a2, a3, a4, a5, a6, a7, a8, a9, a10, a11⟩ := hr
  refine ⟨a1, a2, a3, a4, a5, a6, a7, a8, a9, a10, ?_, a11.2⟩
  show (I 0) + 1 = J 45 + 1
  rw [a11.1]
theorem cm_fin {r : Nat} {z : Z3} {st : Int} {I0 : Nat → Int} {A0 : Nat → Nat → Int} (hb : G.2.2.2 ≤ b) (hz : zOk z) (hr : rst G h0 b I A P R z.2.1 z.2.2 fa fb fcap fg W V X cap ng) (h1 : z.1 = if st = 36864 then (if z.2.1 41 = 1 then 37120 + whL (bodL z.2.1 z.2.2) else 36864) else st) (hs : (0 ≤ st ∧ st ≤ 65535) ∧ ¬ st / 256 = 145) (hk : kpM I0 A0 I A) :
    ∃ (I1 : Nat → Int) (A1 : Nat → Nat → Int), (∀ n k Q, mX G 167 33 [.ref b, .ref r, mU] [.int (iI st)] (wH h0 b I A P R o) n k Q ↔ Q (.inl (some (.int (iI (cfZ z).1))), wH h0 b I1 A1 P R o, n, k)) ∧ rst G h0 b I1 A1 P R (cfZ z).2.1 (cfZ z).2.2 fa fb fcap fg W V X cap ng ∧ kpM I0 A0 I1 A1 := by
  have hM := hz.1
  have ze := fun n k Q => cm_end (n := n) (k := k) (Q := Q) (o := o) (r := r) hb hr hM hs.1
  have kd := kpM_I (i := 0) (x := (I 0) + 1) hk (by decide)
  by_cases p : st = 36864
  · simp only [eq_true p, if_true] at h1 ze
    by_cases q : z.2.1 41 = 1
    · simp only [eq_true q, if_true] at h1 ze
      have bk := bok_of hM.2.2.2.1 hM.2.2.2.2.1 (by omega)
      have bl := bodL_len bk
      have br := bodL_rng bk
      have wl := whL_rng bl.2
      have ec : cfZ z = (z.1, updI z.2.1 45 (z.2.1 45 + 1), z.2.2) := by unfold cfZ; rw [if_pos (Or.inr (by omega))]
      rw [ec, h1]
      exact ⟨_, _, ze, rst_pb (rst_dd hr) br, kpM_pb kd⟩
    · simp only [q, if_false] at h1 ze
      have ec : cfZ z = (z.1, updI z.2.1 45 (z.2.1 45 + 1), z.2.2) := by unfold cfZ; rw [if_pos (Or.inl h1)]
      rw [ec, h1]
      exact ⟨_, _, ze, rst_dd hr, kd⟩
  · simp only [p, if_false] at h1 ze
    have ec : cfZ z = z := by unfold cfZ; rw [if_neg (by rw [h1]; omega)]
    rw [ec, h1]
    exact ⟨_, _, ze, hr, hk⟩
theorem d167 (hb : G.2.2.2 ≤ b) (hr : rst G h0 b I A P R J B fa fb fcap fg W V X cap ng) (hM : iM J B) :
    ∃ (h1 : mH) (I1 : Nat → Int) (A1 : Nat → Nat → Int) (P1 : Nat → Nat) (R1 : Nat → Option Nat) (fb1 : Nat → Nat → Int), (∀ n k Q, mX G 167 0 [.ref b, mU, mU] [] (wH h0 b I A P R o) n k Q ↔ Q (.inl (some (.int (iI (comF J B).1))), wH h1 b I1 A1 P1 R1 o, n, k)) ∧ rst G h1 b I1 A1 P1 R1 (comF J B).2.1 (comF J B).2.2 fa fb1 fcap fg W V X cap ng ∧ kpM I A I1 A1 ∧ P1 4 = P 4 := by
  have h0M := c0_ok hM
  have hz := st_ok (m := J 28) h0M rfl
  have tp := hM.2.2.2.2.2.2
  have cm := cm_ok (m := J 28) h0M rfl
  have key : ∀ (r : Nat) (I2 : Nat → Int) (A2 : Nat → Nat → Int) (P1 : Nat → Nat), P1 4 = P 4 → kpM I A I2 A2 → rst G h0 b I2 A2 P1 R (c0I J) B fa fb fcap fg W V X cap ng → (¬ bad B (J 28) → cq I2 A2 (cmI (c0I J) B (J 28)) B ∧ I2 2 = B 14 0 ∧ I2 3 = B 14 1) →
      (∀ n k Q, mX G 167 0 [.ref b, mU, mU] [] (wH h0 b I A P R o) n k Q ↔ mX G 167 20 [.ref b, .ref r, mU] [.int (iI (bI (¬ bad B (J 28))))] (wH h0 b I2 A2 P1 R o) n k Q) →
      ∃ (h1 : mH) (I1 : Nat → Int) (A1 : Nat → Nat → Int) (P1 : Nat → Nat) (R1 : Nat → Option Nat) (fb1 : Nat → Nat → Int), (∀ n k Q, mX G 167 0 [.ref b, mU, mU] [] (wH h0 b I A P R o) n k Q ↔ Q (.inl (some (.int (iI (comF J B).1))), wH h1 b I1 A1 P1 R1 o, n, k)) ∧ rst G h1 b I1 A1 P1 R1 (comF J B).2.1 (comF J B).2.2 fa fb1 fcap fg W V X cap ng ∧ kpM I A I1 A1 ∧ P1 4 = P 4 := by
    intro r I2 A2 P1 kP k2 r2 c2 zz
    have ec : comF J B = cfZ (stF (c0I J) B (J 28)) := rfl
    rw [ec]
    by_cases p : bad B (J 28)
    · have es : stF (c0I J) B (J 28) = (26368, c0I J, B) := by unfold stF; rw [if_pos p]
      rw [es] at hz ⊢
      obtain ⟨I3, A3, m1, m2, m3⟩ := cm_fin (o := o) (r := r) (z := (26368, c0I J, B)) (st := 26368) hb hz r2 rfl (by omega) k2
      refine ⟨h0, I3, A3, P1, R, fb, ?_, m2, m3, kP⟩
      intro n k Q
      rw [zz n k Q, ← m1 n k Q, bI_f (fun t => t p)]
      simp (maxSteps := 1000000) (disch := first | omega | (simp only [updI_at, upA_at, Nat.reduceEqDiff, reduceIte]; omega) | exact mIsRef_rf _ | exact rfl) only [↓s167_0, ↓s167_1, ↓s167_4, ↓s167_5, ↓s167_6, ↓s167_9, ↓s167_12, ↓s167_13, ↓s167_16, ↓s167_17r, ↓s167_20, ↓s167_23, ↓s167_24, ↓s167_27, ↓s167_30, ↓s167_34, ↓s167_35, ↓s167_38, ↓s167_41, ↓s167_42, ↓s167_43, ↓s167_46, ↓s167_47, ↓s167_48, ↓s167_51, ↓s167_52, ↓s167_55, ↓s167_58, ↓s167_59, ↓s167_62, ↓s167_65, ↓s167_66, ↓s167_69, ↓s167_72, ↓s167_73, ↓s167_74, ↓s167_75, iL_26368, iL_36864, iL_37120, wc_0, wc_1, wc_12, wc_14, wc_28, wc_29, wc_3, wc_31, wc_39, wc_4, wc_41, wg_0_0, wg_0_1, wg_0_10, wg_0_6, wg_28_5, wp_0_10, mN1_int, mN1_ref, mN1_null, mN1_U, mN1_rf, mCats_nil, mCats_int, mCats_ref, mCats_null, mCats_long, mCats_rf, mIsRef_ref, mIsRef_null, mIsRef_va, mRf_ref, mRf_null, mRf_rf, true_and, and_true, true_or, or_true, eq_self_iff_true, mK_v, mK_0, Nat.reduceAdd, Nat.reduceLeDiff, Nat.zero_le, iL_0, iL_1, iL_m1, iI_add, iI_sub, iI_mul, iI_neg, updI_at, upA_at, upP_at, upR_at, Nat.reduceEqDiff, reduceIte, Int.reduceAdd, Int.reduceSub, Int.reduceMul, Int.reduceDiv, Int.reduceMod, Int.reduceLT, Int.reduceLE, Int.reduceEq, Int.reduceNeg, not_true_eq_false, not_false_eq_true, Decidable.not_not, iI_eq]
    · have es : stF (c0I J) B (J 28) = caF (cmI (c0I J) B (J 28)) B (B 14 0) (B 14 1) := by unfold stF; rw [if_neg p]
      rw [es] at hz ⊢
      obtain ⟨c3, c4, c5⟩ := c2 p
      have r3 : rst G h0 b I2 A2 P1 R (cmI (c0I J) B (J 28)) B fa fb fcap fg W V X cap ng := r2
      obtain ⟨st1, h1', I1, A1, R1, fb1, m1, m2, m3, m4, m5⟩ := ck_173 (o := o) hb r3 cm.1 cm.2 c3 c4 c5 (tp 0) (tp 1)
      dsimp only at m1
      obtain ⟨I3, A3, e1, e2, e3⟩ := cm_fin (o := o) (r := r) hb hz m4 m2 m3 (kpM_tr k2 m5)
      refine ⟨h1', I3, A3, P1, R1, fb1, ?_, e2, e3, kP⟩
      intro n k Q
      rw [zz n k Q, ← e1 n k Q, bI_t p]
      simp (maxSteps := 1000000) (disch := first | omega | (simp only [updI_at, upA_at, Nat.reduceEqDiff, reduceIte]; omega) | exact mIsRef_rf _ | exact rfl) only [↓s167_0, ↓s167_1, ↓s167_4, ↓s167_5, ↓s167_6, ↓s167_9, ↓s167_12, ↓s167_13, ↓s167_16, ↓s167_17r, ↓s167_20, ↓s167_23, ↓s167_24, ↓s167_27, ↓s167_30, ↓s167_34, ↓s167_35, ↓s167_38, ↓s167_41, ↓s167_42, ↓s167_43, ↓s167_46, ↓s167_47, ↓s167_48, ↓s167_51, ↓s167_52, ↓s167_55, ↓s167_58, ↓s167_59, ↓s167_62, ↓s167_65, ↓s167_66, ↓s167_69, ↓s167_72, ↓s167_73, ↓s167_74, ↓s167_75, iL_26368, iL_36864, iL_37120, wc_0, wc_1, wc_12, wc_14, wc_28, wc_29, wc_3, wc_31, wc_39, wc_4, wc_41, wg_0_0, wg_0_1, wg_0_10, wg_0_6, wg_28_5, wp_0_10, mN1_int, mN1_ref, mN1_null, mN1_U, mN1_rf, mCats_nil, mCats_int, mCats_ref, mCats_null, mCats_long, mCats_rf, mIsRef_ref, mIsRef_null, mIsRef_va, mRf_ref, mRf_null, mRf_rf, true_and, and_true, true_or, or_true, eq_self_iff_true, mK_v, mK_0, Nat.reduceAdd, Nat.reduceLeDiff, Nat.zero_le, iL_0, iL_1, iL_m1, iI_add, iI_sub, iI_mul, iI_neg, updI_at, upA_at, upP_at, upR_at, Nat.reduceEqDiff, reduceIte, Int.reduceAdd, Int.reduceSub, Int.reduceMul, Int.reduceDiv, Int.reduceMod, Int.reduceLT, Int.reduceLE, Int.reduceEq, Int.reduceNeg, not_true_eq_false, not_false_eq_true, Decidable.not_not, iI_eq, m1]
  have x := hr.2.2.2.2.2.2.2.1
  obtain ⟨⟨x5, x6⟩, x7, x8⟩ := x.2.2.2.2
  rcases hr.2.2.2.2.2.2.2.2.2.1 with ⟨hP, ht1, ht2⟩ | ⟨hP, ht1, ht2⟩
  · have r1 := rst_in hr hP
    have z := fun n k Q => d74_a (G := G) (h0 := h0) (b := b) (n := n) (k := k) (Q := Q) (I := updI (updI I 26 0) 1 0) (A := A) (P := upP (upP P 0 41) 1 39) (R := R) (o := o) hb x5 x7
    have ht1' : updI (updI I 26 0) 1 0 25 = J 28 := ht1
    rw [ht1'] at z
    obtain ⟨I2, A2, m1, m2, m3, m4⟩ := rq_in (J := J) (N := J 28) (g := (A 12)) r1 ⟨rfl, ht2⟩ x5 hM.2.2.2.2.2.1.1 rfl z
    refine key (b + 39) I2 A2 (upP (upP P 0 41) 1 39) rfl (kpM_tr (kpM_I (kpM_I kpM_refl (by decide)) (by decide)) m2) m3 m4 ?_
    intro n k Q
    have zt := fun n k Q => d172_a (G := G) (h0 := h0) (n := n) (k := k) (Q := Q) (I := I) (A := A) (R := R) (o := o) hb hP.1 hP.2
    have zc := fun n k Q => d83_1 (G := G) (h0 := h0) (n := n) (k := k) (Q := Q) (I := updI I 26 0) (A := A) (P := upP (upP P 0 41) 1 39) (R := R) (o := o) hb
    generalize bI (¬ bad B (J 28)) = u at *
    generalize upP (upP P 0 41) 1 39 = P1 at *
    generalize updI (updI I 26 0) 1 0 = I5 at *
    generalize updI I 26 0 = I4 at *
    simp (maxSteps := 1000000) (disch := first | omega | (simp only [updI_at, upA_at, Nat.reduceEqDiff, reduceIte]; omega) | exact mIsRef_rf _ | exact rfl) only [↓s167_0, ↓s167_1, ↓s167_4, ↓s167_5, ↓s167_6, ↓s167_9, ↓s167_12, ↓s167_13, ↓s167_16, ↓s167_17r, ↓s167_23, ↓s167_24, ↓s167_27, ↓s167_30, ↓s167_33, ↓s167_34, ↓s167_35, ↓s167_38, ↓s167_41, ↓s167_42, ↓s167_43, ↓s167_46, ↓s167_47, ↓s167_48, ↓s167_51, ↓s167_52, ↓s167_55, ↓s167_58, ↓s167_59, ↓s167_62, ↓s167_65, ↓s167_66, ↓s167_69, ↓s167_72, ↓s167_73, ↓s167_74, ↓s167_75, iL_26368, iL_36864, iL_37120, wc_0, wc_1, wc_12, wc_14, wc_28, wc_29, wc_3, wc_31, wc_39, wc_4, wc_41, wg_0_0, wg_0_1, wg_0_10, wg_0_6, wg_28_5, wp_0_10, mN1_int, mN1_ref, mN1_null, mN1_U, mN1_rf, mCats_nil, mCats_int, mCats_ref, mCats_null, mCats_long, mCats_rf, mIsRef_ref, mIsRef_null, mIsRef_va, mRf_ref, mRf_null, mRf_rf, true_and, and_true, true_or, or_true, eq_self_iff_true, mK_v, mK_0, Nat.reduceAdd, Nat.reduceLeDiff, Nat.zero_le, iL_0, iL_1, iL_m1, iI_add, iI_sub, iI_mul, iI_neg, updI_at, upA_at, upP_at, upR_at, Nat.reduceEqDiff, reduceIte, Int.reduceAdd, Int.reduceSub, Int.reduceMul, Int.reduceDiv, Int.reduceMod, Int.reduceLT, Int.reduceLE, Int.reduceEq, Int.reduceNeg, not_true_eq_false, not_false_eq_true, Decidable.not_not, zt, zc, m1]
  · have r1 := rst_in' hr hP
    have z := fun n k Q => d74_b (G := G) (h0 := h0) (b := b) (n := n) (k := k) (Q := Q) (I := updI (updI I 25 0) 1 0) (A := A) (P := upP (upP P 0 39) 1 41) (R := R) (o := o) hb x6 x8
    have ht1' : updI (updI I 25 0) 1 0 26 = J 28 := ht1
    rw [ht1'] at z
    obtain ⟨I2, A2, m1, m2, m3, m4⟩ := rq_in (J := J) (N := J 28) (g := (A 13)) r1 ⟨rfl, ht2⟩ x6 hM.2.2.2.2.2.1.1 rfl z
    refine key (b + 41) I2 A2 (upP (upP P 0 39) 1 41) rfl (kpM_tr (kpM_I (kpM_I kpM_refl (by decide)) (by decide)) m2) m3 m4 ?_
    intro n k Q
    have zt := fun n k Q => d172_b (G := G) (h0 := h0) (n := n) (k := k) (Q := Q) (I := I) (A := A) (R := R) (o := o) hb hP.1 hP.2
    have zc := fun n k Q => d83_1 (G := G) (h0 := h0) (n := n) (k := k) (Q := Q) (I := updI I 25 0) (A := A) (P := upP (upP P 0 39) 1 41) (R := R) (o := o) hb
    generalize bI (¬ bad B (J 28)) = u at *
    generalize upP (upP P 0 39) 1 41 = P1 at *
    generalize updI (updI I 25 0) 1 0 = I5 at *
    generalize updI I 25 0 = I4 at *
    simp (maxSteps := 1000000) (disch := first | omega | (simp only [updI_at, upA_at, Nat.reduceEqDiff, reduceIte]; omega) | exact mIsRef_rf _ | exact rfl) only [↓s167_0, ↓s167_1, ↓s167_4, ↓s167_5, ↓s167_6, ↓s167_9, ↓s167_12, ↓s167_13, ↓s167_16, ↓s167_17r, ↓s167_23, ↓s167_24, ↓s167_27, ↓s167_30, ↓s167_33, ↓s167_34, ↓s167_35, ↓s167_38, ↓s167_41, ↓s167_42, ↓s167_43, ↓s167_46, ↓s167_47, ↓s167_48, ↓s167_51, ↓s167_52, ↓s167_55, ↓s167_58, ↓s167_59, ↓s167_62, ↓s167_65, ↓s167_66, ↓s167_69, ↓s167_72, ↓s167_73, ↓s167_74, ↓s167_75, iL_26368, iL_36864, iL_37120, wc_0, wc_1, wc_12, wc_14, wc_28, wc_29, wc_3, wc_31, wc_39, wc_4, wc_41, wg_0_0, wg_0_1, wg_0_10, wg_0_6, wg_28_5, wp_0_10, mN1_int, mN1_ref, mN1_null, mN1_U, mN1_rf, mCats_nil, mCats_int, mCats_ref, mCats_null, mCats_long, mCats_rf, mIsRef_ref, mIsRef_null, mIsRef_va, mRf_ref, mRf_null, mRf_rf, true_and, and_true, true_or, or_true, eq_self_iff_true, mK_v, mK_0, Nat.reduceAdd, Nat.reduceLeDiff, Nat.zero_le, iL_0, iL_1, iL_m1, iI_add, iI_sub, iI_mul, iI_neg, updI_at, upA_at, upP_at, upR_at, Nat.reduceEqDiff, reduceIte, Int.reduceAdd, Int.reduceSub, Int.reduceMul, Int.reduceDiv, Int.reduceMod, Int.reduceLT, Int.reduceLE, Int.reduceEq, Int.reduceNeg, not_true_eq_false, not_false_eq_true, Decidable.not_not, zt, zc, m1]
end
end MCOMD
