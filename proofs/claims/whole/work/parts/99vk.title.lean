/-! The call: title. -/
section MTITLE
variable {G : mG} {h h0 : mH} {n k b : Nat} {Q : mR → Prop} {I : Nat → Int} {A : Nat → Nat → Int} {P : Nat → Nat} {R : Nat → Option Nat} {o : Nat → Int64}
section
variable {fa : Nat → Nat} {fb : Nat → Nat → Int} {fcap : Nat} {fg : Nat → Option Nat} {W : Nat → Nat → Nat → Nat} {V : Nat → Nat → Nat → Nat → Int} {X : Nat → Nat → Option Nat} {cap : Nat} {ng : Nat → Option Nat} {h1 : mH}
theorem iM_title {g : Nat → Int} {x : Int} (h : iM I A) (hx : 0 ≤ x ∧ x ≤ 20) (hg : ∀ j, 0 ≤ g j ∧ g j ≤ 255) : iM (updI (updI (updI I 27 0) 28 0) 32 x) (upA A 37 g) := by
  obtain ⟨hA, hF, hH, ⟨n1, n2, n3, n4, n5, n6, n7, n8, n9, n10, n11⟩, hS, ⟨⟨t1, t2, t3⟩, t4⟩⟩ := h
  exact ⟨RgA_upA hA (fun j => by have := hg j; omega), hF, hH, ⟨n1, n2, n3, n4, n5, hx, n7, n8, n9, n10, hg⟩, hS, ⟨⟨by show (0 : Int) ≤ 0 ∧ (0 : Int) ≤ 300; omega, t2, t3⟩, t4⟩⟩
theorem op_title (hb : G.2.2.2 ≤ b) (hM : iM I A) (hr : rst G h0 b I A P R I A fa fb fcap fg W V X cap ng) (hf : fre P b n W) (hri : ri I A) :
    opX G b n 16 9000 (fun n k Q => mX G 285 0 [.ref b, .ref (b + 78), mU] [] (wH h0 b I A P R o) n k Q) (fun h n k Q => mX G 195 0 [.ref (b + 43), mU, mU] [] h n k Q) := by
  have ht := hM.2.2.2.2.2.1.1
  have htp := hM.2.2.2.2.2.2
  obtain ⟨r, I1, P1, g, zt, ⟨kk, kP⟩, r1, ⟨t1, t2, t3, t4⟩, g1, g2⟩ := tp_ok (o := o) hb hM hr
  have hf1 : fre P1 b n W := ⟨hf.1, by rw [kP]; exact hf.2.1, hf.2.2⟩
  have c := fun h1 P1 o n X1 Y k Q (hA : RgA (gm Y A)) => c195 (G := G) (h0 := h1) (n := n) (k := k) (Q := Q) (I := gl X1 I) (A := gm Y A) (P := P1) (R := R) (o := o) hb hA ht
  simp (disch := decide) only [gl_at, gm_at, gl_up, gm_up, upd_t] at c
  have hn79 := hf.1
  have hP4 : P1 4 = n := hf1.2.1
  by_cases p1 : (I 28) ≤ 20
  · have hz0 : ∀ a, n ≤ a → h0 a = none := fun a q => r1.2.2.2.2.2.2.2.2.2.2.2.2.2.2 a (by omega)
    have z92 := fun k Q => t4 h0 n k Q hn79
    have gr := rcp_r (fun j => rget (I 28) g j) ((I 28)).toNat
    have ge := rcp_tp g1 htp
    generalize hgg : rcp zer 0 (fun j => rget (I 28) g j) ((I 28)).toNat = gg at *
    generalize hmt : ((I 28)).toNat = mt at *
    have he : ∀ a e, h0 a = some e → rU h0 n (n + 1) mt (I 28) gg a = some e := by
      intro a e q
      have := hLt hz0 q
      rw [rU_ne (by omega) (by omega)]
      exact q
    have hz2 : ∀ y, n + 2 ≤ y → rU h0 n (n + 1) mt (I 28) gg y = none := fun y hy => by
      rw [rU_ne (by omega) (by omega)]
      exact hz0 y (by omega)
    have cr : rU h0 n (n + 1) mt (I 28) gg n = some (mO 7 [.ref (n + 1), .int (iI (I 28))]) := rU_r
    have cp : rU h0 n (n + 1) mt (I 28) gg (n + 1) = some (mI mt (fun j => iI (gg j))) := rU_p (by omega)
    have r2 := rst_ext (m := n + 2) he hz2 r1
    obtain ⟨ow, ho⟩ := r1.2.2.2.2.2.2.2.2.2.2.2.2.2.1
    have ho2 : oW (fun y => if y = n then 4050 else if y = n + 1 then 4051 else ow y) P1 (updI I 28 0) A fa W := oW_ext r1 (fun a e q => by
      have := hLt hz0 q
      rw [if_neg (by omega), if_neg (by omega)]) ho
    have tn : (fun y => if y = n then 4050 else if y = n + 1 then 4051 else ow y) n = 4050 := if_pos rfl
    have tn1 : (fun y => if y = n then 4050 else if y = n + 1 then 4051 else ow y) (n + 1) = 4051 := by
      dsimp only
      rw [if_neg (by omega), if_pos rfl]
    generalize (fun y => if y = n then 4050 else if y = n + 1 then 4051 else ow y) = ow2 at *
    generalize rU h0 n (n + 1) mt (I 28) gg = h1a at *
    have ho3 : oW ow2 (upP P1 4 (n + 2)) (updI I 28 0) A fa W := ho2
    have hd := r2.2.1.1.2.2.2.2 40 (Or.inr rfl)
    obtain ⟨hn, ha, hT, h5, hrest⟩ := id hd.1
    have w19 : W 0 40 0 = b + 19 := r2.2.1.1.2.2.1
    obtain ⟨o0, ⟨o1, o2, o3, o4⟩, ⟨o5, o6⟩, o7⟩ := ho3.2.1 40 (Or.inr rfl)
    have i5 := hM.2.2.2.1.2.2.1 40 (by omega)
    rw [w19] at hn o0
    have hcell := hn.2.2
    have hne : ∀ k N f, 2 ≤ k → (mO 4 [.int (iI (nF A 40 0)), .int (iI (nF A 40 1)), .int (iI (nF A 40 2)), .ref (W 1 40 0), .ref (W 1 40 0 + 1), .ref (W 1 40 0 + 2), .ref (W 1 40 0 + 3), .int (iI (nF A 40 7)), .ref (W 2 40 0), va_rf (nfl fa A 40), .int (iI (nF A 40 10)), .int (iI (nF A 40 11))] : mE) ≠ .inl (k, N, f) := fun k N f _ q => by cases q
    have np8 := fun K => np_8 (I := I1) (A := A) (P := P1) (R := R) (o := o) (K := K) (t' := n) hn
    have hk : ∀ y, ow2 y ≠ 4000 → mUp h1a (b + 19) (nOb (W 1 40 0) n (nfl fa A 40) (nF A 40)) y = h1a y := ow_up (by omega)
    have hnu := nO_up (t' := n) (fl' := nfl fa A 40) hn (nF A 40)
    have hku : stc h1a (mUp h1a (b + 19) (nOb (W 1 40 0) n (nfl fa A 40) (nF A 40))) := stc_up (fun _ _ _ _ _ q => q) hcell hne
    have hz3 : ∀ y, n + 2 ≤ y → mUp h1a (b + 19) (nOb (W 1 40 0) n (nfl fa A 40) (nF A 40)) y = none := keep_0 hcell hz2
    have z161 : ∀ k Q, mX G 161 0 [.ref b, mU] [] (wH h0 b I A P R o) n k Q ↔ Q (.inl (some (.int (iI (I 28)))), wH (mUp h1a (b + 19) (nOb (W 1 40 0) n (nfl fa A 40) (nF A 40))) b I1 A P1 R o, n + 2, k + (2 + mt)) := by
      intro k Q
      generalize nOb (W 1 40 0) n (nfl fa A 40) (nF A 40) = cc at *
      simp (maxSteps := 1000000) (disch := first | omega | (simp only [updI_at, upA_at, Nat.reduceEqDiff, reduceIte]; omega) | exact mIsRef_rf _ | exact rfl) only [↓s161_0, ↓s161_1, ↓s161_4, ↓s161_5, ↓s161_6, ↓s161_9, ↓s161_11, ↓s161_14, ↓s161_17, ↓s161_24, ↓s161_25, ↓s161_28, ↓s161_31, ↓s161_32, ↓s161_35, ↓s161_38, ↓s161_39, ↓s161_42, iL_20, wc_0, wc_1, wc_12, wc_14, wc_29, wc_31, wc_39, wc_4, wc_41, wg_0_5, wg_17_1, mN1_int, mN1_ref, mN1_null, mN1_U, mN1_rf, mCats_nil, mCats_int, mCats_ref, mCats_null, mCats_long, mCats_rf, mIsRef_ref, mIsRef_null, mIsRef_va, mRf_ref, mRf_null, mRf_rf, true_and, and_true, true_or, or_true, eq_self_iff_true, mK_v, mK_0, Nat.reduceAdd, Nat.reduceLeDiff, Nat.zero_le, iL_0, iL_1, iL_m1, iI_add, iI_sub, iI_mul, iI_neg, updI_at, upA_at, upP_at, upR_at, Nat.reduceEqDiff, reduceIte, Int.reduceAdd, Int.reduceSub, Int.reduceMul, Int.reduceDiv, Int.reduceMod, Int.reduceLT, Int.reduceLE, Int.reduceEq, Int.reduceNeg, not_true_eq_false, not_false_eq_true, Decidable.not_not, zt, t1, t3 _ _ _ _ _ _, iI_le, p1, z92, np8, Nat.add_assoc]
    obtain ⟨⟨k1, k2⟩, k3, k4, k5, k6⟩ := kept_gen (x := 40) r2 (iM_t0 (v := (I 27)) hM) ho3 (by omega) (fun y hy => hk y (by omega)) hku
    generalize hh2 : mUp h1a (b + 19) (nOb (W 1 40 0) n (nfl fa A 40) (nF A 40)) = h2 at *
    obtain ⟨⟨b1, b1'⟩, b2, b3, b4, b5, b6, b7, b8, b9, b10, b11, z1, z2, z3, z4⟩ := id r2
    have hr1 : rst G h2 b I1 A (upP P1 4 (n + 2)) R (updI (updI (updI I 27 0) 28 0) 32 (I 28)) (upA A 37 (cpE (A 37) (A 14) 0 (I 28))) fa fb fcap fg (upW W 40 (fun q j => if q = 2 then n else if q = 3 then mt else W q 40 j)) (upV V 40 (fun q j u => if q = 3 then gg j else V q 40 j u)) (upX X 40 (X 40)) cap ng := by
      refine ⟨⟨k1, b1'⟩, ⟨nd_no (J := updI I 28 0) (B := A) k2 k3 b2.1 rfl rfl ?_ ?_, b2.2.1, ?_⟩, k4, b4, b5, ⟨b6.1, b6.2.1, cuR_W b6.2.2.1 ?_, b6.2.2.2⟩, b7, b8, b9, b10, b11, k5, k6, ⟨ow2, ?_⟩, hz3⟩
      · intro i hi q d
        refine dN1_cg (J := updI I 28 0) (B := A) ?_ rfl ?_ rfl (fun j hj => rfl) rfl (fun j hj => ⟨⟨rfl, rfl, rfl⟩, fun u hu => rfl⟩) ?_ d
        · rfl
        · unfold tln
          rw [if_neg q, if_neg q]
          rfl
        · intro u hu
          rw [if_neg q, if_neg q]
          rfl
      · obtain ⟨hd1, hd2, hd3, hd4⟩ := hd
        refine ⟨?_, ?_, ?_, ?_⟩
        · simp only [upV_eq, upW_eq, upX_eq]
          show nN G h2 b (W 0 40 0) (W 1 40 0) n (rmN A 40) mt (nfl fa A 40) (nF A 40) (fun j => V 0 40 j 0) (fun j => V 1 40 j 0) (fun j => V 2 40 j 0) (fun j => gg j) (X 40) (I 28) (fun j => W 4 40 j) (fun j => W 5 40 j) (fun j => V 4 40 j 0) (fun j u => V 5 40 j u)
          rw [w19]
          refine ⟨hnu, ⟨?_, ?_, ?_, ?_⟩, ⟨⟨Or.inr (Or.inl hn79), Or.inr (Or.inl (by omega))⟩, ?_, ?_⟩, ?_, ⟨⟨by omega, hrest.1.1.2⟩, by show 0 ≤ (I 28) ∧ (I 28) ≤ mt; omega, by show (I 28) ≤ 100; omega, hrest.1.2.2.2⟩, hrest.2.1, gr, hrest.2.2.2⟩
          · rw [hk _ (by omega)]; exact ha.1
          · rw [hk _ (by omega)]; exact ha.2.1
          · rw [hk _ (by omega)]; exact ha.2.2.1
          · rw [hk _ (by omega)]; exact ha.2.2.2
          · rw [hk _ (by omega)]; exact cr
          · rw [hk _ (by omega)]; exact cp
          · intro j hj
            have hj' : (j : Int) < (A 32) 40 := hj
            obtain ⟨c1, c2, c3⟩ := h5 j hj
            obtain ⟨q1, q2⟩ := o7 j hj'
            have w1 : ow2 (W 4 40 j) ≠ 4000 := by omega
            have w2 : ow2 (W 4 40 j + 1) ≠ 4000 := by omega
            exact ⟨c1, nT_eq (t0 := W 4 40 j) (hk _ w1) (hk _ w2) c2, c3⟩
        · intro j hj
          simp only [upV_eq]
          exact hd2 j hj
        · intro j hj
          simp only [upV_eq]
          exact hd3 j hj
        · intro u hu
          have hu' : (u : Int) < (I 28) := hu
          rw [upV_eq, if_pos rfl]
          show gg u = cpE (A 37) (A 14) 0 (I 28) u
          rw [ge u hu']
          unfold cpE
          rw [if_pos (by omega), show ((u : Int) - 0).toNat = u by omega]
      · intro x hx i hi
        obtain ⟨s1, s2, s3⟩ := b2.2.2 x hx i hi
        obtain ⟨i1, i2, i3, i4⟩ := r1.1.1.2.2.1 x hx
        have lt := hLt hz0 i2.2.2
        by_cases q : i = 40
        · subst q
          simp only [upW_eq]
          exact ⟨s1, by show fa x ≠ n; omega, s3⟩
        · simp only [upW_ne q]
          exact ⟨s1, s2, s3⟩
      · intro i
        by_cases q : i = 40
        · subst q
          rw [upW_eq]
          rfl
        · exact upW_ne q _ _
      · obtain ⟨y1, y2, y3⟩ := ho3
        refine ⟨y1, ?_, y3⟩
        intro i hi
        by_cases q : i = 40
        · subst q
          simp only [upW_eq]
          rw [w19]
          exact ⟨o0, ⟨o1, o2, o3, o4⟩, ⟨tn, tn1⟩, o7⟩
        · simp only [upW_ne q]
          exact y2 i hi
    have hfW : fre (upP P1 4 (n + 2)) b (n + 2) (upW W 40 (fun q j => if q = 2 then n else if q = 3 then mt else W q 40 j)) := by
      refine ⟨by omega, rfl, ?_⟩
      intro i j
      have := hf.2.2 i j
      by_cases q : i = 40
      · subst q
        rw [upW_eq]
        show W 4 40 j < n + 2
        omega
      · rw [upW_ne q]
        omega
    have hbb : ∀ j, 0 ≤ cpE (A 37) (A 14) 0 (I 28) j ∧ cpE (A 37) (A 14) 0 (I 28) j ≤ 255 := cpE_P (p := fun x => 0 ≤ x ∧ x ≤ 255) hM.2.2.2.1.2.2.2.2.2.2.2.2.2.2 htp
    obtain ⟨A2, e1, e2, e3⟩ := op_end (o := vp_updL o 0 (iI (I 28)).toInt64) hr1 kk hM (iM_title hM ⟨ht.1, p1⟩ hbb) hfW hri
    refine ⟨0, (I 28), n + 2, 2 + mt, h2, I1, A, upP P1 4 (n + 2), R, _, _, _, ⟨by omega, by omega⟩, fun k Q => law_285 hb z161, k6, ?_, ⟨rfl, by omega⟩, fun _ => vp_0 _ _, e3⟩
    intro k Q
    dsimp only
    rw [e1, c _ _ _ _ _ _ _ _ e2.1, if_pos p1]
  · have z161 : ∀ k Q, mX G 161 0 [.ref b, mU] [] (wH h0 b I A P R o) n k Q ↔ Q (.inr 1, wH h0 b I1 A P1 R o, n + 1, k + 6) := by
      intro k Q
      simp (maxSteps := 1000000) (disch := first | omega | (simp only [updI_at, upA_at, Nat.reduceEqDiff, reduceIte]; omega) | exact mIsRef_rf _ | exact rfl) only [↓s161_0, ↓s161_1, ↓s161_4, ↓s161_5, ↓s161_6, ↓s161_9, ↓s161_11, ↓s161_14, ↓s161_17, ↓s161_24, ↓s161_25, ↓s161_28, ↓s161_31, ↓s161_32, ↓s161_35, ↓s161_38, ↓s161_39, ↓s161_42, iL_20, wc_0, wc_1, wc_12, wc_14, wc_29, wc_31, wc_39, wc_4, wc_41, wg_0_5, wg_17_1, mN1_int, mN1_ref, mN1_null, mN1_U, mN1_rf, mCats_nil, mCats_int, mCats_ref, mCats_null, mCats_long, mCats_rf, mIsRef_ref, mIsRef_null, mIsRef_va, mRf_ref, mRf_null, mRf_rf, true_and, and_true, true_or, or_true, eq_self_iff_true, mK_v, mK_0, Nat.reduceAdd, Nat.reduceLeDiff, Nat.zero_le, iL_0, iL_1, iL_m1, iI_add, iI_sub, iI_mul, iI_neg, updI_at, upA_at, upP_at, upR_at, Nat.reduceEqDiff, reduceIte, Int.reduceAdd, Int.reduceSub, Int.reduceMul, Int.reduceDiv, Int.reduceMod, Int.reduceLT, Int.reduceLE, Int.reduceEq, Int.reduceNeg, not_true_eq_false, not_false_eq_true, Decidable.not_not, zt, t1, t3 _ _ _ _ _ _, iI_le, p1]
    refine op_thr (o := o) (v := 1) (J := updI (updI I 28 0) 27 1) hM (iM_t0 hM) r1 kk hf1 hri (by omega) (by omega) rfl (fun k Q => law_285x z161) ?_
    intro X1 Y hi k Q
    rw [c _ _ _ _ _ _ _ _ hi.1, if_neg p1]
end
end MTITLE
