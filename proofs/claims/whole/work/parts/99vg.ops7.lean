/-! The calls: fill, title. -/
section MOPS7
variable {G : mG} {h h0 : mH} {n k b : Nat} {Q : mR → Prop} {I : Nat → Int} {A : Nat → Nat → Int} {P : Nat → Nat} {R : Nat → Option Nat} {o : Nat → Int64}
theorem wH_rU {c m : Nat} {len : Int} {g : Nat → Int} (hm : b + 79 ≤ m) : rU (wH h0 b I A P R o) m (m + 1) c len g = wH (rU h0 m (m + 1) c len g) b I A P R o := by
  unfold rU
  rw [wH_put (Or.inr (Or.inl (by omega))), wH_put (Or.inr (Or.inl hm))]
theorem d92_39 (hb : G.2.2.2 ≤ b) (hg : ∀ j, 0 ≤ (A 12) j ∧ (A 12) j ≤ 255) (hl : 0 ≤ (I 25) ∧ (I 25) ≤ 300) (hn : b + 79 ≤ n) : mX G 92 0 [.ref (b + 39), mU] [] (wH h0 b I A P R o) n k Q ↔ Q (.inl (some (.ref n)), wH (rU h0 n (n + 1) ((I 25)).toNat (I 25) (rcp zer 0 (fun j => rget (I 25) (A 12) j) ((I 25)).toNat)) b I A P R o, n + 2, k + 2 + ((I 25)).toNat) := by
  have e := c92 (G := G) (h := wH h0 b I A P R o) (r2 := b + 39) (p2 := b + 40) (c2 := 300) (len2 := (I 25)) (g2 := (A 12)) (n := n) (k := k) (Q := Q) hg (by omega) (by omega) (by omega) (by omega) (by decide) hl
  rw [← wr_39, wH_rU hn] at e
  exact e
theorem d92_41 (hb : G.2.2.2 ≤ b) (hg : ∀ j, 0 ≤ (A 13) j ∧ (A 13) j ≤ 255) (hl : 0 ≤ (I 26) ∧ (I 26) ≤ 300) (hn : b + 79 ≤ n) : mX G 92 0 [.ref (b + 41), mU] [] (wH h0 b I A P R o) n k Q ↔ Q (.inl (some (.ref n)), wH (rU h0 n (n + 1) ((I 26)).toNat (I 26) (rcp zer 0 (fun j => rget (I 26) (A 13) j) ((I 26)).toNat)) b I A P R o, n + 2, k + 2 + ((I 26)).toNat) := by
  have e := c92 (G := G) (h := wH h0 b I A P R o) (r2 := b + 41) (p2 := b + 42) (c2 := 300) (len2 := (I 26)) (g2 := (A 13)) (n := n) (k := k) (Q := Q) hg (by omega) (by omega) (by omega) (by omega) (by decide) hl
  rw [← wr_41, wH_rU hn] at e
  exact e
section
variable {J : Nat → Int} {B : Nat → Nat → Int} {fa : Nat → Nat} {fb : Nat → Nat → Int} {fcap : Nat} {fg : Nat → Option Nat} {W : Nat → Nat → Nat → Nat} {V : Nat → Nat → Nat → Nat → Int} {X : Nat → Nat → Option Nat} {cap : Nat} {ng : Nat → Option Nat} {h1 : mH}
/-- the row that takeTape gives -/
def tkR (G : mG) (b r : Nat) (I1 : Nat → Int) (A : Nat → Nat → Int) (P1 : Nat → Nat) (R : Nat → Option Nat) (o : Nat → Int64) (m : Int) (g : Nat → Int) : Prop :=
  (∀ (h0 : mH) (n k : Nat) (Q : mR → Prop), mX G 79 0 [.ref (b + r)] [] (wH h0 b I1 A P1 R o) n k Q ↔ Q (.inl (some (.int (iI m))), wH h0 b I1 A P1 R o, n, k)) ∧ rG G b (b + r) I1 A (fun z => rget m g z) ∧ rC b (b + r) ∧
  (∀ (h0 : mH) (n k : Nat) (Q : mR → Prop), b + 79 ≤ n → (mX G 92 0 [.ref (b + r), mU] [] (wH h0 b I1 A P1 R o) n k Q ↔ Q (.inl (some (.ref n)), wH (rU h0 n (n + 1) m.toNat m (rcp zer 0 (fun j => rget m g j) m.toNat)) b I1 A P1 R o, n + 2, k + 2 + m.toNat)))
theorem tp_ok (hb : G.2.2.2 ≤ b) (hM : iM I A) (hr : rst G h0 b I A P R I A fa fb fcap fg W V X cap ng) : ∃ (r : Nat) (I1 : Nat → Int) (P1 : Nat → Nat) (g : Nat → Int), (∀ n k Q, mX G 172 0 [.ref b, mU] [] (wH h0 b I A P R o) n k Q ↔ Q (.inl (some (.ref (b + r))), wH h0 b I1 A P1 R o, n, k)) ∧ (kpM I A I1 A ∧ P1 4 = P 4) ∧ rst G h0 b I1 A P1 R (updI I 28 0) A fa fb fcap fg W V X cap ng ∧ tkR G b r I1 A P1 R o (I 28) g ∧ (∀ j : Nat, (j : Int) < (I 28) → g j = (A 14) j) ∧ (∀ j, 0 ≤ g j ∧ g j ≤ 255) := by
  obtain ⟨b1, b2, b3, b4, b5, b6, b7, ⟨x1, x2, x3, x4, ⟨x5, x6⟩, x7, x8⟩, b9, b10, b11⟩ := id hr
  rcases b10 with ⟨hP, ht1, ht2⟩ | ⟨hP, ht1, ht2⟩
  · refine ⟨39, updI I 26 0, upP (upP P 0 41) 1 39, (A 12), fun n k Q => d172_a hb hP.1 hP.2, ⟨kpM_I kpM_refl (by decide), rfl⟩, ?_, ⟨?_, ?_, ?_, ?_⟩, ht2, x5⟩
    · refine ⟨b1, b2, b3, b4, b5, b6, b7, ⟨x1, x2, x3, x4, ⟨x5, x6⟩, x7, by show (0 : Int) ≤ 0 ∧ (0 : Int) ≤ 300; omega⟩, b9, Or.inr ⟨⟨rfl, rfl⟩, rfl, ?_⟩, b11⟩
      intro j hj
      have hj' : (j : Int) < 0 := hj
      omega
    · intro h0 n k Q
      rw [d79_39]
      rw [← ht1]
      exact Iff.rfl
    · intro h0 P R o n k Q z h1 h2
      have e := d80_39 (G := G) (h0 := h0) (b := b) (n := n) (k := k) (Q := Q) (I := updI I 26 0) (A := A) (P := P) (R := R) (o := o) (z := z) x7 ⟨h1, h2⟩
      rw [← ht1]
      exact e
    · exact fun _ _ _ _ _ _ => wc_39
    · intro h0 n k Q hn
      have e := d92_39 (G := G) (h0 := h0) (b := b) (n := n) (k := k) (Q := Q) (I := updI I 26 0) (A := A) (P := upP (upP P 0 41) 1 39) (R := R) (o := o) hb x5 x7 hn
      rw [← ht1]
      exact e
  · refine ⟨41, updI I 25 0, upP (upP P 0 39) 1 41, (A 13), fun n k Q => d172_b hb hP.1 hP.2, ⟨kpM_I kpM_refl (by decide), rfl⟩, ?_, ⟨?_, ?_, ?_, ?_⟩, ht2, x6⟩
    · refine ⟨b1, b2, b3, b4, b5, b6, b7, ⟨x1, x2, x3, x4, ⟨x5, x6⟩, (by show (0 : Int) ≤ 0 ∧ (0 : Int) ≤ 300; omega), x8⟩, b9, Or.inl ⟨⟨rfl, rfl⟩, rfl, ?_⟩, b11⟩
      intro j hj
      have hj' : (j : Int) < 0 := hj
      omega
    · intro h0 n k Q
      rw [d79_41]
      rw [← ht1]
      exact Iff.rfl
    · intro h0 P R o n k Q z h1 h2
      have e := d80_41 (G := G) (h0 := h0) (b := b) (n := n) (k := k) (Q := Q) (I := updI I 25 0) (A := A) (P := P) (R := R) (o := o) (z := z) x8 ⟨h1, h2⟩
      rw [← ht1]
      exact e
    · exact fun _ _ _ _ _ _ => wc_41
    · intro h0 n k Q hn
      have e := d92_41 (G := G) (h0 := h0) (b := b) (n := n) (k := k) (Q := Q) (I := updI I 25 0) (A := A) (P := upP (upP P 0 39) 1 41) (R := R) (o := o) hb x6 x8 hn
      rw [← ht1]
      exact e
theorem iM_byt {g : Nat → Int} {v : Int} (h : iM I A) (hg : ∀ j, 0 ≤ g j ∧ g j ≤ 255) : iM (updI (updI I 27 v) 28 0) (upA A 23 g) := by
  obtain ⟨hA, ⟨f1, f2, f3, f4, f5, f6⟩, hH, hN, hS, ⟨⟨t1, t2, t3⟩, t4⟩⟩ := h
  exact ⟨RgA_upA hA (fun j => by have := hg j; omega), ⟨f1, f2, f3, f4, f5, hg⟩, hH, hN, hS, ⟨⟨by show (0 : Int) ≤ 0 ∧ (0 : Int) ≤ 300; omega, t2, t3⟩, t4⟩⟩
theorem iM_t0 {v : Int} (h : iM I A) : iM (updI (updI I 28 0) 27 v) A := by
  obtain ⟨hA, hF, hH, hN, hS, ⟨⟨t1, t2, t3⟩, t4⟩⟩ := h
  exact ⟨hA, hF, hH, hN, hS, ⟨⟨by show (0 : Int) ≤ 0 ∧ (0 : Int) ≤ 300; omega, t2, t3⟩, t4⟩⟩
theorem upd_t (v : Int) : updI (updI (updI I 27 0) 28 0) 27 v = updI (updI I 28 0) 27 v := by
  funext j
  simp only [updI_at]
  repeat' split
  all_goals first | rfl | omega
theorem op_fill {x y : Int} (hb : G.2.2.2 ≤ b) (hM : iM I A) (hr : rst G h0 b I A P R I A fa fb fcap fg W V X cap ng) (hf : fre P b n W) (hri : ri I A) (hx : -2147483648 ≤ x ∧ x < 2147483648) (hy : -2147483648 ≤ y ∧ y < 2147483648) :
    opX G b n 1 6 (fun n k Q => mX G 282 0 [.ref b, .int (iI x), .int (iI y), .ref (b + 78), mU] [] (wH h0 b I A P R o) n k Q) (fun h n k Q => mX G 191 0 [.ref (b + 43), .int (iI x), .int (iI y), mU, mU] [] h n k Q) := by
  have hF := hM.2.1
  have f1 := hF.1
  have ht := hM.2.2.2.2.2.1.1
  have hB : 0 ≤ x → x ≤ (I 29) - 1 → 0 ≤ (A 22) x.toNat ∧ 0 ≤ (A 18) x.toNat * (A 19) x.toNat ∧ (A 22) x.toNat + (A 18) x.toNat * (A 19) x.toNat ≤ 8000 := by
    intro q1 q2
    obtain ⟨k1, k2, k3, k4, k5⟩ := hF.2.2.1 x.toNat (by omega)
    have sx := shp_sz k2
    have := Int.mul_nonneg sx.1 sx.2.2.1
    have u := hF.2.1
    omega
  obtain ⟨r, I1, P1, g, zt, ⟨kk, kP⟩, r1, ⟨t1, t2, t3, t4⟩, g1, g2⟩ := tp_ok (o := o) hb hM hr
  have hf1 : fre P1 b n W := ⟨hf.1, by rw [kP]; exact hf.2.1, hf.2.2⟩
  have c := fun h1 o n X1 Y k Q (hA : RgA (gm Y A)) => c191 (G := G) (h0 := h1) (n := n) (k := k) (Q := Q) (I := gl X1 I) (A := gm Y A) (P := P1) (R := R) (o := o) (f := x) (t := y) hb hA hx hy f1 ht hB
  simp (disch := decide) only [gl_at, gm_at, gl_up, gm_up, upd_t] at c
  have z36 := fun k Q => d36 (n := n) (k := k) (Q := Q) (I := I1) (A := A) (R := R) (o := o) (z := x) r1.1.1 r1.1.2.1 f1 hx
  have ef : (updI I 28 0) 29 = (I 29) := rfl
  rw [ef] at z36
  by_cases p1 : 0 ≤ x ∧ x < (I 29)
  · simp only [eq_true p1, if_true] at z36
    obtain ⟨i1, i2, i3, i4, i5⟩ := r1.1.1.2.2.1 x.toNat (by show (x.toNat : Int) < (I 29); omega)
    have e2 : fF A x.toNat 2 = (A 17) x.toNat := rfl
    have kr := (hF.2.2.1 x.toNat (by omega)).1
    by_cases p2 : (A 17) x.toNat = 0
    · have z158 : ∀ k Q, mX G 158 0 [.ref b, .int (iI x), .int (iI y), mU, mU] [] (wH h0 b I A P R o) n k Q ↔ Q (.inr 0, wH h0 b I1 A P1 R o, n + 1, k + 6) := by
        intro k Q
        simp (maxSteps := 1000000) (disch := first | omega | (simp only [updI_at, upA_at, Nat.reduceEqDiff, reduceIte]; omega) | exact mIsRef_rf _ | exact rfl) only [↓s158_0, ↓s158_1, ↓s158_4, ↓s158_5, ↓s158_6, ↓s158_9, ↓s158_10, ↓s158_13, ↓s158_15, ↓s158_17, ↓s158_20, ↓s158_22, ↓s158_25, ↓s158_28, ↓s158_31, ↓s158_38, ↓s158_39, ↓s158_42, ↓s158_43, ↓s158_45, ↓s158_48, ↓s158_49, ↓s158_52, ↓s158_53, ↓s158_56, ↓s158_59, ↓s158_66, ↓s158_68, ↓s158_69, ↓s158_70, ↓s158_71, ↓s158_72, ↓s158_75r, ↓s158_78, ↓s158_79, ↓s158_82, wc_0, wc_1, wc_12, wc_14, wc_29, wc_31, wc_39, wc_4, wc_41, wc_6, wg_0_2, mN1_int, mN1_ref, mN1_null, mN1_U, mN1_rf, mCats_nil, mCats_int, mCats_ref, mCats_null, mCats_long, mCats_rf, mIsRef_ref, mIsRef_null, mIsRef_va, mRf_ref, mRf_null, mRf_rf, true_and, and_true, true_or, or_true, eq_self_iff_true, mK_v, mK_0, Nat.reduceAdd, Nat.reduceLeDiff, Nat.zero_le, iL_0, iL_1, iL_m1, iI_add, iI_sub, iI_mul, iI_neg, updI_at, upA_at, upP_at, upR_at, Nat.reduceEqDiff, reduceIte, Int.reduceAdd, Int.reduceSub, Int.reduceMul, Int.reduceDiv, Int.reduceMod, Int.reduceLT, Int.reduceLE, Int.reduceEq, Int.reduceNeg, not_true_eq_false, not_false_eq_true, Decidable.not_not, zt, z36, reduceCtorEq, gg_2 i2, e2, iI_eq, p2]
      refine op_thr (o := o) (v := 1) (J := updI (updI I 28 0) 27 1) hM (iM_t0 hM) r1 kk hf1 hri (by omega) (by omega) rfl (fun k Q => law_282x (Or.inl rfl) z158) ?_
      intro X1 Y hi k Q
      rw [c _ _ _ _ _ _ _ hi.1, if_neg (fun t => t.2 p2)]
    · have eN := fN_eq (x := x.toNat) hF (by omega)
      have z1 := fun k Q => d1' (n := n) (k := k) (Q := Q) (I := I1) (A := A) (P := P1) (R := R) (o := o) i2 i3
      have st : ∀ k Q, mX G 158 0 [.ref b, .int (iI x), .int (iI y), mU, mU] [] (wH h0 b I A P R o) n k Q ↔ mX G 158 38 [.ref b, .int (iI x), .int (iI y), .ref (b + r), .ref (fa x.toNat)] [] (wH h0 b I1 A P1 R o) n k Q := by
        intro k Q
        simp (maxSteps := 1000000) (disch := first | omega | (simp only [updI_at, upA_at, Nat.reduceEqDiff, reduceIte]; omega) | exact mIsRef_rf _ | exact rfl) only [↓s158_0, ↓s158_1, ↓s158_4, ↓s158_5, ↓s158_6, ↓s158_9, ↓s158_10, ↓s158_13, ↓s158_15, ↓s158_17, ↓s158_20, ↓s158_22, ↓s158_25, ↓s158_28, ↓s158_31, ↓s158_39, ↓s158_42, ↓s158_43, ↓s158_45, ↓s158_48, ↓s158_49, ↓s158_52, ↓s158_53, ↓s158_56, ↓s158_59, ↓s158_66, ↓s158_68, ↓s158_69, ↓s158_70, ↓s158_71, ↓s158_72, ↓s158_75r, ↓s158_78, ↓s158_79, ↓s158_82, wc_0, wc_1, wc_12, wc_14, wc_29, wc_31, wc_39, wc_4, wc_41, wc_6, wg_0_2, mN1_int, mN1_ref, mN1_null, mN1_U, mN1_rf, mCats_nil, mCats_int, mCats_ref, mCats_null, mCats_long, mCats_rf, mIsRef_ref, mIsRef_null, mIsRef_va, mRf_ref, mRf_null, mRf_rf, true_and, and_true, true_or, or_true, eq_self_iff_true, mK_v, mK_0, Nat.reduceAdd, Nat.reduceLeDiff, Nat.zero_le, iL_0, iL_1, iL_m1, iI_add, iI_sub, iI_mul, iI_neg, updI_at, upA_at, upP_at, upR_at, Nat.reduceEqDiff, reduceIte, Int.reduceAdd, Int.reduceSub, Int.reduceMul, Int.reduceDiv, Int.reduceMod, Int.reduceLT, Int.reduceLE, Int.reduceEq, Int.reduceNeg, not_true_eq_false, not_false_eq_true, Decidable.not_not, zt, z36, reduceCtorEq, gg_2 i2, e2, iI_eq, p2]
      by_cases p3 : 0 ≤ y ∧ y + (I 28) ≤ (A 18) x.toNat * (A 19) x.toNat
      · have rr := rget_rng (len := (I 28)) g2
        have zp := fun k Q => d4 (n := n) (k := k) (Q := Q) (P := P1) (R := R) (o := o) (g := fb x.toNat) (N := fN A x.toNat) (t := y) (s := 0) (m := (I 28)) i2 (by omega) t2 t3 rr (by omega) (by omega) (by omega)
        rw [fW_self i3] at zp
        have hd := dFl_put (f := fun j => rget (I 28) g (0 + j) % 256) (f' := (A 14)) (x := x.toNat) (t := y) (m := (I 28)) r1.1.1 hF (by show (x.toNat : Int) < (I 29); omega) p3.1 (by omega) (by
          intro j hj
          show rget (I 28) g (0 + j) % 256 = (A 14) j
          unfold rget
          rw [if_pos (by omega), show (0 + (j : Int)).toNat = j by omega, g1 j hj]
          have := hM.2.2.2.2.2.2 j
          omega) (fun j => by omega)
        have r2 := rst_kp r1 hd (kp_fW (by show (x.toNat : Int) < (I 29); omega)) (fun j hj => by rw [upA_at, if_neg hj])
        have z158 : ∀ k Q, mX G 158 0 [.ref b, .int (iI x), .int (iI y), mU, mU] [] (wH h0 b I A P R o) n k Q ↔ Q (.inl (some (.int (iI (I 28)))), wH (fW h0 (fa x.toNat) (fN A x.toNat) (cpE (fb x.toNat) (fun j => rget (I 28) g (0 + j) % 256) y (I 28))) b I1 A P1 R o, n, k + 0) := by
          intro k Q
          rw [st k Q]
          have q1 : ¬ y < 0 := by omega
          have q2 : y ≤ (fN A x.toNat : Int) - (I 28) := by omega
          generalize cpE (fb x.toNat) (fun j => rget (I 28) g (0 + j) % 256) y (I 28) = gg at *
          simp (maxSteps := 1000000) (disch := first | omega | (simp only [updI_at, upA_at, Nat.reduceEqDiff, reduceIte]; omega) | exact mIsRef_rf _ | exact rfl) only [↓s158_0, ↓s158_1, ↓s158_4, ↓s158_5, ↓s158_6, ↓s158_9, ↓s158_10, ↓s158_13, ↓s158_15, ↓s158_17, ↓s158_20, ↓s158_22, ↓s158_25, ↓s158_28, ↓s158_31, ↓s158_38, ↓s158_39, ↓s158_42, ↓s158_43, ↓s158_45, ↓s158_48, ↓s158_49, ↓s158_52, ↓s158_53, ↓s158_56, ↓s158_59, ↓s158_66, ↓s158_68, ↓s158_69, ↓s158_70, ↓s158_71, ↓s158_72, ↓s158_75r, ↓s158_78, ↓s158_79, ↓s158_82, wc_0, wc_1, wc_12, wc_14, wc_29, wc_31, wc_39, wc_4, wc_41, wc_6, wg_0_2, mN1_int, mN1_ref, mN1_null, mN1_U, mN1_rf, mCats_nil, mCats_int, mCats_ref, mCats_null, mCats_long, mCats_rf, mIsRef_ref, mIsRef_null, mIsRef_va, mRf_ref, mRf_null, mRf_rf, true_and, and_true, true_or, or_true, eq_self_iff_true, mK_v, mK_0, Nat.reduceAdd, Nat.reduceLeDiff, Nat.zero_le, iL_0, iL_1, iL_m1, iI_add, iI_sub, iI_mul, iI_neg, updI_at, upA_at, upP_at, upR_at, Nat.reduceEqDiff, reduceIte, Int.reduceAdd, Int.reduceSub, Int.reduceMul, Int.reduceDiv, Int.reduceMod, Int.reduceLT, Int.reduceLE, Int.reduceEq, Int.reduceNeg, not_true_eq_false, not_false_eq_true, Decidable.not_not, t3 _ _ _ _ _ _, z1, t1, iI_lt, iI_le, q1, q2, gg_c i2, zp, Nat.add_zero]
        have hbb : ∀ j, 0 ≤ cpE (A 23) (A 14) ((A 22) x.toNat + y) (I 28) j ∧ cpE (A 23) (A 14) ((A 22) x.toNat + y) (I 28) j ≤ 255 := cpE_P (p := fun x => 0 ≤ x ∧ x ≤ 255) hF.2.2.2.2.2 hM.2.2.2.2.2.2
        obtain ⟨A2, e1, e2', e3⟩ := op_end (o := vp_updL o 0 (iI (I 28)).toInt64) (J := updI (updI I 27 0) 28 0) r2 kk hM (iM_byt hM hbb) hf1 hri
        refine ⟨0, (I 28), n, 0, _, I1, A, P1, R, _, _, _, ⟨by omega, by omega⟩, fun k Q => law_282 hb z158, r2.2.2.2.2.2.2.2.2.2.2.2.2.1, ?_, ⟨rfl, by omega⟩, fun _ => vp_0 _ _, e3⟩
        intro k Q
        dsimp only
        rw [e1, c _ _ _ _ _ _ _ e2'.1, if_pos ⟨by omega, p2⟩, if_pos p3]
      · have z158 : ∀ k Q, mX G 158 0 [.ref b, .int (iI x), .int (iI y), mU, mU] [] (wH h0 b I A P R o) n k Q ↔ Q (.inr 1, wH h0 b I1 A P1 R o, n + 1, k + 6) := by
          intro k Q
          rw [st k Q]
          by_cases q1 : y < 0
          · simp (maxSteps := 1000000) (disch := first | omega | (simp only [updI_at, upA_at, Nat.reduceEqDiff, reduceIte]; omega) | exact mIsRef_rf _ | exact rfl) only [↓s158_0, ↓s158_1, ↓s158_4, ↓s158_5, ↓s158_6, ↓s158_9, ↓s158_10, ↓s158_13, ↓s158_15, ↓s158_17, ↓s158_20, ↓s158_22, ↓s158_25, ↓s158_28, ↓s158_31, ↓s158_38, ↓s158_39, ↓s158_42, ↓s158_43, ↓s158_45, ↓s158_48, ↓s158_49, ↓s158_52, ↓s158_53, ↓s158_56, ↓s158_59, ↓s158_66, ↓s158_68, ↓s158_69, ↓s158_70, ↓s158_71, ↓s158_72, ↓s158_75r, ↓s158_78, ↓s158_79, ↓s158_82, wc_0, wc_1, wc_12, wc_14, wc_29, wc_31, wc_39, wc_4, wc_41, wc_6, wg_0_2, mN1_int, mN1_ref, mN1_null, mN1_U, mN1_rf, mCats_nil, mCats_int, mCats_ref, mCats_null, mCats_long, mCats_rf, mIsRef_ref, mIsRef_null, mIsRef_va, mRf_ref, mRf_null, mRf_rf, true_and, and_true, true_or, or_true, eq_self_iff_true, mK_v, mK_0, Nat.reduceAdd, Nat.reduceLeDiff, Nat.zero_le, iL_0, iL_1, iL_m1, iI_add, iI_sub, iI_mul, iI_neg, updI_at, upA_at, upP_at, upR_at, Nat.reduceEqDiff, reduceIte, Int.reduceAdd, Int.reduceSub, Int.reduceMul, Int.reduceDiv, Int.reduceMod, Int.reduceLT, Int.reduceLE, Int.reduceEq, Int.reduceNeg, not_true_eq_false, not_false_eq_true, Decidable.not_not, iI_lt, q1]
          · have q2 : ¬ y ≤ (fN A x.toNat : Int) - (I 28) := by omega
            simp (maxSteps := 1000000) (disch := first | omega | (simp only [updI_at, upA_at, Nat.reduceEqDiff, reduceIte]; omega) | exact mIsRef_rf _ | exact rfl) only [↓s158_0, ↓s158_1, ↓s158_4, ↓s158_5, ↓s158_6, ↓s158_9, ↓s158_10, ↓s158_13, ↓s158_15, ↓s158_17, ↓s158_20, ↓s158_22, ↓s158_25, ↓s158_28, ↓s158_31, ↓s158_38, ↓s158_39, ↓s158_42, ↓s158_43, ↓s158_45, ↓s158_48, ↓s158_49, ↓s158_52, ↓s158_53, ↓s158_56, ↓s158_59, ↓s158_66, ↓s158_68, ↓s158_69, ↓s158_70, ↓s158_71, ↓s158_72, ↓s158_75r, ↓s158_78, ↓s158_79, ↓s158_82, wc_0, wc_1, wc_12, wc_14, wc_29, wc_31, wc_39, wc_4, wc_41, wc_6, wg_0_2, mN1_int, mN1_ref, mN1_null, mN1_U, mN1_rf, mCats_nil, mCats_int, mCats_ref, mCats_null, mCats_long, mCats_rf, mIsRef_ref, mIsRef_null, mIsRef_va, mRf_ref, mRf_null, mRf_rf, true_and, and_true, true_or, or_true, eq_self_iff_true, mK_v, mK_0, Nat.reduceAdd, Nat.reduceLeDiff, Nat.zero_le, iL_0, iL_1, iL_m1, iI_add, iI_sub, iI_mul, iI_neg, updI_at, upA_at, upP_at, upR_at, Nat.reduceEqDiff, reduceIte, Int.reduceAdd, Int.reduceSub, Int.reduceMul, Int.reduceDiv, Int.reduceMod, Int.reduceLT, Int.reduceLE, Int.reduceEq, Int.reduceNeg, not_true_eq_false, not_false_eq_true, Decidable.not_not, t3 _ _ _ _ _ _, z1, t1, iI_lt, iI_le, q1, q2, gg_c i2]
        refine op_thr (o := o) (v := 2) (J := updI (updI I 28 0) 27 2) hM (iM_t0 hM) r1 kk hf1 hri (by omega) (by omega) rfl (fun k Q => law_282x (Or.inr rfl) z158) ?_
        intro X1 Y hi k Q
        rw [c _ _ _ _ _ _ _ hi.1, if_pos ⟨by omega, p2⟩, if_neg p3]
  · simp only [p1, if_false] at z36
    have z158 : ∀ k Q, mX G 158 0 [.ref b, .int (iI x), .int (iI y), mU, mU] [] (wH h0 b I A P R o) n k Q ↔ Q (.inr 0, wH h0 b I1 A P1 R o, n + 1, k + 6) := by
      intro k Q
      simp (maxSteps := 1000000) (disch := first | omega | (simp only [updI_at, upA_at, Nat.reduceEqDiff, reduceIte]; omega) | exact mIsRef_rf _ | exact rfl) only [↓s158_0, ↓s158_1, ↓s158_4, ↓s158_5, ↓s158_6, ↓s158_9, ↓s158_10, ↓s158_13, ↓s158_15, ↓s158_17, ↓s158_20, ↓s158_22, ↓s158_25, ↓s158_28, ↓s158_31, ↓s158_38, ↓s158_39, ↓s158_42, ↓s158_43, ↓s158_45, ↓s158_48, ↓s158_49, ↓s158_52, ↓s158_53, ↓s158_56, ↓s158_59, ↓s158_66, ↓s158_68, ↓s158_69, ↓s158_70, ↓s158_71, ↓s158_72, ↓s158_75r, ↓s158_78, ↓s158_79, ↓s158_82, wc_0, wc_1, wc_12, wc_14, wc_29, wc_31, wc_39, wc_4, wc_41, wc_6, wg_0_2, mN1_int, mN1_ref, mN1_null, mN1_U, mN1_rf, mCats_nil, mCats_int, mCats_ref, mCats_null, mCats_long, mCats_rf, mIsRef_ref, mIsRef_null, mIsRef_va, mRf_ref, mRf_null, mRf_rf, true_and, and_true, true_or, or_true, eq_self_iff_true, mK_v, mK_0, Nat.reduceAdd, Nat.reduceLeDiff, Nat.zero_le, iL_0, iL_1, iL_m1, iI_add, iI_sub, iI_mul, iI_neg, updI_at, upA_at, upP_at, upR_at, Nat.reduceEqDiff, reduceIte, Int.reduceAdd, Int.reduceSub, Int.reduceMul, Int.reduceDiv, Int.reduceMod, Int.reduceLT, Int.reduceLE, Int.reduceEq, Int.reduceNeg, not_true_eq_false, not_false_eq_true, Decidable.not_not, zt, z36]
    refine op_thr (o := o) (v := 1) (J := updI (updI I 28 0) 27 1) hM (iM_t0 hM) r1 kk hf1 hri (by omega) (by omega) rfl (fun k Q => law_282x (Or.inl rfl) z158) ?_
    intro X1 Y hi k Q
    rw [c _ _ _ _ _ _ _ hi.1, if_neg (by omega)]
end
end MOPS7
