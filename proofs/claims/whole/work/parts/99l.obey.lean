/-! Class: obeyWriteOrder, obeyOrders. -/
section MOBEY
variable {G : mG} {h h0 : mH} {n k b : Nat} {Q : mR → Prop} {I : Nat → Int} {A : Nat → Nat → Int} {P : Nat → Nat} {R : Nat → Option Nat} {o : Nat → Int64}
theorem oaF_fu {J : Nat → Int} {B : Nat → Nat → Int} {e : Int} (hT : ∀ j, 0 ≤ B 14 j ∧ B 14 j ≤ 255) : ∀ (d d' : Nat) (x s : Int), e ≤ x + d → d ≤ d' → oaF J B e d' x s = oaF J B e d x s := by
  intro d
  induction d with
  | zero =>
    intro d' x s h1 h2
    cases d' with
    | zero => rfl
    | succ d' => rw [oaF, oaF, if_pos (by omega)]
  | succ d ih =>
    intro d' x s h1 h2
    cases d' with
    | zero => omega
    | succ d' =>
      have := hT (x + 1).toNat
      rw [oaF, oaF, ih d' _ _ (by omega) (by omega)]
theorem obW_tape {J : Nat → Int} {B : Nat → Nat → Int} {x : Int} : obW J B x 14 = B 14 := by
  unfold obW
  split <;> rfl
theorem obA_fu {J : Nat → Int} {e : Int} : ∀ (d d' : Nat) (x : Int) (B : Nat → Nat → Int), (∀ j, 0 ≤ B 14 j ∧ B 14 j ≤ 255) → e ≤ x + d → d ≤ d' → obA J e d' x B = obA J e d x B := by
  intro d
  induction d with
  | zero =>
    intro d' x B hT h1 h2
    cases d' with
    | zero => rfl
    | succ d' => rw [obA, obA, if_pos (by omega)]
  | succ d ih =>
    intro d' x B hT h1 h2
    cases d' with
    | zero => omega
    | succ d' =>
      have := hT (x + 1).toNat
      rw [obA, obA, ih d' _ _ (by rw [obW_tape]; exact hT) (by omega) (by omega)]
/-- the heap is the same but for the files' bytes -/
def kp (J : Nat → Int) (fa : Nat → Nat) (h0 h1 : mH) : Prop := ∀ a, (∀ x : Nat, (x : Int) < J 29 → a ≠ fa x + 1) → h1 a = h0 a
theorem kp_refl {J : Nat → Int} {fa : Nat → Nat} : kp J fa h0 h0 := fun _ _ => rfl
theorem kp_trans {J : Nat → Int} {fa : Nat → Nat} {h1 h2 : mH} (a : kp J fa h0 h1) (c : kp J fa h1 h2) : kp J fa h0 h2 := fun x hx => (c x hx).trans (a x hx)
theorem kp_fW {J : Nat → Int} {fa : Nat → Nat} {x N : Nat} {g : Nat → Int} (hx : (x : Int) < J 29) : kp J fa h0 (fW h0 (fa x) N g) := fun _ ha => fW_ne (ha x hx)
section
variable {J : Nat → Int} {B : Nat → Nat → Int} {fa : Nat → Nat} {fb : Nat → Nat → Int} {fcap : Nat} {fg : Nat → Option Nat} {W : Nat → Nat → Nat → Nat} {V : Nat → Nat → Nat → Nat → Int} {X : Nat → Nat → Option Nat} {cap : Nat} {ng : Nat → Option Nat}
theorem d148 {x e : Int} (s : Int) (hf : dFl G h0 b (P 2) J B fa fb fcap fg) (hd : dNo G h0 b (P 3) J B fa W V X cap ng) (hfc : (I 10) = J 29) (hn : (I 18) = J 31) (hq : rq0 I A J B) (hM : iM J B) (he : 0 ≤ e ∧ e ≤ J 49) (hx : 0 ≤ x ∧ x ≤ 300) :
    mX G 148 0 [.ref (b + 34), .ref (b + 4), .int (iI x), .int (iI e), mU, mU, mU, mU] [] (wH h0 b I A P R o) n k Q ↔ Q (.inl (some (.int (iI (if (oaF J B (5 + e) 262 (5 + x) s).1 = 0 then 36864 else (oaF J B (5 + e) 262 (5 + x) s).1)))), wH h0 b I A P R o, n, k) := by
  have hN := hq.1.2
  rw [oaF_fu hM.2.2.2.2.2.2 255 262 (5 + x) s (by omega) (by omega)]
  rw [← d148_l (G := G) (n := n) (k := k) (Q := Q) (R := R) (o := o) (i2 := iI x) hf hd hfc hn hq hM he 255 0 x s mU mU (by omega) (by omega) (by omega) (by omega) (by omega)]
  simp (maxSteps := 1000000) (disch := first | omega | (simp only [updI_at, upA_at, Nat.reduceEqDiff, reduceIte]; omega) | exact mIsRef_rf _ | exact rfl) only [↓s148_0, ↓s148_1, ↓s148_3, ↓s148_4, mN1_int, mN1_ref, mN1_null, mN1_U, mN1_rf, mCats_nil, mCats_int, mCats_ref, mCats_null, mCats_long, mCats_rf, mIsRef_ref, mIsRef_null, mIsRef_va, mRf_ref, mRf_null, mRf_rf, true_and, and_true, true_or, or_true, eq_self_iff_true, mK_v, mK_0, Nat.reduceAdd, Nat.reduceLeDiff, Nat.zero_le, iL_0, iL_1, iL_m1, iI_add, iI_sub, iI_mul, iI_neg, updI_at, upA_at, upP_at, upR_at, Nat.reduceEqDiff, reduceIte, Int.reduceAdd, Int.reduceSub, Int.reduceMul, Int.reduceDiv, Int.reduceMod, Int.reduceLT, Int.reduceLE, Int.reduceEq, Int.reduceNeg, not_true_eq_false, not_false_eq_true, Decidable.not_not]
theorem d152 {x e : Int} (hf : dFl G h0 b (P 2) J B fa fb fcap fg) (hfc : (I 10) = J 29) (hq : rq0 I A J B) (hM : iM J B) (hx : 0 ≤ x) (he : e ≤ J 49) (ho : odF J B (5 + x) (5 + e) = 0) (h2 : B 14 (5 + x).toNat = 192) :
    ∃ (h1 : mH) (fb' : Nat → Nat → Int), dFl G h1 b (P 2) J (obW J B (5 + x)) fa fb' fcap fg ∧ kp J fa h0 h1 ∧ ∀ (n k : Nat) (Q : mR → Prop), (mX G 152 0 [.ref (b + 34), .ref (b + 4), .int (iI x), mU] [] (wH h0 b I A P R o) n k Q ↔ Q (.inl none, wH h1 b I A P R o, n, k)) := by
  have hT := hM.2.2.2.2.2.2
  have hN := hq.1.2
  have hl : 0 ≤ (I 7) ∧ (I 7) ≤ 255 := by rw [hq.1.1]; exact hN
  have hF := hM.2.1
  have o1 := odF_len ho
  have o2 := odF_192 ho h2
  have t1 := hT (5 + x + 1).toNat
  have t2 := hT (5 + x + 2).toNat
  have t3 := hT (5 + x + 3).toNat
  have t4 := hT (5 + x + 4).toNat
  have t5 := hT (5 + x + 5).toNat
  have fr := flF_rng (I := J) (A := B) (y := B 14 (5 + x + 2).toNat * 256 + B 14 (5 + x + 3).toNat) hF.1
  generalize hfl : flF J B (B 14 (5 + x + 2).toNat * 256 + B 14 (5 + x + 3).toNat) = f at *
  have fr2 : f < J 29 ∧ B 17 f.toNat = 1 := by rcases fr with fr | fr; omega; exact ⟨fr.1.2, fr.2⟩
  obtain ⟨i1, i2, i3, i4, i5⟩ := hf.2.2.1 f.toNat (by omega)
  obtain ⟨k1, k2, k3, k4, k5⟩ := hF.2.2.1 f.toNat (by omega)
  rw [fr2.2] at k2
  have m1 := (shp_1 k2).2
  have eN := fN_eq (x := f.toNat) hF (by omega)
  have eN1 := eN.1
  rw [m1, Int.mul_one] at eN1
  have g1 : rget (I 7) (A 1) (x + 1) = B 14 (5 + x + 1).toNat := by rw [rq_get hq (by omega) (by omega)]; congr 2; omega
  have g2 : rget (I 7) (A 1) (x + 2) = B 14 (5 + x + 2).toNat := by rw [rq_get hq (by omega) (by omega)]; congr 2; omega
  have g3 : rget (I 7) (A 1) (x + 2 + 1) = B 14 (5 + x + 3).toNat := by rw [rq_get hq (by omega) (by omega)]; congr 2; omega
  have g4 : rget (I 7) (A 1) (x + 4) = B 14 (5 + x + 4).toNat := by rw [rq_get hq (by omega) (by omega)]; congr 2; omega
  have g5 : rget (I 7) (A 1) (x + 4 + 1) = B 14 (5 + x + 5).toNat := by rw [rq_get hq (by omega) (by omega)]; congr 2; omega
  have eP : obP J B (5 + x) = B 22 f.toNat + (B 14 (5 + x + 4).toNat * 256 + B 14 (5 + x + 5).toNat) := by unfold obP; rw [hfl]
  have eW : obW J B (5 + x) = upA B 23 (cpE (B 23) (obG B (5 + x)) (B 22 f.toNat + (B 14 (5 + x + 4).toNat * 256 + B 14 (5 + x + 5).toNat)) (B 14 (5 + x + 1).toNat - 4)) := by unfold obW; rw [if_pos h2, eP]
  rw [eW]
  generalize ht : B 14 (5 + x + 4).toNat * 256 + B 14 (5 + x + 5).toNat = t at *
  generalize hL : B 14 (5 + x + 1).toNat = L at *
  have rr := rget_rng (len := (I 7)) hq.2.2
  refine ⟨fW h0 (fa f.toNat) (fN B f.toNat) (cpE (fb f.toNat) (fun j => rget (I 7) (A 1) (x + 6 + j) % 256) t (L - 4)), upF fb f.toNat (cpE (fb f.toNat) (fun j => rget (I 7) (A 1) (x + 6 + j) % 256) t (L - 4)), ?_, kp_fW (by omega), ?_⟩
  · refine dFl_w hf (by omega) ?_ ?_ ?_
    · exact cpE_P (p := fun x => 0 ≤ x ∧ x ≤ 255) i5 (fun j => by omega)
    · intro j hj
      unfold cpE
      by_cases q : t ≤ (j : Int) ∧ (j : Int) < t + (L - 4)
      · rw [if_pos q, if_pos (by omega)]
        show rget (I 7) (A 1) (x + 6 + (((j : Int) - t).toNat : Int)) % 256 = _
        rw [rq_get hq (by omega) (by omega)]
        unfold obG
        have e1 : (5 + (x + 6 + (((j : Int) - t).toNat : Int))).toNat = (5 + x + 6 + (((((B 22 f.toNat).toNat + j : Nat) : Int) - (B 22 f.toNat + t)).toNat : Int)).toNat := by omega
        rw [e1]
        have := hT (5 + x + 6 + (((((B 22 f.toNat).toNat + j : Nat) : Int) - (B 22 f.toNat + t)).toNat : Int)).toNat
        omega
      · rw [if_neg q, if_neg (by omega)]
        exact i4 j hj
    · intro i hi hne j hj
      exact wr_other hF (by omega) hi hne (by omega) (by omega) j hj
  · intro n k Q
    have z2 := fun Q' => d81_4 (G := G) (h0 := h0) (b := b) (n := n) (k := k) (Q := Q') (I := I) (A := A) (P := P) (R := R) (o := o) (z := x + 2) hl (by omega)
    rw [g2, g3] at z2
    have z4 := fun Q' => d81_4 (G := G) (h0 := h0) (b := b) (n := n) (k := k) (Q := Q') (I := I) (A := A) (P := P) (R := R) (o := o) (z := x + 4) hl (by omega)
    rw [g4, g5, ht] at z4
    have z1 := fun Q' => d80_4 (G := G) (h0 := h0) (b := b) (n := n) (k := k) (Q := Q') (I := I) (A := A) (P := P) (R := R) (o := o) (z := x + 1) hl (by omega)
    rw [g1] at z1
    have zf := fun Q' => d42 (n := n) (k := k) (Q := Q') (I := I) (A := A) (R := R) (o := o) (y := B 14 (5 + x + 2).toNat * 256 + B 14 (5 + x + 3).toNat) hf hfc hF (by omega)
    rw [hfl, show rfV fa f = some (fa f.toNat) from if_neg (by omega), va_some] at zf
    have zp := fun Q' => d4 (n := n) (k := k) (Q := Q') (I := I) (A := A) (P := P) (R := R) (o := o) (g := fb f.toNat) (N := fN B f.toNat) (t := t) (s := x + 6) (m := L - 4) i2 (by omega) (rG_4 hl) rC_4 rr (by omega) (by omega) (by omega)
    rw [fW_self i3] at zp
    generalize B 14 (5 + x + 2).toNat * 256 + B 14 (5 + x + 3).toNat = y at *
    simp (maxSteps := 1000000) (disch := first | omega | (simp only [updI_at, upA_at, Nat.reduceEqDiff, reduceIte]; omega) | exact mIsRef_rf _ | exact rfl) only [↓s152_0, ↓s152_1, ↓s152_4, ↓s152_5, ↓s152_6, ↓s152_7, ↓s152_8, ↓s152_11, ↓s152_14, ↓s152_15, ↓s152_16, ↓s152_19, ↓s152_20, ↓s152_21, ↓s152_22, ↓s152_23, ↓s152_24, ↓s152_27, ↓s152_28, ↓s152_29, ↓s152_31, ↓s152_32, ↓s152_33, ↓s152_34, ↓s152_35, ↓s152_36, ↓s152_39, ↓s152_40, ↓s152_41r, ↓s152_44, iL_2, iL_4, iL_6, wc_1, wc_12, wc_14, wc_29, wc_31, wc_39, wc_4, wc_41, wc_6, wg_34_0, mN1_int, mN1_ref, mN1_null, mN1_U, mN1_rf, mCats_nil, mCats_int, mCats_ref, mCats_null, mCats_long, mCats_rf, mIsRef_ref, mIsRef_null, mIsRef_va, mRf_ref, mRf_null, mRf_rf, true_and, and_true, true_or, or_true, eq_self_iff_true, mK_v, mK_0, Nat.reduceAdd, Nat.reduceLeDiff, Nat.zero_le, iL_0, iL_1, iL_m1, iI_add, iI_sub, iI_mul, iI_neg, updI_at, upA_at, upP_at, upR_at, Nat.reduceEqDiff, reduceIte, Int.reduceAdd, Int.reduceSub, Int.reduceMul, Int.reduceDiv, Int.reduceMod, Int.reduceLT, Int.reduceLE, Int.reduceEq, Int.reduceNeg, not_true_eq_false, not_false_eq_true, Decidable.not_not, z1, z2, z4, zf, zp, gg_c i2, reduceCtorEq]
theorem d151_l {i2 : Int32} {e : Int} (hfc : (I 10) = J 29) (he : 0 ≤ e ∧ e ≤ J 49) : ∀ (d : Nat) (c x s s' : Int) (h0 : mH) (B : Nat → Nat → Int) (fb : Nat → Nat → Int), dFl G h0 b (P 2) J B fa fb fcap fg → rq0 I A J B → iM J B → 0 ≤ c → c + d = 255 → 0 ≤ x → x ≤ 255 → e ≤ x + d → (oaF J B (5 + e) d (5 + x) s').1 = 0 →
    ∃ (h1 : mH) (fb' : Nat → Nat → Int), dFl G h1 b (P 2) J (obA J (5 + e) d (5 + x) B) fa fb' fcap fg ∧ kp J fa h0 h1 ∧ ∀ (n k : Nat) (Q : mR → Prop), (mX G 151 9 [.ref (b + 34), .ref (b + 4), .int i2, .int (iI e), .int (iI s), .int (iI x), .int (iI c)] [] (wH h0 b I A P R o) n k Q ↔ Q (.inl (some (.int (iI (oaF J B (5 + e) d (5 + x) s).2))), wH h1 b I A P R o, n, k)) := by
  intro d
  induction d with
  | zero =>
    intro c x s s' h0 B fb hf hq hM h1 h2 h3 h4 h5 h6
    refine ⟨h0, fb, hf, kp_refl, ?_⟩
    intro n k Q
    obtain rfl : c = 255 := by omega
    rw [s151_9, oaF]
    simp (maxSteps := 1000000) (disch := first | omega | (simp only [updI_at, upA_at, Nat.reduceEqDiff, reduceIte]; omega) | exact mIsRef_rf _ | exact rfl) only [↓s151_0, ↓s151_1, ↓s151_3, ↓s151_4, ↓s151_6, ↓s151_7, ↓s151_11, ↓s151_14, ↓s151_17, ↓s151_19, ↓s151_20, ↓s151_23, ↓s151_24, ↓s151_26, ↓s151_29, ↓s151_32, ↓s151_35, ↓s151_36, ↓s151_38, ↓s151_39, ↓s151_40, ↓s151_43, ↓s151_45, ↓s151_48, ↓s151_49, ↓s151_50, ↓s151_52r, ↓s151_55, ↓s151_56, ↓s151_58r, ↓s151_61, ↓s151_63, ↓s151_66, ↓s151_69, ↓s151_71, iL_193, iL_2, iL_255, wc_1, wc_12, wc_14, wc_29, wc_31, wc_34, wc_39, wc_4, wc_41, mN1_int, mN1_ref, mN1_null, mN1_U, mN1_rf, mCats_nil, mCats_int, mCats_ref, mCats_null, mCats_long, mCats_rf, mIsRef_ref, mIsRef_null, mIsRef_va, mRf_ref, mRf_null, mRf_rf, true_and, and_true, true_or, or_true, eq_self_iff_true, mK_v, mK_0, Nat.reduceAdd, Nat.reduceLeDiff, Nat.zero_le, iL_0, iL_1, iL_m1, iI_add, iI_sub, iI_mul, iI_neg, updI_at, upA_at, upP_at, upR_at, Nat.reduceEqDiff, reduceIte, Int.reduceAdd, Int.reduceSub, Int.reduceMul, Int.reduceDiv, Int.reduceMod, Int.reduceLT, Int.reduceLE, Int.reduceEq, Int.reduceNeg, not_true_eq_false, not_false_eq_true, Decidable.not_not, iI_le]
  | succ d ih =>
    intro c x s s' h0 B fb hf hq hM h1 h2 h3 h4 h5 h6
    have hc : ¬ 255 ≤ c := by omega
    by_cases p : e ≤ x
    · refine ⟨h0, fb, by rw [obA, if_pos (by omega)]; exact hf, kp_refl, ?_⟩
      intro n k Q
      rw [s151_9, oaF, if_pos (by omega)]
      simp (maxSteps := 1000000) (disch := first | omega | (simp only [updI_at, upA_at, Nat.reduceEqDiff, reduceIte]; omega) | exact mIsRef_rf _ | exact rfl) only [↓s151_0, ↓s151_1, ↓s151_3, ↓s151_4, ↓s151_6, ↓s151_7, ↓s151_11, ↓s151_14, ↓s151_17, ↓s151_19, ↓s151_20, ↓s151_23, ↓s151_24, ↓s151_26, ↓s151_29, ↓s151_32, ↓s151_35, ↓s151_36, ↓s151_38, ↓s151_39, ↓s151_40, ↓s151_43, ↓s151_45, ↓s151_48, ↓s151_49, ↓s151_50, ↓s151_52r, ↓s151_55, ↓s151_56, ↓s151_58r, ↓s151_61, ↓s151_63, ↓s151_66, ↓s151_69, ↓s151_71, iL_193, iL_2, iL_255, wc_1, wc_12, wc_14, wc_29, wc_31, wc_34, wc_39, wc_4, wc_41, mN1_int, mN1_ref, mN1_null, mN1_U, mN1_rf, mCats_nil, mCats_int, mCats_ref, mCats_null, mCats_long, mCats_rf, mIsRef_ref, mIsRef_null, mIsRef_va, mRf_ref, mRf_null, mRf_rf, true_and, and_true, true_or, or_true, eq_self_iff_true, mK_v, mK_0, Nat.reduceAdd, Nat.reduceLeDiff, Nat.zero_le, iL_0, iL_1, iL_m1, iI_add, iI_sub, iI_mul, iI_neg, updI_at, upA_at, upP_at, upR_at, Nat.reduceEqDiff, reduceIte, Int.reduceAdd, Int.reduceSub, Int.reduceMul, Int.reduceDiv, Int.reduceMod, Int.reduceLT, Int.reduceLE, Int.reduceEq, Int.reduceNeg, not_true_eq_false, not_false_eq_true, Decidable.not_not, iI_le, hc, p]
    · rw [oaF, if_neg (by omega)] at h6
      by_cases q : odF J B (5 + x) (5 + e) = 0
      · rw [if_neg (fun t => t q)] at h6
        have hT := hM.2.2.2.2.2.2
        have hN := hq.1.2
        have hl : 0 ≤ (I 7) ∧ (I 7) ≤ 255 := by rw [hq.1.1]; exact hN
        have o1 := odF_len q
        have t0 := hT (5 + x).toNat
        have t1 := hT (5 + x + 1).toNat
        have t2 := hT (5 + x + 2).toNat
        have g0 : rget (I 7) (A 1) x = B 14 (5 + x).toNat := rq_get hq (by omega) (by omega)
        have g1 : rget (I 7) (A 1) (x + 1) = B 14 (5 + x + 1).toNat := by rw [rq_get hq (by omega) (by omega)]; congr 2; omega
        have ex : 5 + x + (2 + B 14 (5 + x + 1).toNat) = 5 + (x + 2 + B 14 (5 + x + 1).toNat) := by omega
        rw [ex] at h6
        have eo : oaF J B (5 + e) (d + 1) (5 + x) s = oaF J B (5 + e) d (5 + (x + 2 + B 14 (5 + x + 1).toNat)) (if B 14 (5 + x).toNat = 193 then B 14 (5 + x + 2).toNat else s) := by
          rw [oaF, if_neg (by omega), if_neg (fun t => t q), ex]
        have eb : obA J (5 + e) (d + 1) (5 + x) B = obA J (5 + e) d (5 + (x + 2 + B 14 (5 + x + 1).toNat)) (obW J B (5 + x)) := by
          rw [obA, if_neg (by omega), ex]
        rw [eo, eb]
        by_cases r : B 14 (5 + x).toNat = 193
        · have eW : obW J B (5 + x) = B := by unfold obW; rw [if_neg (by omega)]
          rw [eW, if_pos r]
          obtain ⟨h1', fb', a1, a2, a3⟩ := ih (c + 1) (x + 2 + B 14 (5 + x + 1).toNat) (B 14 (5 + x + 2).toNat) _ h0 B fb hf hq hM (by omega) (by omega) (by omega) (by omega) (by omega) h6
          refine ⟨h1', fb', a1, a2, ?_⟩
          intro n k Q
          have z149 := fun Q' => d149 (G := G) (h0 := h0) (b := b) (n := n) (k := k) (Q := Q') (I := I) (A := A) (P := P) (R := R) (o := o) (x := x) hl (by omega)
          have z0 := fun Q' => d80_4 (G := G) (h0 := h0) (b := b) (n := n) (k := k) (Q := Q') (I := I) (A := A) (P := P) (R := R) (o := o) (z := x) hl (by omega)
          have z2 := fun Q' => d80_4 (G := G) (h0 := h0) (b := b) (n := n) (k := k) (Q := Q') (I := I) (A := A) (P := P) (R := R) (o := o) (z := x + 2) hl (by omega)
          have l1 : B 14 (5 + x + 1).toNat = 1 := by
            unfold odF at q
            rw [if_neg (by omega), if_pos r] at q
            by_cases w : B 14 (5 + x + 1).toNat = 1
            · exact w
            · rw [if_pos w] at q; omega
          have g2 : rget (I 7) (A 1) (x + 2) = B 14 (5 + x + 2).toNat := by rw [rq_get hq (by omega) (by omega)]; congr 2; omega
          rw [g1] at z149
          rw [g0] at z0
          rw [g2] at z2
          rw [s151_9, ← a3 n k Q]
          simp (maxSteps := 1000000) (disch := first | omega | (simp only [updI_at, upA_at, Nat.reduceEqDiff, reduceIte]; omega) | exact mIsRef_rf _ | exact rfl) only [↓s151_0, ↓s151_1, ↓s151_3, ↓s151_4, ↓s151_6, ↓s151_7, ↓s151_11, ↓s151_14, ↓s151_17, ↓s151_19, ↓s151_20, ↓s151_23, ↓s151_24, ↓s151_26, ↓s151_29, ↓s151_32, ↓s151_35, ↓s151_36, ↓s151_38, ↓s151_39, ↓s151_40, ↓s151_43, ↓s151_45, ↓s151_48, ↓s151_49, ↓s151_50, ↓s151_52r, ↓s151_55, ↓s151_56, ↓s151_58r, ↓s151_61, ↓s151_63, ↓s151_66, ↓s151_69, ↓s151_71, iL_193, iL_2, iL_255, wc_1, wc_12, wc_14, wc_29, wc_31, wc_34, wc_39, wc_4, wc_41, mN1_int, mN1_ref, mN1_null, mN1_U, mN1_rf, mCats_nil, mCats_int, mCats_ref, mCats_null, mCats_long, mCats_rf, mIsRef_ref, mIsRef_null, mIsRef_va, mRf_ref, mRf_null, mRf_rf, true_and, and_true, true_or, or_true, eq_self_iff_true, mK_v, mK_0, Nat.reduceAdd, Nat.reduceLeDiff, Nat.zero_le, iL_0, iL_1, iL_m1, iI_add, iI_sub, iI_mul, iI_neg, updI_at, upA_at, upP_at, upR_at, Nat.reduceEqDiff, reduceIte, Int.reduceAdd, Int.reduceSub, Int.reduceMul, Int.reduceDiv, Int.reduceMod, Int.reduceLT, Int.reduceLE, Int.reduceEq, Int.reduceNeg, not_true_eq_false, not_false_eq_true, Decidable.not_not, iI_le, iI_eq, hc, p, z149, z0, z2, eq_true r]
        · have q2 : B 14 (5 + x).toNat = 192 := by
            unfold odF at q
            rw [if_neg (by omega), if_neg r] at q
            by_cases w : B 14 (5 + x).toNat = 192
            · exact w
            · rw [if_pos (Or.inl w)] at q; omega
          rw [if_neg r]
          rw [if_neg r] at h6
          obtain ⟨h1, fb1, b1, b2, b3⟩ := d152 (R := R) (o := o) hf hfc hq hM h3 he.2 q q2
          have hq1 : rq0 I A J (obW J B (5 + x)) := by
            unfold rq0
            rw [obW_tape]; exact hq
          rw [← oaF_W J B (5 + x)] at h6
          obtain ⟨h1', fb', a1, a2, a3⟩ := ih (c + 1) (x + 2 + B 14 (5 + x + 1).toNat) s _ h1 (obW J B (5 + x)) fb1 b1 hq1 (iM_W hM) (by omega) (by omega) (by omega) (by omega) (by omega) h6
          refine ⟨h1', fb', a1, kp_trans b2 a2, ?_⟩
          intro n k Q
          have z149 := fun Q' => d149 (G := G) (h0 := h1) (b := b) (n := n) (k := k) (Q := Q') (I := I) (A := A) (P := P) (R := R) (o := o) (x := x) hl (by omega)
          have z0 := fun Q' => d80_4 (G := G) (h0 := h0) (b := b) (n := n) (k := k) (Q := Q') (I := I) (A := A) (P := P) (R := R) (o := o) (z := x) hl (by omega)
          rw [g1] at z149
          rw [g0] at z0
          rw [oaF_W] at a3
          rw [s151_9, ← a3 n k Q]
          simp (maxSteps := 1000000) (disch := first | omega | (simp only [updI_at, upA_at, Nat.reduceEqDiff, reduceIte]; omega) | exact mIsRef_rf _ | exact rfl) only [↓s151_0, ↓s151_1, ↓s151_3, ↓s151_4, ↓s151_6, ↓s151_7, ↓s151_11, ↓s151_14, ↓s151_17, ↓s151_19, ↓s151_20, ↓s151_23, ↓s151_24, ↓s151_26, ↓s151_29, ↓s151_32, ↓s151_35, ↓s151_36, ↓s151_38, ↓s151_39, ↓s151_40, ↓s151_43, ↓s151_45, ↓s151_48, ↓s151_49, ↓s151_50, ↓s151_52r, ↓s151_55, ↓s151_56, ↓s151_58r, ↓s151_61, ↓s151_63, ↓s151_66, ↓s151_69, ↓s151_71, iL_193, iL_2, iL_255, wc_1, wc_12, wc_14, wc_29, wc_31, wc_34, wc_39, wc_4, wc_41, mN1_int, mN1_ref, mN1_null, mN1_U, mN1_rf, mCats_nil, mCats_int, mCats_ref, mCats_null, mCats_long, mCats_rf, mIsRef_ref, mIsRef_null, mIsRef_va, mRf_ref, mRf_null, mRf_rf, true_and, and_true, true_or, or_true, eq_self_iff_true, mK_v, mK_0, Nat.reduceAdd, Nat.reduceLeDiff, Nat.zero_le, iL_0, iL_1, iL_m1, iI_add, iI_sub, iI_mul, iI_neg, updI_at, upA_at, upP_at, upR_at, Nat.reduceEqDiff, reduceIte, Int.reduceAdd, Int.reduceSub, Int.reduceMul, Int.reduceDiv, Int.reduceMod, Int.reduceLT, Int.reduceLE, Int.reduceEq, Int.reduceNeg, not_true_eq_false, not_false_eq_true, Decidable.not_not, iI_le, iI_eq, hc, p, z149, z0, b3, r]
      · rw [if_pos q] at h6
        exact absurd h6 q
theorem d151 {x e : Int} (hf : dFl G h0 b (P 2) J B fa fb fcap fg) (hfc : (I 10) = J 29) (hq : rq0 I A J B) (hM : iM J B) (he : 0 ≤ e ∧ e ≤ J 49) (hx : 0 ≤ x ∧ x ≤ 255) (ho : (oaF J B (5 + e) 262 (5 + x) (-1)).1 = 0) :
    ∃ (h1 : mH) (fb' : Nat → Nat → Int), dFl G h1 b (P 2) J (obA J (5 + e) 262 (5 + x) B) fa fb' fcap fg ∧ kp J fa h0 h1 ∧ ∀ (n k : Nat) (Q : mR → Prop), (mX G 151 0 [.ref (b + 34), .ref (b + 4), .int (iI x), .int (iI e), mU, mU, mU] [] (wH h0 b I A P R o) n k Q ↔ Q (.inl (some (.int (iI (oaF J B (5 + e) 262 (5 + x) (-1)).2))), wH h1 b I A P R o, n, k)) := by
  have hN := hq.1.2
  have hT := hM.2.2.2.2.2.2
  rw [oaF_fu hT 255 262 (5 + x) (-1) (by omega) (by omega)] at ho ⊢
  rw [obA_fu 255 262 (5 + x) B hT (by omega) (by omega)]
  obtain ⟨h1, fb', a1, a2, a3⟩ := d151_l (G := G) (b := b) (P := P) (R := R) (o := o) (i2 := iI x) hfc he 255 0 x (-1) (-1) h0 B fb hf hq hM (by omega) (by omega) (by omega) (by omega) (by omega) ho
  refine ⟨h1, fb', a1, a2, ?_⟩
  intro n k Q
  rw [← a3 n k Q]
  simp (maxSteps := 1000000) (disch := first | omega | (simp only [updI_at, upA_at, Nat.reduceEqDiff, reduceIte]; omega) | exact mIsRef_rf _ | exact rfl) only [↓s151_0, ↓s151_1, ↓s151_3, ↓s151_4, ↓s151_6, ↓s151_7, mN1_int, mN1_ref, mN1_null, mN1_U, mN1_rf, mCats_nil, mCats_int, mCats_ref, mCats_null, mCats_long, mCats_rf, mIsRef_ref, mIsRef_null, mIsRef_va, mRf_ref, mRf_null, mRf_rf, true_and, and_true, true_or, or_true, eq_self_iff_true, mK_v, mK_0, Nat.reduceAdd, Nat.reduceLeDiff, Nat.zero_le, iL_0, iL_1, iL_m1, iI_add, iI_sub, iI_mul, iI_neg, updI_at, upA_at, upP_at, upR_at, Nat.reduceEqDiff, reduceIte, Int.reduceAdd, Int.reduceSub, Int.reduceMul, Int.reduceDiv, Int.reduceMod, Int.reduceLT, Int.reduceLE, Int.reduceEq, Int.reduceNeg, not_true_eq_false, not_false_eq_true, Decidable.not_not]
end
end MOBEY
