/-! Class: Toolkit.takeTimer, keepBytes, takeOk. -/
section MTAKE
variable {G : mG} {h h0 : mH} {n k b : Nat} {Q : mR → Prop} {I : Nat → Int} {A : Nat → Nat → Int} {P : Nat → Nat} {R : Nat → Option Nat} {o : Nat → Int64}
section
variable {K : Int → Prop} {J : Nat → Int} {B : Nat → Nat → Int} {fa : Nat → Nat} {fb : Nat → Nat → Int} {fcap : Nat} {fg : Nat → Option Nat} {W : Nat → Nat → Nat → Nat} {V : Nat → Nat → Nat → Nat → Int} {X : Nat → Nat → Option Nat} {cap : Nat} {ng : Nat → Option Nat}
/-- a file's bytes after a tag's bytes were kept in it -/
def kbG (I : Nat → Int) (A : Nat → Nat → Int) (M : Nat) (g : Nat → Int) (s m : Int) : Nat → Int := cpE (cpE g (fun _ => 255) 0 M) (fun j => rget (I 7) (A 1) (s + j) % 256) 0 (if m ≤ 0 then 0 else if (M : Int) < m then M else m)
def kbH (h0 : mH) (I : Nat → Int) (A : Nat → Nat → Int) (B : Nat → Nat → Int) (fa : Nat → Nat) (fb : Nat → Nat → Int) (f s m : Int) : mH := if f < 0 ∨ ¬ B 17 f.toNat = 1 then h0 else fW h0 (fa f.toNat) (fN B f.toNat) (kbG I A (fN B f.toNat) (fb f.toNat) s m)
theorem d138 {t : Nat} {f ps : Int} (hd : dFl G h0 b (P 2) J B fa fb fcap fg) (hM : iM J B) (hq : rqR I A R b J B) (hT : iTl A) (hr : tR K (J 49) A J B) (ht : t < 128) (kt : K t) (hp : f < 0 ∨ ¬ B 46 t < 0) (hf : -1 ≤ f ∧ f < J 29) (hps : 0 ≤ ps ∧ ps ≤ 1) : mX G 138 0 [.ref (b + 34), va_rf (rfV fa f), .ref (b + 4), .int (iI (t : Int)), .int (iI ps)] [] (wH h0 b I A P R o) n k Q ↔ Q (.inl none, wH (kbH h0 I A B fa fb f ((A 9) t + ps) (B 46 t - ps)) b I A P R o, n, k) := by
  obtain ⟨⟨q1, q2⟩, q3, q4, q5⟩ := hq
  unfold kbH
  by_cases p1 : f < 0
  · rw [if_pos (Or.inl p1)]
    have e : rfV fa f = none := if_pos p1
    simp (maxSteps := 1000000) (disch := first | omega | (simp only [updI_at, upA_at, Nat.reduceEqDiff, reduceIte]; omega) | exact mIsRef_rf _ | exact rfl) only [↓s138_0, ↓s138_1, ↓s138_4, ↓s138_5, ↓s138_8, ↓s138_9, ↓s138_12, ↓s138_13, ↓s138_14, ↓s138_15, ↓s138_18, ↓s138_19, ↓s138_22, ↓s138_24, ↓s138_25, ↓s138_26, ↓s138_29, ↓s138_30, ↓s138_33, ↓s138_35, ↓s138_36r, ↓s138_39, wc_35, wg_34_4, mN1_int, mN1_ref, mN1_null, mN1_U, mN1_rf, mCats_nil, mCats_int, mCats_ref, mCats_null, mCats_long, mCats_rf, mIsRef_ref, mIsRef_null, mIsRef_va, mRf_ref, mRf_null, mRf_rf, true_and, and_true, true_or, or_true, eq_self_iff_true, mK_v, mK_0, Nat.reduceAdd, Nat.reduceLeDiff, Nat.zero_le, iL_0, iL_1, iL_m1, iI_add, iI_sub, iI_mul, iI_neg, updI_at, upA_at, upP_at, upR_at, Nat.reduceEqDiff, reduceIte, Int.reduceAdd, Int.reduceSub, Int.reduceMul, Int.reduceDiv, Int.reduceMod, Int.reduceLT, Int.reduceLE, Int.reduceEq, Int.reduceNeg, not_true_eq_false, not_false_eq_true, Decidable.not_not, e, va_none]
  · have e : rfV fa f = some (fa f.toNat) := if_neg p1
    have hp' := hp.resolve_left p1
    obtain ⟨i1, i2, i3, i4, i5⟩ := hd.2.2.1 f.toNat (by omega)
    obtain ⟨o1, o2, o3⟩ := hM.2.1.2.2.1 f.toNat (by omega)
    have fn := fN_eq (x := f.toNat) hM.2.1 (by omega)
    have e2 : fF B f.toNat 2 = B 17 f.toNat := rfl
    have th := tg_has hr ht kt hp'
    have lr := hM.2.2.2.2.2.1.2.1 t
    by_cases p2 : B 17 f.toNat = 1
    · rw [if_neg (fun w => w.elim p1 (fun w => w p2))]
      have zs := fun Q' => d121 (G := G) (h0 := h0) (b := b) (n := n) (k := k) (Q := Q') (I := I) (A := A) (P := P) (R := R) (o := o) (x := (t : Int)) (by omega)
      have zl := fun Q' => d122 (G := G) (h0 := h0) (b := b) (n := n) (k := k) (Q := Q') (I := I) (A := A) (P := P) (R := R) (o := o) (x := (t : Int)) (by omega)
      rw [show ((t : Int)).toNat = t by omega] at zs zl
      rw [← th.2.2] at zl
      have rr := rget_rng (len := (I 7)) q4
      have z5 := fun Q' => d5 (n := n) (k := k) (Q := Q') (I := I) (A := A) (P := P) (R := R) (o := o) (g := fb f.toNat) (N := fN B f.toNat) (s := (A 9) t + ps) (m := B 46 t - ps) i2 (by omega) (rG_4 (by omega)) rC_4 rr (by omega) (by omega)
      rw [fW_self i3] at z5
      have z5' : ∀ Q' : mR → Prop, mX G 5 0 [.ref (fa f.toNat), .ref (b + 4), .int (iI ((A 9) t + ps)), .int (iI (B 46 t - ps))] [] (wH h0 b I A P R o) n k Q' ↔ Q' (.inl none, wH (fW h0 (fa f.toNat) (fN B f.toNat) (kbG I A (fN B f.toNat) (fb f.toNat) ((A 9) t + ps) (B 46 t - ps))) b I A P R o, n, k) := z5
      simp (maxSteps := 1000000) (disch := first | omega | (simp only [updI_at, upA_at, Nat.reduceEqDiff, reduceIte]; omega) | exact mIsRef_rf _ | exact rfl) only [↓s138_0, ↓s138_1, ↓s138_4, ↓s138_5, ↓s138_8, ↓s138_9, ↓s138_12, ↓s138_13, ↓s138_14, ↓s138_15, ↓s138_18, ↓s138_19, ↓s138_22, ↓s138_24, ↓s138_25, ↓s138_26, ↓s138_29, ↓s138_30, ↓s138_33, ↓s138_35, ↓s138_36r, ↓s138_39, wc_35, wg_34_4, mN1_int, mN1_ref, mN1_null, mN1_U, mN1_rf, mCats_nil, mCats_int, mCats_ref, mCats_null, mCats_long, mCats_rf, mIsRef_ref, mIsRef_null, mIsRef_va, mRf_ref, mRf_null, mRf_rf, true_and, and_true, true_or, or_true, eq_self_iff_true, mK_v, mK_0, Nat.reduceAdd, Nat.reduceLeDiff, Nat.zero_le, iL_0, iL_1, iL_m1, iI_add, iI_sub, iI_mul, iI_neg, updI_at, upA_at, upP_at, upR_at, Nat.reduceEqDiff, reduceIte, Int.reduceAdd, Int.reduceSub, Int.reduceMul, Int.reduceDiv, Int.reduceMod, Int.reduceLT, Int.reduceLE, Int.reduceEq, Int.reduceNeg, not_true_eq_false, not_false_eq_true, Decidable.not_not, e, va_some, reduceCtorEq, gg_c i2, gg_2 i2, e2, iI_eq, eq_true p2, zs, zl, z5']
    · rw [if_pos (Or.inr p2)]
      simp (maxSteps := 1000000) (disch := first | omega | (simp only [updI_at, upA_at, Nat.reduceEqDiff, reduceIte]; omega) | exact mIsRef_rf _ | exact rfl) only [↓s138_0, ↓s138_1, ↓s138_4, ↓s138_5, ↓s138_8, ↓s138_9, ↓s138_12, ↓s138_13, ↓s138_14, ↓s138_15, ↓s138_18, ↓s138_19, ↓s138_22, ↓s138_24, ↓s138_25, ↓s138_26, ↓s138_29, ↓s138_30, ↓s138_33, ↓s138_35, ↓s138_36r, ↓s138_39, wc_35, wg_34_4, mN1_int, mN1_ref, mN1_null, mN1_U, mN1_rf, mCats_nil, mCats_int, mCats_ref, mCats_null, mCats_long, mCats_rf, mIsRef_ref, mIsRef_null, mIsRef_va, mRf_ref, mRf_null, mRf_rf, true_and, and_true, true_or, or_true, eq_self_iff_true, mK_v, mK_0, Nat.reduceAdd, Nat.reduceLeDiff, Nat.zero_le, iL_0, iL_1, iL_m1, iI_add, iI_sub, iI_mul, iI_neg, updI_at, upA_at, upP_at, upR_at, Nat.reduceEqDiff, reduceIte, Int.reduceAdd, Int.reduceSub, Int.reduceMul, Int.reduceDiv, Int.reduceMod, Int.reduceLT, Int.reduceLE, Int.reduceEq, Int.reduceNeg, not_true_eq_false, not_false_eq_true, Decidable.not_not, e, va_some, reduceCtorEq, gg_2 i2, e2, iI_eq, p2]
def tkA (A : Nat → Nat → Int) (F : Nat → Int) : Nat → Nat → Int := if F 2 ≤ 1 ∧ (1 ≤ F 10 ∧ F 10 ≤ 8) then upA A 8 (upE (A 8) (F 10).toNat (if F 2 = 0 then 1 else 0)) else A
theorem d139 {p w t : Nat} {fl : Option Nat} {F : Nat → Int} (hb : G.2.2.2 ≤ b) (hn : nO G h0 b p w t fl F) (h2 : 0 ≤ F 2 ∧ F 2 ≤ 255) (h10 : 0 ≤ F 10 ∧ F 10 ≤ 255) : mX G 139 0 [.ref (b + 34), .ref p] [] (wH h0 b I A P R o) n k Q ↔ Q (.inl none, wH h0 b I (tkA A F) P R o, n, k) := by
  unfold tkA
  by_cases p1 : F 2 ≤ 1
  · have z := fun Q' y hy => d115 (G := G) (h0 := h0) (b := b) (n := n) (k := k) (Q := Q') (I := I) (A := A) (P := P) (R := R) (o := o) (x := F 10) (y := y) hb (by omega) hy
    have z1 := fun Q' => z Q' 1 (Or.inr rfl)
    have z0 := fun Q' => z Q' 0 (Or.inl rfl)
    by_cases p3 : 1 ≤ F 10 ∧ F 10 ≤ 8
    · rw [if_pos ⟨p1, p3⟩]
      simp only [eq_true p3, if_true] at z1 z0
      by_cases p2 : F 2 = 0
      · rw [if_pos p2]
        simp (maxSteps := 1000000) (disch := first | omega | (simp only [updI_at, upA_at, Nat.reduceEqDiff, reduceIte]; omega) | exact mIsRef_rf _ | exact rfl) only [↓s139_0, ↓s139_1, ↓s139_4, ↓s139_5, ↓s139_8, ↓s139_9, ↓s139_12, ↓s139_13, ↓s139_16, ↓s139_17, ↓s139_20, ↓s139_23, ↓s139_24, ↓s139_27, ↓s139_28, ↓s139_31, wc_28, wg_34_2, mN1_int, mN1_ref, mN1_null, mN1_U, mN1_rf, mCats_nil, mCats_int, mCats_ref, mCats_null, mCats_long, mCats_rf, mIsRef_ref, mIsRef_null, mIsRef_va, mRf_ref, mRf_null, mRf_rf, true_and, and_true, true_or, or_true, eq_self_iff_true, mK_v, mK_0, Nat.reduceAdd, Nat.reduceLeDiff, Nat.zero_le, iL_0, iL_1, iL_m1, iI_add, iI_sub, iI_mul, iI_neg, updI_at, upA_at, upP_at, upR_at, Nat.reduceEqDiff, reduceIte, Int.reduceAdd, Int.reduceSub, Int.reduceMul, Int.reduceDiv, Int.reduceMod, Int.reduceLT, Int.reduceLE, Int.reduceEq, Int.reduceNeg, not_true_eq_false, not_false_eq_true, Decidable.not_not, ng_2 hn, ng_10 hn, iI_lt, iI_eq, show ¬ 1 < F 2 by omega, eq_true p2, z1]
      · rw [if_neg p2]
        simp (maxSteps := 1000000) (disch := first | omega | (simp only [updI_at, upA_at, Nat.reduceEqDiff, reduceIte]; omega) | exact mIsRef_rf _ | exact rfl) only [↓s139_0, ↓s139_1, ↓s139_4, ↓s139_5, ↓s139_8, ↓s139_9, ↓s139_12, ↓s139_13, ↓s139_16, ↓s139_17, ↓s139_20, ↓s139_23, ↓s139_24, ↓s139_27, ↓s139_28, ↓s139_31, wc_28, wg_34_2, mN1_int, mN1_ref, mN1_null, mN1_U, mN1_rf, mCats_nil, mCats_int, mCats_ref, mCats_null, mCats_long, mCats_rf, mIsRef_ref, mIsRef_null, mIsRef_va, mRf_ref, mRf_null, mRf_rf, true_and, and_true, true_or, or_true, eq_self_iff_true, mK_v, mK_0, Nat.reduceAdd, Nat.reduceLeDiff, Nat.zero_le, iL_0, iL_1, iL_m1, iI_add, iI_sub, iI_mul, iI_neg, updI_at, upA_at, upP_at, upR_at, Nat.reduceEqDiff, reduceIte, Int.reduceAdd, Int.reduceSub, Int.reduceMul, Int.reduceDiv, Int.reduceMod, Int.reduceLT, Int.reduceLE, Int.reduceEq, Int.reduceNeg, not_true_eq_false, not_false_eq_true, Decidable.not_not, ng_2 hn, ng_10 hn, iI_lt, iI_eq, show ¬ 1 < F 2 by omega, p2, z0]
    · rw [if_neg (fun w => p3 w.2)]
      simp only [p3, if_false] at z1 z0
      by_cases p2 : F 2 = 0
      · simp (maxSteps := 1000000) (disch := first | omega | (simp only [updI_at, upA_at, Nat.reduceEqDiff, reduceIte]; omega) | exact mIsRef_rf _ | exact rfl) only [↓s139_0, ↓s139_1, ↓s139_4, ↓s139_5, ↓s139_8, ↓s139_9, ↓s139_12, ↓s139_13, ↓s139_16, ↓s139_17, ↓s139_20, ↓s139_23, ↓s139_24, ↓s139_27, ↓s139_28, ↓s139_31, wc_28, wg_34_2, mN1_int, mN1_ref, mN1_null, mN1_U, mN1_rf, mCats_nil, mCats_int, mCats_ref, mCats_null, mCats_long, mCats_rf, mIsRef_ref, mIsRef_null, mIsRef_va, mRf_ref, mRf_null, mRf_rf, true_and, and_true, true_or, or_true, eq_self_iff_true, mK_v, mK_0, Nat.reduceAdd, Nat.reduceLeDiff, Nat.zero_le, iL_0, iL_1, iL_m1, iI_add, iI_sub, iI_mul, iI_neg, updI_at, upA_at, upP_at, upR_at, Nat.reduceEqDiff, reduceIte, Int.reduceAdd, Int.reduceSub, Int.reduceMul, Int.reduceDiv, Int.reduceMod, Int.reduceLT, Int.reduceLE, Int.reduceEq, Int.reduceNeg, not_true_eq_false, not_false_eq_true, Decidable.not_not, ng_2 hn, ng_10 hn, iI_lt, iI_eq, show ¬ 1 < F 2 by omega, eq_true p2, z1]
      · simp (maxSteps := 1000000) (disch := first | omega | (simp only [updI_at, upA_at, Nat.reduceEqDiff, reduceIte]; omega) | exact mIsRef_rf _ | exact rfl) only [↓s139_0, ↓s139_1, ↓s139_4, ↓s139_5, ↓s139_8, ↓s139_9, ↓s139_12, ↓s139_13, ↓s139_16, ↓s139_17, ↓s139_20, ↓s139_23, ↓s139_24, ↓s139_27, ↓s139_28, ↓s139_31, wc_28, wg_34_2, mN1_int, mN1_ref, mN1_null, mN1_U, mN1_rf, mCats_nil, mCats_int, mCats_ref, mCats_null, mCats_long, mCats_rf, mIsRef_ref, mIsRef_null, mIsRef_va, mRf_ref, mRf_null, mRf_rf, true_and, and_true, true_or, or_true, eq_self_iff_true, mK_v, mK_0, Nat.reduceAdd, Nat.reduceLeDiff, Nat.zero_le, iL_0, iL_1, iL_m1, iI_add, iI_sub, iI_mul, iI_neg, updI_at, upA_at, upP_at, upR_at, Nat.reduceEqDiff, reduceIte, Int.reduceAdd, Int.reduceSub, Int.reduceMul, Int.reduceDiv, Int.reduceMod, Int.reduceLT, Int.reduceLE, Int.reduceEq, Int.reduceNeg, not_true_eq_false, not_false_eq_true, Decidable.not_not, ng_2 hn, ng_10 hn, iI_lt, iI_eq, show ¬ 1 < F 2 by omega, p2, z0]
  · rw [if_neg (fun w => p1 w.1)]
    simp (maxSteps := 1000000) (disch := first | omega | (simp only [updI_at, upA_at, Nat.reduceEqDiff, reduceIte]; omega) | exact mIsRef_rf _ | exact rfl) only [↓s139_0, ↓s139_1, ↓s139_4, ↓s139_5, ↓s139_8, ↓s139_9, ↓s139_12, ↓s139_13, ↓s139_16, ↓s139_17, ↓s139_20, ↓s139_23, ↓s139_24, ↓s139_27, ↓s139_28, ↓s139_31, wc_28, wg_34_2, mN1_int, mN1_ref, mN1_null, mN1_U, mN1_rf, mCats_nil, mCats_int, mCats_ref, mCats_null, mCats_long, mCats_rf, mIsRef_ref, mIsRef_null, mIsRef_va, mRf_ref, mRf_null, mRf_rf, true_and, and_true, true_or, or_true, eq_self_iff_true, mK_v, mK_0, Nat.reduceAdd, Nat.reduceLeDiff, Nat.zero_le, iL_0, iL_1, iL_m1, iI_add, iI_sub, iI_mul, iI_neg, updI_at, upA_at, upP_at, upR_at, Nat.reduceEqDiff, reduceIte, Int.reduceAdd, Int.reduceSub, Int.reduceMul, Int.reduceDiv, Int.reduceMod, Int.reduceLT, Int.reduceLE, Int.reduceEq, Int.reduceNeg, not_true_eq_false, not_false_eq_true, Decidable.not_not, ng_2 hn, iI_lt, show 1 < F 2 by omega]
/-- what an OK of a Node makes of the heap and of the timers -/
def toH (h0 : mH) (I : Nat → Int) (A : Nat → Nat → Int) (J : Nat → Int) (B : Nat → Nat → Int) (fa : Nat → Nat) (fb : Nat → Nat → Int) : mH :=
  if nF B (J 42).toNat 1 = 1 then kbH h0 I A B fa fb (B 28 (J 42).toNat) ((A 9) 13 + 1) (B 46 13 - 1)
  else if nF B (J 42).toNat 1 = 6 then kbH h0 I A B fa fb (B 28 (J 42).toNat) ((A 9) 19 + 0) (B 46 19 - 0) else h0
def toA (A : Nat → Nat → Int) (J : Nat → Int) (B : Nat → Nat → Int) : Nat → Nat → Int := if nF B (J 42).toNat 1 = 4 then tkA A (nF B (J 42).toNat) else A
theorem d137 (hb : G.2.2.2 ≤ b) (hd : dFl G h0 b (P 2) J B fa fb fcap fg) (hM : iM J B) (hq : rqR I A R b J B) (hT : iTl A) (hr : tR K1 (J 49) A J B) (hs : ¬ J 41 = 0) (h1 : dN1 G h0 b J B fa W V X (J 42).toNat) (hao : aoF J B V = 36864) : mX G 137 0 [.ref (b + 34), .ref (W 0 (J 42).toNat 0), .ref (b + 4)] [] (wH h0 b I A P R o) n k Q ↔ Q (.inl none, wH (toH h0 I A J B fa fb) b I (toA A J B) P R o, n, k) := by
  have k13 : K1 ((13 : Nat) : Int) := Or.inr (Or.inr (Or.inr (Or.inl rfl)))
  have k19 : K1 ((19 : Nat) : Int) := Or.inr (Or.inr (Or.inr (Or.inr (Or.inr (Or.inl rfl)))))
  obtain ⟨hn, ha, ht, hi, ⟨⟨k1, k2⟩, k3, k4, k5⟩, ⟨k6, k7, k8, k9⟩, hg, hgi⟩ := h1.1
  have e4 := hM.2.2.2.2.1.2.2.2.1
  have e5 := hM.2.2.2.2.1.2.2.2.2.1 hs
  unfold aoF at hao
  unfold toH toA
  by_cases s1 : nF B (J 42).toNat 1 = 1
  · rw [if_neg (by omega), if_pos s1] at hao
    rw [if_pos s1, if_neg (by omega)]
    have nx : ¬ J 42 = 40 := by
      intro w
      rw [w] at s1
      have w8 : (8 : Int) = 1 := s1
      omega
    have ef : nfl fa B (J 42).toNat = rfV fa (B 28 (J 42).toNat) := if_neg (by omega)
    have ir := (hM.2.2.2.1.2.1 (J 42).toNat (by omega)).2.2.2.2.1
    have z := fun Q' => d138 (G := G) (n := n) (k := k) (Q := Q') (o := o) (t := 13) (f := B 28 (J 42).toNat) (ps := 1) hd hM hq hT hr (by decide) k13 (by
      by_cases w : B 28 (J 42).toNat < 0 ∨ ¬ B 46 13 < 0
      · exact w
      · rw [if_neg w] at hao; omega) ir (by omega)
    rw [show ((13 : Nat) : Int) = 13 from rfl] at z
    by_cases w : B 28 (J 42).toNat < 0
    · have e : rfV fa (B 28 (J 42).toNat) = none := if_pos w
      rw [e, va_none] at z
      simp (maxSteps := 1000000) (disch := first | omega | (simp only [updI_at, upA_at, Nat.reduceEqDiff, reduceIte]; omega) | exact mIsRef_rf _ | exact rfl) only [↓s137_0, ↓s137_1, ↓s137_4, ↓s137_40, ↓s137_41, ↓s137_42, ↓s137_45, ↓s137_46, ↓s137_48, ↓s137_52, ↓s137_55, ↓s137_56, ↓s137_57, ↓s137_60, ↓s137_61, ↓s137_63, ↓s137_64r, ↓s137_67, ↓s137_70, ↓s137_71, ↓s137_72r, ↓s137_75, ↓s137_78, iL_13, iL_19, iL_4, iL_6, wc_34, ↓s137_49 (p0 := Value.null) (p1 := Value.ref (b + 4)) rfl rfl, wc_34, mN1_int, mN1_ref, mN1_null, mN1_U, mN1_rf, mCats_nil, mCats_int, mCats_ref, mCats_null, mCats_long, mCats_rf, mIsRef_ref, mIsRef_null, mIsRef_va, mRf_ref, mRf_null, mRf_rf, true_and, and_true, true_or, or_true, eq_self_iff_true, mK_v, mK_0, Nat.reduceAdd, Nat.reduceLeDiff, Nat.zero_le, iL_0, iL_1, iL_m1, iI_add, iI_sub, iI_mul, iI_neg, updI_at, upA_at, upP_at, upR_at, Nat.reduceEqDiff, reduceIte, Int.reduceAdd, Int.reduceSub, Int.reduceMul, Int.reduceDiv, Int.reduceMod, Int.reduceLT, Int.reduceLE, Int.reduceEq, Int.reduceNeg, not_true_eq_false, not_false_eq_true, Decidable.not_not, ng_1 hn, ng_9 hn, iI_eq, s1, ef, e, va_none, z]
    · have e : rfV fa (B 28 (J 42).toNat) = some (fa (B 28 (J 42).toNat).toNat) := if_neg w
      rw [e, va_some] at z
      simp (maxSteps := 1000000) (disch := first | omega | (simp only [updI_at, upA_at, Nat.reduceEqDiff, reduceIte]; omega) | exact mIsRef_rf _ | exact rfl) only [↓s137_0, ↓s137_1, ↓s137_4, ↓s137_40, ↓s137_41, ↓s137_42, ↓s137_45, ↓s137_46, ↓s137_48, ↓s137_49r, ↓s137_52, ↓s137_55, ↓s137_56, ↓s137_57, ↓s137_60, ↓s137_61, ↓s137_63, ↓s137_64r, ↓s137_67, ↓s137_70, ↓s137_71, ↓s137_72r, ↓s137_75, ↓s137_78, iL_13, iL_19, iL_4, iL_6, wc_34, mN1_int, mN1_ref, mN1_null, mN1_U, mN1_rf, mCats_nil, mCats_int, mCats_ref, mCats_null, mCats_long, mCats_rf, mIsRef_ref, mIsRef_null, mIsRef_va, mRf_ref, mRf_null, mRf_rf, true_and, and_true, true_or, or_true, eq_self_iff_true, mK_v, mK_0, Nat.reduceAdd, Nat.reduceLeDiff, Nat.zero_le, iL_0, iL_1, iL_m1, iI_add, iI_sub, iI_mul, iI_neg, updI_at, upA_at, upP_at, upR_at, Nat.reduceEqDiff, reduceIte, Int.reduceAdd, Int.reduceSub, Int.reduceMul, Int.reduceDiv, Int.reduceMod, Int.reduceLT, Int.reduceLE, Int.reduceEq, Int.reduceNeg, not_true_eq_false, not_false_eq_true, Decidable.not_not, ng_1 hn, ng_9 hn, iI_eq, s1, ef, e, va_some, z]
  · rw [if_neg s1]
    by_cases s6 : nF B (J 42).toNat 1 = 6
    · rw [if_neg (by omega), if_neg s1, if_pos s6] at hao
      rw [if_pos s6, if_neg (by omega)]
      have nx : ¬ J 42 = 40 := by
        intro w
        rw [w] at s6
        have w8 : (8 : Int) = 6 := s6
        omega
      have ef : nfl fa B (J 42).toNat = rfV fa (B 28 (J 42).toNat) := if_neg (by omega)
      have ir := (hM.2.2.2.1.2.1 (J 42).toNat (by omega)).2.2.2.2.1
      have z := fun Q' => d138 (G := G) (n := n) (k := k) (Q := Q') (o := o) (t := 19) (f := B 28 (J 42).toNat) (ps := 0) hd hM hq hT hr (by decide) k19 (by
        by_cases w : B 28 (J 42).toNat < 0 ∨ ¬ B 46 19 < 0
        · exact w
        · rw [if_neg w] at hao; omega) ir (by omega)
      rw [show ((19 : Nat) : Int) = 19 from rfl] at z
      by_cases w : B 28 (J 42).toNat < 0
      · have e : rfV fa (B 28 (J 42).toNat) = none := if_pos w
        rw [e, va_none] at z
        simp (maxSteps := 1000000) (disch := first | omega | (simp only [updI_at, upA_at, Nat.reduceEqDiff, reduceIte]; omega) | exact mIsRef_rf _ | exact rfl) only [↓s137_0, ↓s137_1, ↓s137_4, ↓s137_40, ↓s137_41, ↓s137_42, ↓s137_45, ↓s137_46, ↓s137_48, ↓s137_49r, ↓s137_52, ↓s137_55, ↓s137_56, ↓s137_57, ↓s137_60, ↓s137_61, ↓s137_63, ↓s137_67, ↓s137_70, ↓s137_71, ↓s137_72r, ↓s137_75, ↓s137_78, iL_13, iL_19, iL_4, iL_6, wc_34, ↓s137_64 (p0 := Value.null) (p1 := Value.ref (b + 4)) rfl rfl, wc_34, mN1_int, mN1_ref, mN1_null, mN1_U, mN1_rf, mCats_nil, mCats_int, mCats_ref, mCats_null, mCats_long, mCats_rf, mIsRef_ref, mIsRef_null, mIsRef_va, mRf_ref, mRf_null, mRf_rf, true_and, and_true, true_or, or_true, eq_self_iff_true, mK_v, mK_0, Nat.reduceAdd, Nat.reduceLeDiff, Nat.zero_le, iL_0, iL_1, iL_m1, iI_add, iI_sub, iI_mul, iI_neg, updI_at, upA_at, upP_at, upR_at, Nat.reduceEqDiff, reduceIte, Int.reduceAdd, Int.reduceSub, Int.reduceMul, Int.reduceDiv, Int.reduceMod, Int.reduceLT, Int.reduceLE, Int.reduceEq, Int.reduceNeg, not_true_eq_false, not_false_eq_true, Decidable.not_not, ng_1 hn, ng_9 hn, iI_eq, s6, ef, e, va_none, z]
      · have e : rfV fa (B 28 (J 42).toNat) = some (fa (B 28 (J 42).toNat).toNat) := if_neg w
        rw [e, va_some] at z
        simp (maxSteps := 1000000) (disch := first | omega | (simp only [updI_at, upA_at, Nat.reduceEqDiff, reduceIte]; omega) | exact mIsRef_rf _ | exact rfl) only [↓s137_0, ↓s137_1, ↓s137_4, ↓s137_40, ↓s137_41, ↓s137_42, ↓s137_45, ↓s137_46, ↓s137_48, ↓s137_49r, ↓s137_52, ↓s137_55, ↓s137_56, ↓s137_57, ↓s137_60, ↓s137_61, ↓s137_63, ↓s137_64r, ↓s137_67, ↓s137_70, ↓s137_71, ↓s137_72r, ↓s137_75, ↓s137_78, iL_13, iL_19, iL_4, iL_6, wc_34, mN1_int, mN1_ref, mN1_null, mN1_U, mN1_rf, mCats_nil, mCats_int, mCats_ref, mCats_null, mCats_long, mCats_rf, mIsRef_ref, mIsRef_null, mIsRef_va, mRf_ref, mRf_null, mRf_rf, true_and, and_true, true_or, or_true, eq_self_iff_true, mK_v, mK_0, Nat.reduceAdd, Nat.reduceLeDiff, Nat.zero_le, iL_0, iL_1, iL_m1, iI_add, iI_sub, iI_mul, iI_neg, updI_at, upA_at, upP_at, upR_at, Nat.reduceEqDiff, reduceIte, Int.reduceAdd, Int.reduceSub, Int.reduceMul, Int.reduceDiv, Int.reduceMod, Int.reduceLT, Int.reduceLE, Int.reduceEq, Int.reduceNeg, not_true_eq_false, not_false_eq_true, Decidable.not_not, ng_1 hn, ng_9 hn, iI_eq, s6, ef, e, va_some, z]
    · rw [if_neg s6]
      by_cases s4 : nF B (J 42).toNat 1 = 4
      · rw [if_pos s4]
        have z := fun Q' => d139 (n := n) (k := k) (Q := Q') (I := I) (A := A) (P := P) (R := R) (o := o) hb hn k7 k8
        simp (maxSteps := 1000000) (disch := first | omega | (simp only [updI_at, upA_at, Nat.reduceEqDiff, reduceIte]; omega) | exact mIsRef_rf _ | exact rfl) only [↓s137_0, ↓s137_1, ↓s137_4, ↓s137_40, ↓s137_41, ↓s137_42, ↓s137_45, ↓s137_46, ↓s137_48, ↓s137_49r, ↓s137_52, ↓s137_55, ↓s137_56, ↓s137_57, ↓s137_60, ↓s137_61, ↓s137_63, ↓s137_64r, ↓s137_67, ↓s137_70, ↓s137_71, ↓s137_72r, ↓s137_75, ↓s137_78, iL_13, iL_19, iL_4, iL_6, wc_34, mN1_int, mN1_ref, mN1_null, mN1_U, mN1_rf, mCats_nil, mCats_int, mCats_ref, mCats_null, mCats_long, mCats_rf, mIsRef_ref, mIsRef_null, mIsRef_va, mRf_ref, mRf_null, mRf_rf, true_and, and_true, true_or, or_true, eq_self_iff_true, mK_v, mK_0, Nat.reduceAdd, Nat.reduceLeDiff, Nat.zero_le, iL_0, iL_1, iL_m1, iI_add, iI_sub, iI_mul, iI_neg, updI_at, upA_at, upP_at, upR_at, Nat.reduceEqDiff, reduceIte, Int.reduceAdd, Int.reduceSub, Int.reduceMul, Int.reduceDiv, Int.reduceMod, Int.reduceLT, Int.reduceLE, Int.reduceEq, Int.reduceNeg, not_true_eq_false, not_false_eq_true, Decidable.not_not, ng_1 hn, iI_eq, s4, z]
      · rw [if_neg s4]
        simp (maxSteps := 1000000) (disch := first | omega | (simp only [updI_at, upA_at, Nat.reduceEqDiff, reduceIte]; omega) | exact mIsRef_rf _ | exact rfl) only [↓s137_0, ↓s137_1, ↓s137_4, ↓s137_40, ↓s137_41, ↓s137_42, ↓s137_45, ↓s137_46, ↓s137_48, ↓s137_49r, ↓s137_52, ↓s137_55, ↓s137_56, ↓s137_57, ↓s137_60, ↓s137_61, ↓s137_63, ↓s137_64r, ↓s137_67, ↓s137_70, ↓s137_71, ↓s137_72r, ↓s137_75, ↓s137_78, iL_13, iL_19, iL_4, iL_6, wc_34, mN1_int, mN1_ref, mN1_null, mN1_U, mN1_rf, mCats_nil, mCats_int, mCats_ref, mCats_null, mCats_long, mCats_rf, mIsRef_ref, mIsRef_null, mIsRef_va, mRf_ref, mRf_null, mRf_rf, true_and, and_true, true_or, or_true, eq_self_iff_true, mK_v, mK_0, Nat.reduceAdd, Nat.reduceLeDiff, Nat.zero_le, iL_0, iL_1, iL_m1, iI_add, iI_sub, iI_mul, iI_neg, updI_at, upA_at, upP_at, upR_at, Nat.reduceEqDiff, reduceIte, Int.reduceAdd, Int.reduceSub, Int.reduceMul, Int.reduceDiv, Int.reduceMod, Int.reduceLT, Int.reduceLE, Int.reduceEq, Int.reduceNeg, not_true_eq_false, not_false_eq_true, Decidable.not_not, ng_1 hn, iI_eq, s1, s4, s6]
end
end MTAKE
