/-! Class: what stays when files' bytes change; readEnvelope, message. -/
section MENV3
variable {G : mG} {h h0 : mH} {n k b : Nat} {Q : mR → Prop} {I : Nat → Int} {A : Nat → Nat → Int} {P : Nat → Nat} {R : Nat → Option Nat} {o : Nat → Int64}
section
variable {J : Nat → Int} {B : Nat → Nat → Int} {fa : Nat → Nat} {fb : Nat → Nat → Int} {fcap : Nat} {fg : Nat → Option Nat} {W : Nat → Nat → Nat → Nat} {V : Nat → Nat → Nat → Nat → Int} {X : Nat → Nat → Option Nat} {cap : Nat} {ng : Nat → Option Nat} {h1 : mH}
theorem kp_o {p2 a : Nat} {e : mE} (hd : dFl G h0 b p2 J B fa fb fcap fg) (hk : kp J fa h0 h1) (he : h0 a = some e) (hn : ∀ N f, e ≠ mI N f) : h1 a = some e := by
  rw [hk a, he]
  intro x hx q
  have := (hd.2.2.1 x hx).2.2.1
  rw [← q, he] at this
  exact hn _ _ (Option.some.inj this)
theorem nT_kp {p2 t c : Nat} {len : Int} {tg : Nat → Int} (hd : dFl G h0 b p2 J B fa fb fcap fg) (hk : kp J fa h0 h1) (h : nT h0 b t c len tg) (hs : ∀ x : Nat, (x : Int) < J 29 → fa x ≠ t) : nT h1 b t c len tg := by
  obtain ⟨a1, a2, a3⟩ := h
  refine ⟨a1, kp_o hd hk a2 (fun N f q => by cases q), ?_⟩
  rw [hk (t + 1)]
  · exact a3
  · intro x hx q
    exact hs x hx (by omega)
theorem dNo_kp {p2 p3 : Nat} (hd : dFl G h0 b p2 J B fa fb fcap fg) (hk : kp J fa h0 h1) (hn : dNo G h0 b p3 J B fa W V X cap ng) (hs : dSe J fa W) : dNo G h1 b p3 J B fa W V X cap ng := by
  obtain ⟨⟨l1, l3⟩, l4, m1, hi, hN⟩ := hn
  refine ⟨⟨l1, fun w => kp_o hd hk (l3 w) (fun N f q => by cases q)⟩, l4, m1, hi, ?_⟩
  intro i h1
  obtain ⟨⟨hn, ha, ht, h5, hrest⟩, a2⟩ := hN i h1
  have s := fun x hx => hs x hx i h1
  refine ⟨⟨⟨hn.1, hn.2.1, kp_o hd hk hn.2.2 (fun N f q => by cases q)⟩, ⟨?_, ?_, ?_, kp_o hd hk ha.2.2.2 (fun N f q => by cases q)⟩, nT_kp hd hk ht (fun x hx => (s x hx).2.1), ?_, hrest⟩, a2⟩
  · rw [hk _ (fun x hx q => (s x hx).1.1 q.symm)]; exact ha.1
  · rw [hk _ (fun x hx q => (s x hx).1.2.1 q.symm)]; exact ha.2.1
  · rw [hk _ (fun x hx q => (s x hx).1.2.2 q.symm)]; exact ha.2.2.1
  · intro j hj
    obtain ⟨b1, b2, b3⟩ := h5 j hj
    exact ⟨b1, nT_kp hd hk b2 (fun x hx => (s x hx).2.2 j), b3⟩
theorem sTy_kp {p2 : Nat} (hd : dFl G h0 b p2 J B fa fb fcap fg) (hk : kp J fa h0 h1) (h : sTy G h0 b) : sTy G h1 b := by
  obtain ⟨f, f1, f2, f3⟩ := h
  exact ⟨f, f1, kp_o hd hk f2 (fun N f q => by cases q), f3⟩
theorem sTg_kp {p2 i : Nat} {K : Int → Prop} (hd : dFl G h0 b p2 J B fa fb fcap fg) (hk : kp J fa h0 h1) (h : sTg G h0 b i K) : sTg G h1 b i K := by
  obtain ⟨M, f, ⟨f1, f2⟩, f3⟩ := h
  exact ⟨M, f, ⟨f1, kp_o hd hk f2 (fun N f q => by cases q)⟩, f3⟩
theorem obA_oth {e : Int} {j : Nat} (hj : j ≠ 23) : ∀ (d : Nat) (x : Int) (B : Nat → Nat → Int), obA J e d x B j = B j
  | 0, _, _ => rfl
  | d + 1, x, B => by
    rw [obA]
    split
    · rfl
    · rw [obA_oth hj d]
      unfold obW
      split
      · rw [upA_at, if_neg hj]
      · rfl
theorem by_ext {B' : Nat → Nat → Int} (hB : ∀ j, j ≠ 23 → B' j = B j) : B' = upA B 23 (B' 23) := by
  funext j
  rw [upA_at]
  split
  · rename_i q; rw [q]
  · rename_i q; exact hB j q
theorem dNo_by {p3 : Nat} {B' : Nat → Nat → Int} (hB : ∀ j, j ≠ 23 → B' j = B j) (h : dNo G h0 b p3 J B fa W V X cap ng) : dNo G h0 b p3 J B' fa W V X cap ng := by
  rw [by_ext hB]
  exact h
theorem pfR_by {B' : Nat → Nat → Int} (hB : ∀ j, j ≠ 23 → B' j = B j) (h : pfR I A J B) : pfR I A J B' := by
  rw [by_ext hB]
  exact h
def orS (J : Nat → Int) (B : Nat → Nat → Int) (f e : Int) : Int := if o1F B f e < 0 then 27264 else if ¬ (oaF J B e 262 (o1F B f e) (-1)).1 = 0 then (oaF J B e 262 (o1F B f e) (-1)).1 else 36864
abbrev orB (J : Nat → Int) (B : Nat → Nat → Int) (f e : Int) : Nat → Nat → Int := obA J e 262 (o1F B f e) B
abbrev orZ (J : Nat → Int) (B : Nat → Nat → Int) (f e : Int) : Int := stN J (orB J B f e) 17 (oaF J B e 262 (o1F B f e) (-1)).2
theorem d146 (hb : G.2.2.2 ≤ b) (hf : dFl G h0 b (P 2) J B fa fb fcap fg) (hd : dNo G h0 b (P 3) J B fa W V X cap ng) (he : dSe J fa W) (hfc : (I 10) = J 29) (hn : (I 18) = J 31) (hM : iM J B) (hT : sTy G h0 b) (hg : sTg G h0 b 5 K2) (hp : pfR I A J B) (hm : 0 ≤ (I 21) ∧ (I 21) ≤ 254) (hq : rqR I A R b J B) (hL : iTl A) (hr : tR K2 (J 49) A J B) :
    (¬ atF J B 11 = 36864 ∧ ∀ (n k : Nat) (Q : mR → Prop), (mX G 146 0 [.ref (b + 34), .ref (b + 4), mU, mU, mU, mU] [] (wH h0 b I A P R o) n k Q ↔ Q (.inl (some (.int (iI (atF J B 11)))), wH h0 b I A P R o, n, k))) ∨
    (atF J B 11 = 36864 ∧ ¬ orS J B (B 45 11) (B 45 11 + B 46 11) = 36864 ∧ ∀ (n k : Nat) (Q : mR → Prop), (mX G 146 0 [.ref (b + 34), .ref (b + 4), mU, mU, mU, mU] [] (wH h0 b I A P R o) n k Q ↔ Q (.inl (some (.int (iI (orS J B (B 45 11) (B 45 11 + B 46 11))))), wH h0 b I A P R o, n, k))) ∨
    (atF J B 11 = 36864 ∧ orS J B (B 45 11) (B 45 11 + B 46 11) = 36864 ∧ ∃ (h1 : mH) (fb' : Nat → Nat → Int), dFl G h1 b (P 2) J (orB J B (B 45 11) (B 45 11 + B 46 11)) fa fb' fcap fg ∧ kp J fa h0 h1 ∧ ∀ (n k : Nat) (Q : mR → Prop), (mX G 146 0 [.ref (b + 34), .ref (b + 4), mU, mU, mU, mU] [] (wH h0 b I A P R o) n k Q ↔ Q (.inl (some (.int (iI 36864))), wH h1 b (stC I (orZ J B (B 45 11) (B 45 11 + B 46 11))) A P (stR R W (orZ J B (B 45 11) (B 45 11 + B 46 11))) o, n, k))) := by
  have k11 : K2 ((11 : Nat) : Int) := Or.inr (Or.inr rfl)
  have za : ∀ (n k : Nat) (Q' : mR → Prop), mX G 141 0 [.ref (b + 34), .ref (G.2.2.1 5), .int (iI 11)] [] (wH h0 b I A P R o) n k Q' ↔ Q' (.inl (some (.int (iI (atF J B 11)))), wH h0 b I A P R o, n, k) := fun n k Q' => d141 (x := 11) hg hL hr (by decide) k11
  have ar := atF_rng J B 11
  by_cases p : atF J B 11 = 36864
  · right
    rw [p] at za
    have t11 := atF_ok p
    have th := tg_has hr (t := 11) (by decide) k11 t11
    have q0 : rq0 I A J B := ⟨hq.1, hq.2.1, hq.2.2.1⟩
    have dn := hq.1.2
    have tp := hM.2.2.2.2.2.2
    obtain ⟨th1, th2, th3⟩ := th
    rw [th2, th3]
    generalize hs : (A 9) 11 = s at *
    generalize hl : (A 10) 11 = l at *
    have zs := fun n k Q' => d121 (G := G) (h0 := h0) (b := b) (n := n) (k := k) (Q := Q') (I := I) (A := A) (P := P) (R := R) (o := o) (x := 11) (by omega)
    have zl := fun n k Q' => d122 (G := G) (h0 := h0) (b := b) (n := n) (k := k) (Q := Q') (I := I) (A := A) (P := P) (R := R) (o := o) (x := 11) (by omega)
    rw [show (11 : Int).toNat = 11 from rfl, hs] at zs
    rw [show (11 : Int).toNat = 11 from rfl, hl] at zl
    have zo := fun n k Q' => d147 (G := G) (h0 := h0) (b := b) (n := n) (k := k) (Q := Q') (P := P) (R := R) (o := o) (s := s) (e := s + l) q0 tp (by omega) (by omega)
    rw [show 5 + s + l = 5 + (s + l) by omega]
    have orr := o1F_rng (A := B) (f := 5 + s) (e := 5 + (s + l)) tp (by omega)
    unfold orS orZ orB
    by_cases p2 : o1F B (5 + s) (5 + (s + l)) < 0
    · left
      simp only [p2, if_true] at zo ⊢
      refine ⟨p, by decide, ?_⟩
      intro n k Q
      simp (maxSteps := 1000000) (disch := first | omega | (simp only [updI_at, upA_at, Nat.reduceEqDiff, reduceIte]; omega) | exact mIsRef_rf _ | exact rfl) only [↓s146_0, ↓s146_1, ↓s146_4, ↓s146_6r, ↓s146_9, ↓s146_10, ↓s146_11, ↓s146_13, ↓s146_16, ↓s146_17, ↓s146_18, ↓s146_19, ↓s146_22, ↓s146_24, ↓s146_27, ↓s146_28, ↓s146_29, ↓s146_30, ↓s146_33, ↓s146_35, ↓s146_38, ↓s146_39, ↓s146_41, ↓s146_42, ↓s146_43, ↓s146_45r, ↓s146_48, ↓s146_50, ↓s146_52, ↓s146_53, ↓s146_56, ↓s146_59, ↓s146_60, ↓s146_61, ↓s146_62, ↓s146_64, ↓s146_66r, ↓s146_69, ↓s146_70, ↓s146_71, ↓s146_73, ↓s146_76, ↓s146_77, ↓s146_80, ↓s146_81, ↓s146_82, ↓s146_84, ↓s146_86r, ↓s146_89, ↓s146_92, ↓s146_93, iL_11, iL_27264, iL_36864, wc_28, wc_34, wc_35, wg_34_2, wg_34_4, mN1_int, mN1_ref, mN1_null, mN1_U, mN1_rf, mCats_nil, mCats_int, mCats_ref, mCats_null, mCats_long, mCats_rf, mIsRef_ref, mIsRef_null, mIsRef_va, mRf_ref, mRf_null, mRf_rf, true_and, and_true, true_or, or_true, eq_self_iff_true, mK_v, mK_0, Nat.reduceAdd, Nat.reduceLeDiff, Nat.zero_le, iL_0, iL_1, iL_m1, iI_add, iI_sub, iI_mul, iI_neg, updI_at, upA_at, upP_at, upR_at, Nat.reduceEqDiff, reduceIte, Int.reduceAdd, Int.reduceSub, Int.reduceMul, Int.reduceDiv, Int.reduceMod, Int.reduceLT, Int.reduceLE, Int.reduceEq, Int.reduceNeg, not_true_eq_false, not_false_eq_true, Decidable.not_not, za, zs, zl, zo, iI_eq]
    · simp only [p2, if_false] at zo ⊢
      generalize ho : o1F B (5 + s) (5 + (s + l)) = c at *
      have ec : c = 5 + (c - 5) := by omega
      have zq := fun n k Q' => d148 (G := G) (h0 := h0) (b := b) (n := n) (k := k) (Q := Q') (P := P) (R := R) (o := o) (x := c - 5) (e := s + l) (-1) hf hd hfc hn q0 hM (by omega) (by omega)
      rw [← ec] at zq
      have oar := oaF_rng (I := J) (A := B) (e := 5 + (s + l)) 262 c (-1) (Or.inl rfl)
      by_cases p3 : (oaF J B (5 + (s + l)) 262 c (-1)).1 = 0
      · right
        have d151' := d151 (R := R) (o := o) (x := c - 5) (e := s + l) hf hfc q0 hM (by omega) (by omega) (by rw [← ec]; exact p3)
        rw [← ec] at d151'
        obtain ⟨h1, fb', b1, b2, b3⟩ := d151'
        simp only [eq_true p3, if_true, not_true_eq_false, if_false] at zq ⊢
        refine ⟨p, trivial, h1, fb', b1, b2, ?_⟩
        intro n k Q
        have hB := fun j (hj : j ≠ 23) => obA_oth (J := J) (e := 5 + (s + l)) hj 262 c B
        have hM2 := iM_obA (I := J) (e := 5 + (s + l)) 262 c B hM
        have z106 := fun Q' => d106 (n := n) (k := k) (Q := Q') (h0 := h1) (R := R) (o := o) (x := (oaF J B (5 + (s + l)) 262 c (-1)).2) hb (dNo_by hB (dNo_kp hf b2 hd he)) hn hM2 (sTy_kp hf b2 hT) (pfR_by hB hp) hm oar.2
        generalize obA J (5 + (s + l)) 262 c B = B1 at *
        generalize (oaF J B (5 + (s + l)) 262 c (-1)).2 = x at *
        simp (maxSteps := 1000000) (disch := first | omega | (simp only [updI_at, upA_at, Nat.reduceEqDiff, reduceIte]; omega) | exact mIsRef_rf _ | exact rfl) only [↓s146_0, ↓s146_1, ↓s146_4, ↓s146_6r, ↓s146_9, ↓s146_10, ↓s146_11, ↓s146_13, ↓s146_16, ↓s146_17, ↓s146_18, ↓s146_19, ↓s146_22, ↓s146_24, ↓s146_27, ↓s146_28, ↓s146_29, ↓s146_30, ↓s146_33, ↓s146_35, ↓s146_38, ↓s146_39, ↓s146_41, ↓s146_42, ↓s146_43, ↓s146_45r, ↓s146_48, ↓s146_50, ↓s146_52, ↓s146_53, ↓s146_56, ↓s146_59, ↓s146_60, ↓s146_61, ↓s146_62, ↓s146_64, ↓s146_66r, ↓s146_69, ↓s146_70, ↓s146_71, ↓s146_73, ↓s146_76, ↓s146_77, ↓s146_80, ↓s146_81, ↓s146_82, ↓s146_84, ↓s146_86r, ↓s146_89, ↓s146_92, ↓s146_93, iL_11, iL_27264, iL_36864, wc_28, wc_34, wc_35, wg_34_2, wg_34_4, mN1_int, mN1_ref, mN1_null, mN1_U, mN1_rf, mCats_nil, mCats_int, mCats_ref, mCats_null, mCats_long, mCats_rf, mIsRef_ref, mIsRef_null, mIsRef_va, mRf_ref, mRf_null, mRf_rf, true_and, and_true, true_or, or_true, eq_self_iff_true, mK_v, mK_0, Nat.reduceAdd, Nat.reduceLeDiff, Nat.zero_le, iL_0, iL_1, iL_m1, iI_add, iI_sub, iI_mul, iI_neg, updI_at, upA_at, upP_at, upR_at, Nat.reduceEqDiff, reduceIte, Int.reduceAdd, Int.reduceSub, Int.reduceMul, Int.reduceDiv, Int.reduceMod, Int.reduceLT, Int.reduceLE, Int.reduceEq, Int.reduceNeg, not_true_eq_false, not_false_eq_true, Decidable.not_not, za, zs, zl, zo, zq, b3, z106, iI_eq, show ¬ c - 5 = -1 by omega]
      · left
        simp only [p3, if_false, not_false_eq_true, if_true] at zq ⊢
        have n3 : ¬ (oaF J B (5 + (s + l)) 262 c (-1)).1 = 36864 := by omega
        refine ⟨p, n3, ?_⟩
        intro n k Q
        generalize (oaF J B (5 + (s + l)) 262 c (-1)).1 = x at *
        simp (maxSteps := 1000000) (disch := first | omega | (simp only [updI_at, upA_at, Nat.reduceEqDiff, reduceIte]; omega) | exact mIsRef_rf _ | exact rfl) only [↓s146_0, ↓s146_1, ↓s146_4, ↓s146_6r, ↓s146_9, ↓s146_10, ↓s146_11, ↓s146_13, ↓s146_16, ↓s146_17, ↓s146_18, ↓s146_19, ↓s146_22, ↓s146_24, ↓s146_27, ↓s146_28, ↓s146_29, ↓s146_30, ↓s146_33, ↓s146_35, ↓s146_38, ↓s146_39, ↓s146_41, ↓s146_42, ↓s146_43, ↓s146_45r, ↓s146_48, ↓s146_50, ↓s146_52, ↓s146_53, ↓s146_56, ↓s146_59, ↓s146_60, ↓s146_61, ↓s146_62, ↓s146_64, ↓s146_66r, ↓s146_69, ↓s146_70, ↓s146_71, ↓s146_73, ↓s146_76, ↓s146_77, ↓s146_80, ↓s146_81, ↓s146_82, ↓s146_84, ↓s146_86r, ↓s146_89, ↓s146_92, ↓s146_93, iL_11, iL_27264, iL_36864, wc_28, wc_34, wc_35, wg_34_2, wg_34_4, mN1_int, mN1_ref, mN1_null, mN1_U, mN1_rf, mCats_nil, mCats_int, mCats_ref, mCats_null, mCats_long, mCats_rf, mIsRef_ref, mIsRef_null, mIsRef_va, mRf_ref, mRf_null, mRf_rf, true_and, and_true, true_or, or_true, eq_self_iff_true, mK_v, mK_0, Nat.reduceAdd, Nat.reduceLeDiff, Nat.zero_le, iL_0, iL_1, iL_m1, iI_add, iI_sub, iI_mul, iI_neg, updI_at, upA_at, upP_at, upR_at, Nat.reduceEqDiff, reduceIte, Int.reduceAdd, Int.reduceSub, Int.reduceMul, Int.reduceDiv, Int.reduceMod, Int.reduceLT, Int.reduceLE, Int.reduceEq, Int.reduceNeg, not_true_eq_false, not_false_eq_true, Decidable.not_not, za, zs, zl, zo, zq, iI_eq, show ¬ c - 5 = -1 by omega, n3]
  · left
    refine ⟨p, ?_⟩
    intro n k Q
    simp (maxSteps := 1000000) (disch := first | omega | (simp only [updI_at, upA_at, Nat.reduceEqDiff, reduceIte]; omega) | exact mIsRef_rf _ | exact rfl) only [↓s146_0, ↓s146_1, ↓s146_4, ↓s146_6r, ↓s146_9, ↓s146_10, ↓s146_11, ↓s146_13, ↓s146_16, ↓s146_17, ↓s146_18, ↓s146_19, ↓s146_22, ↓s146_24, ↓s146_27, ↓s146_28, ↓s146_29, ↓s146_30, ↓s146_33, ↓s146_35, ↓s146_38, ↓s146_39, ↓s146_41, ↓s146_42, ↓s146_43, ↓s146_45r, ↓s146_48, ↓s146_50, ↓s146_52, ↓s146_53, ↓s146_56, ↓s146_59, ↓s146_60, ↓s146_61, ↓s146_62, ↓s146_64, ↓s146_66r, ↓s146_69, ↓s146_70, ↓s146_71, ↓s146_73, ↓s146_76, ↓s146_77, ↓s146_80, ↓s146_81, ↓s146_82, ↓s146_84, ↓s146_86r, ↓s146_89, ↓s146_92, ↓s146_93, iL_11, iL_27264, iL_36864, wc_28, wc_34, wc_35, wg_34_2, wg_34_4, mN1_int, mN1_ref, mN1_null, mN1_U, mN1_rf, mCats_nil, mCats_int, mCats_ref, mCats_null, mCats_long, mCats_rf, mIsRef_ref, mIsRef_null, mIsRef_va, mRf_ref, mRf_null, mRf_rf, true_and, and_true, true_or, or_true, eq_self_iff_true, mK_v, mK_0, Nat.reduceAdd, Nat.reduceLeDiff, Nat.zero_le, iL_0, iL_1, iL_m1, iI_add, iI_sub, iI_mul, iI_neg, updI_at, upA_at, upP_at, upR_at, Nat.reduceEqDiff, reduceIte, Int.reduceAdd, Int.reduceSub, Int.reduceMul, Int.reduceDiv, Int.reduceMod, Int.reduceLT, Int.reduceLE, Int.reduceEq, Int.reduceNeg, not_true_eq_false, not_false_eq_true, Decidable.not_not, za, iI_eq, p]
abbrev enB (J : Nat → Int) (B : Nat → Nat → Int) : Prop := ¬ kn (B 14 5) ∨ rlen (J 49) (tpG B) 1 = -1 ∨ ¬ e1S J B + rlen (J 49) (tpG B) 1 = J 49
theorem d140 (hb : G.2.2.2 ≤ b) (hq : rq0 I A J B) (hL : iTl A) (hM : iM J B) (hd : ¬ J 49 = 0) : mX G 140 0 [.ref (b + 34), .ref (b + 4), mU, mU, mU] [] (wH h0 b I A P R o) n k Q ↔
    if enB J B then Q (.inl (some (.int (iI 0))), wH h0 b I A P R o, n, k) else Q (.inl (some (.int (iI (bI (¬ (clF (I 7) (A 1) 255 (e1S J B) (t0A A 128)).1 = -1))))), wH h0 b I (rdA I A (e1S J B)) P (upR R 3 (some (b + 4))) o, n, k) := by
  have dn := hq.1
  have hl : 0 ≤ (I 7) ∧ (I 7) ≤ 255 := by omega
  have tp := hM.2.2.2.2.2.2
  have g0 : rget (I 7) (A 1) 0 = B 14 5 := rq_get hq (by omega) (by omega)
  have z0 := fun Q' => d80_4 (G := G) (h0 := h0) (b := b) (n := n) (k := k) (Q := Q') (I := I) (A := A) (P := P) (R := R) (o := o) (z := 0) hl (by omega)
  rw [g0] at z0
  have t5 := tp 5
  have er : rlen (I 7) (A 1) = rlen (J 49) (tpG B) := by
    rw [dn.1]
    exact rlen_eq (rget_eq hq.2.1)
  have z1 := fun Q' => d82_4 (G := G) (h0 := h0) (b := b) (n := n) (k := k) (Q := Q') (I := I) (A := A) (P := P) (R := R) (o := o) (z := 1) hq.2.2 hl (by omega)
  rw [er] at z1
  have rr := rlen_rng (len := J 49) (g := tpG B) (fun j => tp (5 + j)) 1
  have ee : 1 + (if rlen (J 49) (tpG B) 1 < 128 then (1 : Int) else 2) = e1S J B := rfl
  have es : 2 ≤ e1S J B ∧ e1S J B ≤ 3 := by unfold e1S; split <;> omega
  have z7 := fun Q' => c177 (G := G) (h := wH h0 b I A P R o) (n := n) (k := k) (Q := Q') (x := rlen (J 49) (tpG B) 1) (by omega)
  by_cases p : kn (B 14 5)
  · have st : mX G 140 0 [.ref (b + 34), .ref (b + 4), mU, mU, mU] [] (wH h0 b I A P R o) n k Q ↔ mX G 140 50 [.ref (b + 34), .ref (b + 4), .int (iI (B 14 5)), .int (iI (rlen (J 49) (tpG B) 1)), .int (iI (e1S J B))] [] (wH h0 b I A P R o) n k Q := by
      rw [← ee]
      generalize (if rlen (J 49) (tpG B) 1 < 128 then (1 : Int) else 2) = u at *
      rcases p with p | p | p | p
      · simp (maxSteps := 1000000) (disch := first | omega | (simp only [updI_at, upA_at, Nat.reduceEqDiff, reduceIte]; omega) | exact mIsRef_rf _ | exact rfl) only [↓s140_0, ↓s140_1, ↓s140_2, ↓s140_5, ↓s140_6, ↓s140_7, ↓s140_10, ↓s140_13, ↓s140_14, ↓s140_17, ↓s140_20, ↓s140_21, ↓s140_24, ↓s140_27, ↓s140_28, ↓s140_31, ↓s140_34, ↓s140_35, ↓s140_36, ↓s140_37, ↓s140_38, ↓s140_41, ↓s140_42, ↓s140_43, ↓s140_44, ↓s140_47, ↓s140_48, ↓s140_51, ↓s140_52, ↓s140_55, ↓s140_57, ↓s140_58, ↓s140_59, ↓s140_60, ↓s140_63, ↓s140_66, ↓s140_67, ↓s140_70, ↓s140_71, ↓s140_73r, ↓s140_76, ↓s140_79, ↓s140_80, ↓s140_83, ↓s140_84, iL_209, iL_211, iL_214, iL_215, wc_1, wc_12, wc_14, wc_29, wc_31, wc_35, wc_39, wc_4, wc_41, wg_34_4, mN1_int, mN1_ref, mN1_null, mN1_U, mN1_rf, mCats_nil, mCats_int, mCats_ref, mCats_null, mCats_long, mCats_rf, mIsRef_ref, mIsRef_null, mIsRef_va, mRf_ref, mRf_null, mRf_rf, true_and, and_true, true_or, or_true, eq_self_iff_true, mK_v, mK_0, Nat.reduceAdd, Nat.reduceLeDiff, Nat.zero_le, iL_0, iL_1, iL_m1, iI_add, iI_sub, iI_mul, iI_neg, updI_at, upA_at, upP_at, upR_at, Nat.reduceEqDiff, reduceIte, Int.reduceAdd, Int.reduceSub, Int.reduceMul, Int.reduceDiv, Int.reduceMod, Int.reduceLT, Int.reduceLE, Int.reduceEq, Int.reduceNeg, not_true_eq_false, not_false_eq_true, Decidable.not_not, z0, z1, z7, iI_eq, p]
      · simp (maxSteps := 1000000) (disch := first | omega | (simp only [updI_at, upA_at, Nat.reduceEqDiff, reduceIte]; omega) | exact mIsRef_rf _ | exact rfl) only [↓s140_0, ↓s140_1, ↓s140_2, ↓s140_5, ↓s140_6, ↓s140_7, ↓s140_10, ↓s140_13, ↓s140_14, ↓s140_17, ↓s140_20, ↓s140_21, ↓s140_24, ↓s140_27, ↓s140_28, ↓s140_31, ↓s140_34, ↓s140_35, ↓s140_36, ↓s140_37, ↓s140_38, ↓s140_41, ↓s140_42, ↓s140_43, ↓s140_44, ↓s140_47, ↓s140_48, ↓s140_51, ↓s140_52, ↓s140_55, ↓s140_57, ↓s140_58, ↓s140_59, ↓s140_60, ↓s140_63, ↓s140_66, ↓s140_67, ↓s140_70, ↓s140_71, ↓s140_73r, ↓s140_76, ↓s140_79, ↓s140_80, ↓s140_83, ↓s140_84, iL_209, iL_211, iL_214, iL_215, wc_1, wc_12, wc_14, wc_29, wc_31, wc_35, wc_39, wc_4, wc_41, wg_34_4, mN1_int, mN1_ref, mN1_null, mN1_U, mN1_rf, mCats_nil, mCats_int, mCats_ref, mCats_null, mCats_long, mCats_rf, mIsRef_ref, mIsRef_null, mIsRef_va, mRf_ref, mRf_null, mRf_rf, true_and, and_true, true_or, or_true, eq_self_iff_true, mK_v, mK_0, Nat.reduceAdd, Nat.reduceLeDiff, Nat.zero_le, iL_0, iL_1, iL_m1, iI_add, iI_sub, iI_mul, iI_neg, updI_at, upA_at, upP_at, upR_at, Nat.reduceEqDiff, reduceIte, Int.reduceAdd, Int.reduceSub, Int.reduceMul, Int.reduceDiv, Int.reduceMod, Int.reduceLT, Int.reduceLE, Int.reduceEq, Int.reduceNeg, not_true_eq_false, not_false_eq_true, Decidable.not_not, z0, z1, z7, iI_eq, p]
      · simp (maxSteps := 1000000) (disch := first | omega | (simp only [updI_at, upA_at, Nat.reduceEqDiff, reduceIte]; omega) | exact mIsRef_rf _ | exact rfl) only [↓s140_0, ↓s140_1, ↓s140_2, ↓s140_5, ↓s140_6, ↓s140_7, ↓s140_10, ↓s140_13, ↓s140_14, ↓s140_17, ↓s140_20, ↓s140_21, ↓s140_24, ↓s140_27, ↓s140_28, ↓s140_31, ↓s140_34, ↓s140_35, ↓s140_36, ↓s140_37, ↓s140_38, ↓s140_41, ↓s140_42, ↓s140_43, ↓s140_44, ↓s140_47, ↓s140_48, ↓s140_51, ↓s140_52, ↓s140_55, ↓s140_57, ↓s140_58, ↓s140_59, ↓s140_60, ↓s140_63, ↓s140_66, ↓s140_67, ↓s140_70, ↓s140_71, ↓s140_73r, ↓s140_76, ↓s140_79, ↓s140_80, ↓s140_83, ↓s140_84, iL_209, iL_211, iL_214, iL_215, wc_1, wc_12, wc_14, wc_29, wc_31, wc_35, wc_39, wc_4, wc_41, wg_34_4, mN1_int, mN1_ref, mN1_null, mN1_U, mN1_rf, mCats_nil, mCats_int, mCats_ref, mCats_null, mCats_long, mCats_rf, mIsRef_ref, mIsRef_null, mIsRef_va, mRf_ref, mRf_null, mRf_rf, true_and, and_true, true_or, or_true, eq_self_iff_true, mK_v, mK_0, Nat.reduceAdd, Nat.reduceLeDiff, Nat.zero_le, iL_0, iL_1, iL_m1, iI_add, iI_sub, iI_mul, iI_neg, updI_at, upA_at, upP_at, upR_at, Nat.reduceEqDiff, reduceIte, Int.reduceAdd, Int.reduceSub, Int.reduceMul, Int.reduceDiv, Int.reduceMod, Int.reduceLT, Int.reduceLE, Int.reduceEq, Int.reduceNeg, not_true_eq_false, not_false_eq_true, Decidable.not_not, z0, z1, z7, iI_eq, p]
      · simp (maxSteps := 1000000) (disch := first | omega | (simp only [updI_at, upA_at, Nat.reduceEqDiff, reduceIte]; omega) | exact mIsRef_rf _ | exact rfl) only [↓s140_0, ↓s140_1, ↓s140_2, ↓s140_5, ↓s140_6, ↓s140_7, ↓s140_10, ↓s140_13, ↓s140_14, ↓s140_17, ↓s140_20, ↓s140_21, ↓s140_24, ↓s140_27, ↓s140_28, ↓s140_31, ↓s140_34, ↓s140_35, ↓s140_36, ↓s140_37, ↓s140_38, ↓s140_41, ↓s140_42, ↓s140_43, ↓s140_44, ↓s140_47, ↓s140_48, ↓s140_51, ↓s140_52, ↓s140_55, ↓s140_57, ↓s140_58, ↓s140_59, ↓s140_60, ↓s140_63, ↓s140_66, ↓s140_67, ↓s140_70, ↓s140_71, ↓s140_73r, ↓s140_76, ↓s140_79, ↓s140_80, ↓s140_83, ↓s140_84, iL_209, iL_211, iL_214, iL_215, wc_1, wc_12, wc_14, wc_29, wc_31, wc_35, wc_39, wc_4, wc_41, wg_34_4, mN1_int, mN1_ref, mN1_null, mN1_U, mN1_rf, mCats_nil, mCats_int, mCats_ref, mCats_null, mCats_long, mCats_rf, mIsRef_ref, mIsRef_null, mIsRef_va, mRf_ref, mRf_null, mRf_rf, true_and, and_true, true_or, or_true, eq_self_iff_true, mK_v, mK_0, Nat.reduceAdd, Nat.reduceLeDiff, Nat.zero_le, iL_0, iL_1, iL_m1, iI_add, iI_sub, iI_mul, iI_neg, updI_at, upA_at, upP_at, upR_at, Nat.reduceEqDiff, reduceIte, Int.reduceAdd, Int.reduceSub, Int.reduceMul, Int.reduceDiv, Int.reduceMod, Int.reduceLT, Int.reduceLE, Int.reduceEq, Int.reduceNeg, not_true_eq_false, not_false_eq_true, Decidable.not_not, z0, z1, z7, iI_eq, p]
    rw [st]
    by_cases p2 : rlen (J 49) (tpG B) 1 = -1
    · rw [if_pos (Or.inr (Or.inl p2))]
      simp (maxSteps := 1000000) (disch := first | omega | (simp only [updI_at, upA_at, Nat.reduceEqDiff, reduceIte]; omega) | exact mIsRef_rf _ | exact rfl) only [↓s140_0, ↓s140_1, ↓s140_2, ↓s140_5, ↓s140_6, ↓s140_7, ↓s140_10, ↓s140_13, ↓s140_14, ↓s140_17, ↓s140_20, ↓s140_21, ↓s140_24, ↓s140_27, ↓s140_28, ↓s140_31, ↓s140_34, ↓s140_35, ↓s140_36, ↓s140_37, ↓s140_38, ↓s140_41, ↓s140_42, ↓s140_43, ↓s140_44, ↓s140_47, ↓s140_48, ↓s140_50, ↓s140_51, ↓s140_52, ↓s140_55, ↓s140_57, ↓s140_58, ↓s140_59, ↓s140_60, ↓s140_63, ↓s140_66, ↓s140_67, ↓s140_70, ↓s140_71, ↓s140_73r, ↓s140_76, ↓s140_79, ↓s140_80, ↓s140_83, ↓s140_84, iL_209, iL_211, iL_214, iL_215, wc_1, wc_12, wc_14, wc_29, wc_31, wc_35, wc_39, wc_4, wc_41, wg_34_4, mN1_int, mN1_ref, mN1_null, mN1_U, mN1_rf, mCats_nil, mCats_int, mCats_ref, mCats_null, mCats_long, mCats_rf, mIsRef_ref, mIsRef_null, mIsRef_va, mRf_ref, mRf_null, mRf_rf, true_and, and_true, true_or, or_true, eq_self_iff_true, mK_v, mK_0, Nat.reduceAdd, Nat.reduceLeDiff, Nat.zero_le, iL_0, iL_1, iL_m1, iI_add, iI_sub, iI_mul, iI_neg, updI_at, upA_at, upP_at, upR_at, Nat.reduceEqDiff, reduceIte, Int.reduceAdd, Int.reduceSub, Int.reduceMul, Int.reduceDiv, Int.reduceMod, Int.reduceLT, Int.reduceLE, Int.reduceEq, Int.reduceNeg, not_true_eq_false, not_false_eq_true, Decidable.not_not, iI_eq, p2]
    · by_cases p3 : e1S J B + rlen (J 49) (tpG B) 1 = J 49
      · rw [if_neg (fun t => t.elim (fun t => t p) (fun t => t.elim p2 (fun t => t p3)))]
        have z119 := fun Q' => d119 (n := n) (k := k) (Q := Q') (h0 := h0) (I := I) (A := A) (P := P) (R := R) (o := o) (f := e1S J B) hb hl hq.2.2 hL (by omega)
        have ea : (clF (I 7) (A 1) 255 (e1S J B) (t0A A 128)).2 = rdA I A (e1S J B) := rfl
        rw [ea] at z119
        generalize rdA I A (e1S J B) = A1 at *
        have p3' : e1S J B + rlen (J 49) (tpG B) 1 = (I 7) := by rw [p3, dn.1]
        by_cases w : (clF (I 7) (A 1) 255 (e1S J B) (t0A A 128)).1 = -1
        · rw [bI_f (fun t => t w)]
          simp only [bI_f (show ¬ ¬ (clF (I 7) (A 1) 255 (e1S J B) (t0A A 128)).1 = -1 from fun t => t w)] at z119
          simp (maxSteps := 1000000) (disch := first | omega | (simp only [updI_at, upA_at, Nat.reduceEqDiff, reduceIte]; omega) | exact mIsRef_rf _ | exact rfl) only [↓s140_0, ↓s140_1, ↓s140_2, ↓s140_5, ↓s140_6, ↓s140_7, ↓s140_10, ↓s140_13, ↓s140_14, ↓s140_17, ↓s140_20, ↓s140_21, ↓s140_24, ↓s140_27, ↓s140_28, ↓s140_31, ↓s140_34, ↓s140_35, ↓s140_36, ↓s140_37, ↓s140_38, ↓s140_41, ↓s140_42, ↓s140_43, ↓s140_44, ↓s140_47, ↓s140_48, ↓s140_50, ↓s140_51, ↓s140_52, ↓s140_55, ↓s140_57, ↓s140_58, ↓s140_59, ↓s140_60, ↓s140_63, ↓s140_66, ↓s140_67, ↓s140_70, ↓s140_71, ↓s140_73r, ↓s140_76, ↓s140_79, ↓s140_80, ↓s140_83, ↓s140_84, iL_209, iL_211, iL_214, iL_215, wc_1, wc_12, wc_14, wc_29, wc_31, wc_35, wc_39, wc_4, wc_41, wg_34_4, mN1_int, mN1_ref, mN1_null, mN1_U, mN1_rf, mCats_nil, mCats_int, mCats_ref, mCats_null, mCats_long, mCats_rf, mIsRef_ref, mIsRef_null, mIsRef_va, mRf_ref, mRf_null, mRf_rf, true_and, and_true, true_or, or_true, eq_self_iff_true, mK_v, mK_0, Nat.reduceAdd, Nat.reduceLeDiff, Nat.zero_le, iL_0, iL_1, iL_m1, iI_add, iI_sub, iI_mul, iI_neg, updI_at, upA_at, upP_at, upR_at, Nat.reduceEqDiff, reduceIte, Int.reduceAdd, Int.reduceSub, Int.reduceMul, Int.reduceDiv, Int.reduceMod, Int.reduceLT, Int.reduceLE, Int.reduceEq, Int.reduceNeg, not_true_eq_false, not_false_eq_true, Decidable.not_not, iI_eq, p2, d79_4, eq_true p3', z119]
        · rw [bI_t w]
          simp only [bI_t w] at z119
          simp (maxSteps := 1000000) (disch := first | omega | (simp only [updI_at, upA_at, Nat.reduceEqDiff, reduceIte]; omega) | exact mIsRef_rf _ | exact rfl) only [↓s140_0, ↓s140_1, ↓s140_2, ↓s140_5, ↓s140_6, ↓s140_7, ↓s140_10, ↓s140_13, ↓s140_14, ↓s140_17, ↓s140_20, ↓s140_21, ↓s140_24, ↓s140_27, ↓s140_28, ↓s140_31, ↓s140_34, ↓s140_35, ↓s140_36, ↓s140_37, ↓s140_38, ↓s140_41, ↓s140_42, ↓s140_43, ↓s140_44, ↓s140_47, ↓s140_48, ↓s140_50, ↓s140_51, ↓s140_52, ↓s140_55, ↓s140_57, ↓s140_58, ↓s140_59, ↓s140_60, ↓s140_63, ↓s140_66, ↓s140_67, ↓s140_70, ↓s140_71, ↓s140_73r, ↓s140_76, ↓s140_79, ↓s140_80, ↓s140_83, ↓s140_84, iL_209, iL_211, iL_214, iL_215, wc_1, wc_12, wc_14, wc_29, wc_31, wc_35, wc_39, wc_4, wc_41, wg_34_4, mN1_int, mN1_ref, mN1_null, mN1_U, mN1_rf, mCats_nil, mCats_int, mCats_ref, mCats_null, mCats_long, mCats_rf, mIsRef_ref, mIsRef_null, mIsRef_va, mRf_ref, mRf_null, mRf_rf, true_and, and_true, true_or, or_true, eq_self_iff_true, mK_v, mK_0, Nat.reduceAdd, Nat.reduceLeDiff, Nat.zero_le, iL_0, iL_1, iL_m1, iI_add, iI_sub, iI_mul, iI_neg, updI_at, upA_at, upP_at, upR_at, Nat.reduceEqDiff, reduceIte, Int.reduceAdd, Int.reduceSub, Int.reduceMul, Int.reduceDiv, Int.reduceMod, Int.reduceLT, Int.reduceLE, Int.reduceEq, Int.reduceNeg, not_true_eq_false, not_false_eq_true, Decidable.not_not, iI_eq, p2, d79_4, eq_true p3', z119]
      · rw [if_pos (Or.inr (Or.inr p3))]
        have p3' : ¬ e1S J B + rlen (J 49) (tpG B) 1 = (I 7) := by rw [dn.1]; exact p3
        simp (maxSteps := 1000000) (disch := first | omega | (simp only [updI_at, upA_at, Nat.reduceEqDiff, reduceIte]; omega) | exact mIsRef_rf _ | exact rfl) only [↓s140_0, ↓s140_1, ↓s140_2, ↓s140_5, ↓s140_6, ↓s140_7, ↓s140_10, ↓s140_13, ↓s140_14, ↓s140_17, ↓s140_20, ↓s140_21, ↓s140_24, ↓s140_27, ↓s140_28, ↓s140_31, ↓s140_34, ↓s140_35, ↓s140_36, ↓s140_37, ↓s140_38, ↓s140_41, ↓s140_42, ↓s140_43, ↓s140_44, ↓s140_47, ↓s140_48, ↓s140_50, ↓s140_51, ↓s140_52, ↓s140_55, ↓s140_57, ↓s140_58, ↓s140_59, ↓s140_60, ↓s140_63, ↓s140_66, ↓s140_67, ↓s140_70, ↓s140_71, ↓s140_73r, ↓s140_76, ↓s140_79, ↓s140_80, ↓s140_83, ↓s140_84, iL_209, iL_211, iL_214, iL_215, wc_1, wc_12, wc_14, wc_29, wc_31, wc_35, wc_39, wc_4, wc_41, wg_34_4, mN1_int, mN1_ref, mN1_null, mN1_U, mN1_rf, mCats_nil, mCats_int, mCats_ref, mCats_null, mCats_long, mCats_rf, mIsRef_ref, mIsRef_null, mIsRef_va, mRf_ref, mRf_null, mRf_rf, true_and, and_true, true_or, or_true, eq_self_iff_true, mK_v, mK_0, Nat.reduceAdd, Nat.reduceLeDiff, Nat.zero_le, iL_0, iL_1, iL_m1, iI_add, iI_sub, iI_mul, iI_neg, updI_at, upA_at, upP_at, upR_at, Nat.reduceEqDiff, reduceIte, Int.reduceAdd, Int.reduceSub, Int.reduceMul, Int.reduceDiv, Int.reduceMod, Int.reduceLT, Int.reduceLE, Int.reduceEq, Int.reduceNeg, not_true_eq_false, not_false_eq_true, Decidable.not_not, iI_eq, p2, d79_4, p3']
  · rw [if_pos (Or.inl p)]
    have q1 : ¬ B 14 5 = 209 := fun t => p (Or.inl t)
    have q2 : ¬ B 14 5 = 211 := fun t => p (Or.inr (Or.inl t))
    have q3 : ¬ B 14 5 = 214 := fun t => p (Or.inr (Or.inr (Or.inl t)))
    have q4 : ¬ B 14 5 = 215 := fun t => p (Or.inr (Or.inr (Or.inr t)))
    simp (maxSteps := 1000000) (disch := first | omega | (simp only [updI_at, upA_at, Nat.reduceEqDiff, reduceIte]; omega) | exact mIsRef_rf _ | exact rfl) only [↓s140_0, ↓s140_1, ↓s140_2, ↓s140_5, ↓s140_6, ↓s140_7, ↓s140_10, ↓s140_13, ↓s140_14, ↓s140_17, ↓s140_20, ↓s140_21, ↓s140_24, ↓s140_27, ↓s140_28, ↓s140_31, ↓s140_34, ↓s140_35, ↓s140_36, ↓s140_37, ↓s140_38, ↓s140_41, ↓s140_42, ↓s140_43, ↓s140_44, ↓s140_47, ↓s140_48, ↓s140_50, ↓s140_51, ↓s140_52, ↓s140_55, ↓s140_57, ↓s140_58, ↓s140_59, ↓s140_60, ↓s140_63, ↓s140_66, ↓s140_67, ↓s140_70, ↓s140_71, ↓s140_73r, ↓s140_76, ↓s140_79, ↓s140_80, ↓s140_83, ↓s140_84, iL_209, iL_211, iL_214, iL_215, wc_1, wc_12, wc_14, wc_29, wc_31, wc_35, wc_39, wc_4, wc_41, wg_34_4, mN1_int, mN1_ref, mN1_null, mN1_U, mN1_rf, mCats_nil, mCats_int, mCats_ref, mCats_null, mCats_long, mCats_rf, mIsRef_ref, mIsRef_null, mIsRef_va, mRf_ref, mRf_null, mRf_rf, true_and, and_true, true_or, or_true, eq_self_iff_true, mK_v, mK_0, Nat.reduceAdd, Nat.reduceLeDiff, Nat.zero_le, iL_0, iL_1, iL_m1, iI_add, iI_sub, iI_mul, iI_neg, updI_at, upA_at, upP_at, upR_at, Nat.reduceEqDiff, reduceIte, Int.reduceAdd, Int.reduceSub, Int.reduceMul, Int.reduceDiv, Int.reduceMod, Int.reduceLT, Int.reduceLE, Int.reduceEq, Int.reduceNeg, not_true_eq_false, not_false_eq_true, Decidable.not_not, z0, iI_eq, q1, q2, q3, q4]
end
end MENV3
