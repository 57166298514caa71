/-! The call: file. -/
section MFILE2
variable {G : mG} {h h0 : mH} {n k b : Nat} {Q : mR → Prop} {I : Nat → Int} {A : Nat → Nat → Int} {P : Nat → Nat} {R : Nat → Option Nat} {o : Nat → Int64}
def flB (I : Nat → Int) (A : Nat → Nat → Int) (a c d s y : Int) : Nat → Nat → Int := upA (upA (upA (upA (upA (upA (upA A 16 (upE (A 16) ((I 29)).toNat a)) 17 (upE (A 17) ((I 29)).toNat c)) 15 (upE (A 15) ((I 29)).toNat d)) 18 (upE (A 18) ((I 29)).toNat s)) 19 (upE (A 19) ((I 29)).toNat y)) 22 (upE (A 22) ((I 29)).toNat (I 30))) 23 (cpE (A 23) ff (I 30) (s * y))
def flJ (I : Nat → Int) (s y : Int) : Nat → Int := updI (updI (updI I 27 0) 29 ((I 29) + 1)) 30 ((I 30) + s * y)
def flT (ow : Nat → Nat) (n K : Nat) : Nat → Nat := fun z => if z < n then ow z else if z = n then 10000 + 10 * K else if z = n + 1 then 10001 + 10 * K else 20000
def faN (fa : Nat → Nat) (K n : Nat) : Nat → Nat := fun i => if i = K then n else fa i
theorem faN_ne {fa : Nat → Nat} {K i : Nat} (h : ¬ i = K) : faN fa K n i = fa i := if_neg h
theorem faN_eq {fa : Nat → Nat} {K : Nat} : faN fa K n K = n := if_pos rfl
theorem flT_t (ow : Nat → Nat) (n K : Nat) : flT ow n K n = 10000 + 10 * K ∧ flT ow n K (n + 1) = 10001 + 10 * K := by
  unfold flT
  exact ⟨by rw [if_neg (by omega), if_pos rfl], by rw [if_neg (by omega), if_neg (by omega), if_pos rfl]⟩
section
variable {J : Nat → Int} {B : Nat → Nat → Int} {fa fa' : Nat → Nat} {fb : Nat → Nat → Int} {fcap : Nat} {fg : Nat → Option Nat} {W : Nat → Nat → Nat → Nat} {V : Nat → Nat → Nat → Nat → Int} {X : Nat → Nat → Option Nat} {cap : Nat} {ng : Nat → Option Nat} {h1 : mH}
theorem dN1_fa {i : Nat} (e : nfl fa' B i = nfl fa B i) (hd : dN1 G h0 b J B fa W V X i) : dN1 G h0 b J B fa' W V X i := by
  unfold dN1 at hd ⊢
  rw [e]
  exact hd
theorem op_thr0 {Mc : Nat → Nat → (mR → Prop) → Prop} {Mm : mH → Nat → Nat → (mR → Prop) → Prop} {v : Int} (hM : iM I A) (hr : rst G h0 b I A P R I A fa fb fcap fg W V X cap ng) (hf : fre P b n W) (hri : ri I A) (hv : 1 ≤ v ∧ v ≤ 3) (zc : ∀ k Q, Mc n k Q ↔ Q (.inl (some (.int (iI v))), wH h0 b I A P R o, n + 1, k + 6))
    (zm : ∀ (X1 : Nat → Int) (Y : Nat → Nat → Int), iM (gl X1 I) (gm Y A) → ∀ k Q, Mm (wH h0 b (gl X1 I) (gm Y A) P R o) (n + 1) k Q ↔ Q (.inl (some (.int (iI 0))), wH h0 b (gl X1 (updI (updI I 27 0) 27 v)) (gm Y A) P R o, n + 1, k)) : opX G b n 16 9000 Mc Mm :=
  op_thr (o := o) (J := updI (updI I 27 0) 27 v) (B := A) hM hM hr kpM_refl hf hri (by omega) hv rfl zc zm
theorem op_file {a c d s y : Int} (hb : G.2.2.2 ≤ b) (hM : iM I A) (hr : rst G h0 b I A P R I A fa fb fcap fg W V X cap ng) (hf : fre P b n W) (hri : ri I A) (ha : -2147483648 ≤ a ∧ a < 2147483648) (hc : -2147483648 ≤ c ∧ c < 2147483648) (hd : -2147483648 ≤ d ∧ d < 2147483648) (hs : -2147483648 ≤ s ∧ s < 2147483648) (hy : -2147483648 ≤ y ∧ y < 2147483648) :
    opX G b n 16 9000 (fun n k Q => mX G 281 0 [.ref b, .int (iI a), .int (iI c), .int (iI d), .int (iI s), .int (iI y), .ref (b + 78), mU] [] (wH h0 b I A P R o) n k Q) (fun h n k Q => mX G 189 0 [.ref (b + 43), .int (iI a), .int (iI c), .int (iI d), .int (iI s), .int (iI y), mU, mU, mU] [] h n k Q) := by
  have dS := shpD c s y
  have hF := hM.2.1
  have f1 := hF.1
  have f2 := hF.2.1
  have cc := fun h1 P1 o n X1 Y k Q (hA : RgA (gm Y A)) => c189' (G := G) (h0 := h1) (n := n) (k := k) (Q := Q) (I := gl X1 I) (A := gm Y A) (P := P1) (R := R) (o := o) (a := a) (c := c) (d := d) (s := s) (y := y) hb hA ha hc hd hs hy f1 f2
  simp (disch := decide) only [gl_at, gm_at, gl_up, gm_up] at cc
  have hn79 := hf.1
  have hP4 : P 4 = n := hf.2.1
  have e10 : (I 10) = (I 29) := hr.1.2.1
  have e8 : (I 8) = (I 30) := hr.1.2.2
  have z36 := fun k Q => d36 (n := n) (k := k) (Q := Q) (I := I) (A := A) (R := R) (o := o) (z := a) hr.1.1 hr.1.2.1 f1 ha
  by_cases p1 : 0 ≤ a ∧ a ≤ (I 29) - 1
  · obtain ⟨x, hx⟩ : ∃ x : Nat, a = x := ⟨a.toNat, by omega⟩
    have ex : a.toNat = x := by omega
    have p1' : 0 ≤ a ∧ a < (I 29) := by omega
    have hxf : (x : Int) < (I 29) := by omega
    simp only [eq_true p1', if_true, ex] at z36
    simp only [ex] at cc
    obtain ⟨i1, i2, i3, i4, i5⟩ := hr.1.1.2.2.1 x hxf
    have e2 : fF A x 2 = (A 17) x := rfl
    have kr := (hF.2.2.1 x hxf).1
    have z38 := fun k Q => d38 (n := n) (k := k) (Q := Q) (I := I) (A := A) (R := R) (o := o) (x := x) (y := d) hr.1.1 hr.1.2.1 hF hxf hd
    have efi : fIn I A x d = seek (fun j => (A 16) j.toNat = a ∧ (A 15) j.toNat = d) ((I 29) - 1).toNat 1 := by rw [hx]; rfl
    rw [efi] at z38
    generalize seek (fun j => (A 16) j.toNat = a ∧ (A 15) j.toNat = d) ((I 29) - 1).toNat 1 = sk at *
    by_cases p2 : (A 17) x = 0 ∧ ((0 ≤ d ∧ d ≤ 65535) ∧ ¬ d = 16128 ∧ ¬ d = (A 15) x ∧ sk < 0)
    · simp only [bI_t p2.2] at z38
      have st : ∀ k Q, mX G 156 0 [.ref b, .int (iI a), .int (iI c), .int (iI d), .int (iI s), .int (iI y), mU] [] (wH h0 b I A P R o) n k Q ↔ mX G 156 56 [.ref b, .int (iI a), .int (iI c), .int (iI d), .int (iI s), .int (iI y), .ref (fa x)] [] (wH h0 b I A P R o) n k Q := by
        intro k Q
        simp (maxSteps := 1000000) (disch := first | omega | (simp only [updI_at, upA_at, Nat.reduceEqDiff, reduceIte]; omega) | exact mIsRef_rf _ | exact rfl) only [↓s156_0, ↓s156_1, ↓s156_4, ↓s156_5, ↓s156_8, ↓s156_10, ↓s156_12, ↓s156_15, ↓s156_18, ↓s156_25, ↓s156_27, ↓s156_30, ↓s156_33, ↓s156_34, ↓s156_37, ↓s156_39, ↓s156_40r, ↓s156_43, ↓s156_46, ↓s156_49, ↓s156_57, ↓s156_59, ↓s156_61, ↓s156_64, ↓s156_67, ↓s156_70, ↓s156_77, ↓s156_78, ↓s156_81, ↓s156_83, ↓s156_85, ↓s156_86, ↓s156_89, ↓s156_92, ↓s156_95, ↓s156_102, ↓s156_103, ↓s156_106, ↓s156_108, ↓s156_109, ↓s156_110, ↓s156_112, ↓s156_114r, ↓s156_117, wc_6, wg_0_2, mN1_int, mN1_ref, mN1_null, mN1_U, mN1_rf, mCats_nil, mCats_int, mCats_ref, mCats_null, mCats_long, mCats_rf, mIsRef_ref, mIsRef_null, mIsRef_va, mRf_ref, mRf_null, mRf_rf, true_and, and_true, true_or, or_true, eq_self_iff_true, mK_v, mK_0, Nat.reduceAdd, Nat.reduceLeDiff, Nat.zero_le, iL_0, iL_1, iL_m1, iI_add, iI_sub, iI_mul, iI_neg, updI_at, upA_at, upP_at, upR_at, Nat.reduceEqDiff, reduceIte, Int.reduceAdd, Int.reduceSub, Int.reduceMul, Int.reduceDiv, Int.reduceMod, Int.reduceLT, Int.reduceLE, Int.reduceEq, Int.reduceNeg, not_true_eq_false, not_false_eq_true, Decidable.not_not, z36, z38, reduceCtorEq, gg_2 i2, e2, iI_eq, p2.1]
      have z34 := fun k Q => d34 (G := G) (h := wH h0 b I A P R o) (n := n) (k := k) (Q := Q) hc hs hy
      by_cases p3 : (0 ≤ c ∧ c ≤ 3) ∧ shp c s y
      · have sm := shp_mul p3.2
        simp only [bI_t p3] at z34
        have z39 := fun k Q => d39 (G := G) (h0 := h0) (b := b) (n := n) (k := k) (Q := Q) (I := I) (A := A) (P := P) (R := R) (o := o) (x := s * y) (by omega) (by omega) (by omega)
        rw [e10, e8] at z39
        have full : ((A 17) x = 0 ∧ (0 ≤ c ∧ c ≤ 3) ∧ (0 ≤ d ∧ d ≤ 65535) ∧ ¬ d = 16128 ∧ ¬ d = (A 15) x ∧ sk < 0) ∧ shp c s y := ⟨⟨p2.1, p3.1, p2.2⟩, p3.2⟩
        by_cases p4 : (I 29) < 40 ∧ (I 30) + s * y ≤ 8000
        · simp only [bI_t p4] at z39
          have hsm : s * y ≤ 8000 := by omega
          obtain ⟨K, hK⟩ : ∃ K : Nat, (I 29) = K := ⟨((I 29)).toNat, by omega⟩
          have hK4 : K < 40 := by omega
          have eK : ((I 29)).toNat = K := by omega
          have hz0 : ∀ a, n ≤ a → h0 a = none := fun a q => hr.2.2.2.2.2.2.2.2.2.2.2.2.2.2 a (by omega)
          obtain ⟨p2', cap', fg', n', dd, z40, a1, a2, a3, a4, a5⟩ := d40 (I := I) (A := A) (P := P) (R := R) (o := o) (h0 := h0) (n := n) (c := (I 29)) (kd := c) (id := d) (sz := s) (mn := y) (ab := fa x) (fcap := fcap) (fg := fg) hb ⟨sm.1, hsm⟩ hr.1.1.1.2.1 hr.1.1.2.1.1 hr.1.1.1.2.2 hr.1.1.2.1.2 hr.1.1.1.1 e10 (by omega) hn79 hz0 (fun i hi => by
            obtain ⟨j1, j2, j3, j4, j5⟩ := hr.1.1.2.2.1 i hi
            exact ⟨fa i, _, _, j1, j2.1.1, j2.2.2⟩)
          have z156 : ∀ k Q, mX G 156 0 [.ref b, .int (iI a), .int (iI c), .int (iI d), .int (iI s), .int (iI y), mU] [] (wH h0 b I A P R o) n k Q ↔ Q (.inl (some (.int (iI (I 29)))), wH (mUp (flW h0 n (I 29) (fa x) c d s y) p2' (mA 4 cap' fg')) b (updI (updI (updI I 9 ((I 9) + 1)) 10 ((I 29) + 1)) 8 ((I 8) + s * y)) A (upP P 2 p2') R o, n', k + dd) := by
            intro k Q
            rw [st k Q]
            generalize mUp (flW h0 n (I 29) (fa x) c d s y) p2' (mA 4 cap' fg') = hh at *
            simp (maxSteps := 1000000) (disch := first | omega | (simp only [updI_at, upA_at, Nat.reduceEqDiff, reduceIte]; omega) | exact mIsRef_rf _ | exact rfl) only [↓s156_0, ↓s156_1, ↓s156_4, ↓s156_5, ↓s156_8, ↓s156_10, ↓s156_12, ↓s156_15, ↓s156_18, ↓s156_25, ↓s156_27, ↓s156_30, ↓s156_33, ↓s156_34, ↓s156_37, ↓s156_39, ↓s156_40r, ↓s156_43, ↓s156_46, ↓s156_49, ↓s156_56, ↓s156_57, ↓s156_59, ↓s156_61, ↓s156_64, ↓s156_67, ↓s156_70, ↓s156_77, ↓s156_78, ↓s156_81, ↓s156_83, ↓s156_85, ↓s156_86, ↓s156_89, ↓s156_92, ↓s156_95, ↓s156_102, ↓s156_103, ↓s156_106, ↓s156_108, ↓s156_109, ↓s156_110, ↓s156_112, ↓s156_114r, ↓s156_117, wc_6, wg_0_2, mN1_int, mN1_ref, mN1_null, mN1_U, mN1_rf, mCats_nil, mCats_int, mCats_ref, mCats_null, mCats_long, mCats_rf, mIsRef_ref, mIsRef_null, mIsRef_va, mRf_ref, mRf_null, mRf_rf, true_and, and_true, true_or, or_true, eq_self_iff_true, mK_v, mK_0, Nat.reduceAdd, Nat.reduceLeDiff, Nat.zero_le, iL_0, iL_1, iL_m1, iI_add, iI_sub, iI_mul, iI_neg, updI_at, upA_at, upP_at, upR_at, Nat.reduceEqDiff, reduceIte, Int.reduceAdd, Int.reduceSub, Int.reduceMul, Int.reduceDiv, Int.reduceMod, Int.reduceLT, Int.reduceLE, Int.reduceEq, Int.reduceNeg, not_true_eq_false, not_false_eq_true, Decidable.not_not, z34, z39, z40, iI_eq]
          obtain ⟨ow, ho⟩ := hr.2.2.2.2.2.2.2.2.2.2.2.2.2.1
          have ho2 : oW (flT ow n K) P I A fa W := oW_ext hr (fun a e q => by
            have := hLt hz0 q
            unfold flT
            rw [if_pos this]) ho
          have hP2n : P 2 < n := hLt hz0 hr.1.1.1.2.2
          have hp2n : (p2' = P 2 ∧ p2' < n) ∨ p2' = n + 2 := by
            rcases a1 with ⟨e, e2, e3⟩ | ⟨e, e2⟩
            · exact Or.inl ⟨e, by omega⟩
            · exact Or.inr e
          have tp2 : flT ow n K p2' = 20000 := by
            rcases hp2n with ⟨e, e2⟩ | e
            · rw [e]; exact ho2.2.2.1
            · unfold flT
              rw [if_neg (by omega), if_neg (by omega), if_neg (by omega)]
          have hn' : n + 2 ≤ n' ∧ n' ≤ n + 3 ∧ p2' < n' := by
            rcases a1 with ⟨e, e2, e3⟩ | ⟨e, e2⟩ <;> omega
          have hlow : ∀ z, z < n → z ≠ p2' → mUp (flW h0 n (I 29) (fa x) c d s y) p2' (mA 4 cap' fg') z = h0 z := by
            intro z w1 w2
            rw [mUp_ne w2, flW_ne (by omega)]
          have hC2 : mUp (flW h0 n (I 29) (fa x) c d s y) p2' (mA 4 cap' fg') p2' = some (mA 4 cap' fg') := mUp_same _ _ _
          have hN0 : mUp (flW h0 n (I 29) (fa x) c d s y) p2' (mA 4 cap' fg') n = some (mO 1 [.int (iI (I 29)), .ref (fa x), .int (iI c), .int (iI d), .int (iI s), .int (iI y), .ref (n + 1), .int (iI 0), .int (iI 0)]) := by rw [mUp_ne (by omega)]; exact flW_0
          have hN1 : mUp (flW h0 n (I 29) (fa x) c d s y) p2' (mA 4 cap' fg') (n + 1) = some (mI (s * y).toNat (fun j => iI (cpE zer (fun _ => 255) 0 (s * y).toNat j))) := by rw [mUp_ne (by omega)]; exact flW_1
          have hz3 : ∀ z, n' ≤ z → mUp (flW h0 n (I 29) (fa x) c d s y) p2' (mA 4 cap' fg') z = none := by
            intro z hz
            rw [mUp_ne (by omega), flW_ne (by omega)]
            exact hz0 z (by omega)
          generalize mUp (flW h0 n (I 29) (fa x) c d s y) p2' (mA 4 cap' fg') = h3 at *
          have ha3 : ∀ z e, flT ow n K z ≠ 20000 → h0 z = some e → h3 z = some e := by
            intro z e w1 w2
            rw [hlow z (hLt hz0 w2) (fun w => w1 (by rw [w]; exact tp2))]
            exact w2
          have hst : stc h0 h3 := by
            intro z k N f hk w2
            rw [hlow z (hLt hz0 w2) ?_]
            · exact w2
            · intro w
              rcases a1 with ⟨e, e2, e3⟩ | ⟨e, e2⟩
              · rw [← w, w2] at e3
                cases e3
              · have lt := hLt hz0 w2
                omega
          obtain ⟨⟨b1, b1'⟩, b2, b3, b4, b5, b6, b7, b8, b9, b10, b11, z1, z2, z3, z4⟩ := id hr
          have rz := hri K (by omega)
          have t3 : flT ow n K (P 3) ≠ 20000 := by have := ho2.2.2.2; omega
          have hFK : ∀ i : Nat, ¬ i = K → fF (flB I A a c d s y) i = fF A i := by
            intro i w
            unfold fF
            show (fun j => if j = 0 then (i : Int) else if j = 2 then upE (A 17) ((I 29)).toNat c i else if j = 3 then upE (A 15) ((I 29)).toNat d i else if j = 4 then upE (A 18) ((I 29)).toNat s i else if j = 5 then upE (A 19) ((I 29)).toNat y i else if j = 7 then (A 20) i else if j = 8 then (A 21) i else 0) = _
            rw [eK, upE_ne w, upE_ne w, upE_ne w, upE_ne w]
          have hr1 : rst G h3 b (updI (updI (updI I 9 ((I 9) + 1)) 10 ((I 29) + 1)) 8 ((I 8) + s * y)) A (upP (upP P 2 p2') 4 n') R (flJ I s y) (flB I A a c d s y) (faN fa K n) (fun i j => if i = K then cpE zer (fun _ => 255) 0 (s * y).toNat j else fb i j) cap' fg' W V X cap ng := by
            refine ⟨⟨⟨⟨a5.2, a5.1, hC2⟩, ⟨a4.1.1, a4.2⟩, ?_, ?_⟩, rfl, ?_⟩, ⟨⟨⟨b2.1.1.1, fun w => ?_⟩, b2.1.2.1, b2.1.2.2.1, b2.1.2.2.2.1, ?_⟩, b2.2.1, ?_⟩, stc_T hst b3, b4, ⟨⟨?_, ?_⟩, b5.2⟩, b6, b7, b8, b9, b10, b11, ?_, stc_Sc hst z2, ⟨flT ow n K, ?_⟩, hz3⟩
            · intro i hi
              have hi' : (i : Int) < (I 29) + 1 := hi
              by_cases w : i = K
              · subst w
                have eab : fAb (faN fa i n) (flB I A a c d s y) i = some (fa x) := by
                  show (if upE (A 16) ((I 29)).toNat a i < 0 then none else some (faN fa i n (upE (A 16) ((I 29)).toNat a i).toNat)) = some (fa x)
                  rw [eK, upE_same, if_neg (by omega), faN_ne (by omega), ex]
                have eN : fN (flB I A a c d s y) i = (s * y).toNat := by
                  show (upE (A 18) ((I 29)).toNat s i * upE (A 19) ((I 29)).toNat y i).toNat = (s * y).toNat
                  rw [eK, upE_same, upE_same]
                refine ⟨?_, ⟨⟨?_, ?_⟩, ?_, ?_⟩, ?_, ?_, ?_⟩
                · rw [faN_eq, ← eK]
                  exact a3.2
                · rw [faN_eq]
                  exact Or.inr (Or.inl hn79)
                · rw [faN_eq]
                  exact Or.inr (Or.inl (by omega))
                · rw [faN_eq]
                  omega
                · rw [eab, faN_eq, hN0]
                  unfold fO
                  have q0 : fF (flB I A a c d s y) i 0 = (I 29) := by
                    show (i : Int) = (I 29)
                    rw [hK]
                  have q2 : fF (flB I A a c d s y) i 2 = c := by
                    show upE (A 17) ((I 29)).toNat c i = c
                    rw [eK, upE_same]
                  have q3 : fF (flB I A a c d s y) i 3 = d := by
                    show upE (A 15) ((I 29)).toNat d i = d
                    rw [eK, upE_same]
                  have q4 : fF (flB I A a c d s y) i 4 = s := by
                    show upE (A 18) ((I 29)).toNat s i = s
                    rw [eK, upE_same]
                  have q5 : fF (flB I A a c d s y) i 5 = y := by
                    show upE (A 19) ((I 29)).toNat y i = y
                    rw [eK, upE_same]
                  have q7 : fF (flB I A a c d s y) i 7 = 0 := rz.1
                  have q8 : fF (flB I A a c d s y) i 8 = 0 := rz.2
                  rw [q0, q2, q3, q4, q5, q7, q8]
                  rfl
                · rw [faN_eq, eN, hN1]
                  simp only [if_true, eq_self_iff_true]
                · intro j hj
                  rw [eN] at hj
                  dsimp only
                  rw [if_pos rfl]
                  show cpE zer (fun _ => 255) 0 (s * y).toNat j = cpE (A 23) ff (I 30) (s * y) ((upE (A 22) ((I 29)).toNat (I 30) i).toNat + j)
                  rw [eK, upE_same]
                  unfold cpE
                  rw [if_pos (by omega), if_pos (by omega)]
                  rfl
                · intro j
                  dsimp only
                  rw [if_pos rfl]
                  exact cpE_P (p := fun x => 0 ≤ x ∧ x ≤ 255) (fun _ => ⟨Int.le_refl 0, by show (0 : Int) ≤ 255; omega⟩) (fun _ => by omega) j
              · have hi2 : (i : Int) < (I 29) := by omega
                obtain ⟨j1, j2, j3, j4, j5⟩ := b1.2.2.1 i hi2
                have oi := ho2.1 i hi2
                obtain ⟨k1, k2, k3, k4, k5, k6, k7, k8⟩ := hF.2.2.1 i hi2
                have eab : fAb (faN fa K n) (flB I A a c d s y) i = fAb fa A i := by
                  show (if upE (A 16) ((I 29)).toNat a i < 0 then none else some (faN fa K n (upE (A 16) ((I 29)).toNat a i).toNat)) = if (A 16) i < 0 then none else some (fa ((A 16) i).toNat)
                  rw [eK, upE_ne w]
                  by_cases w0 : (A 16) i < 0
                  · rw [if_pos w0, if_pos w0]
                  · rw [if_neg w0, if_neg w0, faN_ne (by omega)]
                have eN : fN (flB I A a c d s y) i = fN A i := by
                  show (upE (A 18) ((I 29)).toNat s i * upE (A 19) ((I 29)).toNat y i).toNat = ((A 18) i * (A 19) i).toNat
                  rw [eK, upE_ne w, upE_ne w]
                rw [eab, eN, hFK i w, faN_ne w, a3.1 i hi2]
                simp only [w, if_false]
                refine ⟨j1, ⟨j2.1, j2.2.1, ha3 _ _ (by omega) j2.2.2⟩, ha3 _ _ (by omega) j3, ?_, j5⟩
                intro j hj
                rw [j4 j hj]
                show (A 23) (((A 22) i).toNat + j) = cpE (A 23) ff (I 30) (s * y) ((upE (A 22) ((I 29)).toNat (I 30) i).toNat + j)
                rw [eK, upE_ne w]
                have fn := fN_eq (x := i) hF hi2
                unfold cpE
                rw [if_neg (by omega)]
            · intro i j hi hj e
              have hi' : (i : Int) < (I 29) + 1 := hi
              have hj' : (j : Int) < (I 29) + 1 := hj
              by_cases w : i = K
              · by_cases w2 : j = K
                · omega
                · rw [w, faN_eq, faN_ne w2] at e
                  have := hLt hz0 (b1.2.2.1 j (by omega)).2.1.2.2
                  omega
              · by_cases w2 : j = K
                · rw [w2, faN_eq, faN_ne w] at e
                  have := hLt hz0 (b1.2.2.1 i (by omega)).2.1.2.2
                  omega
                · rw [faN_ne w, faN_ne w2] at e
                  exact b1.2.2.2 i j (by omega) (by omega) e
            · show (I 8) + s * y = (I 30) + s * y
              rw [e8]
            · exact ha3 (P 3) _ t3 (b2.1.1.2 w)
            · intro i hi
              have hi2 : (i : Int) < (I 31) ∨ i = 40 := hi
              have k1 := keep_n3 ho2 (t := 20000) (by omega) ha3 hi2 hM.2.2.2.1.1.2 (hM.2.2.2.1.2.2.1 i (by have := hM.2.2.2.1.1; omega)) (b2.1.2.2.2.2 i hi2)
              refine dN1_fa ?_ k1
              by_cases w : i = 40
              · subst w
                rfl
              · have hin := (hM.2.2.2.1.2.1 i (by omega)).2.2.2.2.1
                show (if i = 40 then none else rfV (faN fa K n) ((A 28) i)) = if i = 40 then none else rfV fa ((A 28) i)
                rw [if_neg w, if_neg w]
                unfold rfV
                by_cases w2 : (A 28) i < 0
                · rw [if_pos w2, if_pos w2]
                · rw [if_neg w2, if_neg w2, faN_ne (by omega)]
            · intro z hz i hi
              have hz' : (z : Int) < (I 29) + 1 := hz
              have hi2 : (i : Int) < (I 31) ∨ i = 40 := hi
              by_cases w : z = K
              · subst w
                rw [faN_eq]
                obtain ⟨⟨hn, hA, hT, h5, hrest⟩, q2⟩ := b2.1.2.2.2.2 i hi2
                have l1 := hLt hz0 hA.1
                have l2 := hLt hz0 hA.2.1
                have l3 := hLt hz0 hA.2.2.1
                have l4 := hLt hz0 hT.2.1
                exact ⟨⟨by omega, by omega, by omega⟩, by omega, fun j => by have := hf.2.2 i j; omega⟩
              · rw [faN_ne w]
                exact b2.2.2 z (by show (z : Int) < (I 29); omega) i hi2
            · have hd1 := hM.2.2.1.1
              have r0 : R 0 = rfV fa (I 36) := b5.1.1
              show R 0 = rfV (faN fa K n) (I 36)
              rw [r0]
              unfold rfV
              rw [if_neg (by omega), if_neg (by omega), faN_ne (by omega)]
            · have hd1 := hM.2.2.1.2.1
              have r0 : R 1 = rfV fa (I 37) := b5.1.2
              show R 1 = rfV (faN fa K n) (I 37)
              rw [r0]
              unfold rfV
              by_cases w2 : (I 37) < 0
              · rw [if_pos w2, if_pos w2]
              · rw [if_neg w2, if_neg w2, faN_ne (by omega)]
            · rcases z1 with ⟨w1, w2, f, w3⟩ | ⟨w1, w2, w3⟩
              · exact Or.inl ⟨w1, w2, f, hst _ _ _ _ (by decide) w3⟩
              · exact Or.inr ⟨w1, w2, ha3 (P 3) _ t3 w3⟩
            · obtain ⟨y1, y2, y3, y4⟩ := ho2
              refine ⟨?_, y2, tp2, y4⟩
              intro z hz
              have hz' : (z : Int) < (I 29) + 1 := hz
              by_cases w : z = K
              · subst w
                rw [faN_eq]
                exact flT_t ow n z
              · rw [faN_ne w]
                exact y1 z (by omega)
          have hfW : fre (upP (upP P 2 p2') 4 n') b n' W := ⟨by omega, rfl, fun i j => by have := hf.2.2 i j; omega⟩
          have hbb : ∀ j, 0 ≤ cpE (A 23) ff (I 30) (s * y) j ∧ cpE (A 23) ff (I 30) (s * y) j ≤ 255 := cpE_P (p := fun x => 0 ≤ x ∧ x ≤ 255) hF.2.2.2.2.2 (fun _ => by show (0 : Int) ≤ 255 ∧ (255 : Int) ≤ 255; omega)
          have iN : iM (flJ I s y) (flB I A a c d s y) := iM_file (F := ((I 29)).toNat) hM hri (by omega) (by omega) p1' (by rw [ex]; exact p2.1) p3.1 p2.2.1 p3.2 p4.2 hbb
          have hri' : ri (flJ I s y) (flB I A a c d s y) := by
            intro f w
            have w' : (I 29) + 1 ≤ f := w
            exact hri f (by omega)
          obtain ⟨A2, e1, e2', e3⟩ := op_end (o := vp_updL o 0 (iI (I 29)).toInt64) hr1 (kpM_I (kpM_I (kpM_I kpM_refl (by decide)) (by decide)) (by decide)) hM iN hfW hri'
          refine ⟨0, (I 29), n', dd, h3, _, A, upP (upP P 2 p2') 4 n', R, _, _, _, ⟨by omega, by omega⟩, fun k Q => law_281 hb z156, stc_Sc hst z2, ?_, ⟨rfl, by omega⟩, fun _ => vp_0 _ _, e3⟩
          intro k Q
          dsimp only
          rw [e1, cc _ _ _ _ _ _ _ _ e2'.1, if_pos p1, if_pos full, if_neg (by omega)]
          exact Iff.rfl
        · simp only [bI_f p4] at z39
          have z156 : ∀ k Q, mX G 156 0 [.ref b, .int (iI a), .int (iI c), .int (iI d), .int (iI s), .int (iI y), mU] [] (wH h0 b I A P R o) n k Q ↔ Q (.inr 2, wH h0 b I A P R o, n + 1, k + 6) := by
            intro k Q
            rw [st k Q]
            simp (maxSteps := 1000000) (disch := first | omega | (simp only [updI_at, upA_at, Nat.reduceEqDiff, reduceIte]; omega) | exact mIsRef_rf _ | exact rfl) only [↓s156_0, ↓s156_1, ↓s156_4, ↓s156_5, ↓s156_8, ↓s156_10, ↓s156_12, ↓s156_15, ↓s156_18, ↓s156_25, ↓s156_27, ↓s156_30, ↓s156_33, ↓s156_34, ↓s156_37, ↓s156_39, ↓s156_40r, ↓s156_43, ↓s156_46, ↓s156_49, ↓s156_56, ↓s156_57, ↓s156_59, ↓s156_61, ↓s156_64, ↓s156_67, ↓s156_70, ↓s156_77, ↓s156_78, ↓s156_81, ↓s156_83, ↓s156_85, ↓s156_86, ↓s156_89, ↓s156_92, ↓s156_95, ↓s156_102, ↓s156_103, ↓s156_106, ↓s156_108, ↓s156_109, ↓s156_110, ↓s156_112, ↓s156_114r, ↓s156_117, wc_6, wg_0_2, mN1_int, mN1_ref, mN1_null, mN1_U, mN1_rf, mCats_nil, mCats_int, mCats_ref, mCats_null, mCats_long, mCats_rf, mIsRef_ref, mIsRef_null, mIsRef_va, mRf_ref, mRf_null, mRf_rf, true_and, and_true, true_or, or_true, eq_self_iff_true, mK_v, mK_0, Nat.reduceAdd, Nat.reduceLeDiff, Nat.zero_le, iL_0, iL_1, iL_m1, iI_add, iI_sub, iI_mul, iI_neg, updI_at, upA_at, upP_at, upR_at, Nat.reduceEqDiff, reduceIte, Int.reduceAdd, Int.reduceSub, Int.reduceMul, Int.reduceDiv, Int.reduceMod, Int.reduceLT, Int.reduceLE, Int.reduceEq, Int.reduceNeg, not_true_eq_false, not_false_eq_true, Decidable.not_not, z34, z39, iI_eq]
          refine op_thr0 (o := o) (v := 3) hM hr hf hri (by omega) (fun k Q => law_281x (Or.inr (Or.inr rfl)) z156) ?_
          intro X1 Y hi k Q
          rw [cc _ _ _ _ _ _ _ _ hi.1, if_pos p1, if_pos full, if_pos (by omega)]
      · simp only [bI_f p3] at z34
        have z156 : ∀ k Q, mX G 156 0 [.ref b, .int (iI a), .int (iI c), .int (iI d), .int (iI s), .int (iI y), mU] [] (wH h0 b I A P R o) n k Q ↔ Q (.inr 1, wH h0 b I A P R o, n + 1, k + 6) := by
          intro k Q
          rw [st k Q]
          simp (maxSteps := 1000000) (disch := first | omega | (simp only [updI_at, upA_at, Nat.reduceEqDiff, reduceIte]; omega) | exact mIsRef_rf _ | exact rfl) only [↓s156_0, ↓s156_1, ↓s156_4, ↓s156_5, ↓s156_8, ↓s156_10, ↓s156_12, ↓s156_15, ↓s156_18, ↓s156_25, ↓s156_27, ↓s156_30, ↓s156_33, ↓s156_34, ↓s156_37, ↓s156_39, ↓s156_40r, ↓s156_43, ↓s156_46, ↓s156_49, ↓s156_56, ↓s156_57, ↓s156_59, ↓s156_61, ↓s156_64, ↓s156_67, ↓s156_70, ↓s156_77, ↓s156_78, ↓s156_81, ↓s156_83, ↓s156_85, ↓s156_86, ↓s156_89, ↓s156_92, ↓s156_95, ↓s156_102, ↓s156_103, ↓s156_106, ↓s156_108, ↓s156_109, ↓s156_110, ↓s156_112, ↓s156_114r, ↓s156_117, wc_6, wg_0_2, mN1_int, mN1_ref, mN1_null, mN1_U, mN1_rf, mCats_nil, mCats_int, mCats_ref, mCats_null, mCats_long, mCats_rf, mIsRef_ref, mIsRef_null, mIsRef_va, mRf_ref, mRf_null, mRf_rf, true_and, and_true, true_or, or_true, eq_self_iff_true, mK_v, mK_0, Nat.reduceAdd, Nat.reduceLeDiff, Nat.zero_le, iL_0, iL_1, iL_m1, iI_add, iI_sub, iI_mul, iI_neg, updI_at, upA_at, upP_at, upR_at, Nat.reduceEqDiff, reduceIte, Int.reduceAdd, Int.reduceSub, Int.reduceMul, Int.reduceDiv, Int.reduceMod, Int.reduceLT, Int.reduceLE, Int.reduceEq, Int.reduceNeg, not_true_eq_false, not_false_eq_true, Decidable.not_not, z34, iI_eq]
        refine op_thr0 (o := o) (v := 2) hM hr hf hri (by omega) (fun k Q => law_281x (Or.inr (Or.inl rfl)) z156) ?_
        intro X1 Y hi k Q
        rw [cc _ _ _ _ _ _ _ _ hi.1, if_pos p1, if_neg (fun t => p3 ⟨t.1.2.1, t.2⟩)]
    · have z156 : ∀ k Q, mX G 156 0 [.ref b, .int (iI a), .int (iI c), .int (iI d), .int (iI s), .int (iI y), mU] [] (wH h0 b I A P R o) n k Q ↔ Q (.inr 1, wH h0 b I A P R o, n + 1, k + 6) := by
        intro k Q
        by_cases q1 : (A 17) x = 0
        · have q2 : ¬ ((0 ≤ d ∧ d ≤ 65535) ∧ ¬ d = 16128 ∧ ¬ d = (A 15) x ∧ sk < 0) := fun t => p2 ⟨q1, t⟩
          simp only [bI_f q2] at z38
          simp (maxSteps := 1000000) (disch := first | omega | (simp only [updI_at, upA_at, Nat.reduceEqDiff, reduceIte]; omega) | exact mIsRef_rf _ | exact rfl) only [↓s156_0, ↓s156_1, ↓s156_4, ↓s156_5, ↓s156_8, ↓s156_10, ↓s156_12, ↓s156_15, ↓s156_18, ↓s156_25, ↓s156_27, ↓s156_30, ↓s156_33, ↓s156_34, ↓s156_37, ↓s156_39, ↓s156_40r, ↓s156_43, ↓s156_46, ↓s156_49, ↓s156_56, ↓s156_57, ↓s156_59, ↓s156_61, ↓s156_64, ↓s156_67, ↓s156_70, ↓s156_77, ↓s156_78, ↓s156_81, ↓s156_83, ↓s156_85, ↓s156_86, ↓s156_89, ↓s156_92, ↓s156_95, ↓s156_102, ↓s156_103, ↓s156_106, ↓s156_108, ↓s156_109, ↓s156_110, ↓s156_112, ↓s156_114r, ↓s156_117, wc_6, wg_0_2, mN1_int, mN1_ref, mN1_null, mN1_U, mN1_rf, mCats_nil, mCats_int, mCats_ref, mCats_null, mCats_long, mCats_rf, mIsRef_ref, mIsRef_null, mIsRef_va, mRf_ref, mRf_null, mRf_rf, true_and, and_true, true_or, or_true, eq_self_iff_true, mK_v, mK_0, Nat.reduceAdd, Nat.reduceLeDiff, Nat.zero_le, iL_0, iL_1, iL_m1, iI_add, iI_sub, iI_mul, iI_neg, updI_at, upA_at, upP_at, upR_at, Nat.reduceEqDiff, reduceIte, Int.reduceAdd, Int.reduceSub, Int.reduceMul, Int.reduceDiv, Int.reduceMod, Int.reduceLT, Int.reduceLE, Int.reduceEq, Int.reduceNeg, not_true_eq_false, not_false_eq_true, Decidable.not_not, z36, z38, reduceCtorEq, gg_2 i2, e2, iI_eq, q1]
        · simp (maxSteps := 1000000) (disch := first | omega | (simp only [updI_at, upA_at, Nat.reduceEqDiff, reduceIte]; omega) | exact mIsRef_rf _ | exact rfl) only [↓s156_0, ↓s156_1, ↓s156_4, ↓s156_5, ↓s156_8, ↓s156_10, ↓s156_12, ↓s156_15, ↓s156_18, ↓s156_25, ↓s156_27, ↓s156_30, ↓s156_33, ↓s156_34, ↓s156_37, ↓s156_39, ↓s156_40r, ↓s156_43, ↓s156_46, ↓s156_49, ↓s156_56, ↓s156_57, ↓s156_59, ↓s156_61, ↓s156_64, ↓s156_67, ↓s156_70, ↓s156_77, ↓s156_78, ↓s156_81, ↓s156_83, ↓s156_85, ↓s156_86, ↓s156_89, ↓s156_92, ↓s156_95, ↓s156_102, ↓s156_103, ↓s156_106, ↓s156_108, ↓s156_109, ↓s156_110, ↓s156_112, ↓s156_114r, ↓s156_117, wc_6, wg_0_2, mN1_int, mN1_ref, mN1_null, mN1_U, mN1_rf, mCats_nil, mCats_int, mCats_ref, mCats_null, mCats_long, mCats_rf, mIsRef_ref, mIsRef_null, mIsRef_va, mRf_ref, mRf_null, mRf_rf, true_and, and_true, true_or, or_true, eq_self_iff_true, mK_v, mK_0, Nat.reduceAdd, Nat.reduceLeDiff, Nat.zero_le, iL_0, iL_1, iL_m1, iI_add, iI_sub, iI_mul, iI_neg, updI_at, upA_at, upP_at, upR_at, Nat.reduceEqDiff, reduceIte, Int.reduceAdd, Int.reduceSub, Int.reduceMul, Int.reduceDiv, Int.reduceMod, Int.reduceLT, Int.reduceLE, Int.reduceEq, Int.reduceNeg, not_true_eq_false, not_false_eq_true, Decidable.not_not, z36, z38, reduceCtorEq, gg_2 i2, e2, iI_eq, q1]
      refine op_thr0 (o := o) (v := 2) hM hr hf hri (by omega) (fun k Q => law_281x (Or.inr (Or.inl rfl)) z156) ?_
      intro X1 Y hi k Q
      rw [cc _ _ _ _ _ _ _ _ hi.1, if_pos p1, if_neg (fun t => p2 ⟨t.1.1, t.1.2.2⟩)]
  · have p1' : ¬ (0 ≤ a ∧ a < (I 29)) := by omega
    simp only [p1', if_false] at z36
    have z156 : ∀ k Q, mX G 156 0 [.ref b, .int (iI a), .int (iI c), .int (iI d), .int (iI s), .int (iI y), mU] [] (wH h0 b I A P R o) n k Q ↔ Q (.inr 0, wH h0 b I A P R o, n + 1, k + 6) := by
      intro k Q
      simp (maxSteps := 1000000) (disch := first | omega | (simp only [updI_at, upA_at, Nat.reduceEqDiff, reduceIte]; omega) | exact mIsRef_rf _ | exact rfl) only [↓s156_0, ↓s156_1, ↓s156_4, ↓s156_5, ↓s156_8, ↓s156_10, ↓s156_12, ↓s156_15, ↓s156_18, ↓s156_25, ↓s156_27, ↓s156_30, ↓s156_33, ↓s156_34, ↓s156_37, ↓s156_39, ↓s156_40r, ↓s156_43, ↓s156_46, ↓s156_49, ↓s156_56, ↓s156_57, ↓s156_59, ↓s156_61, ↓s156_64, ↓s156_67, ↓s156_70, ↓s156_77, ↓s156_78, ↓s156_81, ↓s156_83, ↓s156_85, ↓s156_86, ↓s156_89, ↓s156_92, ↓s156_95, ↓s156_102, ↓s156_103, ↓s156_106, ↓s156_108, ↓s156_109, ↓s156_110, ↓s156_112, ↓s156_114r, ↓s156_117, wc_6, wg_0_2, mN1_int, mN1_ref, mN1_null, mN1_U, mN1_rf, mCats_nil, mCats_int, mCats_ref, mCats_null, mCats_long, mCats_rf, mIsRef_ref, mIsRef_null, mIsRef_va, mRf_ref, mRf_null, mRf_rf, true_and, and_true, true_or, or_true, eq_self_iff_true, mK_v, mK_0, Nat.reduceAdd, Nat.reduceLeDiff, Nat.zero_le, iL_0, iL_1, iL_m1, iI_add, iI_sub, iI_mul, iI_neg, updI_at, upA_at, upP_at, upR_at, Nat.reduceEqDiff, reduceIte, Int.reduceAdd, Int.reduceSub, Int.reduceMul, Int.reduceDiv, Int.reduceMod, Int.reduceLT, Int.reduceLE, Int.reduceEq, Int.reduceNeg, not_true_eq_false, not_false_eq_true, Decidable.not_not, z36]
    refine op_thr0 (o := o) (v := 1) hM hr hf hri (by omega) (fun k Q => law_281x (Or.inl rfl) z156) ?_
    intro X1 Y hi k Q
    rw [cc _ _ _ _ _ _ _ _ hi.1, if_neg p1]
end
end MFILE2
