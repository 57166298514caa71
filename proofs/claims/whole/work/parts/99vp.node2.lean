/-! The call: node. -/
section MNODE3
variable {G : mG} {h h0 : mH} {n k b : Nat} {Q : mR → Prop} {I : Nat → Int} {A : Nat → Nat → Int} {P : Nat → Nat} {R : Nat → Option Nat} {o : Nat → Int64}
def ndB (I : Nat → Int) (A : Nat → Nat → Int) (s q : Int) : Nat → Nat → Int := upA (upA (upA (upA (upA (upA (upA (upA A 24 (upE (A 24) ((I 31)).toNat s)) 25 (upE (A 25) ((I 31)).toNat q)) 26 (upE (A 26) ((I 31)).toNat 0)) 27 (upE (A 27) ((I 31)).toNat 255)) 28 (upE (A 28) ((I 31)).toNat (-1))) 29 (putL (A 29) (4 * (I 31)) [-1, -1, -1, -1])) 30 (upE (A 30) ((I 31)).toNat (I 28))) 31 (cpE (A 31) (A 14) (100 * (I 31)) (I 28))
def ndT (ow : Nat → Nat) (n K : Nat) : Nat → Nat := fun y => if y < n then ow y else if y = n then 100 * K + 50 else if y = n + 1 then 100 * K + 51 else if y = n + 2 then 100 * K else if y = n + 3 then 100 * K + 10 else if y = n + 4 then 100 * K + 20 else if y = n + 5 then 100 * K + 30 else if y = n + 6 then 100 * K + 40 else 20001
theorem ndT_t (ow : Nat → Nat) (n K : Nat) : ndT ow n K (n + 2) = 100 * K ∧ (ndT ow n K (n + 3) = 100 * K + 10 ∧ ndT ow n K (n + 3 + 1) = 100 * K + 20 ∧ ndT ow n K (n + 3 + 2) = 100 * K + 30 ∧ ndT ow n K (n + 3 + 3) = 100 * K + 40) ∧ (ndT ow n K n = 100 * K + 50 ∧ ndT ow n K (n + 1) = 100 * K + 51) := by
  refine ⟨?_, ⟨?_, ?_, ?_, ?_⟩, ⟨?_, ?_⟩⟩ <;> unfold ndT
  · rw [if_neg (by omega), if_neg (by omega), if_neg (by omega), if_pos (by omega)]
  · rw [if_neg (by omega), if_neg (by omega), if_neg (by omega), if_neg (by omega), if_pos (by omega)]
  · rw [if_neg (by omega), if_neg (by omega), if_neg (by omega), if_neg (by omega), if_neg (by omega), if_pos (by omega)]
  · rw [if_neg (by omega), if_neg (by omega), if_neg (by omega), if_neg (by omega), if_neg (by omega), if_neg (by omega), if_pos (by omega)]
  · rw [if_neg (by omega), if_neg (by omega), if_neg (by omega), if_neg (by omega), if_neg (by omega), if_neg (by omega), if_neg (by omega), if_pos (by omega)]
  · rw [if_neg (by omega), if_pos (by omega)]
  · rw [if_neg (by omega), if_neg (by omega), if_pos (by omega)]
section
variable {fa : Nat → Nat} {fb : Nat → Nat → Int} {fcap : Nat} {fg : Nat → Option Nat} {W : Nat → Nat → Nat → Nat} {V : Nat → Nat → Nat → Nat → Int} {X : Nat → Nat → Option Nat} {cap : Nat} {ng : Nat → Option Nat} {h1 : mH}
theorem op_node {s q : Int} (hb : G.2.2.2 ≤ b) (hM : iM I A) (hr : rst G h0 b I A P R I A fa fb fcap fg W V X cap ng) (hf : fre P b n W) (hri : ri I A) (hs : -2147483648 ≤ s ∧ s < 2147483648) (hq : -2147483648 ≤ q ∧ q < 2147483648) :
    opX G b n 16 9000 (fun n k Q => mX G 283 0 [.ref b, .int (iI s), .int (iI q), .ref (b + 78), mU] [] (wH h0 b I A P R o) n k Q) (fun h n k Q => mX G 192 0 [.ref (b + 43), .int (iI s), .int (iI q), mU, mU, mU] [] h n k Q) := by
  have ht := hM.2.2.2.2.2.1.1
  have htp := hM.2.2.2.2.2.2
  have n1 := hM.2.2.2.1.1
  have n3 := hM.2.2.2.1.2.2.1
  obtain ⟨r, I1, P1, g, zt, ⟨kk, kP⟩, r1, ⟨t1, t2, t3, t4⟩, g1, g2⟩ := tp_ok (o := o) hb hM hr
  have hf1 : fre P1 b n W := ⟨hf.1, by rw [kP]; exact hf.2.1, hf.2.2⟩
  have c := fun h1 P1 o n X1 Y k Q (hA : RgA (gm Y A)) => c192 (G := G) (h0 := h1) (n := n) (k := k) (Q := Q) (I := gl X1 I) (A := gm Y A) (P := P1) (R := R) (o := o) (s := s) (q := q) hb hA hs hq n1 ht
  simp (disch := decide) only [gl_at, gm_at, gl_up, gm_up, upd_t] at c
  have hn79 := hf.1
  have hP4 : P1 4 = n := hf1.2.1
  have z174 := fun h n k Q => d174 (G := G) (h := h) (n := n) (k := k) (Q := Q) hq
  have e18 : I1 18 = (I 31) := r1.2.1.2.1
  have z63 := fun h0 n k Q => d63 (G := G) (h0 := h0) (b := b) (n := n) (k := k) (Q := Q) (I := I1) (A := A) (P := P1) (R := R) (o := o)
  rw [e18] at z63
  by_cases p1 : (0 ≤ s ∧ s ≤ 7) ∧ (0 ≤ q ∧ q ≤ 255)
  · simp only [bI_t p1.2] at z174
    have s1 : ¬ s < 0 := by omega
    have s2 : ¬ 7 < s := by omega
    have st : ∀ k Q, mX G 159 0 [.ref b, .int (iI s), .int (iI q), mU] [] (wH h0 b I A P R o) n k Q ↔ mX G 159 32 [.ref b, .int (iI s), .int (iI q), .ref (b + r)] [] (wH h0 b I1 A P1 R o) n k Q := by
      intro k Q
      simp (maxSteps := 1000000) (disch := first | omega | (simp only [updI_at, upA_at, Nat.reduceEqDiff, reduceIte]; omega) | exact mIsRef_rf _ | exact rfl) only [↓s159_0, ↓s159_1, ↓s159_4, ↓s159_5, ↓s159_6, ↓s159_9, ↓s159_10, ↓s159_12, ↓s159_15, ↓s159_16, ↓s159_19, ↓s159_22, ↓s159_25, ↓s159_33, ↓s159_36, ↓s159_38, ↓s159_41, ↓s159_44, ↓s159_51, ↓s159_52, ↓s159_55, ↓s159_58, ↓s159_60, ↓s159_63, ↓s159_66, ↓s159_73, ↓s159_74, ↓s159_77, ↓s159_78, ↓s159_79, ↓s159_80, ↓s159_83r, ↓s159_86, iL_100, iL_40, iL_7, wc_0, wc_1, wc_12, wc_14, wc_17, wc_29, wc_31, wc_39, wc_4, wc_41, wg_0_5, mN1_int, mN1_ref, mN1_null, mN1_U, mN1_rf, mCats_nil, mCats_int, mCats_ref, mCats_null, mCats_long, mCats_rf, mIsRef_ref, mIsRef_null, mIsRef_va, mRf_ref, mRf_null, mRf_rf, true_and, and_true, true_or, or_true, eq_self_iff_true, mK_v, mK_0, Nat.reduceAdd, Nat.reduceLeDiff, Nat.zero_le, iL_0, iL_1, iL_m1, iI_add, iI_sub, iI_mul, iI_neg, updI_at, upA_at, upP_at, upR_at, Nat.reduceEqDiff, reduceIte, Int.reduceAdd, Int.reduceSub, Int.reduceMul, Int.reduceDiv, Int.reduceMod, Int.reduceLT, Int.reduceLE, Int.reduceEq, Int.reduceNeg, not_true_eq_false, not_false_eq_true, Decidable.not_not, zt, z174, iI_eq, iI_lt, s1, s2]
    by_cases p2 : (I 28) ≤ 100
    · by_cases p3 : (I 31) = 40
      · have z159 : ∀ k Q, mX G 159 0 [.ref b, .int (iI s), .int (iI q), mU] [] (wH h0 b I A P R o) n k Q ↔ Q (.inr 2, wH h0 b I1 A P1 R o, n + 1, k + 6) := by
          intro k Q
          rw [st k Q]
          simp (maxSteps := 1000000) (disch := first | omega | (simp only [updI_at, upA_at, Nat.reduceEqDiff, reduceIte]; omega) | exact mIsRef_rf _ | exact rfl) only [↓s159_0, ↓s159_1, ↓s159_4, ↓s159_5, ↓s159_6, ↓s159_9, ↓s159_10, ↓s159_12, ↓s159_15, ↓s159_16, ↓s159_19, ↓s159_22, ↓s159_25, ↓s159_32, ↓s159_33, ↓s159_36, ↓s159_38, ↓s159_41, ↓s159_44, ↓s159_51, ↓s159_52, ↓s159_55, ↓s159_58, ↓s159_60, ↓s159_63, ↓s159_66, ↓s159_73, ↓s159_74, ↓s159_77, ↓s159_78, ↓s159_79, ↓s159_80, ↓s159_83r, ↓s159_86, iL_100, iL_40, iL_7, wc_0, wc_1, wc_12, wc_14, wc_17, wc_29, wc_31, wc_39, wc_4, wc_41, wg_0_5, mN1_int, mN1_ref, mN1_null, mN1_U, mN1_rf, mCats_nil, mCats_int, mCats_ref, mCats_null, mCats_long, mCats_rf, mIsRef_ref, mIsRef_null, mIsRef_va, mRf_ref, mRf_null, mRf_rf, true_and, and_true, true_or, or_true, eq_self_iff_true, mK_v, mK_0, Nat.reduceAdd, Nat.reduceLeDiff, Nat.zero_le, iL_0, iL_1, iL_m1, iI_add, iI_sub, iI_mul, iI_neg, updI_at, upA_at, upP_at, upR_at, Nat.reduceEqDiff, reduceIte, Int.reduceAdd, Int.reduceSub, Int.reduceMul, Int.reduceDiv, Int.reduceMod, Int.reduceLT, Int.reduceLE, Int.reduceEq, Int.reduceNeg, not_true_eq_false, not_false_eq_true, Decidable.not_not, t1, t3 _ _ _ _ _ _, z63, iI_eq, iI_lt, iI_le, p2, p3]
        refine op_thr (o := o) (v := 2) (J := updI (updI I 28 0) 27 2) hM (iM_t0 hM) r1 kk hf1 hri (by omega) (by omega) rfl (fun k Q => law_283x (Or.inr rfl) z159) ?_
        intro X1 Y hi k Q
        rw [c _ _ _ _ _ _ _ _ hi.1, if_pos ⟨p1.1, p1.2, p2⟩, if_pos p3]
      · obtain ⟨K, hK⟩ : ∃ K : Nat, (I 31) = K := ⟨((I 31)).toNat, by omega⟩
        have hK4 : K < 40 := by omega
        have eK : ((I 31)).toNat = K := by omega
        have q40 : (I 31) < 40 := by omega
        have hz0 : ∀ a, n ≤ a → h0 a = none := fun a q => r1.2.2.2.2.2.2.2.2.2.2.2.2.2.2 a (by omega)
        have z92 := fun k Q => t4 h0 n k Q hn79
        have gr := rcp_r (fun j => rget (I 28) g j) ((I 28)).toNat
        have ge := rcp_tp g1 htp
        generalize hgg : rcp zer 0 (fun j => rget (I 28) g j) ((I 28)).toNat = gg at *
        generalize hmt : ((I 28)).toNat = mt at *
        have he : ∀ a e, h0 a = some e → rU h0 n (n + 1) mt (I 28) gg a = some e := by
          intro a e q
          have := hLt hz0 q
          rw [rU_ne (by omega) (by omega)]
          exact q
        have hz2 : ∀ y, n + 2 ≤ y → rU h0 n (n + 1) mt (I 28) gg y = none := fun y hy => by
          rw [rU_ne (by omega) (by omega)]
          exact hz0 y (by omega)
        have cr : rU h0 n (n + 1) mt (I 28) gg n = some (mO 7 [.ref (n + 1), .int (iI (I 28))]) := rU_r
        have cp : rU h0 n (n + 1) mt (I 28) gg (n + 1) = some (mI mt (fun j => iI (gg j))) := rU_p (by omega)
        have hel : ∀ a, a < n → rU h0 n (n + 1) mt (I 28) gg a = h0 a := fun a q => rU_ne (by omega) (by omega)
        have r2 := rst_ext (m := n + 2) he hz2 r1
        obtain ⟨ow, ho⟩ := r1.2.2.2.2.2.2.2.2.2.2.2.2.2.1
        have ho2 : oW (ndT ow n K) P1 (updI I 28 0) A fa W := oW_ext r1 (fun a e q => by
          have := hLt hz0 q
          unfold ndT
          rw [if_pos this]) ho
        generalize rU h0 n (n + 1) mt (I 28) gg = h1a at *
        obtain ⟨p3', cap', ng', n', d, z67, a1, a2, a3, a4, a5⟩ := d67 (I := I1) (A := A) (P := P1) (R := R) (o := o) (h0 := h1a) (n := n + 2) (s := s) (q := q) (c := (I 31)) (t := n) (cap := cap) (ng := ng) hb (by omega) r2.2.2.2.2.2.2.2.2.2.2.2.1 r2.2.1.1.2.1.2 r2.2.1.1.1.1 e18 (by omega) (by omega) hz2 (fun i hi => by
          have hi' : (i : Int) < (updI I 28 0) 31 := hi
          have hd := (r2.2.1.1.2.2.2.2 i (Or.inl hi')).1.1
          exact ⟨W 0 i 0, _, _, r2.2.1.1.2.2.2.1 i hi', hd.1.1, hd.2.2⟩)
        have z159 : ∀ k Q, mX G 159 0 [.ref b, .int (iI s), .int (iI q), mU] [] (wH h0 b I A P R o) n k Q ↔ Q (.inl (some (.int (iI (I 31)))), wH (mUp (ndW h1a (n + 2) (I 31) s q n) p3' (mA 4 cap' ng')) b (updI (updI I1 17 (I1 17 + 1)) 18 ((I 31) + 1)) A (upP P1 3 p3') R o, n', k + (2 + mt + d)) := by
          intro k Q
          rw [st k Q]
          generalize mUp (ndW h1a (n + 2) (I 31) s q n) p3' (mA 4 cap' ng') = hh at *
          simp only [Nat.add_assoc] at z92
          simp (maxSteps := 1000000) (disch := first | omega | (simp only [updI_at, upA_at, Nat.reduceEqDiff, reduceIte]; omega) | exact mIsRef_rf _ | exact rfl) only [↓s159_0, ↓s159_1, ↓s159_4, ↓s159_5, ↓s159_6, ↓s159_9, ↓s159_10, ↓s159_12, ↓s159_15, ↓s159_16, ↓s159_19, ↓s159_22, ↓s159_25, ↓s159_32, ↓s159_33, ↓s159_36, ↓s159_38, ↓s159_41, ↓s159_44, ↓s159_51, ↓s159_52, ↓s159_55, ↓s159_58, ↓s159_60, ↓s159_63, ↓s159_66, ↓s159_73, ↓s159_74, ↓s159_77, ↓s159_78, ↓s159_79, ↓s159_80, ↓s159_83r, ↓s159_86, iL_100, iL_40, iL_7, wc_0, wc_1, wc_12, wc_14, wc_17, wc_29, wc_31, wc_39, wc_4, wc_41, wg_0_5, mN1_int, mN1_ref, mN1_null, mN1_U, mN1_rf, mCats_nil, mCats_int, mCats_ref, mCats_null, mCats_long, mCats_rf, mIsRef_ref, mIsRef_null, mIsRef_va, mRf_ref, mRf_null, mRf_rf, true_and, and_true, true_or, or_true, eq_self_iff_true, mK_v, mK_0, Nat.reduceAdd, Nat.reduceLeDiff, Nat.zero_le, iL_0, iL_1, iL_m1, iI_add, iI_sub, iI_mul, iI_neg, updI_at, upA_at, upP_at, upR_at, Nat.reduceEqDiff, reduceIte, Int.reduceAdd, Int.reduceSub, Int.reduceMul, Int.reduceDiv, Int.reduceMod, Int.reduceLT, Int.reduceLE, Int.reduceEq, Int.reduceNeg, not_true_eq_false, not_false_eq_true, Decidable.not_not, t1, t3 _ _ _ _ _ _, z63, iI_eq, iI_lt, iI_le, p2, q40, z92, z67, Nat.add_assoc]
        have hP3n : P1 3 < n := by
          rcases r1.2.2.2.2.2.2.2.2.2.2.2.1 with ⟨w1, w2, f, w3⟩ | ⟨w1, w2, w3⟩
          · exact hLt hz0 w3
          · exact hLt hz0 w3
        have hp3n : (p3' = P1 3 ∧ p3' < n) ∨ p3' = n + 7 := by
          rcases a1 with ⟨e, e2, e3⟩ | ⟨e, e2⟩
          · exact Or.inl ⟨e, by omega⟩
          · exact Or.inr (by omega)
        have tp3 : ndT ow n K p3' = 20001 := by
          rcases hp3n with ⟨e, e2⟩ | e
          · rw [e]; exact ho2.2.2.2
          · unfold ndT
            rw [if_neg (by omega), if_neg (by omega), if_neg (by omega), if_neg (by omega), if_neg (by omega), if_neg (by omega), if_neg (by omega), if_neg (by omega)]
        have hn' : n + 7 ≤ n' ∧ n' ≤ n + 8 ∧ p3' < n' := by
          rcases a1 with ⟨e, e2, e3⟩ | ⟨e, e2⟩ <;> omega
        have hlow : ∀ y, y < n → y ≠ p3' → mUp (ndW h1a (n + 2) (I 31) s q n) p3' (mA 4 cap' ng') y = h0 y := by
          intro y w1 w2
          rw [mUp_ne w2, ndW_ne (by omega), hel y w1]
        have hC3 : mUp (ndW h1a (n + 2) (I 31) s q n) p3' (mA 4 cap' ng') p3' = some (mA 4 cap' ng') := mUp_same _ _ _
        have hr0 : mUp (ndW h1a (n + 2) (I 31) s q n) p3' (mA 4 cap' ng') n = some (mO 7 [.ref (n + 1), .int (iI (I 28))]) := by rw [mUp_ne (by omega), ndW_ne (by omega)]; exact cr
        have hr1' : mUp (ndW h1a (n + 2) (I 31) s q n) p3' (mA 4 cap' ng') (n + 1) = some (mI mt (fun j => iI (gg j))) := by rw [mUp_ne (by omega), ndW_ne (by omega)]; exact cp
        have hN0 : mUp (ndW h1a (n + 2) (I 31) s q n) p3' (mA 4 cap' ng') (n + 2) = some (mO 4 [.int (iI (I 31)), .int (iI s), .int (iI q), .ref (n + 2 + 1), .ref (n + 2 + 2), .ref (n + 2 + 3), .ref (n + 2 + 4), .int (iI 0), .ref n, .null, .int (iI 0), .int (iI 255)]) := by rw [mUp_ne (by omega)]; exact ndW_0
        have hN1 : mUp (ndW h1a (n + 2) (I 31) s q n) p3' (mA 4 cap' ng') (n + 3) = some (mI 4 (fun j => iI (cpE zer (fun _ => -1) 0 4 j))) := by rw [mUp_ne (by omega)]; exact ndW_1
        have hN2 : mUp (ndW h1a (n + 2) (I 31) s q n) p3' (mA 4 cap' ng') (n + 3 + 1) = some (mI (rmS s) (fun _ => iI 0)) := by rw [mUp_ne (by omega)]; exact ndW_2
        have hN3 : mUp (ndW h1a (n + 2) (I 31) s q n) p3' (mA 4 cap' ng') (n + 3 + 2) = some (mI (rmS s) (fun _ => iI 0)) := by rw [mUp_ne (by omega)]; exact ndW_3
        have hN4 : mUp (ndW h1a (n + 2) (I 31) s q n) p3' (mA 4 cap' ng') (n + 3 + 3) = some (mA 3 (rmS s) (fun _ => none)) := by rw [mUp_ne (by omega)]; exact ndW_4
        have hz3 : ∀ y, n' ≤ y → mUp (ndW h1a (n + 2) (I 31) s q n) p3' (mA 4 cap' ng') y = none := by
          intro y hy
          rw [mUp_ne (by omega), ndW_ne (by omega)]
          exact hz2 y (by omega)
        generalize mUp (ndW h1a (n + 2) (I 31) s q n) p3' (mA 4 cap' ng') = h3 at *
        have ha3 : ∀ y e, ndT ow n K y ≠ 20001 → h0 y = some e → h3 y = some e := by
          intro y e w1 w2
          rw [hlow y (hLt hz0 w2) (fun w => w1 (by rw [w]; exact tp3))]
          exact w2
        have hst : stc h0 h3 := by
          intro y k N f hk w2
          rw [hlow y (hLt hz0 w2) ?_]
          · exact w2
          · intro w
            rcases a1 with ⟨e, e2, e3⟩ | ⟨e, e2⟩
            · have lt := hLt hz0 w2
              rw [← w, hel y lt, w2] at e3
              cases e3
            · have lt := hLt hz0 w2
              omega
        obtain ⟨⟨b1, b1'⟩, b2, b3, b4, b5, b6, b7, b8, b9, b10, b11, z1, z2, z3, z4⟩ := id r1
        have iK : (A 32) K = 0 := hM.2.2.2.1.2.2.2.1 K hK4 (Or.inl (by omega))
        have K40 : ¬ K = 40 := by omega
        have eF0 : nF (ndB I A s q) K 0 = (I 31) := by
          show (if K = 40 then -1 else (K : Int)) = (I 31)
          rw [if_neg K40, hK]
        have eF1 : nF (ndB I A s q) K 1 = s := by
          show (if K = 40 then 8 else upE (A 24) ((I 31)).toNat s K) = s
          rw [if_neg K40, eK, upE_same]
        have eF2 : nF (ndB I A s q) K 2 = q := by
          show (if K = 40 then 0 else upE (A 25) ((I 31)).toNat q K) = q
          rw [if_neg K40, eK, upE_same]
        have eF7 : nF (ndB I A s q) K 7 = 0 := iK
        have eF10 : nF (ndB I A s q) K 10 = 0 := by
          show (if K = 40 then 0 else upE (A 26) ((I 31)).toNat 0 K) = 0
          rw [if_neg K40, eK, upE_same]
        have eF11 : nF (ndB I A s q) K 11 = 255 := by
          show (if K = 40 then 255 else upE (A 27) ((I 31)).toNat 255 K) = 255
          rw [if_neg K40, eK, upE_same]
        have efl : nfl fa (ndB I A s q) K = none := by
          show (if K = 40 then none else rfV fa (upE (A 28) ((I 31)).toNat (-1) K)) = none
          rw [if_neg K40, eK, upE_same]
          rfl
        have erm : rmN (ndB I A s q) K = rmS s := by
          show (if K = 40 ∨ upE (A 24) ((I 31)).toNat s K = 2 then 5 else 0) = if s = 2 ∨ s = 8 then 5 else 0
          rw [eK, upE_same]
          by_cases w : s = 2
          · rw [if_pos (Or.inr w), if_pos (Or.inl w)]
          · rw [if_neg (by omega), if_neg (by omega)]
        have etl : tln (updI (updI (updI I 27 0) 28 0) 31 ((I 31) + 1)) (ndB I A s q) K = (I 28) := by
          show (if K = 40 then _ else upE (A 30) ((I 31)).toNat (I 28) K) = (I 28)
          rw [if_neg K40, eK, upE_same]
        have hr5 : rmS s ≤ 5 := by unfold rmS; split <;> omega
        have hrm : rst G h3 b (updI (updI I1 17 (I1 17 + 1)) 18 ((I 31) + 1)) A (upP (upP P1 3 p3') 4 n') R (updI (updI (updI I 27 0) 28 0) 31 ((I 31) + 1)) (ndB I A s q) fa fb fcap fg
            (upW W K (fun q j => if q = 0 then n + 2 else if q = 1 then n + 3 else if q = 3 then mt else n)) (upV V K (fun q j u => if q = 0 then cpE zer (fun _ => -1) 0 4 j else if q = 3 then gg j else 0)) (upX X K (fun _ => none)) cap' ng' := by
          have kf := keep_f3 ho2 ha3 b1
          refine ⟨⟨kf, b1'⟩, ⟨⟨⟨a5.2, fun _ => hC3⟩, ⟨a4.1.1, a4.2⟩, ?_, ?_, ?_⟩, rfl, ?_⟩, stc_T hst b3, b4, b5, ⟨b6.1, b6.2.1, ?_, b6.2.2.2⟩, b7, b8, b9, b10, b11, Or.inr ⟨a5.1, a4.1, hC3⟩, stc_Sc hst z2, ⟨ndT ow n K, ?_⟩, hz3⟩
          · rw [upW_ne (by omega)]
            exact b2.1.2.2.1
          · intro i hi
            have hi' : (i : Int) < (I 31) + 1 := hi
            by_cases w : i = K
            · subst w
              rw [upW_eq, ← eK]
              exact a3.2
            · rw [upW_ne w, a3.1 i (by omega)]
              exact b2.1.2.2.2.1 i (by show (i : Int) < (I 31); omega)
          · intro i hi
            have hi' : (i : Int) < (I 31) + 1 ∨ i = 40 := hi
            by_cases w : i = K
            · subst w
              refine ⟨?_, ?_, ?_, ?_⟩
              · rw [efl, erm, etl]
                simp only [upV_eq, upW_eq, upX_eq]
                show nN G h3 b (n + 2) (n + 3) n (rmS s) mt none (nF (ndB I A s q) i) (fun j => cpE zer (fun _ => -1) 0 4 j) (fun _ => 0) (fun _ => 0) (fun j => gg j) (fun _ => none) (I 28) (fun _ => n) (fun _ => n) (fun _ => 0) (fun _ _ => 0)
                refine ⟨⟨⟨Or.inr (Or.inl (by omega)), Or.inr (Or.inl (by omega)), Or.inr (Or.inl (by omega)), Or.inr (Or.inl (by omega)), Or.inr (Or.inl (by omega))⟩, ⟨by omega, by omega⟩, ?_⟩, ⟨hN1, hN2, hN3, hN4⟩, ⟨⟨Or.inr (Or.inl (by omega)), Or.inr (Or.inl (by omega))⟩, hr0, hr1'⟩, ?_, ⟨⟨by omega, hr5⟩, ⟨by omega, by omega⟩, p2, ?_⟩, ?_, gr, fun _ => by show (0 : Int) ≤ 0 ∧ (0 : Int) ≤ 255; omega⟩
                · rw [hN0, eF0, eF1, eF2, eF7, eF10, eF11]
                  rfl
                · intro j hj
                  rw [eF7] at hj
                  omega
                · rw [eF7]
                  omega
                · rw [eF1, eF2, eF10, eF11]
                  omega
              · intro j hj
                rw [upV_eq, if_pos rfl, if_neg K40]
                show cpE zer (fun _ => -1) 0 4 j = putL (A 29) (4 * (I 31)) [-1, -1, -1, -1] (4 * i + j)
                rw [hK, putL_4, if_pos (by omega)]
                unfold cpE
                rw [if_pos (by omega)]
              · intro j hj
                have hj' : (j : Int) < (A 32) i := hj
                omega
              · intro u hu
                rw [etl] at hu
                rw [upV_eq, if_neg K40]
                show gg u = cpE (A 31) (A 14) (100 * (I 31)) (I 28) (100 * i + u)
                rw [ge u hu]
                unfold cpE
                rw [if_pos (by omega)]
                congr 1
                omega
            · have hi2 : (i : Int) < (I 31) ∨ i = 40 := by omega
              have i5 := n3 i (by omega)
              refine dN1_up w (dN1_cg (J := updI I 28 0) (B := A) ?_ ?_ ?_ ?_ ?_ rfl (fun j hj => ⟨⟨rfl, rfl, rfl⟩, fun u hu => rfl⟩) ?_ (keep_n3 ho2 (by omega) ha3 hi2 n1.2 i5 (b2.1.2.2.2.2 i hi2)))
              · unfold nF
                show (fun j => if j = 0 then (if i = 40 then -1 else (i : Int)) else if j = 1 then (if i = 40 then 8 else upE (A 24) ((I 31)).toNat s i) else if j = 2 then (if i = 40 then 0 else upE (A 25) ((I 31)).toNat q i) else if j = 7 then (A 32) i else if j = 10 then (if i = 40 then 0 else upE (A 26) ((I 31)).toNat 0 i) else if j = 11 then (if i = 40 then 255 else upE (A 27) ((I 31)).toNat 255 i) else 0) = _
                rw [eK, upE_ne w, upE_ne w, upE_ne w, upE_ne w]
              · show (if i = 40 ∨ upE (A 24) ((I 31)).toNat s i = 2 then 5 else 0) = if i = 40 ∨ (A 24) i = 2 then 5 else 0
                rw [eK, upE_ne w]
              · show (if i = 40 then (I 32) else upE (A 30) ((I 31)).toNat (I 28) i) = if i = 40 then (I 32) else (A 30) i
                rw [eK, upE_ne w]
              · show (if i = 40 then none else rfV fa (upE (A 28) ((I 31)).toNat (-1) i)) = if i = 40 then none else rfV fa ((A 28) i)
                rw [eK, upE_ne w]
              · intro j hj
                show putL (A 29) (4 * (I 31)) [-1, -1, -1, -1] (4 * i + j) = (A 29) (4 * i + j)
                rw [hK, putL_4, if_neg (by omega)]
              · intro u hu
                by_cases w4 : i = 40
                · rw [if_pos w4, if_pos w4]
                  rfl
                · have hu' : (u : Int) < if i = 40 then (I 32) else (A 30) i := hu
                  rw [if_neg w4] at hu'
                  have l100 := (hM.2.2.2.1.2.1 i (by omega)).2.2.2.2.2.1
                  rw [if_neg w4, if_neg w4]
                  show cpE (A 31) (A 14) (100 * (I 31)) (I 28) (100 * i + u) = (A 31) (100 * i + u)
                  unfold cpE
                  rw [if_neg (by omega)]
          · intro x hx i hi
            have hi' : (i : Int) < (I 31) + 1 ∨ i = 40 := hi
            have lt := hLt hz0 (b1.2.2.1 x hx).2.1.2.2
            by_cases w : i = K
            · subst w
              simp only [upW_eq]
              show (fa x + 1 ≠ n + 3 ∧ fa x + 1 ≠ n + 3 + 1 ∧ fa x + 1 ≠ n + 3 + 2) ∧ fa x ≠ n ∧ (∀ j : Nat, fa x ≠ n)
              exact ⟨⟨by omega, by omega, by omega⟩, by omega, fun _ => by omega⟩
            · simp only [upW_ne w]
              exact b2.2.2 x hx i (by show (i : Int) < (I 31) ∨ i = 40; omega)
          · have b63 := b6.2.2.1
            have nn := hM.2.2.2.2.1.2.2.2.2.1
            have nk := hM.2.2.2.2.1.2.2.2.1
            unfold cuR at b63 ⊢
            show R 2 = if (I 41) = 0 then none else some (upW W K _ 0 ((I 42)).toNat 0)
            have b64 : R 2 = if (I 41) = 0 then none else some (W 0 ((I 42)).toNat 0) := b63
            rw [b64]
            by_cases w : (I 41) = 0
            · rw [if_pos w, if_pos w]
            · have := nn w
              rw [if_neg w, if_neg w, upW_ne (by omega)]
          · obtain ⟨y1, y2, y3⟩ := ho2
            refine ⟨y1, ?_, y3.1, tp3⟩
            intro i hi
            have hi' : (i : Int) < (I 31) + 1 ∨ i = 40 := hi
            by_cases w : i = K
            · subst w
              simp only [upW_eq]
              show ndT ow n i (n + 2) = 100 * i ∧ (ndT ow n i (n + 3) = 100 * i + 10 ∧ ndT ow n i (n + 3 + 1) = 100 * i + 20 ∧ ndT ow n i (n + 3 + 2) = 100 * i + 30 ∧ ndT ow n i (n + 3 + 3) = 100 * i + 40) ∧ (ndT ow n i n = 100 * i + 50 ∧ ndT ow n i (n + 1) = 100 * i + 51) ∧ (∀ j : Nat, (j : Int) < (A 32) i → _)
              have tt := ndT_t ow n i
              exact ⟨tt.1, tt.2.1, tt.2.2, fun j hj => by omega⟩
            · simp only [upW_ne w]
              exact y2 i (by show (i : Int) < (I 31) ∨ i = 40; omega)
        have hfW : fre (upP (upP P1 3 p3') 4 n') b n' (upW W K (fun q j => if q = 0 then n + 2 else if q = 1 then n + 3 else if q = 3 then mt else n)) := by
          refine ⟨by omega, rfl, ?_⟩
          intro i j
          have := hf.2.2 i j
          by_cases w : i = K
          · subst w
            rw [upW_eq]
            show n < n'
            omega
          · rw [upW_ne w]
            omega
        have hbb : ∀ j, 0 ≤ cpE (A 31) (A 14) (100 * (I 31)) (I 28) j ∧ cpE (A 31) (A 14) (100 * (I 31)) (I 28) j ≤ 255 := cpE_P (p := fun x => 0 ≤ x ∧ x ≤ 255) hM.2.2.2.1.2.2.2.2.2.2.2.2.1 htp
        have iN : iM (updI (updI (updI I 27 0) 28 0) 31 ((I 31) + 1)) (ndB I A s q) := iM_node (K := ((I 31)).toNat) hM (by omega) (by omega) p1.1 p1.2 ⟨ht.1, p2⟩ hbb (fun u => by rw [eK, hK, putL_4])
        obtain ⟨A2, e1, e2, e3⟩ := op_end (o := vp_updL o 0 (iI (I 31)).toInt64) hrm (kpM_I (kpM_I kk (by decide)) (by decide)) hM iN hfW hri
        refine ⟨0, (I 31), n', 2 + mt + d, h3, _, A, upP (upP P1 3 p3') 4 n', R, _, _, _, ⟨by omega, by omega⟩, fun k Q => law_283 hb z159, stc_Sc hst z2, ?_, ⟨rfl, by omega⟩, fun _ => vp_0 _ _, e3⟩
        intro k Q
        dsimp only
        rw [e1, c _ _ _ _ _ _ _ _ e2.1, if_pos ⟨p1.1, p1.2, p2⟩, if_neg p3]
        exact Iff.rfl
    · have z159 : ∀ k Q, mX G 159 0 [.ref b, .int (iI s), .int (iI q), mU] [] (wH h0 b I A P R o) n k Q ↔ Q (.inr 1, wH h0 b I1 A P1 R o, n + 1, k + 6) := by
        intro k Q
        rw [st k Q]
        simp (maxSteps := 1000000) (disch := first | omega | (simp only [updI_at, upA_at, Nat.reduceEqDiff, reduceIte]; omega) | exact mIsRef_rf _ | exact rfl) only [↓s159_0, ↓s159_1, ↓s159_4, ↓s159_5, ↓s159_6, ↓s159_9, ↓s159_10, ↓s159_12, ↓s159_15, ↓s159_16, ↓s159_19, ↓s159_22, ↓s159_25, ↓s159_32, ↓s159_33, ↓s159_36, ↓s159_38, ↓s159_41, ↓s159_44, ↓s159_51, ↓s159_52, ↓s159_55, ↓s159_58, ↓s159_60, ↓s159_63, ↓s159_66, ↓s159_73, ↓s159_74, ↓s159_77, ↓s159_78, ↓s159_79, ↓s159_80, ↓s159_83r, ↓s159_86, iL_100, iL_40, iL_7, wc_0, wc_1, wc_12, wc_14, wc_17, wc_29, wc_31, wc_39, wc_4, wc_41, wg_0_5, mN1_int, mN1_ref, mN1_null, mN1_U, mN1_rf, mCats_nil, mCats_int, mCats_ref, mCats_null, mCats_long, mCats_rf, mIsRef_ref, mIsRef_null, mIsRef_va, mRf_ref, mRf_null, mRf_rf, true_and, and_true, true_or, or_true, eq_self_iff_true, mK_v, mK_0, Nat.reduceAdd, Nat.reduceLeDiff, Nat.zero_le, iL_0, iL_1, iL_m1, iI_add, iI_sub, iI_mul, iI_neg, updI_at, upA_at, upP_at, upR_at, Nat.reduceEqDiff, reduceIte, Int.reduceAdd, Int.reduceSub, Int.reduceMul, Int.reduceDiv, Int.reduceMod, Int.reduceLT, Int.reduceLE, Int.reduceEq, Int.reduceNeg, not_true_eq_false, not_false_eq_true, Decidable.not_not, t1, t3 _ _ _ _ _ _, iI_eq, iI_lt, iI_le, p2]
      refine op_thr (o := o) (v := 1) (J := updI (updI I 28 0) 27 1) hM (iM_t0 hM) r1 kk hf1 hri (by omega) (by omega) rfl (fun k Q => law_283x (Or.inl rfl) z159) ?_
      intro X1 Y hi k Q
      rw [c _ _ _ _ _ _ _ _ hi.1, if_neg (fun t => p2 t.2.2)]
  · have z159 : ∀ k Q, mX G 159 0 [.ref b, .int (iI s), .int (iI q), mU] [] (wH h0 b I A P R o) n k Q ↔ Q (.inr 1, wH h0 b I1 A P1 R o, n + 1, k + 6) := by
      intro k Q
      by_cases w1 : s < 0
      · simp (maxSteps := 1000000) (disch := first | omega | (simp only [updI_at, upA_at, Nat.reduceEqDiff, reduceIte]; omega) | exact mIsRef_rf _ | exact rfl) only [↓s159_0, ↓s159_1, ↓s159_4, ↓s159_5, ↓s159_6, ↓s159_9, ↓s159_10, ↓s159_12, ↓s159_15, ↓s159_16, ↓s159_19, ↓s159_22, ↓s159_25, ↓s159_32, ↓s159_33, ↓s159_36, ↓s159_38, ↓s159_41, ↓s159_44, ↓s159_51, ↓s159_52, ↓s159_55, ↓s159_58, ↓s159_60, ↓s159_63, ↓s159_66, ↓s159_73, ↓s159_74, ↓s159_77, ↓s159_78, ↓s159_79, ↓s159_80, ↓s159_83r, ↓s159_86, iL_100, iL_40, iL_7, wc_0, wc_1, wc_12, wc_14, wc_17, wc_29, wc_31, wc_39, wc_4, wc_41, wg_0_5, mN1_int, mN1_ref, mN1_null, mN1_U, mN1_rf, mCats_nil, mCats_int, mCats_ref, mCats_null, mCats_long, mCats_rf, mIsRef_ref, mIsRef_null, mIsRef_va, mRf_ref, mRf_null, mRf_rf, true_and, and_true, true_or, or_true, eq_self_iff_true, mK_v, mK_0, Nat.reduceAdd, Nat.reduceLeDiff, Nat.zero_le, iL_0, iL_1, iL_m1, iI_add, iI_sub, iI_mul, iI_neg, updI_at, upA_at, upP_at, upR_at, Nat.reduceEqDiff, reduceIte, Int.reduceAdd, Int.reduceSub, Int.reduceMul, Int.reduceDiv, Int.reduceMod, Int.reduceLT, Int.reduceLE, Int.reduceEq, Int.reduceNeg, not_true_eq_false, not_false_eq_true, Decidable.not_not, zt, iI_eq, iI_lt, w1]
      · by_cases w2 : 7 < s
        · simp (maxSteps := 1000000) (disch := first | omega | (simp only [updI_at, upA_at, Nat.reduceEqDiff, reduceIte]; omega) | exact mIsRef_rf _ | exact rfl) only [↓s159_0, ↓s159_1, ↓s159_4, ↓s159_5, ↓s159_6, ↓s159_9, ↓s159_10, ↓s159_12, ↓s159_15, ↓s159_16, ↓s159_19, ↓s159_22, ↓s159_25, ↓s159_32, ↓s159_33, ↓s159_36, ↓s159_38, ↓s159_41, ↓s159_44, ↓s159_51, ↓s159_52, ↓s159_55, ↓s159_58, ↓s159_60, ↓s159_63, ↓s159_66, ↓s159_73, ↓s159_74, ↓s159_77, ↓s159_78, ↓s159_79, ↓s159_80, ↓s159_83r, ↓s159_86, iL_100, iL_40, iL_7, wc_0, wc_1, wc_12, wc_14, wc_17, wc_29, wc_31, wc_39, wc_4, wc_41, wg_0_5, mN1_int, mN1_ref, mN1_null, mN1_U, mN1_rf, mCats_nil, mCats_int, mCats_ref, mCats_null, mCats_long, mCats_rf, mIsRef_ref, mIsRef_null, mIsRef_va, mRf_ref, mRf_null, mRf_rf, true_and, and_true, true_or, or_true, eq_self_iff_true, mK_v, mK_0, Nat.reduceAdd, Nat.reduceLeDiff, Nat.zero_le, iL_0, iL_1, iL_m1, iI_add, iI_sub, iI_mul, iI_neg, updI_at, upA_at, upP_at, upR_at, Nat.reduceEqDiff, reduceIte, Int.reduceAdd, Int.reduceSub, Int.reduceMul, Int.reduceDiv, Int.reduceMod, Int.reduceLT, Int.reduceLE, Int.reduceEq, Int.reduceNeg, not_true_eq_false, not_false_eq_true, Decidable.not_not, zt, iI_eq, iI_lt, w1, w2]
        · have w3 : ¬ (0 ≤ q ∧ q ≤ 255) := by omega
          simp only [bI_f w3] at z174
          simp (maxSteps := 1000000) (disch := first | omega | (simp only [updI_at, upA_at, Nat.reduceEqDiff, reduceIte]; omega) | exact mIsRef_rf _ | exact rfl) only [↓s159_0, ↓s159_1, ↓s159_4, ↓s159_5, ↓s159_6, ↓s159_9, ↓s159_10, ↓s159_12, ↓s159_15, ↓s159_16, ↓s159_19, ↓s159_22, ↓s159_25, ↓s159_32, ↓s159_33, ↓s159_36, ↓s159_38, ↓s159_41, ↓s159_44, ↓s159_51, ↓s159_52, ↓s159_55, ↓s159_58, ↓s159_60, ↓s159_63, ↓s159_66, ↓s159_73, ↓s159_74, ↓s159_77, ↓s159_78, ↓s159_79, ↓s159_80, ↓s159_83r, ↓s159_86, iL_100, iL_40, iL_7, wc_0, wc_1, wc_12, wc_14, wc_17, wc_29, wc_31, wc_39, wc_4, wc_41, wg_0_5, mN1_int, mN1_ref, mN1_null, mN1_U, mN1_rf, mCats_nil, mCats_int, mCats_ref, mCats_null, mCats_long, mCats_rf, mIsRef_ref, mIsRef_null, mIsRef_va, mRf_ref, mRf_null, mRf_rf, true_and, and_true, true_or, or_true, eq_self_iff_true, mK_v, mK_0, Nat.reduceAdd, Nat.reduceLeDiff, Nat.zero_le, iL_0, iL_1, iL_m1, iI_add, iI_sub, iI_mul, iI_neg, updI_at, upA_at, upP_at, upR_at, Nat.reduceEqDiff, reduceIte, Int.reduceAdd, Int.reduceSub, Int.reduceMul, Int.reduceDiv, Int.reduceMod, Int.reduceLT, Int.reduceLE, Int.reduceEq, Int.reduceNeg, not_true_eq_false, not_false_eq_true, Decidable.not_not, zt, z174, iI_eq, iI_lt, w1, w2]
    refine op_thr (o := o) (v := 1) (J := updI (updI I 28 0) 27 1) hM (iM_t0 hM) r1 kk hf1 hri (by omega) (by omega) rfl (fun k Q => law_283x (Or.inl rfl) z159) ?_
    intro X1 Y hi k Q
    rw [c _ _ _ _ _ _ _ _ hi.1, if_neg (fun t => p1 ⟨t.1, t.2.1⟩)]
end
end MNODE3
