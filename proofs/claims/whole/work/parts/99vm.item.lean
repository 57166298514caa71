/-! The call: item. -/
section MITEM
variable {G : mG} {h h0 : mH} {n k b : Nat} {Q : mR → Prop} {I : Nat → Int} {A : Nat → Nat → Int} {P : Nat → Nat} {R : Nat → Option Nat} {o : Nat → Int64}
section
variable {p w t rm : Nat} {fl : Option Nat} {F gw gi gt : Nat → Int} {gx : Nat → Option Nat}
def itW (h0 : mH) (p w rm t : Nat) (fl : Option Nat) (F gi gt : Nat → Int) (gx : Nat → Option Nat) (x : Int) (y : Nat) : mH := mUp (mUp (mUp (mUp h0 (w + 1) (mI rm (fun j => iI (upE gi (F 7).toNat x j)))) (w + 2) (mI rm (fun j => iI (upE gt (F 7).toNat (-1) j)))) (w + 3) (mA 3 rm (va_up gx (F 7).toNat (some y)))) p (nOb w t fl (upE F 7 (F 7 + 1)))
theorem d48 {x : Int} {y : Nat} {fs : List Value} (hn : nO G h0 b p w t fl F) (ha : nA h0 w rm gw gi gt gx) (h7 : 0 ≤ F 7 ∧ F 7 < rm) (hrm : rm ≤ 5) (hhy : hol b y) (hy : h0 y = some (mO 7 fs)) : mX G 48 0 [.ref p, .int (iI x), .ref y, mU] [] (wH h0 b I A P R o) n k Q ↔ Q (.inl none, wH (itW h0 p w rm t fl F gi gt gx x y) b I A P R o, n, k) := by
  have hp1 : p ≠ w + 1 := fun e => by have := hn.2.2; rw [e, ha.2.1] at this; cases this
  have hp2 : p ≠ w + 2 := fun e => by have := hn.2.2; rw [e, ha.2.2.1] at this; cases this
  have hp3 : p ≠ w + 3 := fun e => by have := hn.2.2; rw [e, ha.2.2.2] at this; cases this
  have hy1 : y ≠ w + 1 := fun e => by rw [e, ha.2.1] at hy; cases hy
  have hy2 : y ≠ w + 2 := fun e => by rw [e, ha.2.2.1] at hy; cases hy
  have hbw := hn.2.1.2
  unfold itW
  have zl4 := fun K => hLen (K := K) (ngi (I := I) (A := A) (P := P) (R := R) (o := o) hn ha)
  have zl5 := fun K => hLen (K := K) (ngt (I := I) (A := A) (P := P) (R := R) (o := o) hn ha)
  have zl6 := fun K => hLenA (K := K) (ngx (I := I) (A := A) (P := P) (R := R) (o := o) hn ha) (Or.inl rfl)
  have z1 := fun K => hSt (G := G) (K := K) (z := F 7) (x := x) (ngi (I := I) (A := A) (P := P) (R := R) (o := o) hn ha) (by omega) (by omega) h7.1 h7.2
  simp only [wH_put hn.1.2.2.1] at z1
  have hn1 : nO G (mUp h0 (w + 1) (mI rm (fun j => iI (upE gi (F 7).toNat x j)))) b p w t fl F := ⟨hn.1, hn.2.1, by rw [mUp_ne hp1]; exact hn.2.2⟩
  have ha1 : nA (mUp h0 (w + 1) (mI rm (fun j => iI (upE gi (F 7).toNat x j)))) w rm gw (upE gi (F 7).toNat x) gt gx := ⟨by rw [mUp_ne (by omega)]; exact ha.1, mUp_same _ _ _, by rw [mUp_ne (by omega)]; exact ha.2.2.1, by rw [mUp_ne (by omega)]; exact ha.2.2.2⟩
  have y1 : mUp h0 (w + 1) (mI rm (fun j => iI (upE gi (F 7).toNat x j))) y = some (mO 7 fs) := by rw [mUp_ne hy1]; exact hy
  generalize mUp h0 (w + 1) (mI rm (fun j => iI (upE gi (F 7).toNat x j))) = h1 at *
  generalize upE gi (F 7).toNat x = gi1 at *
  have z2 := fun K => hSt (G := G) (K := K) (z := F 7) (x := -1) (ngt (I := I) (A := A) (P := P) (R := R) (o := o) hn1 ha1) (by omega) (by omega) h7.1 h7.2
  simp only [wH_put hn.1.2.2.2.1] at z2
  have hn2 : nO G (mUp h1 (w + 2) (mI rm (fun j => iI (upE gt (F 7).toNat (-1) j)))) b p w t fl F := ⟨hn.1, hn.2.1, by rw [mUp_ne hp2]; exact hn1.2.2⟩
  have ha2 : nA (mUp h1 (w + 2) (mI rm (fun j => iI (upE gt (F 7).toNat (-1) j)))) w rm gw gi1 (upE gt (F 7).toNat (-1)) gx := ⟨by rw [mUp_ne (by omega)]; exact ha1.1, by rw [mUp_ne (by omega)]; exact ha1.2.1, mUp_same _ _ _, by rw [mUp_ne (by omega)]; exact ha1.2.2.2⟩
  have y2 : mUp h1 (w + 2) (mI rm (fun j => iI (upE gt (F 7).toNat (-1) j))) y = some (mO 7 fs) := by rw [mUp_ne hy2]; exact y1
  generalize mUp h1 (w + 2) (mI rm (fun j => iI (upE gt (F 7).toNat (-1) j))) = h2 at *
  generalize upE gt (F 7).toNat (-1) = gt1 at *
  have y2' : wH h2 b I A P R o y = some (mO 7 fs) := by rw [wH_hole hhy]; exact y2
  have z3 := fun K => hStA (G := G) (K := K) (z := F 7) (ngx (I := I) (A := A) (P := P) (R := R) (o := o) hn2 ha2) y2' (Or.inl ⟨rfl, rfl⟩) (by omega) (by omega) h7.1 h7.2
  simp only [wH_put hn.1.2.2.2.2] at z3
  have hn3 : nO G (mUp h2 (w + 3) (mA 3 rm (va_up gx (F 7).toNat (some y)))) b p w t fl F := ⟨hn.1, hn.2.1, by rw [mUp_ne hp3]; exact hn2.2.2⟩
  generalize mUp h2 (w + 3) (mA 3 rm (va_up gx (F 7).toNat (some y))) = h3 at *
  have z4 := fun K => np_7 (I := I) (A := A) (P := P) (R := R) (o := o) (K := K) (r := F 7 + 1) hn3
  generalize mUp h3 p (nOb w t fl (upE F 7 (F 7 + 1))) = h4 at *
  have c1 : ¬ F 7 < 0 := by omega
  have c2 : ¬ (rm : Int) ≤ F 7 := by omega
  simp (maxSteps := 1000000) (disch := first | omega | (simp only [updI_at, upA_at, Nat.reduceEqDiff, reduceIte]; omega) | exact mIsRef_rf _ | exact rfl) only [↓s48_0, ↓s48_1, ↓s48_4, ↓s48_5, ↓s48_6, ↓s48_9, ↓s48_10, ↓s48_11, ↓s48_14, ↓s48_15, ↓s48_18, ↓s48_19, ↓s48_20, ↓s48_23, ↓s48_24, ↓s48_27, ↓s48_28, ↓s48_29, ↓s48_32, ↓s48_33, ↓s48_36, ↓s48_37, ↓s48_40, ↓s48_41, ↓s48_42, ↓s48_43, ↓s48_44, ↓s48_47, ↓s48_48, ↓s48_49, ↓s48_50, ↓s48_51, ↓s48_54, ↓s48_55, ↓s48_56, ↓s48_57, ↓s48_58, ↓s48_59, ↓s48_62, ↓s48_63, ↓s48_64, ↓s48_67, mN1_int, mN1_ref, mN1_null, mN1_U, mN1_rf, mCats_nil, mCats_int, mCats_ref, mCats_null, mCats_long, mCats_rf, mIsRef_ref, mIsRef_null, mIsRef_va, mRf_ref, mRf_null, mRf_rf, true_and, and_true, true_or, or_true, eq_self_iff_true, mK_v, mK_0, Nat.reduceAdd, Nat.reduceLeDiff, Nat.zero_le, iL_0, iL_1, iL_m1, iI_add, iI_sub, iI_mul, iI_neg, updI_at, upA_at, upP_at, upR_at, Nat.reduceEqDiff, reduceIte, Int.reduceAdd, Int.reduceSub, Int.reduceMul, Int.reduceDiv, Int.reduceMod, Int.reduceLT, Int.reduceLE, Int.reduceEq, Int.reduceNeg, not_true_eq_false, not_false_eq_true, Decidable.not_not, ng_7 hn, ng_4 hn, ng_5 hn, ng_6 hn, zl4, zl5, zl6, iI_nI, iI_lt, iI_le, c1, c2, z1, ng_4 hn1, ng_5 hn1, z2, ng_6 hn2, z3, ng_7 hn3, z4]
end
theorem c194' {x y : Int} (hb : G.2.2.2 ≤ b) (hA : RgA A) (hx : -2147483648 ≤ x ∧ x < 2147483648) (hy : -2147483648 ≤ y ∧ y < 2147483648) (h1 : 0 ≤ (I 31) ∧ (I 31) ≤ 40) (h9 : 0 ≤ (I 28) ∧ (I 28) ≤ 300) (hf : ∀ r, r ≤ 40 → 0 ≤ (A 32) r ∧ (A 32) r ≤ 5) {r : Int} (hr : r = if x = -1 then 40 else x) :
    mX G 194 0 [.ref (b + 43), .int (iI x), .int (iI y), mU, mU, mU, mU] [] (wH h0 b I A P R o) n k Q ↔
      if x = -1 ∨ 0 ≤ x ∧ x ≤ (I 31) - 1 then
        if (x = -1 ∨ (A 24) x.toNat = 2) ∧ (1 ≤ y ∧ y ≤ 255) ∧ seek (fun j => (A 33) j.toNat = y) ((A 32) r.toNat).toNat (5 * r) < 0 ∧ (I 28) ≤ 20 then
          if (A 32) r.toNat = 5 then Q (.inl (some (.int (iI 0))), wH h0 b (updI (updI (updI I 27 0) 28 0) 27 3) A P R o, n, k)
          else Q (.inl (some (.int (iI ((A 32) r.toNat + 1)))), wH h0 b (updI (updI I 27 0) 28 0) (upA (upA (upA (upA (upA A 32 (upE (A 32) r.toNat ((A 32) r.toNat + 1))) 33 (upE (A 33) (5 * r + (A 32) r.toNat).toNat y)) 34 (upE (A 34) (5 * r + (A 32) r.toNat).toNat (-1))) 35 (upE (A 35) (5 * r + (A 32) r.toNat).toNat (I 28))) 36 (cpE (A 36) (A 14) (20 * (5 * r + (A 32) r.toNat)) (I 28))) P R o, n, k)
        else Q (.inl (some (.int (iI 0))), wH h0 b (updI (updI (updI I 27 0) 28 0) 27 2) A P R o, n, k)
      else Q (.inl (some (.int (iI 0))), wH h0 b (updI (updI (updI I 27 0) 28 0) 27 1) A P R o, n, k) := by
  rw [c194 hb hA hx hy h1 h9 hf, ← hr]
  by_cases p : x = -1 ∨ 0 ≤ x ∧ x ≤ (I 31) - 1
  · rw [if_pos p, if_pos p]
    have hr2 : 0 ≤ r ∧ r ≤ 40 := by rw [hr]; split <;> omega
    by_cases q : x = -1 ∨ (A 24) x.toNat = 2
    · rw [if_pos q, c194_b (I := updI (updI I 27 0) 28 0) hb hA hr2 hy h9 (hf r.toNat (by omega))]
      by_cases u : (1 ≤ y ∧ y ≤ 255) ∧ seek (fun j => (A 33) j.toNat = y) ((A 32) r.toNat).toNat (5 * r) < 0 ∧ (I 28) ≤ 20
      · have qu : (x = -1 ∨ (A 24) x.toNat = 2) ∧ (1 ≤ y ∧ y ≤ 255) ∧ seek (fun j => (A 33) j.toNat = y) ((A 32) r.toNat).toNat (5 * r) < 0 ∧ (I 28) ≤ 20 := ⟨q, u⟩
        rw [if_pos u, if_pos qu]
      · rw [if_neg u, if_neg (fun t => u t.2)]
    · rw [if_neg q, if_neg (fun t => q t.1)]
  · rw [if_neg p, if_neg p]
section
variable {fa : Nat → Nat} {fb : Nat → Nat → Int} {fcap : Nat} {fg : Nat → Option Nat} {W : Nat → Nat → Nat → Nat} {V : Nat → Nat → Nat → Nat → Int} {X : Nat → Nat → Option Nat} {cap : Nat} {ng : Nat → Option Nat} {h1 : mH}
theorem iM_item {xi : Nat} {y x : Int} {K : Nat} {g : Nat → Int} (h : iM I A) (hxi : (xi : Int) < (I 31) ∨ xi = 40) (hs : xi = 40 ∨ (A 24) xi = 2) (h5 : (A 32) xi < 5) (hK : (K : Int) = 5 * xi + (A 32) xi) (hy : 1 ≤ y ∧ y ≤ 255) (hx : 0 ≤ x ∧ x ≤ 20) (hg : ∀ j, 0 ≤ g j ∧ g j ≤ 255) : iM (updI (updI I 27 0) 28 0) (upA (upA (upA (upA (upA A 32 (upE (A 32) xi ((A 32) xi + 1))) 33 (upE (A 33) K y)) 34 (upE (A 34) K (-1))) 35 (upE (A 35) K x)) 36 g) := by
  obtain ⟨hA, hF, hH, ⟨n1, n2, n3, n4, n5, n6, n7, n8, n9, n10, n11⟩, hS, ⟨⟨t1, t2, t3⟩, t4⟩⟩ := h
  have ix := n3 xi (by omega)
  refine ⟨RgA_upA (RgA_upA (RgA_upA (RgA_upA (RgA_upA hA ?_) ?_) ?_) ?_) (fun j => by have := hg j; omega), hF, hH, ⟨n1, n2, ?_, ?_, ?_, n6, n7, n8, n9, hg, n11⟩, hS, ⟨⟨by show (0 : Int) ≤ 0 ∧ (0 : Int) ≤ 300; omega, t2, t3⟩, t4⟩⟩
  · exact fun j => upE_P (p := fun x => -2147483648 ≤ x ∧ x < 2147483648) (hA _) (by omega) j
  · exact fun j => upE_P (p := fun x => -2147483648 ≤ x ∧ x < 2147483648) (hA _) (by omega) j
  · exact fun j => upE_P (p := fun x => -2147483648 ≤ x ∧ x < 2147483648) (hA _) (by omega) j
  · exact fun j => upE_P (p := fun x => -2147483648 ≤ x ∧ x < 2147483648) (hA _) (by omega) j
  · intro z hz
    show 0 ≤ upE (A 32) xi ((A 32) xi + 1) z ∧ upE (A 32) xi ((A 32) xi + 1) z ≤ 5
    unfold upE
    split
    · omega
    · exact n3 z hz
  · intro z hz q
    have q' : (I 31) ≤ z ∨ ¬ (A 24) z = 2 := q
    show upE (A 32) xi ((A 32) xi + 1) z = 0
    have nz : ¬ z = xi := by
      intro e
      subst e
      omega
    rw [upE_ne nz]
    exact n4 z hz q'
  · intro z c q1 q2 q3
    have q3' : (c : Int) < 5 * z + upE (A 32) xi ((A 32) xi + 1) z := q3
    show (1 ≤ upE (A 33) K y c ∧ upE (A 33) K y c ≤ 255) ∧ (-1 ≤ upE (A 34) K (-1) c ∧ upE (A 34) K (-1) c < (I 31)) ∧ (0 ≤ upE (A 35) K x c ∧ upE (A 35) K x c ≤ 20)
    by_cases e : c = K
    · subst e
      rw [upE_same, upE_same, upE_same]
      omega
    · rw [upE_ne e, upE_ne e, upE_ne e]
      by_cases ez : z = xi
      · subst ez
        rw [upE_same] at q3'
        exact n5 z c q1 q2 (by omega)
      · rw [upE_ne ez] at q3'
        exact n5 z c q1 q2 q3'
theorem op_item {x y : Int} (hb : G.2.2.2 ≤ b) (hM : iM I A) (hr : rst G h0 b I A P R I A fa fb fcap fg W V X cap ng) (hf : fre P b n W) (hri : ri I A) (hx : -2147483648 ≤ x ∧ x < 2147483648) (hy : -2147483648 ≤ y ∧ y < 2147483648) :
    opX G b n 16 9000 (fun n k Q => mX G 284 0 [.ref b, .int (iI x), .int (iI y), .ref (b + 78), mU] [] (wH h0 b I A P R o) n k Q) (fun h n k Q => mX G 194 0 [.ref (b + 43), .int (iI x), .int (iI y), mU, mU, mU, mU] [] h n k Q) := by
  have ht := hM.2.2.2.2.2.1.1
  have htp := hM.2.2.2.2.2.2
  have n1 := hM.2.2.2.1.1
  have n3 := hM.2.2.2.1.2.2.1
  obtain ⟨r, I1, P1, g, zt, ⟨kk, kP⟩, r1, ⟨t1, t2, t3, t4⟩, g1, g2⟩ := tp_ok (o := o) hb hM hr
  have hf1 : fre P1 b n W := ⟨hf.1, by rw [kP]; exact hf.2.1, hf.2.2⟩
  have c := fun h1 P1 o n X1 Y k Q (hA : RgA (gm Y A)) => c194' (G := G) (h0 := h1) (n := n) (k := k) (Q := Q) (I := gl X1 I) (A := gm Y A) (P := P1) (R := R) (o := o) (x := x) (y := y) hb hA hx hy n1 ht n3 rfl
  simp (disch := decide) only [gl_at, gm_at, gl_up, gm_up, upd_t] at c
  have hn79 := hf.1
  have hP4 : P1 4 = n := hf1.2.1
  have z65 := fun k Q => d65 (n := n) (k := k) (Q := Q) (I := I1) (A := A) (R := R) (o := o) (z := x) r1.2.1.1 r1.2.1.2.1 n1 hx
  by_cases p1 : x = -1 ∨ 0 ≤ x ∧ x ≤ (I 31) - 1
  · obtain ⟨xi, hxi, e65, exi, eF1⟩ : ∃ xi : Nat, ((xi : Int) < (I 31) ∨ xi = 40) ∧ (if x = -1 then some (b + 19) else rnV (updI I 28 0) W x) = some (W 0 xi 0) ∧ (if x = -1 then (40 : Int) else x) = (xi : Int) ∧ ((x = -1 ∨ (A 24) x.toNat = 2) ↔ (xi = 40 ∨ (A 24) xi = 2)) := by
      by_cases e : x = -1
      · refine ⟨40, Or.inr rfl, ?_, ?_, ?_⟩
        · rw [if_pos e, r1.2.1.1.2.2.1]
        · rw [if_pos e]; rfl
        · exact ⟨fun _ => Or.inl rfl, fun _ => Or.inl e⟩
      · refine ⟨x.toNat, Or.inl (by omega), ?_, ?_, ?_⟩
        · rw [if_neg e]
          exact if_pos (by show 0 ≤ x ∧ x < (I 31); omega)
        · rw [if_neg e]; omega
        · constructor
          · rintro (w | w)
            · exact absurd w e
            · exact Or.inr w
          · rintro (w | w)
            · omega
            · exact Or.inr w
    rw [e65, va_some] at z65
    simp only [exi, Int.toNat_natCast] at c
    have ix := n3 xi (by omega)
    have hd := r1.2.1.1.2.2.2.2 xi hxi
    obtain ⟨hn, ha, hT, h5, hrest⟩ := id hd.1
    have eF : (nF A xi 1 = 2 ∨ nF A xi 1 = 8) ↔ (xi = 40 ∨ (A 24) xi = 2) := by
      by_cases e : xi = 40
      · subst e
        exact ⟨fun _ => Or.inl rfl, fun _ => Or.inr rfl⟩
      · have es : nF A xi 1 = (A 24) xi := by
          show (if xi = 40 then 8 else (A 24) xi) = (A 24) xi
          rw [if_neg e]
        have sr := (hM.2.2.2.1.2.1 xi (by omega)).1
        rw [es]
        omega
    have e7 : nF A xi 7 = (A 32) xi := rfl
    have z45 := fun k Q => d45 (n := n) (k := k) (Q := Q) (I := I1) (A := A) (P := P1) (R := R) (o := o) hn hrest.2.1.1
    have z47 := fun k Q => d47 (n := n) (k := k) (Q := Q) (I := I1) (A := A) (P := P1) (R := R) (o := o) (x := y) hn ha hrest.1.2.2.2.2 hrest.1.1.2 hrest.1.2.2.2.1 hrest.2.2.2 hy
    have z46 := fun k Q => d46 (n := n) (k := k) (Q := Q) (I := I1) (A := A) (P := P1) (R := R) (o := o) hn
    rw [e7] at z47 z46
    have si := seek_it (I := updI I 28 0) (y := y) hd ix.1
    have sr := seek_rng (fun j => V 1 xi j.toNat 0 = y) ((A 32) xi).toNat 0 (by omega)
    have si' : (seek (fun j => (A 33) j.toNat = y) ((A 32) xi).toNat (5 * (xi : Int)) < 0 ↔ seek (fun j => V 1 xi j.toNat 0 = y) ((A 32) xi).toNat 0 = -1) := by omega
    generalize seek (fun j => (A 33) j.toNat = y) ((A 32) xi).toNat (5 * (xi : Int)) = s2 at *
    generalize seek (fun j => V 1 xi j.toNat 0 = y) ((A 32) xi).toNat 0 = s1 at *
    by_cases p2 : (xi = 40 ∨ (A 24) xi = 2) ∧ (1 ≤ y ∧ y ≤ 255)
    · simp only [bI_t (eF.mpr p2.1)] at z45
      have q1 : ¬ y < 1 := by omega
      have q2 : y ≤ 255 := by omega
      have st : ∀ k Q, mX G 160 0 [.ref b, .int (iI x), .int (iI y), mU, mU] [] (wH h0 b I A P R o) n k Q ↔ mX G 160 60 [.ref b, .int (iI x), .int (iI y), .ref (b + r), .ref (W 0 xi 0)] [] (wH h0 b I1 A P1 R o) n k Q := by
        intro k Q
        simp (maxSteps := 1000000) (disch := first | omega | (simp only [updI_at, upA_at, Nat.reduceEqDiff, reduceIte]; omega) | exact mIsRef_rf _ | exact rfl) only [↓s160_0, ↓s160_1, ↓s160_4, ↓s160_5, ↓s160_6, ↓s160_9, ↓s160_10, ↓s160_13, ↓s160_15, ↓s160_17, ↓s160_20, ↓s160_23, ↓s160_30, ↓s160_32, ↓s160_35, ↓s160_38, ↓s160_39, ↓s160_40, ↓s160_43, ↓s160_44, ↓s160_47, ↓s160_50, ↓s160_53, ↓s160_62, ↓s160_63, ↓s160_66, ↓s160_67, ↓s160_70, ↓s160_71, ↓s160_74, ↓s160_76, ↓s160_79, ↓s160_82, ↓s160_89, ↓s160_91, ↓s160_94, ↓s160_95, ↓s160_98, ↓s160_101, ↓s160_108, ↓s160_110, ↓s160_111, ↓s160_112, ↓s160_115r, ↓s160_118, ↓s160_120, ↓s160_123, iL_20, iL_255, iL_5, wc_0, wc_1, wc_12, wc_14, wc_17, wc_29, wc_31, wc_39, wc_4, wc_41, wg_0_5, mN1_int, mN1_ref, mN1_null, mN1_U, mN1_rf, mCats_nil, mCats_int, mCats_ref, mCats_null, mCats_long, mCats_rf, mIsRef_ref, mIsRef_null, mIsRef_va, mRf_ref, mRf_null, mRf_rf, true_and, and_true, true_or, or_true, eq_self_iff_true, mK_v, mK_0, Nat.reduceAdd, Nat.reduceLeDiff, Nat.zero_le, iL_0, iL_1, iL_m1, iI_add, iI_sub, iI_mul, iI_neg, updI_at, upA_at, upP_at, upR_at, Nat.reduceEqDiff, reduceIte, Int.reduceAdd, Int.reduceSub, Int.reduceMul, Int.reduceDiv, Int.reduceMod, Int.reduceLT, Int.reduceLE, Int.reduceEq, Int.reduceNeg, not_true_eq_false, not_false_eq_true, Decidable.not_not, zt, z65, z45, ng_c hn, reduceCtorEq, iI_eq, iI_lt, iI_le, q1, q2]
      by_cases p3 : s1 = -1 ∧ (I 28) ≤ 20
      · by_cases p4 : (A 32) xi = 5
        · have z160 : ∀ k Q, mX G 160 0 [.ref b, .int (iI x), .int (iI y), mU, mU] [] (wH h0 b I A P R o) n k Q ↔ Q (.inr 2, wH h0 b I1 A P1 R o, n + 1, k + 6) := by
            intro k Q
            rw [st k Q]
            simp (maxSteps := 1000000) (disch := first | omega | (simp only [updI_at, upA_at, Nat.reduceEqDiff, reduceIte]; omega) | exact mIsRef_rf _ | exact rfl) only [↓s160_0, ↓s160_1, ↓s160_4, ↓s160_5, ↓s160_6, ↓s160_9, ↓s160_10, ↓s160_13, ↓s160_15, ↓s160_17, ↓s160_20, ↓s160_23, ↓s160_30, ↓s160_32, ↓s160_35, ↓s160_38, ↓s160_39, ↓s160_40, ↓s160_43, ↓s160_44, ↓s160_47, ↓s160_50, ↓s160_53, ↓s160_60, ↓s160_62, ↓s160_63, ↓s160_66, ↓s160_67, ↓s160_70, ↓s160_71, ↓s160_74, ↓s160_76, ↓s160_79, ↓s160_82, ↓s160_89, ↓s160_91, ↓s160_94, ↓s160_95, ↓s160_98, ↓s160_101, ↓s160_108, ↓s160_110, ↓s160_111, ↓s160_112, ↓s160_115r, ↓s160_118, ↓s160_120, ↓s160_123, iL_20, iL_255, iL_5, wc_0, wc_1, wc_12, wc_14, wc_17, wc_29, wc_31, wc_39, wc_4, wc_41, wg_0_5, mN1_int, mN1_ref, mN1_null, mN1_U, mN1_rf, mCats_nil, mCats_int, mCats_ref, mCats_null, mCats_long, mCats_rf, mIsRef_ref, mIsRef_null, mIsRef_va, mRf_ref, mRf_null, mRf_rf, true_and, and_true, true_or, or_true, eq_self_iff_true, mK_v, mK_0, Nat.reduceAdd, Nat.reduceLeDiff, Nat.zero_le, iL_0, iL_1, iL_m1, iI_add, iI_sub, iI_mul, iI_neg, updI_at, upA_at, upP_at, upR_at, Nat.reduceEqDiff, reduceIte, Int.reduceAdd, Int.reduceSub, Int.reduceMul, Int.reduceDiv, Int.reduceMod, Int.reduceLT, Int.reduceLE, Int.reduceEq, Int.reduceNeg, not_true_eq_false, not_false_eq_true, Decidable.not_not, z47, z46, t1, t3 _ _ _ _ _ _, ng_c hn, iI_eq, iI_lt, iI_le, p3.1, p3.2, p4]
          refine op_thr (o := o) (v := 3) (J := updI (updI I 28 0) 27 3) hM (iM_t0 hM) r1 kk hf1 hri (by omega) (by omega) rfl (fun k Q => law_284x (Or.inr (Or.inr rfl)) z160) ?_
          intro X1 Y hi k Q
          rw [c _ _ _ _ _ _ _ _ hi.1, if_pos p1, if_pos ⟨eF1.mpr p2.1, p2.2, si'.mpr p3.1, p3.2⟩, if_pos p4]
        · have q5 : (A 32) xi < 5 := by omega
          have hz0 : ∀ a, n ≤ a → h0 a = none := fun a q => r1.2.2.2.2.2.2.2.2.2.2.2.2.2.2 a (by omega)
          have z92 := fun k Q => t4 h0 n k Q hn79
          have gr := rcp_r (fun j => rget (I 28) g j) ((I 28)).toNat
          have ge := rcp_tp g1 htp
          generalize hgg : rcp zer 0 (fun j => rget (I 28) g j) ((I 28)).toNat = gg at *
          generalize hmt : ((I 28)).toNat = mt at *
          have he : ∀ a e, h0 a = some e → rU h0 n (n + 1) mt (I 28) gg a = some e := by
            intro a e q
            have := hLt hz0 q
            rw [rU_ne (by omega) (by omega)]
            exact q
          have hz2 : ∀ y, n + 2 ≤ y → rU h0 n (n + 1) mt (I 28) gg y = none := fun y hy => by
            rw [rU_ne (by omega) (by omega)]
            exact hz0 y (by omega)
          have cr : rU h0 n (n + 1) mt (I 28) gg n = some (mO 7 [.ref (n + 1), .int (iI (I 28))]) := rU_r
          have cp : rU h0 n (n + 1) mt (I 28) gg (n + 1) = some (mI mt (fun j => iI (gg j))) := rU_p (by omega)
          have r2 := rst_ext (m := n + 2) he hz2 r1
          obtain ⟨ow, ho⟩ := r1.2.2.2.2.2.2.2.2.2.2.2.2.2.1
          obtain ⟨cnt, hcnt⟩ : ∃ cnt : Nat, (A 32) xi = cnt := ⟨((A 32) xi).toNat, by omega⟩
          have ho2 : oW (fun y => if y = n then 100 * xi + 60 + cnt else if y = n + 1 then 100 * xi + 70 + cnt else ow y) P1 (updI I 28 0) A fa W := oW_ext r1 (fun a e q => by
            have := hLt hz0 q
            rw [if_neg (by omega), if_neg (by omega)]) ho
          have tn : (fun y => if y = n then 100 * xi + 60 + cnt else if y = n + 1 then 100 * xi + 70 + cnt else ow y) n = 100 * xi + 60 + cnt := if_pos rfl
          have tn1 : (fun y => if y = n then 100 * xi + 60 + cnt else if y = n + 1 then 100 * xi + 70 + cnt else ow y) (n + 1) = 100 * xi + 70 + cnt := by
            dsimp only
            rw [if_neg (by omega), if_pos rfl]
          generalize (fun y => if y = n then 100 * xi + 60 + cnt else if y = n + 1 then 100 * xi + 70 + cnt else ow y) = ow2 at *
          generalize rU h0 n (n + 1) mt (I 28) gg = h1a at *
          have ho3 : oW ow2 (upP P1 4 (n + 2)) (updI I 28 0) A fa W := ho2
          have hd2 := r2.2.1.1.2.2.2.2 xi hxi
          obtain ⟨hn2, ha2, hT2, h52, hrest2⟩ := id hd2.1
          obtain ⟨o0, ⟨o1, o2, o3, o4⟩, ⟨o5, o6⟩, o7⟩ := ho3.2.1 xi hxi
          have erm : rmN A xi = 5 := if_pos p2.1
          rw [erm] at ha2
          have z48 := fun k Q => d48 (n := n + 2) (k := k) (Q := Q) (I := I1) (A := A) (P := P1) (R := R) (o := o) (x := y) (y := n) hn2 ha2 (by rw [e7]; omega) (by omega) (Or.inr (Or.inl hn79)) cr
          have hku : stc h1a (itW h1a (W 0 xi 0) (W 1 xi 0) 5 (W 2 xi 0) (nfl fa A xi) (nF A xi) (fun j => V 1 xi j 0) (fun j => V 2 xi j 0) (X xi) y n) := stc_up (stc_up (stc_up (stc_up (fun _ _ _ _ _ q => q) ha2.2.1 (fun k N f hk q => by cases q; omega)) ha2.2.2.1 (fun k N f hk q => by cases q; omega)) ha2.2.2.2 (fun k N f hk q => by cases q)) hn2.2.2 (fun k N f hk q => by cases q)
          have l1 := hLt hz2 ha2.2.1
          have l2 := hLt hz2 ha2.2.2.1
          have l3 := hLt hz2 ha2.2.2.2
          have l4 := hLt hz2 hn2.2.2
          have hz3 : ∀ y', n + 2 ≤ y' → itW h1a (W 0 xi 0) (W 1 xi 0) 5 (W 2 xi 0) (nfl fa A xi) (nF A xi) (fun j => V 1 xi j 0) (fun j => V 2 xi j 0) (X xi) y n y' = none := by
            intro y' hy'
            unfold itW
            rw [mUp_ne (by omega), mUp_ne (by omega), mUp_ne (by omega), mUp_ne (by omega)]
            exact hz2 y' hy'
          have hka : ∀ y', ow2 y' ≠ 100 * xi → ow2 y' ≠ 100 * xi + 20 → ow2 y' ≠ 100 * xi + 30 → ow2 y' ≠ 100 * xi + 40 → itW h1a (W 0 xi 0) (W 1 xi 0) 5 (W 2 xi 0) (nfl fa A xi) (nF A xi) (fun j => V 1 xi j 0) (fun j => V 2 xi j 0) (X xi) y n y' = h1a y' := by
            intro y' w0 w1 w2 w3
            unfold itW
            rw [mUp_ne (fun e => w0 (by rw [e]; exact o0)), mUp_ne (fun e => w3 (by rw [e]; exact o4)), mUp_ne (fun e => w2 (by rw [e]; exact o3)), mUp_ne (fun e => w1 (by rw [e]; exact o2))]
          have dp1 : W 1 xi 0 + 1 ≠ W 0 xi 0 := fun e => by have := o2; rw [e] at this; omega
          have dp2 : W 1 xi 0 + 2 ≠ W 0 xi 0 := fun e => by have := o3; rw [e] at this; omega
          have dp3 : W 1 xi 0 + 3 ≠ W 0 xi 0 := fun e => by have := o4; rw [e] at this; omega
          have ce0 : itW h1a (W 0 xi 0) (W 1 xi 0) 5 (W 2 xi 0) (nfl fa A xi) (nF A xi) (fun j => V 1 xi j 0) (fun j => V 2 xi j 0) (X xi) y n (W 0 xi 0) = some (nOb (W 1 xi 0) (W 2 xi 0) (nfl fa A xi) (upE (nF A xi) 7 (nF A xi 7 + 1))) := mUp_same _ _ _
          have ce1 : itW h1a (W 0 xi 0) (W 1 xi 0) 5 (W 2 xi 0) (nfl fa A xi) (nF A xi) (fun j => V 1 xi j 0) (fun j => V 2 xi j 0) (X xi) y n (W 1 xi 0 + 1) = some (mI 5 (fun j => iI (upE (fun j => V 1 xi j 0) (nF A xi 7).toNat y j))) := by
            unfold itW
            rw [mUp_ne dp1, mUp_ne (by omega), mUp_ne (by omega), mUp_same]
          have ce2 : itW h1a (W 0 xi 0) (W 1 xi 0) 5 (W 2 xi 0) (nfl fa A xi) (nF A xi) (fun j => V 1 xi j 0) (fun j => V 2 xi j 0) (X xi) y n (W 1 xi 0 + 2) = some (mI 5 (fun j => iI (upE (fun j => V 2 xi j 0) (nF A xi 7).toNat (-1) j))) := by
            unfold itW
            rw [mUp_ne dp2, mUp_ne (by omega), mUp_same]
          have ce3 : itW h1a (W 0 xi 0) (W 1 xi 0) 5 (W 2 xi 0) (nfl fa A xi) (nF A xi) (fun j => V 1 xi j 0) (fun j => V 2 xi j 0) (X xi) y n (W 1 xi 0 + 3) = some (mA 3 5 (va_up (X xi) (nF A xi 7).toNat (some n))) := by
            unfold itW
            rw [mUp_ne dp3, mUp_same]
          obtain ⟨⟨k1, k2⟩, k3, k4, k5, k6⟩ := kept_gen (x := xi) r2 (iM_t0 (v := (I 27)) hM) ho3 (by omega) (fun y' hy' => hka y' (by omega) (by omega) (by omega) (by omega)) hku
          rw [e7, show ((A 32) xi).toNat = cnt by omega] at ce1 ce2 ce3
          generalize itW h1a (W 0 xi 0) (W 1 xi 0) 5 (W 2 xi 0) (nfl fa A xi) (nF A xi) (fun j => V 1 xi j 0) (fun j => V 2 xi j 0) (X xi) y n = h2 at *
          have eNF : nF (upA (upA (upA (upA (upA A 32 (upE (A 32) xi ((A 32) xi + 1))) 33 (upE (A 33) (5 * (xi : Int) + (A 32) xi).toNat y)) 34 (upE (A 34) (5 * (xi : Int) + (A 32) xi).toNat (-1))) 35 (upE (A 35) (5 * (xi : Int) + (A 32) xi).toNat (I 28))) 36 (cpE (A 36) (A 14) (20 * (5 * (xi : Int) + (A 32) xi)) (I 28))) xi = upE (nF A xi) 7 ((A 32) xi + 1) := by
            funext j
            by_cases q : j = 7
            · subst q
              rw [upE_same]
              exact upE_same _ _ _
            · rw [upE_ne q]
              unfold nF
              simp only [if_neg q]
              rfl
          have hnO : nO G h2 b (W 0 xi 0) (W 1 xi 0) (W 2 xi 0) (nfl fa A xi) (upE (nF A xi) 7 ((A 32) xi + 1)) := ⟨hn2.1, hn2.2.1, ce0⟩
          have z46' := fun k Q => d46 (n := n + 2) (k := k) (Q := Q) (I := I1) (A := A) (P := P1) (R := R) (o := o) hnO
          rw [upE_same] at z46'
          have z160 : ∀ k Q, mX G 160 0 [.ref b, .int (iI x), .int (iI y), mU, mU] [] (wH h0 b I A P R o) n k Q ↔ Q (.inl (some (.int (iI ((A 32) xi + 1)))), wH h2 b I1 A P1 R o, n + 2, k + (2 + mt)) := by
            intro k Q
            rw [st k Q]
            have q6 : ¬ (A 32) xi = 5 := p4
            simp (maxSteps := 1000000) (disch := first | omega | (simp only [updI_at, upA_at, Nat.reduceEqDiff, reduceIte]; omega) | exact mIsRef_rf _ | exact rfl) only [↓s160_0, ↓s160_1, ↓s160_4, ↓s160_5, ↓s160_6, ↓s160_9, ↓s160_10, ↓s160_13, ↓s160_15, ↓s160_17, ↓s160_20, ↓s160_23, ↓s160_30, ↓s160_32, ↓s160_35, ↓s160_38, ↓s160_39, ↓s160_40, ↓s160_43, ↓s160_44, ↓s160_47, ↓s160_50, ↓s160_53, ↓s160_60, ↓s160_62, ↓s160_63, ↓s160_66, ↓s160_67, ↓s160_70, ↓s160_71, ↓s160_74, ↓s160_76, ↓s160_79, ↓s160_82, ↓s160_89, ↓s160_91, ↓s160_94, ↓s160_95, ↓s160_98, ↓s160_101, ↓s160_108, ↓s160_110, ↓s160_111, ↓s160_112, ↓s160_115r, ↓s160_118, ↓s160_120, ↓s160_123, iL_20, iL_255, iL_5, wc_0, wc_1, wc_12, wc_14, wc_17, wc_29, wc_31, wc_39, wc_4, wc_41, wg_0_5, mN1_int, mN1_ref, mN1_null, mN1_U, mN1_rf, mCats_nil, mCats_int, mCats_ref, mCats_null, mCats_long, mCats_rf, mIsRef_ref, mIsRef_null, mIsRef_va, mRf_ref, mRf_null, mRf_rf, true_and, and_true, true_or, or_true, eq_self_iff_true, mK_v, mK_0, Nat.reduceAdd, Nat.reduceLeDiff, Nat.zero_le, iL_0, iL_1, iL_m1, iI_add, iI_sub, iI_mul, iI_neg, updI_at, upA_at, upP_at, upR_at, Nat.reduceEqDiff, reduceIte, Int.reduceAdd, Int.reduceSub, Int.reduceMul, Int.reduceDiv, Int.reduceMod, Int.reduceLT, Int.reduceLE, Int.reduceEq, Int.reduceNeg, not_true_eq_false, not_false_eq_true, Decidable.not_not, z47, z46, t1, t3 _ _ _ _ _ _, ng_c hn, ng_c hn2, ng_c hnO, iI_eq, iI_lt, iI_le, p3.1, p3.2, q5, z92, z48, z46', Nat.add_assoc]
          obtain ⟨⟨b1, b1'⟩, b2, b3, b4, b5, b6, b7, b8, b9, b10, b11, z1, z2, z3, z4⟩ := id r2
          have K5 : (5 * (xi : Int) + (A 32) xi).toNat = 5 * xi + cnt := by omega
          have hr1 : rst G h2 b I1 A (upP P1 4 (n + 2)) R (updI (updI I 27 0) 28 0) (upA (upA (upA (upA (upA A 32 (upE (A 32) xi ((A 32) xi + 1))) 33 (upE (A 33) (5 * (xi : Int) + (A 32) xi).toNat y)) 34 (upE (A 34) (5 * (xi : Int) + (A 32) xi).toNat (-1))) 35 (upE (A 35) (5 * (xi : Int) + (A 32) xi).toNat (I 28))) 36 (cpE (A 36) (A 14) (20 * (5 * (xi : Int) + (A 32) xi)) (I 28))) fa fb fcap fg
              (upW W xi (fun q j => if q = 4 ∧ j = cnt then n else if q = 5 ∧ j = cnt then mt else W q xi j)) (upV V xi (fun q j u => if q = 1 ∧ j = cnt then y else if q = 2 ∧ j = cnt then -1 else if q = 4 ∧ j = cnt then (I 28) else if q = 5 ∧ j = cnt then gg u else V q xi j u)) (upX X xi (va_up (X xi) cnt (some n))) cap ng := by
            refine ⟨⟨k1, b1'⟩, ⟨nd_no (J := updI I 28 0) (B := A) k2 k3 b2.1 rfl rfl ?_ ?_, b2.2.1, ?_⟩, k4, b4, b5, ⟨b6.1, b6.2.1, cuR_W b6.2.2.1 ?_, b6.2.2.2⟩, b7, b8, b9, b10, b11, k5, k6, ⟨ow2, ?_⟩, hz3⟩
            · intro i hi q d
              have i5 := n3 i (by have : (i : Int) < (I 31) ∨ i = 40 := hi; omega)
              refine dN1_cg (J := updI I 28 0) (B := A) ?_ rfl rfl rfl (fun j hj => rfl) ?_ ?_ (fun u hu => rfl) d
              · unfold nF
                show (fun j => if j = 0 then _ else if j = 1 then _ else if j = 2 then _ else if j = 7 then upE (A 32) xi ((A 32) xi + 1) i else if j = 10 then _ else if j = 11 then _ else 0) = _
                rw [upE_ne q]
                rfl
              · exact upE_ne q
              · intro j hj
                refine ⟨⟨upE_ne (by omega), upE_ne (by omega), upE_ne (by omega)⟩, ?_⟩
                intro u hu
                have l20 := (hM.2.2.2.1.2.2.2.2.1 i (5 * i + j) (by have : (i : Int) < (I 31) ∨ i = 40 := hi; omega) (by omega) (by omega)).2.2
                show cpE (A 36) (A 14) (20 * (5 * (xi : Int) + (A 32) xi)) (I 28) (20 * (5 * i + j) + u) = (A 36) (20 * (5 * i + j) + u)
                unfold cpE
                rw [if_neg (by omega)]
            · obtain ⟨hd1, hdw, hd3, hd4⟩ := hd2
              refine ⟨?_, ?_, ?_, ?_⟩
              · rw [eNF]
                simp only [upV_eq, upW_eq, upX_eq, true_and, Nat.reduceEqDiff, false_and, if_false, eq_self_iff_true]
                show nN G h2 b (W 0 xi 0) (W 1 xi 0) (W 2 xi 0) (rmN A xi) (W 3 xi 0) (nfl fa A xi) (upE (nF A xi) 7 ((A 32) xi + 1)) (fun j => V 0 xi j 0) (fun j => if j = cnt then y else V 1 xi j 0) (fun j => if j = cnt then -1 else V 2 xi j 0) (fun j => V 3 xi j 0) (va_up (X xi) cnt (some n)) (tln (updI I 28 0) A xi) (fun j => if j = cnt then n else W 4 xi j) (fun j => if j = cnt then mt else W 5 xi j) (fun j => if j = cnt then (I 28) else V 4 xi j 0) (fun j u => if j = cnt then gg u else V 5 xi j u)
                refine ⟨hnO, ⟨?_, ?_, ?_, ?_⟩, nT_eq (hka _ (by omega) (by omega) (by omega) (by omega)) (hka _ (by omega) (by omega) (by omega) (by omega)) hT2, ?_, ⟨⟨hrest2.1.1.1, by show rmN A xi ≤ 5; omega⟩, hrest2.1.2.1, hrest2.1.2.2.1, by rw [upE_same]; show 0 ≤ (A 32) xi + 1 ∧ (A 32) xi + 1 ≤ (rmN A xi : Int); omega⟩, hrest2.2.1, hrest2.2.2.1, ?_⟩
                · rw [hka _ (by omega) (by omega) (by omega) (by omega)]; exact ha2.1
                · show h2 (W 1 xi 0 + 1) = some (mI (rmN A xi) _)
                  rw [erm, ce1]
                  rfl
                · show h2 (W 1 xi 0 + 2) = some (mI (rmN A xi) _)
                  rw [erm, ce2]
                  rfl
                · show h2 (W 1 xi 0 + 3) = some (mA 3 (rmN A xi) _)
                  rw [erm, ce3]
                · intro j hj
                  rw [upE_same] at hj
                  dsimp only
                  by_cases w1 : j = cnt
                  · subst w1
                    simp only [if_true, eq_self_iff_true]
                    refine ⟨va_up_self _ _ _, ⟨⟨Or.inr (Or.inl hn79), Or.inr (Or.inl (by omega))⟩, ?_, ?_⟩, ⟨⟨by omega, by omega⟩, by omega, by omega⟩, gr⟩
                    · rw [hka _ (by omega) (by omega) (by omega) (by omega)]; exact cr
                    · rw [hka _ (by omega) (by omega) (by omega) (by omega)]; exact cp
                  · have hj' : (j : Int) < (A 32) xi := by omega
                    obtain ⟨c1, c2, c3⟩ := h52 j hj'
                    obtain ⟨q1, q2⟩ := o7 j hj'
                    have w2 : h2 (W 4 xi j) = h1a (W 4 xi j) := hka _ (by omega) (by omega) (by omega) (by omega)
                    have w3 : h2 (W 4 xi j + 1) = h1a (W 4 xi j + 1) := hka _ (by omega) (by omega) (by omega) (by omega)
                    simp only [w1, if_false]
                    exact ⟨(va_up_ne _ _ w1).trans c1, nT_eq (t0 := W 4 xi j) w2 w3 c2, c3⟩
                · intro j
                  dsimp only
                  have := hrest2.2.2.2 j
                  by_cases w1 : j = cnt
                  · rw [if_pos w1]
                    omega
                  · rw [if_neg w1]
                    exact this
              · intro j hj
                simp only [upV_eq, Nat.reduceEqDiff, false_and, if_false]
                exact hdw j hj
              · intro j hj
                have hj' : (j : Int) < upE (A 32) xi ((A 32) xi + 1) xi := hj
                rw [upE_same] at hj'
                show upV V xi _ 1 xi j 0 = upE (A 33) _ y (5 * xi + j) ∧ upV V xi _ 2 xi j 0 = upE (A 34) _ (-1) (5 * xi + j) ∧ upV V xi _ 4 xi j 0 = upE (A 35) _ (I 28) (5 * xi + j) ∧ (∀ u : Nat, (u : Int) < upE (A 35) _ (I 28) (5 * xi + j) → upV V xi _ 5 xi j u = cpE (A 36) (A 14) (20 * (5 * (xi : Int) + (A 32) xi)) (I 28) (20 * (5 * xi + j) + u))
                rw [K5]
                simp only [upV_eq]
                by_cases w1 : j = cnt
                · subst w1
                  simp only [upE_same, Nat.reduceEqDiff, false_and, and_self, if_false, if_true, true_and]
                  intro u hu
                  rw [ge u hu]
                  unfold cpE
                  rw [if_pos (by omega)]
                  congr 1
                  omega
                · obtain ⟨d1, d2, d3, d4⟩ := hd3 j (by show (j : Int) < (A 32) xi; omega)
                  rw [upE_ne (by omega), upE_ne (by omega), upE_ne (by omega)]
                  simp only [w1, and_false, if_false]
                  refine ⟨d1, d2, d3, ?_⟩
                  intro u hu
                  have l20 := (hM.2.2.2.1.2.2.2.2.1 xi (5 * xi + j) (by omega) (by omega) (by omega)).2.2
                  rw [d4 u hu]
                  unfold cpE
                  rw [if_neg (by omega)]
              · intro u hu
                simp only [upV_eq, Nat.reduceEqDiff, false_and, if_false]
                exact hd4 u hu
            · intro z hz i hi
              obtain ⟨s1, s2, s3⟩ := b2.2.2 z hz i hi
              obtain ⟨i1, i2, i3, i4⟩ := r1.1.1.2.2.1 z hz
              have lt := hLt hz0 i2.2.2
              by_cases q : i = xi
              · subst q
                simp only [upW_eq]
                refine ⟨s1, s2, ?_⟩
                intro j
                by_cases w1 : j = cnt
                · simp only [w1, and_self, if_true]
                  omega
                · simp only [w1, and_false, if_false]
                  exact s3 j
              · simp only [upW_ne q]
                exact ⟨s1, s2, s3⟩
            · intro i
              by_cases q : i = xi
              · subst q
                rw [upW_eq]
                rfl
              · exact upW_ne q _ _
            · obtain ⟨y1, y2, y3⟩ := ho3
              refine ⟨y1, ?_, y3⟩
              intro i hi
              by_cases q : i = xi
              · subst q
                simp only [upW_eq]
                refine ⟨o0, ⟨o1, o2, o3, o4⟩, ⟨o5, o6⟩, ?_⟩
                intro j hj
                have hj' : (j : Int) < upE (A 32) i ((A 32) i + 1) i := hj
                rw [upE_same] at hj'
                by_cases w1 : j = cnt
                · simp only [w1, and_self, if_true]
                  exact ⟨tn, tn1⟩
                · simp only [w1, and_false, if_false]
                  exact o7 j (by omega)
              · simp only [upW_ne q]
                obtain ⟨u1, u2, u3, u4⟩ := y2 i hi
                refine ⟨u1, u2, u3, ?_⟩
                intro j hj
                have hj' : (j : Int) < upE (A 32) xi ((A 32) xi + 1) i := hj
                rw [upE_ne q] at hj'
                exact u4 j hj'
          have hfW : fre (upP P1 4 (n + 2)) b (n + 2) (upW W xi (fun q j => if q = 4 ∧ j = cnt then n else if q = 5 ∧ j = cnt then mt else W q xi j)) := by
            refine ⟨by omega, rfl, ?_⟩
            intro i j
            have := hf.2.2 i j
            by_cases q : i = xi
            · subst q
              rw [upW_eq]
              by_cases w1 : j = cnt
              · simp only [w1, and_self, if_true]
                omega
              · simp only [w1, and_false, if_false]
                omega
            · rw [upW_ne q]
              omega
          have hbb : ∀ j, 0 ≤ cpE (A 36) (A 14) (20 * (5 * (xi : Int) + (A 32) xi)) (I 28) j ∧ cpE (A 36) (A 14) (20 * (5 * (xi : Int) + (A 32) xi)) (I 28) j ≤ 255 := cpE_P (p := fun x => 0 ≤ x ∧ x ≤ 255) hM.2.2.2.1.2.2.2.2.2.2.2.2.2.1 htp
          obtain ⟨A2, e1, e2, e3⟩ := op_end (o := vp_updL o 0 (iI ((A 32) xi + 1)).toInt64) hr1 kk hM (iM_item hM hxi p2.1 q5 (by omega) p2.2 ⟨ht.1, p3.2⟩ hbb) hfW hri
          refine ⟨0, (A 32) xi + 1, n + 2, 2 + mt, h2, I1, A, upP P1 4 (n + 2), R, _, _, _, ⟨by omega, by omega⟩, fun k Q => law_284 hb z160, k6, ?_, ⟨rfl, by omega⟩, fun _ => vp_0 _ _, e3⟩
          intro k Q
          dsimp only
          rw [e1, c _ _ _ _ _ _ _ _ e2.1, if_pos p1, if_pos ⟨eF1.mpr p2.1, p2.2, si'.mpr p3.1, p3.2⟩, if_neg p4]
      · have z160 : ∀ k Q, mX G 160 0 [.ref b, .int (iI x), .int (iI y), mU, mU] [] (wH h0 b I A P R o) n k Q ↔ Q (.inr 1, wH h0 b I1 A P1 R o, n + 1, k + 6) := by
          intro k Q
          rw [st k Q]
          by_cases q3 : s1 = -1
          · have q4 : ¬ (I 28) ≤ 20 := fun w => p3 ⟨q3, w⟩
            simp (maxSteps := 1000000) (disch := first | omega | (simp only [updI_at, upA_at, Nat.reduceEqDiff, reduceIte]; omega) | exact mIsRef_rf _ | exact rfl) only [↓s160_0, ↓s160_1, ↓s160_4, ↓s160_5, ↓s160_6, ↓s160_9, ↓s160_10, ↓s160_13, ↓s160_15, ↓s160_17, ↓s160_20, ↓s160_23, ↓s160_30, ↓s160_32, ↓s160_35, ↓s160_38, ↓s160_39, ↓s160_40, ↓s160_43, ↓s160_44, ↓s160_47, ↓s160_50, ↓s160_53, ↓s160_60, ↓s160_62, ↓s160_63, ↓s160_66, ↓s160_67, ↓s160_70, ↓s160_71, ↓s160_74, ↓s160_76, ↓s160_79, ↓s160_82, ↓s160_89, ↓s160_91, ↓s160_94, ↓s160_95, ↓s160_98, ↓s160_101, ↓s160_108, ↓s160_110, ↓s160_111, ↓s160_112, ↓s160_115r, ↓s160_118, ↓s160_120, ↓s160_123, iL_20, iL_255, iL_5, wc_0, wc_1, wc_12, wc_14, wc_17, wc_29, wc_31, wc_39, wc_4, wc_41, wg_0_5, mN1_int, mN1_ref, mN1_null, mN1_U, mN1_rf, mCats_nil, mCats_int, mCats_ref, mCats_null, mCats_long, mCats_rf, mIsRef_ref, mIsRef_null, mIsRef_va, mRf_ref, mRf_null, mRf_rf, true_and, and_true, true_or, or_true, eq_self_iff_true, mK_v, mK_0, Nat.reduceAdd, Nat.reduceLeDiff, Nat.zero_le, iL_0, iL_1, iL_m1, iI_add, iI_sub, iI_mul, iI_neg, updI_at, upA_at, upP_at, upR_at, Nat.reduceEqDiff, reduceIte, Int.reduceAdd, Int.reduceSub, Int.reduceMul, Int.reduceDiv, Int.reduceMod, Int.reduceLT, Int.reduceLE, Int.reduceEq, Int.reduceNeg, not_true_eq_false, not_false_eq_true, Decidable.not_not, z47, z46, t1, t3 _ _ _ _ _ _, ng_c hn, iI_eq, iI_lt, iI_le, q3, q4]
          · simp (maxSteps := 1000000) (disch := first | omega | (simp only [updI_at, upA_at, Nat.reduceEqDiff, reduceIte]; omega) | exact mIsRef_rf _ | exact rfl) only [↓s160_0, ↓s160_1, ↓s160_4, ↓s160_5, ↓s160_6, ↓s160_9, ↓s160_10, ↓s160_13, ↓s160_15, ↓s160_17, ↓s160_20, ↓s160_23, ↓s160_30, ↓s160_32, ↓s160_35, ↓s160_38, ↓s160_39, ↓s160_40, ↓s160_43, ↓s160_44, ↓s160_47, ↓s160_50, ↓s160_53, ↓s160_60, ↓s160_62, ↓s160_63, ↓s160_66, ↓s160_67, ↓s160_70, ↓s160_71, ↓s160_74, ↓s160_76, ↓s160_79, ↓s160_82, ↓s160_89, ↓s160_91, ↓s160_94, ↓s160_95, ↓s160_98, ↓s160_101, ↓s160_108, ↓s160_110, ↓s160_111, ↓s160_112, ↓s160_115r, ↓s160_118, ↓s160_120, ↓s160_123, iL_20, iL_255, iL_5, wc_0, wc_1, wc_12, wc_14, wc_17, wc_29, wc_31, wc_39, wc_4, wc_41, wg_0_5, mN1_int, mN1_ref, mN1_null, mN1_U, mN1_rf, mCats_nil, mCats_int, mCats_ref, mCats_null, mCats_long, mCats_rf, mIsRef_ref, mIsRef_null, mIsRef_va, mRf_ref, mRf_null, mRf_rf, true_and, and_true, true_or, or_true, eq_self_iff_true, mK_v, mK_0, Nat.reduceAdd, Nat.reduceLeDiff, Nat.zero_le, iL_0, iL_1, iL_m1, iI_add, iI_sub, iI_mul, iI_neg, updI_at, upA_at, upP_at, upR_at, Nat.reduceEqDiff, reduceIte, Int.reduceAdd, Int.reduceSub, Int.reduceMul, Int.reduceDiv, Int.reduceMod, Int.reduceLT, Int.reduceLE, Int.reduceEq, Int.reduceNeg, not_true_eq_false, not_false_eq_true, Decidable.not_not, z47, z46, t1, t3 _ _ _ _ _ _, ng_c hn, iI_eq, iI_lt, iI_le, q3]
        refine op_thr (o := o) (v := 2) (J := updI (updI I 28 0) 27 2) hM (iM_t0 hM) r1 kk hf1 hri (by omega) (by omega) rfl (fun k Q => law_284x (Or.inr (Or.inl rfl)) z160) ?_
        intro X1 Y hi k Q
        rw [c _ _ _ _ _ _ _ _ hi.1, if_pos p1, if_neg (fun t => p3 ⟨si'.mp t.2.2.1, t.2.2.2⟩)]
    · have z160 : ∀ k Q, mX G 160 0 [.ref b, .int (iI x), .int (iI y), mU, mU] [] (wH h0 b I A P R o) n k Q ↔ Q (.inr 1, wH h0 b I1 A P1 R o, n + 1, k + 6) := by
        intro k Q
        by_cases q0 : nF A xi 1 = 2 ∨ nF A xi 1 = 8
        · simp only [bI_t q0] at z45
          have q1 : y < 1 ∨ ¬ y ≤ 255 := by
            have := eF.mp q0
            omega
          by_cases q2 : y < 1
          · simp (maxSteps := 1000000) (disch := first | omega | (simp only [updI_at, upA_at, Nat.reduceEqDiff, reduceIte]; omega) | exact mIsRef_rf _ | exact rfl) only [↓s160_0, ↓s160_1, ↓s160_4, ↓s160_5, ↓s160_6, ↓s160_9, ↓s160_10, ↓s160_13, ↓s160_15, ↓s160_17, ↓s160_20, ↓s160_23, ↓s160_30, ↓s160_32, ↓s160_35, ↓s160_38, ↓s160_39, ↓s160_40, ↓s160_43, ↓s160_44, ↓s160_47, ↓s160_50, ↓s160_53, ↓s160_60, ↓s160_62, ↓s160_63, ↓s160_66, ↓s160_67, ↓s160_70, ↓s160_71, ↓s160_74, ↓s160_76, ↓s160_79, ↓s160_82, ↓s160_89, ↓s160_91, ↓s160_94, ↓s160_95, ↓s160_98, ↓s160_101, ↓s160_108, ↓s160_110, ↓s160_111, ↓s160_112, ↓s160_115r, ↓s160_118, ↓s160_120, ↓s160_123, iL_20, iL_255, iL_5, wc_0, wc_1, wc_12, wc_14, wc_17, wc_29, wc_31, wc_39, wc_4, wc_41, wg_0_5, mN1_int, mN1_ref, mN1_null, mN1_U, mN1_rf, mCats_nil, mCats_int, mCats_ref, mCats_null, mCats_long, mCats_rf, mIsRef_ref, mIsRef_null, mIsRef_va, mRf_ref, mRf_null, mRf_rf, true_and, and_true, true_or, or_true, eq_self_iff_true, mK_v, mK_0, Nat.reduceAdd, Nat.reduceLeDiff, Nat.zero_le, iL_0, iL_1, iL_m1, iI_add, iI_sub, iI_mul, iI_neg, updI_at, upA_at, upP_at, upR_at, Nat.reduceEqDiff, reduceIte, Int.reduceAdd, Int.reduceSub, Int.reduceMul, Int.reduceDiv, Int.reduceMod, Int.reduceLT, Int.reduceLE, Int.reduceEq, Int.reduceNeg, not_true_eq_false, not_false_eq_true, Decidable.not_not, zt, z65, z45, ng_c hn, reduceCtorEq, iI_eq, iI_lt, iI_le, q2]
          · have q3 : ¬ y ≤ 255 := by omega
            simp (maxSteps := 1000000) (disch := first | omega | (simp only [updI_at, upA_at, Nat.reduceEqDiff, reduceIte]; omega) | exact mIsRef_rf _ | exact rfl) only [↓s160_0, ↓s160_1, ↓s160_4, ↓s160_5, ↓s160_6, ↓s160_9, ↓s160_10, ↓s160_13, ↓s160_15, ↓s160_17, ↓s160_20, ↓s160_23, ↓s160_30, ↓s160_32, ↓s160_35, ↓s160_38, ↓s160_39, ↓s160_40, ↓s160_43, ↓s160_44, ↓s160_47, ↓s160_50, ↓s160_53, ↓s160_60, ↓s160_62, ↓s160_63, ↓s160_66, ↓s160_67, ↓s160_70, ↓s160_71, ↓s160_74, ↓s160_76, ↓s160_79, ↓s160_82, ↓s160_89, ↓s160_91, ↓s160_94, ↓s160_95, ↓s160_98, ↓s160_101, ↓s160_108, ↓s160_110, ↓s160_111, ↓s160_112, ↓s160_115r, ↓s160_118, ↓s160_120, ↓s160_123, iL_20, iL_255, iL_5, wc_0, wc_1, wc_12, wc_14, wc_17, wc_29, wc_31, wc_39, wc_4, wc_41, wg_0_5, mN1_int, mN1_ref, mN1_null, mN1_U, mN1_rf, mCats_nil, mCats_int, mCats_ref, mCats_null, mCats_long, mCats_rf, mIsRef_ref, mIsRef_null, mIsRef_va, mRf_ref, mRf_null, mRf_rf, true_and, and_true, true_or, or_true, eq_self_iff_true, mK_v, mK_0, Nat.reduceAdd, Nat.reduceLeDiff, Nat.zero_le, iL_0, iL_1, iL_m1, iI_add, iI_sub, iI_mul, iI_neg, updI_at, upA_at, upP_at, upR_at, Nat.reduceEqDiff, reduceIte, Int.reduceAdd, Int.reduceSub, Int.reduceMul, Int.reduceDiv, Int.reduceMod, Int.reduceLT, Int.reduceLE, Int.reduceEq, Int.reduceNeg, not_true_eq_false, not_false_eq_true, Decidable.not_not, zt, z65, z45, ng_c hn, reduceCtorEq, iI_eq, iI_lt, iI_le, q2, q3]
        · simp only [bI_f q0] at z45
          simp (maxSteps := 1000000) (disch := first | omega | (simp only [updI_at, upA_at, Nat.reduceEqDiff, reduceIte]; omega) | exact mIsRef_rf _ | exact rfl) only [↓s160_0, ↓s160_1, ↓s160_4, ↓s160_5, ↓s160_6, ↓s160_9, ↓s160_10, ↓s160_13, ↓s160_15, ↓s160_17, ↓s160_20, ↓s160_23, ↓s160_30, ↓s160_32, ↓s160_35, ↓s160_38, ↓s160_39, ↓s160_40, ↓s160_43, ↓s160_44, ↓s160_47, ↓s160_50, ↓s160_53, ↓s160_60, ↓s160_62, ↓s160_63, ↓s160_66, ↓s160_67, ↓s160_70, ↓s160_71, ↓s160_74, ↓s160_76, ↓s160_79, ↓s160_82, ↓s160_89, ↓s160_91, ↓s160_94, ↓s160_95, ↓s160_98, ↓s160_101, ↓s160_108, ↓s160_110, ↓s160_111, ↓s160_112, ↓s160_115r, ↓s160_118, ↓s160_120, ↓s160_123, iL_20, iL_255, iL_5, wc_0, wc_1, wc_12, wc_14, wc_17, wc_29, wc_31, wc_39, wc_4, wc_41, wg_0_5, mN1_int, mN1_ref, mN1_null, mN1_U, mN1_rf, mCats_nil, mCats_int, mCats_ref, mCats_null, mCats_long, mCats_rf, mIsRef_ref, mIsRef_null, mIsRef_va, mRf_ref, mRf_null, mRf_rf, true_and, and_true, true_or, or_true, eq_self_iff_true, mK_v, mK_0, Nat.reduceAdd, Nat.reduceLeDiff, Nat.zero_le, iL_0, iL_1, iL_m1, iI_add, iI_sub, iI_mul, iI_neg, updI_at, upA_at, upP_at, upR_at, Nat.reduceEqDiff, reduceIte, Int.reduceAdd, Int.reduceSub, Int.reduceMul, Int.reduceDiv, Int.reduceMod, Int.reduceLT, Int.reduceLE, Int.reduceEq, Int.reduceNeg, not_true_eq_false, not_false_eq_true, Decidable.not_not, zt, z65, z45, ng_c hn, reduceCtorEq, iI_eq, iI_lt, iI_le]
      refine op_thr (o := o) (v := 2) (J := updI (updI I 28 0) 27 2) hM (iM_t0 hM) r1 kk hf1 hri (by omega) (by omega) rfl (fun k Q => law_284x (Or.inr (Or.inl rfl)) z160) ?_
      intro X1 Y hi k Q
      rw [c _ _ _ _ _ _ _ _ hi.1, if_pos p1, if_neg (fun t => p2 ⟨eF1.mp t.1, t.2.1⟩)]
  · have e65 : (if x = -1 then some (b + 19) else rnV (updI I 28 0) W x) = none := by
      rw [if_neg (fun e => p1 (Or.inl e))]
      exact if_neg (by show ¬ (0 ≤ x ∧ x < (I 31)); omega)
    rw [e65, va_none] at z65
    have z160 : ∀ k Q, mX G 160 0 [.ref b, .int (iI x), .int (iI y), mU, mU] [] (wH h0 b I A P R o) n k Q ↔ Q (.inr 0, wH h0 b I1 A P1 R o, n + 1, k + 6) := by
      intro k Q
      simp (maxSteps := 1000000) (disch := first | omega | (simp only [updI_at, upA_at, Nat.reduceEqDiff, reduceIte]; omega) | exact mIsRef_rf _ | exact rfl) only [↓s160_0, ↓s160_1, ↓s160_4, ↓s160_5, ↓s160_6, ↓s160_9, ↓s160_10, ↓s160_13, ↓s160_15, ↓s160_17, ↓s160_20, ↓s160_23, ↓s160_30, ↓s160_32, ↓s160_35, ↓s160_38, ↓s160_39, ↓s160_40, ↓s160_43, ↓s160_44, ↓s160_47, ↓s160_50, ↓s160_53, ↓s160_60, ↓s160_62, ↓s160_63, ↓s160_66, ↓s160_67, ↓s160_70, ↓s160_71, ↓s160_74, ↓s160_76, ↓s160_79, ↓s160_82, ↓s160_89, ↓s160_91, ↓s160_94, ↓s160_95, ↓s160_98, ↓s160_101, ↓s160_108, ↓s160_110, ↓s160_111, ↓s160_112, ↓s160_115r, ↓s160_118, ↓s160_120, ↓s160_123, iL_20, iL_255, iL_5, wc_0, wc_1, wc_12, wc_14, wc_17, wc_29, wc_31, wc_39, wc_4, wc_41, wg_0_5, mN1_int, mN1_ref, mN1_null, mN1_U, mN1_rf, mCats_nil, mCats_int, mCats_ref, mCats_null, mCats_long, mCats_rf, mIsRef_ref, mIsRef_null, mIsRef_va, mRf_ref, mRf_null, mRf_rf, true_and, and_true, true_or, or_true, eq_self_iff_true, mK_v, mK_0, Nat.reduceAdd, Nat.reduceLeDiff, Nat.zero_le, iL_0, iL_1, iL_m1, iI_add, iI_sub, iI_mul, iI_neg, updI_at, upA_at, upP_at, upR_at, Nat.reduceEqDiff, reduceIte, Int.reduceAdd, Int.reduceSub, Int.reduceMul, Int.reduceDiv, Int.reduceMod, Int.reduceLT, Int.reduceLE, Int.reduceEq, Int.reduceNeg, not_true_eq_false, not_false_eq_true, Decidable.not_not, zt, z65]
    refine op_thr (o := o) (v := 1) (J := updI (updI I 28 0) 27 1) hM (iM_t0 hM) r1 kk hf1 hri (by omega) (by omega) rfl (fun k Q => law_284x (Or.inl rfl) z160) ?_
    intro X1 Y hi k Q
    rw [c _ _ _ _ _ _ _ _ hi.1, if_neg p1]
end
end MITEM
