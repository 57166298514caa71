/-! Class: terminalResponse, the OK. -/
section MRSP2
variable {G : mG} {h h0 : mH} {n k b : Nat} {Q : mR → Prop} {I : Nat → Int} {A : Nat → Nat → Int} {P : Nat → Nat} {R : Nat → Option Nat} {o : Nat → Int64}
section
variable {J : Nat → Int} {B : Nat → Nat → Int} {fa : Nat → Nat} {fb : Nat → Nat → Int} {fcap : Nat} {fg : Nat → Option Nat} {W : Nat → Nat → Nat → Nat} {V : Nat → Nat → Nat → Nat → Int} {X : Nat → Nat → Option Nat} {cap : Nat} {ng : Nat → Option Nat}
theorem kbH_cases {f s m : Int} (hf : -1 ≤ f ∧ f < J 29) : kbH h0 I A B fa fb f s m = h0 ∨ ∃ (x : Nat) (g : Nat → Int), (x : Int) < J 29 ∧ kbH h0 I A B fa fb f s m = fW h0 (fa x) (fN B x) g := by
  unfold kbH
  by_cases p : f < 0 ∨ ¬ B 17 f.toNat = 1
  · rw [if_pos p]; exact Or.inl rfl
  · rw [if_neg p]; exact Or.inr ⟨f.toNat, _, by omega, rfl⟩
theorem toH_cases (hM : iM J B) (hs : ¬ J 41 = 0) : toH h0 I A J B fa fb = h0 ∨ ∃ (x : Nat) (g : Nat → Int), (x : Int) < J 29 ∧ toH h0 I A J B fa fb = fW h0 (fa x) (fN B x) g := by
  have e4 := hM.2.2.2.2.1.2.2.2.1
  have e5 := hM.2.2.2.2.1.2.2.2.2.1 hs
  unfold toH
  by_cases s1 : nF B (J 42).toNat 1 = 1
  · rw [if_pos s1]
    have nx : ¬ J 42 = 40 := by
      intro w
      rw [w] at s1
      have w8 : (8 : Int) = 1 := s1
      omega
    exact kbH_cases (hM.2.2.2.1.2.1 (J 42).toNat (by omega)).2.2.2.2.1
  · rw [if_neg s1]
    by_cases s6 : nF B (J 42).toNat 1 = 6
    · rw [if_pos s6]
      have nx : ¬ J 42 = 40 := by
        intro w
        rw [w] at s6
        have w8 : (8 : Int) = 6 := s6
        omega
      exact kbH_cases (hM.2.2.2.1.2.1 (J 42).toNat (by omega)).2.2.2.2.1
    · rw [if_neg s6]; exact Or.inl rfl
theorem dNo_to {p3 : Nat} (hf : dFl G h0 b (P 2) J B fa fb fcap fg) (hM : iM J B) (hs : ¬ J 41 = 0) (hd : dNo G h0 b p3 J B fa W V X cap ng) (he : dSe J fa W) : dNo G (toH h0 I A J B fa fb) b p3 J B fa W V X cap ng := by
  rcases toH_cases (h0 := h0) (I := I) (A := A) (fa := fa) (fb := fb) hM hs with h | ⟨x, g, hx, h⟩
  · rw [h]; exact hd
  · rw [h]; exact dNo_fW hf hx hd he
theorem sTy_to (hf : dFl G h0 b (P 2) J B fa fb fcap fg) (hM : iM J B) (hs : ¬ J 41 = 0) (hd : sTy G h0 b) : sTy G (toH h0 I A J B fa fb) b := by
  rcases toH_cases (h0 := h0) (I := I) (A := A) (fa := fa) (fb := fb) hM hs with h | ⟨x, g, hx, h⟩
  · rw [h]; exact hd
  · rw [h]; exact sTy_fW hf hx hd
theorem pfR_to (hp : pfR I A J B) : pfR I (toA A J B) J B := by
  have e : toA A J B 6 = (A 6) := by
    unfold toA tkA
    split
    · split
      · rw [upA_at, if_neg (by decide)]
      · rfl
    · rfl
  obtain ⟨p1, p2, p3⟩ := hp
  refine ⟨p1, ?_, ?_⟩
  · intro j hj; rw [e]; exact p2 j hj
  · intro j; rw [e]; exact p3 j
/-- where an OK leads -/
def okW (J : Nat → Int) (B : Nat → Nat → Int) (V : Nat → Nat → Nat → Nat → Int) : Int := if nF B (J 42).toNat 1 = 2 then B 34 (5 * (J 42).toNat + (plF B V (J 42).toNat).toNat) else wyF J B 0
theorem wy0_rng (hM : iM J B) (hs : ¬ J 41 = 0) : wyF J B 0 = -1 ∨ 0 ≤ wyF J B 0 ∧ wyF J B 0 < J 31 := by
  have e4 := hM.2.2.2.2.1.2.2.2.1
  have e5 := hM.2.2.2.2.1.2.2.2.2.1 hs
  by_cases w : J 42 = 40
  · left; exact if_pos w
  · have g := (hM.2.2.2.1.2.1 (J 42).toNat (by omega)).2.2.2.2.2.2 0 (by omega)
    rw [show 4 * (J 42).toNat + 0 = (4 * J 42 + 0).toNat by omega] at g
    have e : wyF J B 0 = B 29 (4 * J 42 + 0).toNat := if_neg w
    rw [e]; omega
theorem pl_rng {x : Nat} (hi : 0 ≤ B 32 x) : plF B V x = -1 ∨ 0 ≤ plF B V x ∧ plF B V x < B 32 x := by
  unfold plF
  split
  · have r := seek_rng (fun j => V 1 x j.toNat 0 = B 14 (B 45 16).toNat) (B 32 x).toNat 0 (by omega)
    have r2 := seek_lo (fun j => V 1 x j.toNat 0 = B 14 (B 45 16).toNat) (B 32 x).toNat 0
    omega
  · exact Or.inl rfl
theorem d131_k {r : Int} {i3 : Int32} (hb : G.2.2.2 ≤ b) (hf : dFl G h0 b (P 2) J B fa fb fcap fg) (hd : dNo G h0 b (P 3) J B fa W V X cap ng) (he : dSe J fa W) (hn : (I 18) = J 31) (hM : iM J B) (hT : sTy G h0 b) (hp : pfR I A J B) (hm : 0 ≤ (I 21) ∧ (I 21) ≤ 254) (hs : ¬ J 41 = 0) (hq : rqR I A R b J B) (hL : iTl A) (hr : tR K1 (J 49) A J B) (hr2 : 0 ≤ r ∧ r < 16) : mX G 131 67 [.ref (b + 34), .ref (b + 3), .ref (W 0 (J 42).toNat 0), .int i3, .int (iI r), mU, mU, mU] [] (wH h0 b I A P R o) n k Q ↔
    if aoF J B V = 36864 then Q (.inl (some (.int (iI 36864))), wH (toH h0 I A J B fa fb) b (stC (updI I 20 0) (stN (updI J 41 0) B 17 (okW J B V))) (toA A J B) P (stR (upR R 2 none) W (stN (updI J 41 0) B 17 (okW J B V))) o, n, k)
    else Q (.inl (some (.int (iI (aoF J B V)))), wH h0 b I A P R o, n, k) := by
  have e4 := hM.2.2.2.2.1.2.2.2.1
  have e5 := hM.2.2.2.2.1.2.2.2.2.1 hs
  have h1 := hd.2.2.2.2 (J 42).toNat (by omega)
  have hn1 := h1.1.1
  have k6 := h1.1.2.2.2.2.2.1.1
  have z135 := fun Q' h => d135 (G := G) (h := h) (n := n) (k := k) (Q := Q') (r := r) (by omega)
  simp only [show r < 16 by omega, if_true] at z135
  have z136 := fun Q' => d136 (n := n) (k := k) (Q := Q') (P := P) (o := o) hq hL hr hM hs h1
  have p1 : r < 32 := by omega
  by_cases p : aoF J B V = 36864
  · rw [if_pos p]
    rw [p] at z136
    have z137 := fun Q' => d137 (n := n) (k := k) (Q := Q') (o := o) hb hf hM hq hL hr hs h1 p
    have st : mX G 131 67 [.ref (b + 34), .ref (b + 3), .ref (W 0 (J 42).toNat 0), .int i3, .int (iI r), mU, mU, mU] [] (wH h0 b I A P R o) n k Q ↔ mX G 131 129 [.ref (b + 34), .ref (b + 3), .ref (W 0 (J 42).toNat 0), .int (iI 36864), .int (iI r), .int (iI 0), mU, mU] [] (wH (toH h0 I A J B fa fb) b I (toA A J B) P R o) n k Q := by
      simp (maxSteps := 1000000) (disch := first | omega | (simp only [updI_at, upA_at, Nat.reduceEqDiff, reduceIte]; omega) | exact mIsRef_rf _ | exact rfl) only [↓s131_0, ↓s131_1, ↓s131_4, ↓s131_7, ↓s131_10, ↓s131_11, ↓s131_12, ↓s131_15, ↓s131_18, ↓s131_19, ↓s131_20, ↓s131_23, ↓s131_26, ↓s131_27, ↓s131_30, ↓s131_31, ↓s131_34, ↓s131_37, ↓s131_38, ↓s131_39, ↓s131_40, ↓s131_41, ↓s131_44r, ↓s131_47, ↓s131_48, ↓s131_49, ↓s131_51, ↓s131_54, ↓s131_55, ↓s131_56, ↓s131_57, ↓s131_60, ↓s131_61, ↓s131_62, ↓s131_65, ↓s131_67, ↓s131_69, ↓s131_71, ↓s131_74, ↓s131_76, ↓s131_78, ↓s131_81, ↓s131_82, ↓s131_85, ↓s131_88, ↓s131_91, ↓s131_93, ↓s131_94, ↓s131_96, ↓s131_99, ↓s131_101, ↓s131_103, ↓s131_106, ↓s131_107, ↓s131_108r, ↓s131_111, ↓s131_112, ↓s131_113, ↓s131_115, ↓s131_118, ↓s131_119, ↓s131_120, ↓s131_121, ↓s131_122, ↓s131_123, ↓s131_126r, ↓s131_131, ↓s131_134, ↓s131_135, ↓s131_138, ↓s131_139, ↓s131_142, ↓s131_143, ↓s131_146, ↓s131_147, ↓s131_149, ↓s131_151, ↓s131_154, ↓s131_155, ↓s131_156, ↓s131_157r, ↓s131_160, ↓s131_163, ↓s131_166, ↓s131_167, ↓s131_169, ↓s131_172, ↓s131_174, ↓s131_175, ↓s131_178, ↓s131_181, ↓s131_182, ↓s131_185, ↓s131_187, ↓s131_190, ↓s131_192, iL_2, iL_26368, iL_27013, iL_3, iL_32, iL_36864, iL_47, wc_28, wc_3, wc_34, wc_35, wg_28_5, wg_28_6, wg_34_2, wg_34_4, wg_3_0, mN1_int, mN1_ref, mN1_null, mN1_U, mN1_rf, mCats_nil, mCats_int, mCats_ref, mCats_null, mCats_long, mCats_rf, mIsRef_ref, mIsRef_null, mIsRef_va, mRf_ref, mRf_null, mRf_rf, true_and, and_true, true_or, or_true, eq_self_iff_true, mK_v, mK_0, Nat.reduceAdd, Nat.reduceLeDiff, Nat.zero_le, iL_0, iL_1, iL_m1, iI_add, iI_sub, iI_mul, iI_neg, updI_at, upA_at, upP_at, upR_at, Nat.reduceEqDiff, reduceIte, Int.reduceAdd, Int.reduceSub, Int.reduceMul, Int.reduceDiv, Int.reduceMod, Int.reduceLT, Int.reduceLE, Int.reduceEq, Int.reduceNeg, not_true_eq_false, not_false_eq_true, Decidable.not_not, iI_lt, iI_eq, p1, z135, z136, z137]
    rw [st]
    have hd2 := dNo_to (I := I) (A := A) hf hM hs hd he
    have h2 := hd2.2.2.2.2 (J 42).toNat (by omega)
    obtain ⟨hn2, ha2, hx2⟩ := h2.1
    have hT2 := sTy_to (I := I) (A := A) hf hM hs hT
    have hp2 := pfR_to hp
    have zw := fun y hy i3 i4 i5 i6 => d131_w (n := n) (k := k) (Q := Q) (R := R) (o := o) (p := W 0 (J 42).toNat 0) (i3 := i3) (i4 := i4) (i5 := i5) (i6 := i6) (y := y) hb hd2 hn hM hT2 hp2 hm hy
    unfold okW
    by_cases s2 : nF B (J 42).toNat 1 = 2
    · rw [if_pos s2]
      have tE : toH h0 I A J B fa fb = h0 := by unfold toH; rw [if_neg (by omega), if_neg (by omega)]
      have tA : toA A J B = A := by unfold toA; rw [if_neg (by omega)]
      rw [tE, tA]
      obtain ⟨hn3, ha3, hx3⟩ := h1.1
      have zw3 := fun y hy i3 i4 i5 i6 => d131_w (n := n) (k := k) (Q := Q) (R := R) (o := o) (p := W 0 (J 42).toNat 0) (i3 := i3) (i4 := i4) (i5 := i5) (i6 := i6) (y := y) hb hd hn hM hT hp hm hy
      have t16 : ¬ B 46 16 < 0 ∧ ¬ plF B V (J 42).toNat = -1 := by
        unfold aoF at p
        rw [if_pos s2] at p
        by_cases w : B 46 16 < 0
        · rw [if_pos w] at p; omega
        · rw [if_neg w] at p
          refine ⟨w, ?_⟩
          intro w2
          rw [if_pos w2] at p; omega
      have i5 := hM.2.2.2.1.2.2.1 (J 42).toNat (by omega)
      have pr := pl_rng (B := B) (V := V) i5.1
      have k16 : K1 ((16 : Nat) : Int) := Or.inr (Or.inr (Or.inr (Or.inr (Or.inl rfl))))
      have zi := fun Q' => d142 (n := n) (k := k) (Q := Q') (P := P) (o := o) (x := (J 42).toNat) hq hL hr k16 t16.1 hM h1 (by omega)
      have k2 := h1.1.2.2.2.2.1.1.2
      have k5 := h1.1.2.2.2.2.1.2.2.2
      have z51 := fun Q' => d51 (n := n) (k := k) (Q := Q') (I := I) (A := A) (P := P) (R := R) (o := o) (x := plF B V (J 42).toNat) hn3 ha3 k2 (by omega)
      have f7 : nF B (J 42).toNat 7 = B 32 (J 42).toNat := rfl
      rw [f7] at k5
      have ev : (if 0 ≤ plF B V (J 42).toNat ∧ plF B V (J 42).toNat < (rmN B (J 42).toNat : Nat) then V 2 (J 42).toNat (plF B V (J 42).toNat).toNat 0 else -1) = B 34 (5 * (J 42).toNat + (plF B V (J 42).toNat).toNat) := by
        rw [if_pos (by omega)]
        exact (h1.2.2.1 _ (by omega)).2.1
      rw [ev] at z51
      have it := (hM.2.2.2.1.2.2.2.2.1 (J 42).toNat (5 * (J 42).toNat + (plF B V (J 42).toNat).toNat) (by omega) (by omega) (by omega)).2.1
      rw [← zw3 (B 34 (5 * (J 42).toNat + (plF B V (J 42).toNat).toNat)) (by omega) (iI 36864) (iI r) (iI 0) (iI 1)]
      simp (maxSteps := 1000000) (disch := first | omega | (simp only [updI_at, upA_at, Nat.reduceEqDiff, reduceIte]; omega) | exact mIsRef_rf _ | exact rfl) only [↓s131_0, ↓s131_1, ↓s131_4, ↓s131_7, ↓s131_10, ↓s131_11, ↓s131_12, ↓s131_15, ↓s131_18, ↓s131_19, ↓s131_20, ↓s131_23, ↓s131_26, ↓s131_27, ↓s131_30, ↓s131_31, ↓s131_34, ↓s131_37, ↓s131_38, ↓s131_39, ↓s131_40, ↓s131_41, ↓s131_44r, ↓s131_47, ↓s131_48, ↓s131_49, ↓s131_51, ↓s131_54, ↓s131_55, ↓s131_56, ↓s131_57, ↓s131_60, ↓s131_61, ↓s131_62, ↓s131_65, ↓s131_67, ↓s131_69, ↓s131_71, ↓s131_74, ↓s131_76, ↓s131_78, ↓s131_81, ↓s131_82, ↓s131_85, ↓s131_88, ↓s131_91, ↓s131_93, ↓s131_94, ↓s131_96, ↓s131_99, ↓s131_101, ↓s131_103, ↓s131_106, ↓s131_107, ↓s131_108r, ↓s131_111, ↓s131_112, ↓s131_113, ↓s131_115, ↓s131_118, ↓s131_119, ↓s131_120, ↓s131_121, ↓s131_122, ↓s131_123, ↓s131_126r, ↓s131_129, ↓s131_131, ↓s131_134, ↓s131_135, ↓s131_138, ↓s131_139, ↓s131_142, ↓s131_143, ↓s131_146, ↓s131_147, ↓s131_149, ↓s131_151, ↓s131_154, ↓s131_155, ↓s131_156, ↓s131_157r, ↓s131_160, ↓s131_163, ↓s131_166, ↓s131_167, ↓s131_169, ↓s131_172, ↓s131_175, ↓s131_178, ↓s131_181, ↓s131_182, ↓s131_185, ↓s131_187, ↓s131_190, ↓s131_192, iL_2, iL_26368, iL_27013, iL_3, iL_32, iL_36864, iL_47, wc_28, wc_3, wc_34, wc_35, wg_28_5, wg_28_6, wg_34_2, wg_34_4, wg_3_0, mN1_int, mN1_ref, mN1_null, mN1_U, mN1_rf, mCats_nil, mCats_int, mCats_ref, mCats_null, mCats_long, mCats_rf, mIsRef_ref, mIsRef_null, mIsRef_va, mRf_ref, mRf_null, mRf_rf, true_and, and_true, true_or, or_true, eq_self_iff_true, mK_v, mK_0, Nat.reduceAdd, Nat.reduceLeDiff, Nat.zero_le, iL_0, iL_1, iL_m1, iI_add, iI_sub, iI_mul, iI_neg, updI_at, upA_at, upP_at, upR_at, Nat.reduceEqDiff, reduceIte, Int.reduceAdd, Int.reduceSub, Int.reduceMul, Int.reduceDiv, Int.reduceMod, Int.reduceLT, Int.reduceLE, Int.reduceEq, Int.reduceNeg, not_true_eq_false, not_false_eq_true, Decidable.not_not, ng_1 hn3, ng_c hn3, iI_eq, s2, zi, z51]
    · rw [if_neg s2]
      have z49 := fun Q' => d49 (n := n) (k := k) (Q := Q') (I := I) (A := toA A J B) (P := P) (R := R) (o := o) (x := 0) hn2 ha2 (by omega)
      have ev : (if (0 : Int) ≤ 0 ∧ (0 : Int) < 4 then V 0 (J 42).toNat (0 : Int).toNat 0 else -1) = wyF J B 0 := by
        rw [if_pos (by omega), show (0 : Int).toNat = 0 from rfl, h1.2.1 0 (by omega)]
        unfold wyF
        by_cases w : J 42 = 40
        · rw [if_pos w, if_pos (by omega)]
        · rw [if_neg w, if_neg (by omega), show 4 * (J 42).toNat + 0 = (4 * J 42 + 0).toNat by omega]
      rw [ev] at z49
      rw [← zw (wyF J B 0) (wy0_rng hM hs) (iI 36864) (iI r) (iI 0) (iI 0)]
      generalize toH h0 I A J B fa fb = hh at *
      generalize toA A J B = A1 at *
      simp (maxSteps := 1000000) (disch := first | omega | (simp only [updI_at, upA_at, Nat.reduceEqDiff, reduceIte]; omega) | exact mIsRef_rf _ | exact rfl) only [↓s131_0, ↓s131_1, ↓s131_4, ↓s131_7, ↓s131_10, ↓s131_11, ↓s131_12, ↓s131_15, ↓s131_18, ↓s131_19, ↓s131_20, ↓s131_23, ↓s131_26, ↓s131_27, ↓s131_30, ↓s131_31, ↓s131_34, ↓s131_37, ↓s131_38, ↓s131_39, ↓s131_40, ↓s131_41, ↓s131_44r, ↓s131_47, ↓s131_48, ↓s131_49, ↓s131_51, ↓s131_54, ↓s131_55, ↓s131_56, ↓s131_57, ↓s131_60, ↓s131_61, ↓s131_62, ↓s131_65, ↓s131_67, ↓s131_69, ↓s131_71, ↓s131_74, ↓s131_76, ↓s131_78, ↓s131_81, ↓s131_82, ↓s131_85, ↓s131_88, ↓s131_91, ↓s131_93, ↓s131_94, ↓s131_96, ↓s131_99, ↓s131_101, ↓s131_103, ↓s131_106, ↓s131_107, ↓s131_108r, ↓s131_111, ↓s131_112, ↓s131_113, ↓s131_115, ↓s131_118, ↓s131_119, ↓s131_120, ↓s131_121, ↓s131_122, ↓s131_123, ↓s131_126r, ↓s131_129, ↓s131_131, ↓s131_134, ↓s131_135, ↓s131_138, ↓s131_139, ↓s131_142, ↓s131_143, ↓s131_146, ↓s131_147, ↓s131_149, ↓s131_151, ↓s131_154, ↓s131_155, ↓s131_156, ↓s131_157r, ↓s131_160, ↓s131_163, ↓s131_166, ↓s131_167, ↓s131_169, ↓s131_172, ↓s131_175, ↓s131_178, ↓s131_181, ↓s131_182, ↓s131_185, ↓s131_187, ↓s131_190, ↓s131_192, iL_2, iL_26368, iL_27013, iL_3, iL_32, iL_36864, iL_47, wc_28, wc_3, wc_34, wc_35, wg_28_5, wg_28_6, wg_34_2, wg_34_4, wg_3_0, mN1_int, mN1_ref, mN1_null, mN1_U, mN1_rf, mCats_nil, mCats_int, mCats_ref, mCats_null, mCats_long, mCats_rf, mIsRef_ref, mIsRef_null, mIsRef_va, mRf_ref, mRf_null, mRf_rf, true_and, and_true, true_or, or_true, eq_self_iff_true, mK_v, mK_0, Nat.reduceAdd, Nat.reduceLeDiff, Nat.zero_le, iL_0, iL_1, iL_m1, iI_add, iI_sub, iI_mul, iI_neg, updI_at, upA_at, upP_at, upR_at, Nat.reduceEqDiff, reduceIte, Int.reduceAdd, Int.reduceSub, Int.reduceMul, Int.reduceDiv, Int.reduceMod, Int.reduceLT, Int.reduceLE, Int.reduceEq, Int.reduceNeg, not_true_eq_false, not_false_eq_true, Decidable.not_not, ng_1 hn2, ng_c hn2, iI_eq, s2, z49]
  · rw [if_neg p]
    have pr : 0 ≤ aoF J B V ∧ aoF J B V ≤ 65535 := by
      unfold aoF
      repeat' split
      all_goals omega
    simp (maxSteps := 1000000) (disch := first | omega | (simp only [updI_at, upA_at, Nat.reduceEqDiff, reduceIte]; omega) | exact mIsRef_rf _ | exact rfl) only [↓s131_0, ↓s131_1, ↓s131_4, ↓s131_7, ↓s131_10, ↓s131_11, ↓s131_12, ↓s131_15, ↓s131_18, ↓s131_19, ↓s131_20, ↓s131_23, ↓s131_26, ↓s131_27, ↓s131_30, ↓s131_31, ↓s131_34, ↓s131_37, ↓s131_38, ↓s131_39, ↓s131_40, ↓s131_41, ↓s131_44r, ↓s131_47, ↓s131_48, ↓s131_49, ↓s131_51, ↓s131_54, ↓s131_55, ↓s131_56, ↓s131_57, ↓s131_60, ↓s131_61, ↓s131_62, ↓s131_65, ↓s131_67, ↓s131_69, ↓s131_71, ↓s131_74, ↓s131_76, ↓s131_78, ↓s131_81, ↓s131_82, ↓s131_85, ↓s131_88, ↓s131_91, ↓s131_93, ↓s131_94, ↓s131_96, ↓s131_99, ↓s131_101, ↓s131_103, ↓s131_106, ↓s131_107, ↓s131_108r, ↓s131_111, ↓s131_112, ↓s131_113, ↓s131_115, ↓s131_118, ↓s131_119, ↓s131_120, ↓s131_121, ↓s131_122, ↓s131_123, ↓s131_126r, ↓s131_129, ↓s131_131, ↓s131_134, ↓s131_135, ↓s131_138, ↓s131_139, ↓s131_142, ↓s131_143, ↓s131_146, ↓s131_147, ↓s131_149, ↓s131_151, ↓s131_154, ↓s131_155, ↓s131_156, ↓s131_157r, ↓s131_160, ↓s131_163, ↓s131_166, ↓s131_167, ↓s131_169, ↓s131_172, ↓s131_174, ↓s131_175, ↓s131_178, ↓s131_181, ↓s131_182, ↓s131_185, ↓s131_187, ↓s131_190, ↓s131_192, iL_2, iL_26368, iL_27013, iL_3, iL_32, iL_36864, iL_47, wc_28, wc_3, wc_34, wc_35, wg_28_5, wg_28_6, wg_34_2, wg_34_4, wg_3_0, mN1_int, mN1_ref, mN1_null, mN1_U, mN1_rf, mCats_nil, mCats_int, mCats_ref, mCats_null, mCats_long, mCats_rf, mIsRef_ref, mIsRef_null, mIsRef_va, mRf_ref, mRf_null, mRf_rf, true_and, and_true, true_or, or_true, eq_self_iff_true, mK_v, mK_0, Nat.reduceAdd, Nat.reduceLeDiff, Nat.zero_le, iL_0, iL_1, iL_m1, iI_add, iI_sub, iI_mul, iI_neg, updI_at, upA_at, upP_at, upR_at, Nat.reduceEqDiff, reduceIte, Int.reduceAdd, Int.reduceSub, Int.reduceMul, Int.reduceDiv, Int.reduceMod, Int.reduceLT, Int.reduceLE, Int.reduceEq, Int.reduceNeg, not_true_eq_false, not_false_eq_true, Decidable.not_not, iI_lt, iI_eq, p1, z135, z136, p]
end
end MRSP2
