/-! The law's loop: a turn for each call. -/
section MLOOP
variable {G : mG} {h h0 : mH} {n k b : Nat} {Q : mR → Prop} {I : Nat → Int} {A : Nat → Nat → Int} {P : Nat → Nat} {R : Nat → Option Nat} {o : Nat → Int64}
theorem sc_ld {j : Nat} {K : Int32 → Prop} (hs : sSc G h0 b) (hj : j < G.2.2.1 9) : mLdI (wH h0 b I A P R o) (G.2.2.1 8) (iI (j : Int)) K ↔ K (iI (scV G j)) := by
  have h3 := hs.2.1
  unfold mLdI
  rw [wH_hole hs.1.1, hs.1.2]
  dsimp only
  have q := iI_ix (z := (j : Int)) (N := G.2.2.1 9) (by omega) (by omega) (by omega)
  rw [iI_nat (by omega) (by omega), Int.toNat_natCast] at q ⊢
  exact ⟨fun q => q.2, fun w => ⟨⟨Or.inr rfl, q.1, q.2⟩, w⟩⟩
theorem sc_1 {i t : Nat} {K : Int32 → Prop} (hs : sSc G h0 b) (hj : i + t < G.2.2.1 9) : mLdI (wH h0 b I A P R o) (G.2.2.1 8) (iI ((i : Int) + (t : Int))) K ↔ K (iI (scV G (i + t))) := by
  have e := sc_ld (I := I) (A := A) (P := P) (R := R) (o := o) (K := K) hs hj
  rw [Int.natCast_add] at e
  exact e
theorem sc_len {K : Nat → Prop} (hs : sSc G h0 b) : mLen (wH h0 b I A P R o) (G.2.2.1 8) K ↔ K (G.2.2.1 9) := by
  unfold mLen
  rw [wH_hole hs.1.1, hs.1.2]
theorem lg_self (x : Int64) : lg_cmp x x = 0 := by
  unfold lg_cmp
  simp
def lcT (G : mG) (b i : Nat) (n k : Nat) (Q : mR → Prop) : Prop := ∀ (h' : mH) (n' k' : Nat) (w5 w6 : Value), rl G b h' n' → n' ≤ n + 16 → k' ≤ k + 9000 → mX G 287 1002 [.ref (G.2.2.1 8), .ref b, .ref (b + 43), .ref (b + 78), .int (iI (i : Int)), w5, w6] [] h' n' k' Q
section
variable {i : Nat} {v5 v6 : Value}
theorem lc_0 (hb : G.2.2.2 ≤ b) (hl : rl G b h n) (hi : i + 6 ≤ G.2.2.1 9) (hgo : lcT G b i n k Q) : mX G 287 128 [.ref (G.2.2.1 8), .ref b, .ref (b + 43), .ref (b + 78), .int (iI (i : Int)), v5, v6] [] h n k Q := by
  obtain ⟨h0, I, A, P, R, o, fa, fb, fcap, fg, W, V, X, cap, ng, rfl, hM, hr, hf, hri⟩ := hl
  have sc := hr.2.2.2.2.2.2.2.2.2.2.2.2.1
  have rg := sc.2.2
  obtain ⟨v, h1, I1, A1, P1, R1, o1, H2, z1, s1, z2, r2⟩ := op_feed (o := o) hb hM hr hf hri (rg (i + 1)) (rg (i + 2)) (rg (i + 3)) (rg (i + 4)) (rg (i + 5))
  dsimp only at z1 z2
  have a1 := fun K => sc_1 (I := I) (A := A) (P := P) (R := R) (o := o) (K := K) (i := i) (t := 1) sc (by omega)
  have c1 := fun K => sc_1 (I := I1) (A := A1) (P := P1) (R := R1) (o := o1) (K := K) (i := i) (t := 1) s1 (by omega)
  rw [show ((1 : Nat) : Int) = 1 from rfl] at a1 c1
  have a2 := fun K => sc_1 (I := I) (A := A) (P := P) (R := R) (o := o) (K := K) (i := i) (t := 2) sc (by omega)
  have c2 := fun K => sc_1 (I := I1) (A := A1) (P := P1) (R := R1) (o := o1) (K := K) (i := i) (t := 2) s1 (by omega)
  rw [show ((2 : Nat) : Int) = 2 from rfl] at a2 c2
  have a3 := fun K => sc_1 (I := I) (A := A) (P := P) (R := R) (o := o) (K := K) (i := i) (t := 3) sc (by omega)
  have c3 := fun K => sc_1 (I := I1) (A := A1) (P := P1) (R := R1) (o := o1) (K := K) (i := i) (t := 3) s1 (by omega)
  rw [show ((3 : Nat) : Int) = 3 from rfl] at a3 c3
  have a4 := fun K => sc_1 (I := I) (A := A) (P := P) (R := R) (o := o) (K := K) (i := i) (t := 4) sc (by omega)
  have c4 := fun K => sc_1 (I := I1) (A := A1) (P := P1) (R := R1) (o := o1) (K := K) (i := i) (t := 4) s1 (by omega)
  rw [show ((4 : Nat) : Int) = 4 from rfl] at a4 c4
  have a5 := fun K => sc_1 (I := I) (A := A) (P := P) (R := R) (o := o) (K := K) (i := i) (t := 5) sc (by omega)
  have c5 := fun K => sc_1 (I := I1) (A := A1) (P := P1) (R := R1) (o := o1) (K := K) (i := i) (t := 5) s1 (by omega)
  rw [show ((5 : Nat) : Int) = 5 from rfl] at a5 c5
  simp (maxSteps := 1000000) (disch := first | omega | (simp only [updI_at, upA_at, Nat.reduceEqDiff, reduceIte]; omega) | exact mIsRef_rf _ | exact rfl) only [↓s287_128, ↓s287_129, ↓s287_130, ↓s287_132, ↓s287_133, ↓s287_134, ↓s287_135, ↓s287_136, ↓s287_138, ↓s287_139, ↓s287_140, ↓s287_141, ↓s287_142, ↓s287_144, ↓s287_145, ↓s287_146, ↓s287_147, ↓s287_148, ↓s287_150, ↓s287_151, ↓s287_152, ↓s287_153, ↓s287_154, ↓s287_156, ↓s287_157, ↓s287_158, ↓s287_159, ↓s287_162, ↓s287_163, ↓s287_164, ↓s287_166, ↓s287_167, ↓s287_168, ↓s287_169, ↓s287_170, ↓s287_172, ↓s287_173, ↓s287_174, ↓s287_175, ↓s287_176, ↓s287_178, ↓s287_179, ↓s287_180, ↓s287_181, ↓s287_182, ↓s287_184, ↓s287_185, ↓s287_186, ↓s287_187, ↓s287_188, ↓s287_190, ↓s287_191, ↓s287_192, ↓s287_193, ↓s287_196, ↓s287_199, ↓s287_200, iL_2, iL_3, iL_4, iL_5, wc_0, wc_43, mN1_int, mN1_ref, mN1_null, mN1_U, mN1_rf, mCats_nil, mCats_int, mCats_ref, mCats_null, mCats_long, mCats_rf, mIsRef_ref, mIsRef_null, mIsRef_va, mRf_ref, mRf_null, mRf_rf, true_and, and_true, true_or, or_true, eq_self_iff_true, mK_v, mK_0, Nat.reduceAdd, Nat.reduceLeDiff, Nat.zero_le, iL_0, iL_1, iL_m1, iI_add, iI_sub, iI_mul, iI_neg, updI_at, upA_at, upP_at, upR_at, Nat.reduceEqDiff, reduceIte, Int.reduceAdd, Int.reduceSub, Int.reduceMul, Int.reduceDiv, Int.reduceMod, Int.reduceLT, Int.reduceLE, Int.reduceEq, Int.reduceNeg, not_true_eq_false, not_false_eq_true, Decidable.not_not, a1, c1, a2, c2, a3, c3, a4, c4, a5, c5, z1, z2, if_true]
  exact hgo H2 n k v5 v6 r2 (by omega) (by omega)
theorem lc_1 (hb : G.2.2.2 ≤ b) (hl : rl G b h n) (hi : i + 6 ≤ G.2.2.1 9) (hgo : lcT G b i n k Q) : mX G 287 201 [.ref (G.2.2.1 8), .ref b, .ref (b + 43), .ref (b + 78), .int (iI (i : Int)), v5, v6] [] h n k Q := by
  obtain ⟨h0, I, A, P, R, o, fa, fb, fcap, fg, W, V, X, cap, ng, rfl, hM, hr, hf, hri⟩ := hl
  have sc := hr.2.2.2.2.2.2.2.2.2.2.2.2.1
  have rg := sc.2.2
  obtain ⟨v, h1, I1, A1, P1, R1, o1, H2, z1, s1, z2, r2⟩ := op_endc (o := o) hb hM hr hf hri (rg (i + 1))
  dsimp only at z1 z2
  have a1 := fun K => sc_1 (I := I) (A := A) (P := P) (R := R) (o := o) (K := K) (i := i) (t := 1) sc (by omega)
  have c1 := fun K => sc_1 (I := I1) (A := A1) (P := P1) (R := R1) (o := o1) (K := K) (i := i) (t := 1) s1 (by omega)
  rw [show ((1 : Nat) : Int) = 1 from rfl] at a1 c1
  simp (maxSteps := 1000000) (disch := first | omega | (simp only [updI_at, upA_at, Nat.reduceEqDiff, reduceIte]; omega) | exact mIsRef_rf _ | exact rfl) only [↓s287_201, ↓s287_202, ↓s287_203, ↓s287_205, ↓s287_206, ↓s287_207, ↓s287_208, ↓s287_211, ↓s287_212, ↓s287_213, ↓s287_215, ↓s287_216, ↓s287_217, ↓s287_218, ↓s287_221, ↓s287_224, ↓s287_225, wc_0, wc_43, mN1_int, mN1_ref, mN1_null, mN1_U, mN1_rf, mCats_nil, mCats_int, mCats_ref, mCats_null, mCats_long, mCats_rf, mIsRef_ref, mIsRef_null, mIsRef_va, mRf_ref, mRf_null, mRf_rf, true_and, and_true, true_or, or_true, eq_self_iff_true, mK_v, mK_0, Nat.reduceAdd, Nat.reduceLeDiff, Nat.zero_le, iL_0, iL_1, iL_m1, iI_add, iI_sub, iI_mul, iI_neg, updI_at, upA_at, upP_at, upR_at, Nat.reduceEqDiff, reduceIte, Int.reduceAdd, Int.reduceSub, Int.reduceMul, Int.reduceDiv, Int.reduceMod, Int.reduceLT, Int.reduceLE, Int.reduceEq, Int.reduceNeg, not_true_eq_false, not_false_eq_true, Decidable.not_not, a1, c1, z1, z2, if_true]
  exact hgo H2 n k v5 v6 r2 (by omega) (by omega)
theorem lc_2 (hb : G.2.2.2 ≤ b) (hl : rl G b h n) (hi : i + 6 ≤ G.2.2.1 9) (hgo : lcT G b i n k Q) : mX G 287 226 [.ref (G.2.2.1 8), .ref b, .ref (b + 43), .ref (b + 78), .int (iI (i : Int)), v5, v6] [] h n k Q := by
  obtain ⟨h0, I, A, P, R, o, fa, fb, fcap, fg, W, V, X, cap, ng, rfl, hM, hr, hf, hri⟩ := hl
  have sc := hr.2.2.2.2.2.2.2.2.2.2.2.2.1
  have rg := sc.2.2
  obtain ⟨v, w, n1, d, h1, I1, A1, P1, R1, o1, I2, A2, ⟨dn, dk⟩, z1, s1, z2, ⟨tv, vr⟩, ow, r2⟩ := op_file (o := o) hb hM hr hf hri (rg (i + 1)) (rg (i + 2)) (rg (i + 3)) (rg (i + 4)) (rg (i + 5))
  dsimp only at z1 z2
  have a1 := fun K => sc_1 (I := I) (A := A) (P := P) (R := R) (o := o) (K := K) (i := i) (t := 1) sc (by omega)
  have c1 := fun K => sc_1 (I := I1) (A := A1) (P := P1) (R := R1) (o := o1) (K := K) (i := i) (t := 1) s1 (by omega)
  rw [show ((1 : Nat) : Int) = 1 from rfl] at a1 c1
  have a2 := fun K => sc_1 (I := I) (A := A) (P := P) (R := R) (o := o) (K := K) (i := i) (t := 2) sc (by omega)
  have c2 := fun K => sc_1 (I := I1) (A := A1) (P := P1) (R := R1) (o := o1) (K := K) (i := i) (t := 2) s1 (by omega)
  rw [show ((2 : Nat) : Int) = 2 from rfl] at a2 c2
  have a3 := fun K => sc_1 (I := I) (A := A) (P := P) (R := R) (o := o) (K := K) (i := i) (t := 3) sc (by omega)
  have c3 := fun K => sc_1 (I := I1) (A := A1) (P := P1) (R := R1) (o := o1) (K := K) (i := i) (t := 3) s1 (by omega)
  rw [show ((3 : Nat) : Int) = 3 from rfl] at a3 c3
  have a4 := fun K => sc_1 (I := I) (A := A) (P := P) (R := R) (o := o) (K := K) (i := i) (t := 4) sc (by omega)
  have c4 := fun K => sc_1 (I := I1) (A := A1) (P := P1) (R := R1) (o := o1) (K := K) (i := i) (t := 4) s1 (by omega)
  rw [show ((4 : Nat) : Int) = 4 from rfl] at a4 c4
  have a5 := fun K => sc_1 (I := I) (A := A) (P := P) (R := R) (o := o) (K := K) (i := i) (t := 5) sc (by omega)
  have c5 := fun K => sc_1 (I := I1) (A := A1) (P := P1) (R := R1) (o := o1) (K := K) (i := i) (t := 5) s1 (by omega)
  rw [show ((5 : Nat) : Int) = 5 from rfl] at a5 c5
  have z178 : ∀ k Q, mX G 178 0 [.ref (b + 43)] [] (wH h1 b I2 A2 P1 R1 o1) n1 k Q ↔ Q (.inl (some (.int (iI v))), wH h1 b I2 A2 P1 R1 o1, n1, k) := by
    intro k Q
    simp (maxSteps := 1000000) (disch := first | omega | (simp only [updI_at, upA_at, Nat.reduceEqDiff, reduceIte]; omega) | exact mIsRef_rf _ | exact rfl) only [↓s178_0, ↓s178_1, ↓s178_4, wg_43_0, mN1_int, mN1_ref, mN1_null, mN1_U, mN1_rf, mCats_nil, mCats_int, mCats_ref, mCats_null, mCats_long, mCats_rf, mIsRef_ref, mIsRef_null, mIsRef_va, mRf_ref, mRf_null, mRf_rf, true_and, and_true, true_or, or_true, eq_self_iff_true, mK_v, mK_0, Nat.reduceAdd, Nat.reduceLeDiff, Nat.zero_le, iL_0, iL_1, iL_m1, iI_add, iI_sub, iI_mul, iI_neg, updI_at, upA_at, upP_at, upR_at, Nat.reduceEqDiff, reduceIte, Int.reduceAdd, Int.reduceSub, Int.reduceMul, Int.reduceDiv, Int.reduceMod, Int.reduceLT, Int.reduceLE, Int.reduceEq, Int.reduceNeg, not_true_eq_false, not_false_eq_true, Decidable.not_not, tv]
  by_cases p : v = 0
  · have ow2 := ow p
    subst p
    have lj := fun K => lJ (h0 := h1) (b := b) (I := I2) (A := A2) (P := P1) (R := R1) (o := o1) (K := K)
    rw [ow2] at lj
    simp (maxSteps := 1000000) (disch := first | omega | (simp only [updI_at, upA_at, Nat.reduceEqDiff, reduceIte]; omega) | exact mIsRef_rf _ | exact rfl) only [↓s287_226, ↓s287_227, ↓s287_228, ↓s287_230, ↓s287_231, ↓s287_232, ↓s287_233, ↓s287_234, ↓s287_236, ↓s287_237, ↓s287_238, ↓s287_239, ↓s287_240, ↓s287_242, ↓s287_243, ↓s287_244, ↓s287_245, ↓s287_246, ↓s287_248, ↓s287_249, ↓s287_250, ↓s287_251, ↓s287_252, ↓s287_254, ↓s287_255, ↓s287_256, ↓s287_257, ↓s287_258r, ↓s287_261, ↓s287_263, ↓s287_264, ↓s287_265, ↓s287_267, ↓s287_268, ↓s287_269, ↓s287_270, ↓s287_271, ↓s287_273, ↓s287_274, ↓s287_275, ↓s287_276, ↓s287_277, ↓s287_279, ↓s287_280, ↓s287_281, ↓s287_282, ↓s287_283, ↓s287_285, ↓s287_286, ↓s287_287, ↓s287_288, ↓s287_289, ↓s287_291, ↓s287_292, ↓s287_293, ↓s287_294, ↓s287_297, ↓s287_299, ↓s287_300, ↓s287_303, ↓s287_305, ↓s287_308, ↓s287_309, ↓s287_310, ↓s287_312, ↓s287_315, ↓s287_316, ↓s287_317, ↓s287_318, ↓s287_320, ↓s287_321, ↓s287_322, ↓s287_325, ↓s287_326, ↓s287_327, iL_2, iL_3, iL_4, iL_5, wc_43, mN1_int, mN1_ref, mN1_null, mN1_U, mN1_rf, mCats_nil, mCats_int, mCats_ref, mCats_null, mCats_long, mCats_rf, mIsRef_ref, mIsRef_null, mIsRef_va, mRf_ref, mRf_null, mRf_rf, true_and, and_true, true_or, or_true, eq_self_iff_true, mK_v, mK_0, Nat.reduceAdd, Nat.reduceLeDiff, Nat.zero_le, iL_0, iL_1, iL_m1, iI_add, iI_sub, iI_mul, iI_neg, updI_at, upA_at, upP_at, upR_at, Nat.reduceEqDiff, reduceIte, Int.reduceAdd, Int.reduceSub, Int.reduceMul, Int.reduceDiv, Int.reduceMod, Int.reduceLT, Int.reduceLE, Int.reduceEq, Int.reduceNeg, not_true_eq_false, not_false_eq_true, Decidable.not_not, a1, c1, a2, c2, a3, c3, a4, c4, a5, c5, z1, z2, z178, iI_eq, lj, lg_self, if_true]
    exact hgo _ n1 (k + d) _ _ r2 (by omega) (by omega)
  · simp (maxSteps := 1000000) (disch := first | omega | (simp only [updI_at, upA_at, Nat.reduceEqDiff, reduceIte]; omega) | exact mIsRef_rf _ | exact rfl) only [↓s287_226, ↓s287_227, ↓s287_228, ↓s287_230, ↓s287_231, ↓s287_232, ↓s287_233, ↓s287_234, ↓s287_236, ↓s287_237, ↓s287_238, ↓s287_239, ↓s287_240, ↓s287_242, ↓s287_243, ↓s287_244, ↓s287_245, ↓s287_246, ↓s287_248, ↓s287_249, ↓s287_250, ↓s287_251, ↓s287_252, ↓s287_254, ↓s287_255, ↓s287_256, ↓s287_257, ↓s287_258r, ↓s287_261, ↓s287_263, ↓s287_264, ↓s287_265, ↓s287_267, ↓s287_268, ↓s287_269, ↓s287_270, ↓s287_271, ↓s287_273, ↓s287_274, ↓s287_275, ↓s287_276, ↓s287_277, ↓s287_279, ↓s287_280, ↓s287_281, ↓s287_282, ↓s287_283, ↓s287_285, ↓s287_286, ↓s287_287, ↓s287_288, ↓s287_289, ↓s287_291, ↓s287_292, ↓s287_293, ↓s287_294, ↓s287_297, ↓s287_299, ↓s287_300, ↓s287_303, ↓s287_305, ↓s287_308, ↓s287_309, ↓s287_310, ↓s287_312, ↓s287_315, ↓s287_316, ↓s287_317, ↓s287_318, ↓s287_320, ↓s287_321, ↓s287_322, ↓s287_325, ↓s287_326, ↓s287_327, iL_2, iL_3, iL_4, iL_5, wc_43, mN1_int, mN1_ref, mN1_null, mN1_U, mN1_rf, mCats_nil, mCats_int, mCats_ref, mCats_null, mCats_long, mCats_rf, mIsRef_ref, mIsRef_null, mIsRef_va, mRf_ref, mRf_null, mRf_rf, true_and, and_true, true_or, or_true, eq_self_iff_true, mK_v, mK_0, Nat.reduceAdd, Nat.reduceLeDiff, Nat.zero_le, iL_0, iL_1, iL_m1, iI_add, iI_sub, iI_mul, iI_neg, updI_at, upA_at, upP_at, upR_at, Nat.reduceEqDiff, reduceIte, Int.reduceAdd, Int.reduceSub, Int.reduceMul, Int.reduceDiv, Int.reduceMod, Int.reduceLT, Int.reduceLE, Int.reduceEq, Int.reduceNeg, not_true_eq_false, not_false_eq_true, Decidable.not_not, a1, c1, a2, c2, a3, c3, a4, c4, a5, c5, z1, z2, z178, iI_eq, p, if_true, if_false]
    exact hgo _ n1 (k + d) _ _ r2 (by omega) (by omega)
theorem lc_3 (hb : G.2.2.2 ≤ b) (hl : rl G b h n) (hi : i + 6 ≤ G.2.2.1 9) (hgo : lcT G b i n k Q) : mX G 287 330 [.ref (G.2.2.1 8), .ref b, .ref (b + 43), .ref (b + 78), .int (iI (i : Int)), v5, v6] [] h n k Q := by
  obtain ⟨h0, I, A, P, R, o, fa, fb, fcap, fg, W, V, X, cap, ng, rfl, hM, hr, hf, hri⟩ := hl
  have sc := hr.2.2.2.2.2.2.2.2.2.2.2.2.1
  have rg := sc.2.2
  obtain ⟨v, h1, I1, A1, P1, R1, o1, H2, z1, s1, z2, r2⟩ := op_rights (o := o) hb hM hr hf hri (rg (i + 1)) (rg (i + 2)) (rg (i + 3))
  dsimp only at z1 z2
  have a1 := fun K => sc_1 (I := I) (A := A) (P := P) (R := R) (o := o) (K := K) (i := i) (t := 1) sc (by omega)
  have c1 := fun K => sc_1 (I := I1) (A := A1) (P := P1) (R := R1) (o := o1) (K := K) (i := i) (t := 1) s1 (by omega)
  rw [show ((1 : Nat) : Int) = 1 from rfl] at a1 c1
  have a2 := fun K => sc_1 (I := I) (A := A) (P := P) (R := R) (o := o) (K := K) (i := i) (t := 2) sc (by omega)
  have c2 := fun K => sc_1 (I := I1) (A := A1) (P := P1) (R := R1) (o := o1) (K := K) (i := i) (t := 2) s1 (by omega)
  rw [show ((2 : Nat) : Int) = 2 from rfl] at a2 c2
  have a3 := fun K => sc_1 (I := I) (A := A) (P := P) (R := R) (o := o) (K := K) (i := i) (t := 3) sc (by omega)
  have c3 := fun K => sc_1 (I := I1) (A := A1) (P := P1) (R := R1) (o := o1) (K := K) (i := i) (t := 3) s1 (by omega)
  rw [show ((3 : Nat) : Int) = 3 from rfl] at a3 c3
  simp (maxSteps := 1000000) (disch := first | omega | (simp only [updI_at, upA_at, Nat.reduceEqDiff, reduceIte]; omega) | exact mIsRef_rf _ | exact rfl) only [↓s287_330, ↓s287_331, ↓s287_332, ↓s287_334, ↓s287_335, ↓s287_336, ↓s287_337, ↓s287_338, ↓s287_340, ↓s287_341, ↓s287_342, ↓s287_343, ↓s287_344, ↓s287_346, ↓s287_347, ↓s287_348, ↓s287_349, ↓s287_352, ↓s287_353, ↓s287_354, ↓s287_356, ↓s287_357, ↓s287_358, ↓s287_359, ↓s287_360, ↓s287_362, ↓s287_363, ↓s287_364, ↓s287_365, ↓s287_366, ↓s287_368, ↓s287_369, ↓s287_370, ↓s287_371, ↓s287_374, ↓s287_377, ↓s287_378, iL_2, iL_3, wc_0, wc_43, mN1_int, mN1_ref, mN1_null, mN1_U, mN1_rf, mCats_nil, mCats_int, mCats_ref, mCats_null, mCats_long, mCats_rf, mIsRef_ref, mIsRef_null, mIsRef_va, mRf_ref, mRf_null, mRf_rf, true_and, and_true, true_or, or_true, eq_self_iff_true, mK_v, mK_0, Nat.reduceAdd, Nat.reduceLeDiff, Nat.zero_le, iL_0, iL_1, iL_m1, iI_add, iI_sub, iI_mul, iI_neg, updI_at, upA_at, upP_at, upR_at, Nat.reduceEqDiff, reduceIte, Int.reduceAdd, Int.reduceSub, Int.reduceMul, Int.reduceDiv, Int.reduceMod, Int.reduceLT, Int.reduceLE, Int.reduceEq, Int.reduceNeg, not_true_eq_false, not_false_eq_true, Decidable.not_not, a1, c1, a2, c2, a3, c3, z1, z2, if_true]
  exact hgo H2 n k v5 v6 r2 (by omega) (by omega)
theorem lc_4 (hb : G.2.2.2 ≤ b) (hl : rl G b h n) (hi : i + 6 ≤ G.2.2.1 9) (hgo : lcT G b i n k Q) : mX G 287 379 [.ref (G.2.2.1 8), .ref b, .ref (b + 43), .ref (b + 78), .int (iI (i : Int)), v5, v6] [] h n k Q := by
  obtain ⟨h0, I, A, P, R, o, fa, fb, fcap, fg, W, V, X, cap, ng, rfl, hM, hr, hf, hri⟩ := hl
  have sc := hr.2.2.2.2.2.2.2.2.2.2.2.2.1
  have rg := sc.2.2
  obtain ⟨v, w, n1, d, h1, I1, A1, P1, R1, o1, I2, A2, ⟨dn, dk⟩, z1, s1, z2, ⟨tv, vr⟩, ow, r2⟩ := opX_mono (dn' := 16) (dk' := 9000) (op_fill (o := o) hb hM hr hf hri (rg (i + 1)) (rg (i + 2))) (by omega) (by omega)
  dsimp only at z1 z2
  have a1 := fun K => sc_1 (I := I) (A := A) (P := P) (R := R) (o := o) (K := K) (i := i) (t := 1) sc (by omega)
  have c1 := fun K => sc_1 (I := I1) (A := A1) (P := P1) (R := R1) (o := o1) (K := K) (i := i) (t := 1) s1 (by omega)
  rw [show ((1 : Nat) : Int) = 1 from rfl] at a1 c1
  have a2 := fun K => sc_1 (I := I) (A := A) (P := P) (R := R) (o := o) (K := K) (i := i) (t := 2) sc (by omega)
  have c2 := fun K => sc_1 (I := I1) (A := A1) (P := P1) (R := R1) (o := o1) (K := K) (i := i) (t := 2) s1 (by omega)
  rw [show ((2 : Nat) : Int) = 2 from rfl] at a2 c2
  have z178 : ∀ k Q, mX G 178 0 [.ref (b + 43)] [] (wH h1 b I2 A2 P1 R1 o1) n1 k Q ↔ Q (.inl (some (.int (iI v))), wH h1 b I2 A2 P1 R1 o1, n1, k) := by
    intro k Q
    simp (maxSteps := 1000000) (disch := first | omega | (simp only [updI_at, upA_at, Nat.reduceEqDiff, reduceIte]; omega) | exact mIsRef_rf _ | exact rfl) only [↓s178_0, ↓s178_1, ↓s178_4, wg_43_0, mN1_int, mN1_ref, mN1_null, mN1_U, mN1_rf, mCats_nil, mCats_int, mCats_ref, mCats_null, mCats_long, mCats_rf, mIsRef_ref, mIsRef_null, mIsRef_va, mRf_ref, mRf_null, mRf_rf, true_and, and_true, true_or, or_true, eq_self_iff_true, mK_v, mK_0, Nat.reduceAdd, Nat.reduceLeDiff, Nat.zero_le, iL_0, iL_1, iL_m1, iI_add, iI_sub, iI_mul, iI_neg, updI_at, upA_at, upP_at, upR_at, Nat.reduceEqDiff, reduceIte, Int.reduceAdd, Int.reduceSub, Int.reduceMul, Int.reduceDiv, Int.reduceMod, Int.reduceLT, Int.reduceLE, Int.reduceEq, Int.reduceNeg, not_true_eq_false, not_false_eq_true, Decidable.not_not, tv]
  by_cases p : v = 0
  · have ow2 := ow p
    subst p
    have lj := fun K => lJ (h0 := h1) (b := b) (I := I2) (A := A2) (P := P1) (R := R1) (o := o1) (K := K)
    rw [ow2] at lj
    simp (maxSteps := 1000000) (disch := first | omega | (simp only [updI_at, upA_at, Nat.reduceEqDiff, reduceIte]; omega) | exact mIsRef_rf _ | exact rfl) only [↓s287_379, ↓s287_380, ↓s287_381, ↓s287_383, ↓s287_384, ↓s287_385, ↓s287_386, ↓s287_387, ↓s287_389, ↓s287_390, ↓s287_391, ↓s287_392, ↓s287_393r, ↓s287_396, ↓s287_398, ↓s287_399, ↓s287_400, ↓s287_402, ↓s287_403, ↓s287_404, ↓s287_405, ↓s287_406, ↓s287_408, ↓s287_409, ↓s287_410, ↓s287_411, ↓s287_414, ↓s287_416, ↓s287_417, ↓s287_420, ↓s287_422, ↓s287_425, ↓s287_426, ↓s287_427, ↓s287_429, ↓s287_432, ↓s287_433, ↓s287_434, ↓s287_435, ↓s287_437, ↓s287_438, ↓s287_439, ↓s287_442, ↓s287_443, ↓s287_444, iL_2, wc_43, mN1_int, mN1_ref, mN1_null, mN1_U, mN1_rf, mCats_nil, mCats_int, mCats_ref, mCats_null, mCats_long, mCats_rf, mIsRef_ref, mIsRef_null, mIsRef_va, mRf_ref, mRf_null, mRf_rf, true_and, and_true, true_or, or_true, eq_self_iff_true, mK_v, mK_0, Nat.reduceAdd, Nat.reduceLeDiff, Nat.zero_le, iL_0, iL_1, iL_m1, iI_add, iI_sub, iI_mul, iI_neg, updI_at, upA_at, upP_at, upR_at, Nat.reduceEqDiff, reduceIte, Int.reduceAdd, Int.reduceSub, Int.reduceMul, Int.reduceDiv, Int.reduceMod, Int.reduceLT, Int.reduceLE, Int.reduceEq, Int.reduceNeg, not_true_eq_false, not_false_eq_true, Decidable.not_not, a1, c1, a2, c2, z1, z2, z178, iI_eq, lj, lg_self, if_true]
    exact hgo _ n1 (k + d) _ _ r2 (by omega) (by omega)
  · simp (maxSteps := 1000000) (disch := first | omega | (simp only [updI_at, upA_at, Nat.reduceEqDiff, reduceIte]; omega) | exact mIsRef_rf _ | exact rfl) only [↓s287_379, ↓s287_380, ↓s287_381, ↓s287_383, ↓s287_384, ↓s287_385, ↓s287_386, ↓s287_387, ↓s287_389, ↓s287_390, ↓s287_391, ↓s287_392, ↓s287_393r, ↓s287_396, ↓s287_398, ↓s287_399, ↓s287_400, ↓s287_402, ↓s287_403, ↓s287_404, ↓s287_405, ↓s287_406, ↓s287_408, ↓s287_409, ↓s287_410, ↓s287_411, ↓s287_414, ↓s287_416, ↓s287_417, ↓s287_420, ↓s287_422, ↓s287_425, ↓s287_426, ↓s287_427, ↓s287_429, ↓s287_432, ↓s287_433, ↓s287_434, ↓s287_435, ↓s287_437, ↓s287_438, ↓s287_439, ↓s287_442, ↓s287_443, ↓s287_444, iL_2, wc_43, mN1_int, mN1_ref, mN1_null, mN1_U, mN1_rf, mCats_nil, mCats_int, mCats_ref, mCats_null, mCats_long, mCats_rf, mIsRef_ref, mIsRef_null, mIsRef_va, mRf_ref, mRf_null, mRf_rf, true_and, and_true, true_or, or_true, eq_self_iff_true, mK_v, mK_0, Nat.reduceAdd, Nat.reduceLeDiff, Nat.zero_le, iL_0, iL_1, iL_m1, iI_add, iI_sub, iI_mul, iI_neg, updI_at, upA_at, upP_at, upR_at, Nat.reduceEqDiff, reduceIte, Int.reduceAdd, Int.reduceSub, Int.reduceMul, Int.reduceDiv, Int.reduceMod, Int.reduceLT, Int.reduceLE, Int.reduceEq, Int.reduceNeg, not_true_eq_false, not_false_eq_true, Decidable.not_not, a1, c1, a2, c2, z1, z2, z178, iI_eq, p, if_true, if_false]
    exact hgo _ n1 (k + d) _ _ r2 (by omega) (by omega)
theorem lc_5 (hb : G.2.2.2 ≤ b) (hl : rl G b h n) (hi : i + 6 ≤ G.2.2.1 9) (hgo : lcT G b i n k Q) : mX G 287 447 [.ref (G.2.2.1 8), .ref b, .ref (b + 43), .ref (b + 78), .int (iI (i : Int)), v5, v6] [] h n k Q := by
  obtain ⟨h0, I, A, P, R, o, fa, fb, fcap, fg, W, V, X, cap, ng, rfl, hM, hr, hf, hri⟩ := hl
  have sc := hr.2.2.2.2.2.2.2.2.2.2.2.2.1
  have rg := sc.2.2
  obtain ⟨v, w, n1, d, h1, I1, A1, P1, R1, o1, I2, A2, ⟨dn, dk⟩, z1, s1, z2, ⟨tv, vr⟩, ow, r2⟩ := op_node (o := o) hb hM hr hf hri (rg (i + 1)) (rg (i + 2))
  dsimp only at z1 z2
  have a1 := fun K => sc_1 (I := I) (A := A) (P := P) (R := R) (o := o) (K := K) (i := i) (t := 1) sc (by omega)
  have c1 := fun K => sc_1 (I := I1) (A := A1) (P := P1) (R := R1) (o := o1) (K := K) (i := i) (t := 1) s1 (by omega)
  rw [show ((1 : Nat) : Int) = 1 from rfl] at a1 c1
  have a2 := fun K => sc_1 (I := I) (A := A) (P := P) (R := R) (o := o) (K := K) (i := i) (t := 2) sc (by omega)
  have c2 := fun K => sc_1 (I := I1) (A := A1) (P := P1) (R := R1) (o := o1) (K := K) (i := i) (t := 2) s1 (by omega)
  rw [show ((2 : Nat) : Int) = 2 from rfl] at a2 c2
  have z178 : ∀ k Q, mX G 178 0 [.ref (b + 43)] [] (wH h1 b I2 A2 P1 R1 o1) n1 k Q ↔ Q (.inl (some (.int (iI v))), wH h1 b I2 A2 P1 R1 o1, n1, k) := by
    intro k Q
    simp (maxSteps := 1000000) (disch := first | omega | (simp only [updI_at, upA_at, Nat.reduceEqDiff, reduceIte]; omega) | exact mIsRef_rf _ | exact rfl) only [↓s178_0, ↓s178_1, ↓s178_4, wg_43_0, mN1_int, mN1_ref, mN1_null, mN1_U, mN1_rf, mCats_nil, mCats_int, mCats_ref, mCats_null, mCats_long, mCats_rf, mIsRef_ref, mIsRef_null, mIsRef_va, mRf_ref, mRf_null, mRf_rf, true_and, and_true, true_or, or_true, eq_self_iff_true, mK_v, mK_0, Nat.reduceAdd, Nat.reduceLeDiff, Nat.zero_le, iL_0, iL_1, iL_m1, iI_add, iI_sub, iI_mul, iI_neg, updI_at, upA_at, upP_at, upR_at, Nat.reduceEqDiff, reduceIte, Int.reduceAdd, Int.reduceSub, Int.reduceMul, Int.reduceDiv, Int.reduceMod, Int.reduceLT, Int.reduceLE, Int.reduceEq, Int.reduceNeg, not_true_eq_false, not_false_eq_true, Decidable.not_not, tv]
  by_cases p : v = 0
  · have ow2 := ow p
    subst p
    have lj := fun K => lJ (h0 := h1) (b := b) (I := I2) (A := A2) (P := P1) (R := R1) (o := o1) (K := K)
    rw [ow2] at lj
    simp (maxSteps := 1000000) (disch := first | omega | (simp only [updI_at, upA_at, Nat.reduceEqDiff, reduceIte]; omega) | exact mIsRef_rf _ | exact rfl) only [↓s287_447, ↓s287_448, ↓s287_449, ↓s287_451, ↓s287_452, ↓s287_453, ↓s287_454, ↓s287_455, ↓s287_457, ↓s287_458, ↓s287_459, ↓s287_460, ↓s287_461r, ↓s287_464, ↓s287_466, ↓s287_467, ↓s287_468, ↓s287_470, ↓s287_471, ↓s287_472, ↓s287_473, ↓s287_474, ↓s287_476, ↓s287_477, ↓s287_478, ↓s287_479, ↓s287_482, ↓s287_484, ↓s287_485, ↓s287_488, ↓s287_490, ↓s287_493, ↓s287_494, ↓s287_495, ↓s287_497, ↓s287_500, ↓s287_501, ↓s287_502, ↓s287_503, ↓s287_505, ↓s287_506, ↓s287_507, ↓s287_510, ↓s287_511, ↓s287_512, iL_2, wc_43, mN1_int, mN1_ref, mN1_null, mN1_U, mN1_rf, mCats_nil, mCats_int, mCats_ref, mCats_null, mCats_long, mCats_rf, mIsRef_ref, mIsRef_null, mIsRef_va, mRf_ref, mRf_null, mRf_rf, true_and, and_true, true_or, or_true, eq_self_iff_true, mK_v, mK_0, Nat.reduceAdd, Nat.reduceLeDiff, Nat.zero_le, iL_0, iL_1, iL_m1, iI_add, iI_sub, iI_mul, iI_neg, updI_at, upA_at, upP_at, upR_at, Nat.reduceEqDiff, reduceIte, Int.reduceAdd, Int.reduceSub, Int.reduceMul, Int.reduceDiv, Int.reduceMod, Int.reduceLT, Int.reduceLE, Int.reduceEq, Int.reduceNeg, not_true_eq_false, not_false_eq_true, Decidable.not_not, a1, c1, a2, c2, z1, z2, z178, iI_eq, lj, lg_self, if_true]
    exact hgo _ n1 (k + d) _ _ r2 (by omega) (by omega)
  · simp (maxSteps := 1000000) (disch := first | omega | (simp only [updI_at, upA_at, Nat.reduceEqDiff, reduceIte]; omega) | exact mIsRef_rf _ | exact rfl) only [↓s287_447, ↓s287_448, ↓s287_449, ↓s287_451, ↓s287_452, ↓s287_453, ↓s287_454, ↓s287_455, ↓s287_457, ↓s287_458, ↓s287_459, ↓s287_460, ↓s287_461r, ↓s287_464, ↓s287_466, ↓s287_467, ↓s287_468, ↓s287_470, ↓s287_471, ↓s287_472, ↓s287_473, ↓s287_474, ↓s287_476, ↓s287_477, ↓s287_478, ↓s287_479, ↓s287_482, ↓s287_484, ↓s287_485, ↓s287_488, ↓s287_490, ↓s287_493, ↓s287_494, ↓s287_495, ↓s287_497, ↓s287_500, ↓s287_501, ↓s287_502, ↓s287_503, ↓s287_505, ↓s287_506, ↓s287_507, ↓s287_510, ↓s287_511, ↓s287_512, iL_2, wc_43, mN1_int, mN1_ref, mN1_null, mN1_U, mN1_rf, mCats_nil, mCats_int, mCats_ref, mCats_null, mCats_long, mCats_rf, mIsRef_ref, mIsRef_null, mIsRef_va, mRf_ref, mRf_null, mRf_rf, true_and, and_true, true_or, or_true, eq_self_iff_true, mK_v, mK_0, Nat.reduceAdd, Nat.reduceLeDiff, Nat.zero_le, iL_0, iL_1, iL_m1, iI_add, iI_sub, iI_mul, iI_neg, updI_at, upA_at, upP_at, upR_at, Nat.reduceEqDiff, reduceIte, Int.reduceAdd, Int.reduceSub, Int.reduceMul, Int.reduceDiv, Int.reduceMod, Int.reduceLT, Int.reduceLE, Int.reduceEq, Int.reduceNeg, not_true_eq_false, not_false_eq_true, Decidable.not_not, a1, c1, a2, c2, z1, z2, z178, iI_eq, p, if_true, if_false]
    exact hgo _ n1 (k + d) _ _ r2 (by omega) (by omega)
theorem lc_6 (hb : G.2.2.2 ≤ b) (hl : rl G b h n) (hi : i + 6 ≤ G.2.2.1 9) (hgo : lcT G b i n k Q) : mX G 287 515 [.ref (G.2.2.1 8), .ref b, .ref (b + 43), .ref (b + 78), .int (iI (i : Int)), v5, v6] [] h n k Q := by
  obtain ⟨h0, I, A, P, R, o, fa, fb, fcap, fg, W, V, X, cap, ng, rfl, hM, hr, hf, hri⟩ := hl
  have sc := hr.2.2.2.2.2.2.2.2.2.2.2.2.1
  have rg := sc.2.2
  obtain ⟨v, w, n1, d, h1, I1, A1, P1, R1, o1, I2, A2, ⟨dn, dk⟩, z1, s1, z2, ⟨tv, vr⟩, ow, r2⟩ := op_item (o := o) hb hM hr hf hri (rg (i + 1)) (rg (i + 2))
  dsimp only at z1 z2
  have a1 := fun K => sc_1 (I := I) (A := A) (P := P) (R := R) (o := o) (K := K) (i := i) (t := 1) sc (by omega)
  have c1 := fun K => sc_1 (I := I1) (A := A1) (P := P1) (R := R1) (o := o1) (K := K) (i := i) (t := 1) s1 (by omega)
  rw [show ((1 : Nat) : Int) = 1 from rfl] at a1 c1
  have a2 := fun K => sc_1 (I := I) (A := A) (P := P) (R := R) (o := o) (K := K) (i := i) (t := 2) sc (by omega)
  have c2 := fun K => sc_1 (I := I1) (A := A1) (P := P1) (R := R1) (o := o1) (K := K) (i := i) (t := 2) s1 (by omega)
  rw [show ((2 : Nat) : Int) = 2 from rfl] at a2 c2
  have z178 : ∀ k Q, mX G 178 0 [.ref (b + 43)] [] (wH h1 b I2 A2 P1 R1 o1) n1 k Q ↔ Q (.inl (some (.int (iI v))), wH h1 b I2 A2 P1 R1 o1, n1, k) := by
    intro k Q
    simp (maxSteps := 1000000) (disch := first | omega | (simp only [updI_at, upA_at, Nat.reduceEqDiff, reduceIte]; omega) | exact mIsRef_rf _ | exact rfl) only [↓s178_0, ↓s178_1, ↓s178_4, wg_43_0, mN1_int, mN1_ref, mN1_null, mN1_U, mN1_rf, mCats_nil, mCats_int, mCats_ref, mCats_null, mCats_long, mCats_rf, mIsRef_ref, mIsRef_null, mIsRef_va, mRf_ref, mRf_null, mRf_rf, true_and, and_true, true_or, or_true, eq_self_iff_true, mK_v, mK_0, Nat.reduceAdd, Nat.reduceLeDiff, Nat.zero_le, iL_0, iL_1, iL_m1, iI_add, iI_sub, iI_mul, iI_neg, updI_at, upA_at, upP_at, upR_at, Nat.reduceEqDiff, reduceIte, Int.reduceAdd, Int.reduceSub, Int.reduceMul, Int.reduceDiv, Int.reduceMod, Int.reduceLT, Int.reduceLE, Int.reduceEq, Int.reduceNeg, not_true_eq_false, not_false_eq_true, Decidable.not_not, tv]
  by_cases p : v = 0
  · have ow2 := ow p
    subst p
    have lj := fun K => lJ (h0 := h1) (b := b) (I := I2) (A := A2) (P := P1) (R := R1) (o := o1) (K := K)
    rw [ow2] at lj
    simp (maxSteps := 1000000) (disch := first | omega | (simp only [updI_at, upA_at, Nat.reduceEqDiff, reduceIte]; omega) | exact mIsRef_rf _ | exact rfl) only [↓s287_515, ↓s287_516, ↓s287_517, ↓s287_519, ↓s287_520, ↓s287_521, ↓s287_522, ↓s287_523, ↓s287_525, ↓s287_526, ↓s287_527, ↓s287_528, ↓s287_529r, ↓s287_532, ↓s287_534, ↓s287_535, ↓s287_536, ↓s287_538, ↓s287_539, ↓s287_540, ↓s287_541, ↓s287_542, ↓s287_544, ↓s287_545, ↓s287_546, ↓s287_547, ↓s287_550, ↓s287_552, ↓s287_553, ↓s287_556, ↓s287_558, ↓s287_561, ↓s287_562, ↓s287_563, ↓s287_565, ↓s287_568, ↓s287_569, ↓s287_570, ↓s287_571, ↓s287_573, ↓s287_574, ↓s287_575, ↓s287_578, ↓s287_579, ↓s287_580, iL_2, wc_43, mN1_int, mN1_ref, mN1_null, mN1_U, mN1_rf, mCats_nil, mCats_int, mCats_ref, mCats_null, mCats_long, mCats_rf, mIsRef_ref, mIsRef_null, mIsRef_va, mRf_ref, mRf_null, mRf_rf, true_and, and_true, true_or, or_true, eq_self_iff_true, mK_v, mK_0, Nat.reduceAdd, Nat.reduceLeDiff, Nat.zero_le, iL_0, iL_1, iL_m1, iI_add, iI_sub, iI_mul, iI_neg, updI_at, upA_at, upP_at, upR_at, Nat.reduceEqDiff, reduceIte, Int.reduceAdd, Int.reduceSub, Int.reduceMul, Int.reduceDiv, Int.reduceMod, Int.reduceLT, Int.reduceLE, Int.reduceEq, Int.reduceNeg, not_true_eq_false, not_false_eq_true, Decidable.not_not, a1, c1, a2, c2, z1, z2, z178, iI_eq, lj, lg_self, if_true]
    exact hgo _ n1 (k + d) _ _ r2 (by omega) (by omega)
  · simp (maxSteps := 1000000) (disch := first | omega | (simp only [updI_at, upA_at, Nat.reduceEqDiff, reduceIte]; omega) | exact mIsRef_rf _ | exact rfl) only [↓s287_515, ↓s287_516, ↓s287_517, ↓s287_519, ↓s287_520, ↓s287_521, ↓s287_522, ↓s287_523, ↓s287_525, ↓s287_526, ↓s287_527, ↓s287_528, ↓s287_529r, ↓s287_532, ↓s287_534, ↓s287_535, ↓s287_536, ↓s287_538, ↓s287_539, ↓s287_540, ↓s287_541, ↓s287_542, ↓s287_544, ↓s287_545, ↓s287_546, ↓s287_547, ↓s287_550, ↓s287_552, ↓s287_553, ↓s287_556, ↓s287_558, ↓s287_561, ↓s287_562, ↓s287_563, ↓s287_565, ↓s287_568, ↓s287_569, ↓s287_570, ↓s287_571, ↓s287_573, ↓s287_574, ↓s287_575, ↓s287_578, ↓s287_579, ↓s287_580, iL_2, wc_43, mN1_int, mN1_ref, mN1_null, mN1_U, mN1_rf, mCats_nil, mCats_int, mCats_ref, mCats_null, mCats_long, mCats_rf, mIsRef_ref, mIsRef_null, mIsRef_va, mRf_ref, mRf_null, mRf_rf, true_and, and_true, true_or, or_true, eq_self_iff_true, mK_v, mK_0, Nat.reduceAdd, Nat.reduceLeDiff, Nat.zero_le, iL_0, iL_1, iL_m1, iI_add, iI_sub, iI_mul, iI_neg, updI_at, upA_at, upP_at, upR_at, Nat.reduceEqDiff, reduceIte, Int.reduceAdd, Int.reduceSub, Int.reduceMul, Int.reduceDiv, Int.reduceMod, Int.reduceLT, Int.reduceLE, Int.reduceEq, Int.reduceNeg, not_true_eq_false, not_false_eq_true, Decidable.not_not, a1, c1, a2, c2, z1, z2, z178, iI_eq, p, if_true, if_false]
    exact hgo _ n1 (k + d) _ _ r2 (by omega) (by omega)
theorem lc_7 (hb : G.2.2.2 ≤ b) (hl : rl G b h n) (hi : i + 6 ≤ G.2.2.1 9) (hgo : lcT G b i n k Q) : mX G 287 583 [.ref (G.2.2.1 8), .ref b, .ref (b + 43), .ref (b + 78), .int (iI (i : Int)), v5, v6] [] h n k Q := by
  obtain ⟨h0, I, A, P, R, o, fa, fb, fcap, fg, W, V, X, cap, ng, rfl, hM, hr, hf, hri⟩ := hl
  have sc := hr.2.2.2.2.2.2.2.2.2.2.2.2.1
  have rg := sc.2.2
  obtain ⟨v, w, n1, d, h1, I1, A1, P1, R1, o1, I2, A2, ⟨dn, dk⟩, z1, s1, z2, ⟨tv, vr⟩, ow, r2⟩ := op_title (o := o) hb hM hr hf hri
  dsimp only at z1 z2
  have z178 : ∀ k Q, mX G 178 0 [.ref (b + 43)] [] (wH h1 b I2 A2 P1 R1 o1) n1 k Q ↔ Q (.inl (some (.int (iI v))), wH h1 b I2 A2 P1 R1 o1, n1, k) := by
    intro k Q
    simp (maxSteps := 1000000) (disch := first | omega | (simp only [updI_at, upA_at, Nat.reduceEqDiff, reduceIte]; omega) | exact mIsRef_rf _ | exact rfl) only [↓s178_0, ↓s178_1, ↓s178_4, wg_43_0, mN1_int, mN1_ref, mN1_null, mN1_U, mN1_rf, mCats_nil, mCats_int, mCats_ref, mCats_null, mCats_long, mCats_rf, mIsRef_ref, mIsRef_null, mIsRef_va, mRf_ref, mRf_null, mRf_rf, true_and, and_true, true_or, or_true, eq_self_iff_true, mK_v, mK_0, Nat.reduceAdd, Nat.reduceLeDiff, Nat.zero_le, iL_0, iL_1, iL_m1, iI_add, iI_sub, iI_mul, iI_neg, updI_at, upA_at, upP_at, upR_at, Nat.reduceEqDiff, reduceIte, Int.reduceAdd, Int.reduceSub, Int.reduceMul, Int.reduceDiv, Int.reduceMod, Int.reduceLT, Int.reduceLE, Int.reduceEq, Int.reduceNeg, not_true_eq_false, not_false_eq_true, Decidable.not_not, tv]
  by_cases p : v = 0
  · have ow2 := ow p
    subst p
    have lj := fun K => lJ (h0 := h1) (b := b) (I := I2) (A := A2) (P := P1) (R := R1) (o := o1) (K := K)
    rw [ow2] at lj
    simp (maxSteps := 1000000) (disch := first | omega | (simp only [updI_at, upA_at, Nat.reduceEqDiff, reduceIte]; omega) | exact mIsRef_rf _ | exact rfl) only [↓s287_583, ↓s287_584, ↓s287_585r, ↓s287_588, ↓s287_590, ↓s287_591, ↓s287_594, ↓s287_596, ↓s287_597, ↓s287_600, ↓s287_602, ↓s287_605, ↓s287_606, ↓s287_607, ↓s287_609, ↓s287_612, ↓s287_613, ↓s287_614, ↓s287_615, ↓s287_617, ↓s287_618, ↓s287_619, ↓s287_622, ↓s287_623, ↓s287_624, wc_43, mN1_int, mN1_ref, mN1_null, mN1_U, mN1_rf, mCats_nil, mCats_int, mCats_ref, mCats_null, mCats_long, mCats_rf, mIsRef_ref, mIsRef_null, mIsRef_va, mRf_ref, mRf_null, mRf_rf, true_and, and_true, true_or, or_true, eq_self_iff_true, mK_v, mK_0, Nat.reduceAdd, Nat.reduceLeDiff, Nat.zero_le, iL_0, iL_1, iL_m1, iI_add, iI_sub, iI_mul, iI_neg, updI_at, upA_at, upP_at, upR_at, Nat.reduceEqDiff, reduceIte, Int.reduceAdd, Int.reduceSub, Int.reduceMul, Int.reduceDiv, Int.reduceMod, Int.reduceLT, Int.reduceLE, Int.reduceEq, Int.reduceNeg, not_true_eq_false, not_false_eq_true, Decidable.not_not, z1, z2, z178, iI_eq, lj, lg_self, if_true]
    exact hgo _ n1 (k + d) _ _ r2 (by omega) (by omega)
  · simp (maxSteps := 1000000) (disch := first | omega | (simp only [updI_at, upA_at, Nat.reduceEqDiff, reduceIte]; omega) | exact mIsRef_rf _ | exact rfl) only [↓s287_583, ↓s287_584, ↓s287_585r, ↓s287_588, ↓s287_590, ↓s287_591, ↓s287_594, ↓s287_596, ↓s287_597, ↓s287_600, ↓s287_602, ↓s287_605, ↓s287_606, ↓s287_607, ↓s287_609, ↓s287_612, ↓s287_613, ↓s287_614, ↓s287_615, ↓s287_617, ↓s287_618, ↓s287_619, ↓s287_622, ↓s287_623, ↓s287_624, wc_43, mN1_int, mN1_ref, mN1_null, mN1_U, mN1_rf, mCats_nil, mCats_int, mCats_ref, mCats_null, mCats_long, mCats_rf, mIsRef_ref, mIsRef_null, mIsRef_va, mRf_ref, mRf_null, mRf_rf, true_and, and_true, true_or, or_true, eq_self_iff_true, mK_v, mK_0, Nat.reduceAdd, Nat.reduceLeDiff, Nat.zero_le, iL_0, iL_1, iL_m1, iI_add, iI_sub, iI_mul, iI_neg, updI_at, upA_at, upP_at, upR_at, Nat.reduceEqDiff, reduceIte, Int.reduceAdd, Int.reduceSub, Int.reduceMul, Int.reduceDiv, Int.reduceMod, Int.reduceLT, Int.reduceLE, Int.reduceEq, Int.reduceNeg, not_true_eq_false, not_false_eq_true, Decidable.not_not, z1, z2, z178, iI_eq, p, if_true, if_false]
    exact hgo _ n1 (k + d) _ _ r2 (by omega) (by omega)
theorem lc_8 (hb : G.2.2.2 ≤ b) (hl : rl G b h n) (hi : i + 6 ≤ G.2.2.1 9) (hgo : lcT G b i n k Q) : mX G 287 627 [.ref (G.2.2.1 8), .ref b, .ref (b + 43), .ref (b + 78), .int (iI (i : Int)), v5, v6] [] h n k Q := by
  obtain ⟨h0, I, A, P, R, o, fa, fb, fcap, fg, W, V, X, cap, ng, rfl, hM, hr, hf, hri⟩ := hl
  have sc := hr.2.2.2.2.2.2.2.2.2.2.2.2.1
  have rg := sc.2.2
  obtain ⟨v, h1, I1, A1, P1, R1, o1, H2, z1, s1, z2, r2⟩ := op_with (o := o) hb hM hr hf hri (rg (i + 1)) (rg (i + 2)) (rg (i + 3)) (rg (i + 4))
  dsimp only at z1 z2
  have a1 := fun K => sc_1 (I := I) (A := A) (P := P) (R := R) (o := o) (K := K) (i := i) (t := 1) sc (by omega)
  have c1 := fun K => sc_1 (I := I1) (A := A1) (P := P1) (R := R1) (o := o1) (K := K) (i := i) (t := 1) s1 (by omega)
  rw [show ((1 : Nat) : Int) = 1 from rfl] at a1 c1
  have a2 := fun K => sc_1 (I := I) (A := A) (P := P) (R := R) (o := o) (K := K) (i := i) (t := 2) sc (by omega)
  have c2 := fun K => sc_1 (I := I1) (A := A1) (P := P1) (R := R1) (o := o1) (K := K) (i := i) (t := 2) s1 (by omega)
  rw [show ((2 : Nat) : Int) = 2 from rfl] at a2 c2
  have a3 := fun K => sc_1 (I := I) (A := A) (P := P) (R := R) (o := o) (K := K) (i := i) (t := 3) sc (by omega)
  have c3 := fun K => sc_1 (I := I1) (A := A1) (P := P1) (R := R1) (o := o1) (K := K) (i := i) (t := 3) s1 (by omega)
  rw [show ((3 : Nat) : Int) = 3 from rfl] at a3 c3
  have a4 := fun K => sc_1 (I := I) (A := A) (P := P) (R := R) (o := o) (K := K) (i := i) (t := 4) sc (by omega)
  have c4 := fun K => sc_1 (I := I1) (A := A1) (P := P1) (R := R1) (o := o1) (K := K) (i := i) (t := 4) s1 (by omega)
  rw [show ((4 : Nat) : Int) = 4 from rfl] at a4 c4
  simp (maxSteps := 1000000) (disch := first | omega | (simp only [updI_at, upA_at, Nat.reduceEqDiff, reduceIte]; omega) | exact mIsRef_rf _ | exact rfl) only [↓s287_627, ↓s287_628, ↓s287_629, ↓s287_631, ↓s287_632, ↓s287_633, ↓s287_634, ↓s287_635, ↓s287_637, ↓s287_638, ↓s287_639, ↓s287_640, ↓s287_641, ↓s287_643, ↓s287_644, ↓s287_645, ↓s287_646, ↓s287_647, ↓s287_649, ↓s287_650, ↓s287_651, ↓s287_652, ↓s287_655, ↓s287_656, ↓s287_657, ↓s287_659, ↓s287_660, ↓s287_661, ↓s287_662, ↓s287_663, ↓s287_665, ↓s287_666, ↓s287_667, ↓s287_668, ↓s287_669, ↓s287_671, ↓s287_672, ↓s287_673, ↓s287_674, ↓s287_675, ↓s287_677, ↓s287_678, ↓s287_679, ↓s287_680, ↓s287_683, ↓s287_686, ↓s287_687, iL_2, iL_3, iL_4, wc_0, wc_43, mN1_int, mN1_ref, mN1_null, mN1_U, mN1_rf, mCats_nil, mCats_int, mCats_ref, mCats_null, mCats_long, mCats_rf, mIsRef_ref, mIsRef_null, mIsRef_va, mRf_ref, mRf_null, mRf_rf, true_and, and_true, true_or, or_true, eq_self_iff_true, mK_v, mK_0, Nat.reduceAdd, Nat.reduceLeDiff, Nat.zero_le, iL_0, iL_1, iL_m1, iI_add, iI_sub, iI_mul, iI_neg, updI_at, upA_at, upP_at, upR_at, Nat.reduceEqDiff, reduceIte, Int.reduceAdd, Int.reduceSub, Int.reduceMul, Int.reduceDiv, Int.reduceMod, Int.reduceLT, Int.reduceLE, Int.reduceEq, Int.reduceNeg, not_true_eq_false, not_false_eq_true, Decidable.not_not, a1, c1, a2, c2, a3, c3, a4, c4, z1, z2, if_true]
  exact hgo H2 n k v5 v6 r2 (by omega) (by omega)
theorem lc_9 (hb : G.2.2.2 ≤ b) (hl : rl G b h n) (hi : i + 6 ≤ G.2.2.1 9) (hgo : lcT G b i n k Q) : mX G 287 688 [.ref (G.2.2.1 8), .ref b, .ref (b + 43), .ref (b + 78), .int (iI (i : Int)), v5, v6] [] h n k Q := by
  obtain ⟨h0, I, A, P, R, o, fa, fb, fcap, fg, W, V, X, cap, ng, rfl, hM, hr, hf, hri⟩ := hl
  have sc := hr.2.2.2.2.2.2.2.2.2.2.2.2.1
  have rg := sc.2.2
  obtain ⟨v, h1, I1, A1, P1, R1, o1, H2, z1, s1, z2, r2⟩ := op_goes (o := o) hb hM hr hf hri (rg (i + 1)) (rg (i + 2)) (rg (i + 3))
  dsimp only at z1 z2
  have a1 := fun K => sc_1 (I := I) (A := A) (P := P) (R := R) (o := o) (K := K) (i := i) (t := 1) sc (by omega)
  have c1 := fun K => sc_1 (I := I1) (A := A1) (P := P1) (R := R1) (o := o1) (K := K) (i := i) (t := 1) s1 (by omega)
  rw [show ((1 : Nat) : Int) = 1 from rfl] at a1 c1
  have a2 := fun K => sc_1 (I := I) (A := A) (P := P) (R := R) (o := o) (K := K) (i := i) (t := 2) sc (by omega)
  have c2 := fun K => sc_1 (I := I1) (A := A1) (P := P1) (R := R1) (o := o1) (K := K) (i := i) (t := 2) s1 (by omega)
  rw [show ((2 : Nat) : Int) = 2 from rfl] at a2 c2
  have a3 := fun K => sc_1 (I := I) (A := A) (P := P) (R := R) (o := o) (K := K) (i := i) (t := 3) sc (by omega)
  have c3 := fun K => sc_1 (I := I1) (A := A1) (P := P1) (R := R1) (o := o1) (K := K) (i := i) (t := 3) s1 (by omega)
  rw [show ((3 : Nat) : Int) = 3 from rfl] at a3 c3
  simp (maxSteps := 1000000) (disch := first | omega | (simp only [updI_at, upA_at, Nat.reduceEqDiff, reduceIte]; omega) | exact mIsRef_rf _ | exact rfl) only [↓s287_688, ↓s287_689, ↓s287_690, ↓s287_692, ↓s287_693, ↓s287_694, ↓s287_695, ↓s287_696, ↓s287_698, ↓s287_699, ↓s287_700, ↓s287_701, ↓s287_702, ↓s287_704, ↓s287_705, ↓s287_706, ↓s287_707, ↓s287_710, ↓s287_711, ↓s287_712, ↓s287_714, ↓s287_715, ↓s287_716, ↓s287_717, ↓s287_718, ↓s287_720, ↓s287_721, ↓s287_722, ↓s287_723, ↓s287_724, ↓s287_726, ↓s287_727, ↓s287_728, ↓s287_729, ↓s287_732, ↓s287_735, ↓s287_736, iL_2, iL_3, wc_0, wc_43, mN1_int, mN1_ref, mN1_null, mN1_U, mN1_rf, mCats_nil, mCats_int, mCats_ref, mCats_null, mCats_long, mCats_rf, mIsRef_ref, mIsRef_null, mIsRef_va, mRf_ref, mRf_null, mRf_rf, true_and, and_true, true_or, or_true, eq_self_iff_true, mK_v, mK_0, Nat.reduceAdd, Nat.reduceLeDiff, Nat.zero_le, iL_0, iL_1, iL_m1, iI_add, iI_sub, iI_mul, iI_neg, updI_at, upA_at, upP_at, upR_at, Nat.reduceEqDiff, reduceIte, Int.reduceAdd, Int.reduceSub, Int.reduceMul, Int.reduceDiv, Int.reduceMod, Int.reduceLT, Int.reduceLE, Int.reduceEq, Int.reduceNeg, not_true_eq_false, not_false_eq_true, Decidable.not_not, a1, c1, a2, c2, a3, c3, z1, z2, if_true]
  exact hgo H2 n k v5 v6 r2 (by omega) (by omega)
theorem lc_10 (hb : G.2.2.2 ≤ b) (hl : rl G b h n) (hi : i + 6 ≤ G.2.2.1 9) (hgo : lcT G b i n k Q) : mX G 287 737 [.ref (G.2.2.1 8), .ref b, .ref (b + 43), .ref (b + 78), .int (iI (i : Int)), v5, v6] [] h n k Q := by
  obtain ⟨h0, I, A, P, R, o, fa, fb, fcap, fg, W, V, X, cap, ng, rfl, hM, hr, hf, hri⟩ := hl
  have sc := hr.2.2.2.2.2.2.2.2.2.2.2.2.1
  have rg := sc.2.2
  obtain ⟨v, h1, I1, A1, P1, R1, o1, H2, z1, s1, z2, r2⟩ := op_pick (o := o) hb hM hr hf hri (rg (i + 1)) (rg (i + 2)) (rg (i + 3))
  dsimp only at z1 z2
  have a1 := fun K => sc_1 (I := I) (A := A) (P := P) (R := R) (o := o) (K := K) (i := i) (t := 1) sc (by omega)
  have c1 := fun K => sc_1 (I := I1) (A := A1) (P := P1) (R := R1) (o := o1) (K := K) (i := i) (t := 1) s1 (by omega)
  rw [show ((1 : Nat) : Int) = 1 from rfl] at a1 c1
  have a2 := fun K => sc_1 (I := I) (A := A) (P := P) (R := R) (o := o) (K := K) (i := i) (t := 2) sc (by omega)
  have c2 := fun K => sc_1 (I := I1) (A := A1) (P := P1) (R := R1) (o := o1) (K := K) (i := i) (t := 2) s1 (by omega)
  rw [show ((2 : Nat) : Int) = 2 from rfl] at a2 c2
  have a3 := fun K => sc_1 (I := I) (A := A) (P := P) (R := R) (o := o) (K := K) (i := i) (t := 3) sc (by omega)
  have c3 := fun K => sc_1 (I := I1) (A := A1) (P := P1) (R := R1) (o := o1) (K := K) (i := i) (t := 3) s1 (by omega)
  rw [show ((3 : Nat) : Int) = 3 from rfl] at a3 c3
  simp (maxSteps := 1000000) (disch := first | omega | (simp only [updI_at, upA_at, Nat.reduceEqDiff, reduceIte]; omega) | exact mIsRef_rf _ | exact rfl) only [↓s287_737, ↓s287_738, ↓s287_739, ↓s287_741, ↓s287_742, ↓s287_743, ↓s287_744, ↓s287_745, ↓s287_747, ↓s287_748, ↓s287_749, ↓s287_750, ↓s287_751, ↓s287_753, ↓s287_754, ↓s287_755, ↓s287_756, ↓s287_759, ↓s287_760, ↓s287_761, ↓s287_763, ↓s287_764, ↓s287_765, ↓s287_766, ↓s287_767, ↓s287_769, ↓s287_770, ↓s287_771, ↓s287_772, ↓s287_773, ↓s287_775, ↓s287_776, ↓s287_777, ↓s287_778, ↓s287_781, ↓s287_784, ↓s287_785, iL_2, iL_3, wc_0, wc_43, mN1_int, mN1_ref, mN1_null, mN1_U, mN1_rf, mCats_nil, mCats_int, mCats_ref, mCats_null, mCats_long, mCats_rf, mIsRef_ref, mIsRef_null, mIsRef_va, mRf_ref, mRf_null, mRf_rf, true_and, and_true, true_or, or_true, eq_self_iff_true, mK_v, mK_0, Nat.reduceAdd, Nat.reduceLeDiff, Nat.zero_le, iL_0, iL_1, iL_m1, iI_add, iI_sub, iI_mul, iI_neg, updI_at, upA_at, upP_at, upR_at, Nat.reduceEqDiff, reduceIte, Int.reduceAdd, Int.reduceSub, Int.reduceMul, Int.reduceDiv, Int.reduceMod, Int.reduceLT, Int.reduceLE, Int.reduceEq, Int.reduceNeg, not_true_eq_false, not_false_eq_true, Decidable.not_not, a1, c1, a2, c2, a3, c3, z1, z2, if_true]
  exact hgo H2 n k v5 v6 r2 (by omega) (by omega)
theorem lc_11 (hb : G.2.2.2 ≤ b) (hl : rl G b h n) (hi : i + 6 ≤ G.2.2.1 9) (hgo : lcT G b i n k Q) : mX G 287 786 [.ref (G.2.2.1 8), .ref b, .ref (b + 43), .ref (b + 78), .int (iI (i : Int)), v5, v6] [] h n k Q := by
  obtain ⟨h0, I, A, P, R, o, fa, fb, fcap, fg, W, V, X, cap, ng, rfl, hM, hr, hf, hri⟩ := hl
  have sc := hr.2.2.2.2.2.2.2.2.2.2.2.2.1
  have rg := sc.2.2
  obtain ⟨v, h1, I1, A1, P1, R1, o1, H2, z1, s1, z2, r2⟩ := op_by (o := o) hb hM hr hf hri (rg (i + 1)) (rg (i + 2)) (rg (i + 3))
  dsimp only at z1 z2
  have a1 := fun K => sc_1 (I := I) (A := A) (P := P) (R := R) (o := o) (K := K) (i := i) (t := 1) sc (by omega)
  have c1 := fun K => sc_1 (I := I1) (A := A1) (P := P1) (R := R1) (o := o1) (K := K) (i := i) (t := 1) s1 (by omega)
  rw [show ((1 : Nat) : Int) = 1 from rfl] at a1 c1
  have a2 := fun K => sc_1 (I := I) (A := A) (P := P) (R := R) (o := o) (K := K) (i := i) (t := 2) sc (by omega)
  have c2 := fun K => sc_1 (I := I1) (A := A1) (P := P1) (R := R1) (o := o1) (K := K) (i := i) (t := 2) s1 (by omega)
  rw [show ((2 : Nat) : Int) = 2 from rfl] at a2 c2
  have a3 := fun K => sc_1 (I := I) (A := A) (P := P) (R := R) (o := o) (K := K) (i := i) (t := 3) sc (by omega)
  have c3 := fun K => sc_1 (I := I1) (A := A1) (P := P1) (R := R1) (o := o1) (K := K) (i := i) (t := 3) s1 (by omega)
  rw [show ((3 : Nat) : Int) = 3 from rfl] at a3 c3
  simp (maxSteps := 1000000) (disch := first | omega | (simp only [updI_at, upA_at, Nat.reduceEqDiff, reduceIte]; omega) | exact mIsRef_rf _ | exact rfl) only [↓s287_786, ↓s287_787, ↓s287_788, ↓s287_790, ↓s287_791, ↓s287_792, ↓s287_793, ↓s287_794, ↓s287_796, ↓s287_797, ↓s287_798, ↓s287_799, ↓s287_800, ↓s287_802, ↓s287_803, ↓s287_804, ↓s287_805, ↓s287_808, ↓s287_809, ↓s287_810, ↓s287_812, ↓s287_813, ↓s287_814, ↓s287_815, ↓s287_816, ↓s287_818, ↓s287_819, ↓s287_820, ↓s287_821, ↓s287_822, ↓s287_824, ↓s287_825, ↓s287_826, ↓s287_827, ↓s287_830, ↓s287_833, ↓s287_834, iL_2, iL_3, wc_0, wc_43, mN1_int, mN1_ref, mN1_null, mN1_U, mN1_rf, mCats_nil, mCats_int, mCats_ref, mCats_null, mCats_long, mCats_rf, mIsRef_ref, mIsRef_null, mIsRef_va, mRf_ref, mRf_null, mRf_rf, true_and, and_true, true_or, or_true, eq_self_iff_true, mK_v, mK_0, Nat.reduceAdd, Nat.reduceLeDiff, Nat.zero_le, iL_0, iL_1, iL_m1, iI_add, iI_sub, iI_mul, iI_neg, updI_at, upA_at, upP_at, upR_at, Nat.reduceEqDiff, reduceIte, Int.reduceAdd, Int.reduceSub, Int.reduceMul, Int.reduceDiv, Int.reduceMod, Int.reduceLT, Int.reduceLE, Int.reduceEq, Int.reduceNeg, not_true_eq_false, not_false_eq_true, Decidable.not_not, a1, c1, a2, c2, a3, c3, z1, z2, if_true]
  exact hgo H2 n k v5 v6 r2 (by omega) (by omega)
theorem lc_12 (hb : G.2.2.2 ≤ b) (hl : rl G b h n) (hi : i + 6 ≤ G.2.2.1 9) (hgo : lcT G b i n k Q) : mX G 287 835 [.ref (G.2.2.1 8), .ref b, .ref (b + 43), .ref (b + 78), .int (iI (i : Int)), v5, v6] [] h n k Q := by
  obtain ⟨h0, I, A, P, R, o, fa, fb, fcap, fg, W, V, X, cap, ng, rfl, hM, hr, hf, hri⟩ := hl
  have sc := hr.2.2.2.2.2.2.2.2.2.2.2.2.1
  have rg := sc.2.2
  obtain ⟨h1, I1, A1, P1, R1, o1, H2, z1, s1, z2, r2⟩ := op_reset (o := o) hb hM hr hf hri
  dsimp only at z1 z2
  simp (maxSteps := 1000000) (disch := first | omega | (simp only [updI_at, upA_at, Nat.reduceEqDiff, reduceIte]; omega) | exact mIsRef_rf _ | exact rfl) only [↓s287_835, ↓s287_836, ↓s287_839, ↓s287_840, ↓s287_843, wc_0, wc_43, mN1_int, mN1_ref, mN1_null, mN1_U, mN1_rf, mCats_nil, mCats_int, mCats_ref, mCats_null, mCats_long, mCats_rf, mIsRef_ref, mIsRef_null, mIsRef_va, mRf_ref, mRf_null, mRf_rf, true_and, and_true, true_or, or_true, eq_self_iff_true, mK_v, mK_0, Nat.reduceAdd, Nat.reduceLeDiff, Nat.zero_le, iL_0, iL_1, iL_m1, iI_add, iI_sub, iI_mul, iI_neg, updI_at, upA_at, upP_at, upR_at, Nat.reduceEqDiff, reduceIte, Int.reduceAdd, Int.reduceSub, Int.reduceMul, Int.reduceDiv, Int.reduceMod, Int.reduceLT, Int.reduceLE, Int.reduceEq, Int.reduceNeg, not_true_eq_false, not_false_eq_true, Decidable.not_not, z1, z2, if_true]
  exact hgo H2 n k v5 v6 r2 (by omega) (by omega)
theorem lc_13 (hb : G.2.2.2 ≤ b) (hl : rl G b h n) (hi : i + 6 ≤ G.2.2.1 9) (hgo : lcT G b i n k Q) : mX G 287 846 [.ref (G.2.2.1 8), .ref b, .ref (b + 43), .ref (b + 78), .int (iI (i : Int)), v5, v6] [] h n k Q := by
  obtain ⟨h0, I, A, P, R, o, fa, fb, fcap, fg, W, V, X, cap, ng, rfl, hM, hr, hf, hri⟩ := hl
  have sc := hr.2.2.2.2.2.2.2.2.2.2.2.2.1
  have rg := sc.2.2
  obtain ⟨v, h1, I1, A1, P1, R1, o1, H2, z1, s1, z2, r2⟩ := op_comm (o := o) hb hM hr hf hri
  dsimp only at z1 z2
  simp (maxSteps := 1000000) (disch := first | omega | (simp only [updI_at, upA_at, Nat.reduceEqDiff, reduceIte]; omega) | exact mIsRef_rf _ | exact rfl) only [↓s287_846, ↓s287_847, ↓s287_850, ↓s287_851, ↓s287_854, ↓s287_857, ↓s287_858, wc_0, wc_43, mN1_int, mN1_ref, mN1_null, mN1_U, mN1_rf, mCats_nil, mCats_int, mCats_ref, mCats_null, mCats_long, mCats_rf, mIsRef_ref, mIsRef_null, mIsRef_va, mRf_ref, mRf_null, mRf_rf, true_and, and_true, true_or, or_true, eq_self_iff_true, mK_v, mK_0, Nat.reduceAdd, Nat.reduceLeDiff, Nat.zero_le, iL_0, iL_1, iL_m1, iI_add, iI_sub, iI_mul, iI_neg, updI_at, upA_at, upP_at, upR_at, Nat.reduceEqDiff, reduceIte, Int.reduceAdd, Int.reduceSub, Int.reduceMul, Int.reduceDiv, Int.reduceMod, Int.reduceLT, Int.reduceLE, Int.reduceEq, Int.reduceNeg, not_true_eq_false, not_false_eq_true, Decidable.not_not, z1, z2, if_true]
  exact hgo H2 n k v5 v6 r2 (by omega) (by omega)
theorem lc_14 (hb : G.2.2.2 ≤ b) (hl : rl G b h n) (hi : i + 6 ≤ G.2.2.1 9) (hgo : lcT G b i n k Q) : mX G 287 859 [.ref (G.2.2.1 8), .ref b, .ref (b + 43), .ref (b + 78), .int (iI (i : Int)), v5, v6] [] h n k Q := by
  obtain ⟨h0, I, A, P, R, o, fa, fb, fcap, fg, W, V, X, cap, ng, rfl, hM, hr, hf, hri⟩ := hl
  have sc := hr.2.2.2.2.2.2.2.2.2.2.2.2.1
  have rg := sc.2.2
  obtain ⟨v, w, n1, d, h1, I1, A1, P1, R1, o1, I2, A2, ⟨dn, dk⟩, z1, s1, z2, ⟨tv, vr⟩, ow, r2⟩ := opX_mono (dn' := 16) (dk' := 9000) (op_out (o := o) hb hM hr hf hri (rg (i + 1))) (by omega) (by omega)
  dsimp only at z1 z2
  have a1 := fun K => sc_1 (I := I) (A := A) (P := P) (R := R) (o := o) (K := K) (i := i) (t := 1) sc (by omega)
  have c1 := fun K => sc_1 (I := I1) (A := A1) (P := P1) (R := R1) (o := o1) (K := K) (i := i) (t := 1) s1 (by omega)
  rw [show ((1 : Nat) : Int) = 1 from rfl] at a1 c1
  have z178 : ∀ k Q, mX G 178 0 [.ref (b + 43)] [] (wH h1 b I2 A2 P1 R1 o1) n1 k Q ↔ Q (.inl (some (.int (iI v))), wH h1 b I2 A2 P1 R1 o1, n1, k) := by
    intro k Q
    simp (maxSteps := 1000000) (disch := first | omega | (simp only [updI_at, upA_at, Nat.reduceEqDiff, reduceIte]; omega) | exact mIsRef_rf _ | exact rfl) only [↓s178_0, ↓s178_1, ↓s178_4, wg_43_0, mN1_int, mN1_ref, mN1_null, mN1_U, mN1_rf, mCats_nil, mCats_int, mCats_ref, mCats_null, mCats_long, mCats_rf, mIsRef_ref, mIsRef_null, mIsRef_va, mRf_ref, mRf_null, mRf_rf, true_and, and_true, true_or, or_true, eq_self_iff_true, mK_v, mK_0, Nat.reduceAdd, Nat.reduceLeDiff, Nat.zero_le, iL_0, iL_1, iL_m1, iI_add, iI_sub, iI_mul, iI_neg, updI_at, upA_at, upP_at, upR_at, Nat.reduceEqDiff, reduceIte, Int.reduceAdd, Int.reduceSub, Int.reduceMul, Int.reduceDiv, Int.reduceMod, Int.reduceLT, Int.reduceLE, Int.reduceEq, Int.reduceNeg, not_true_eq_false, not_false_eq_true, Decidable.not_not, tv]
  by_cases p : v = 0
  · have ow2 := ow p
    subst p
    have lj := fun K => lJ (h0 := h1) (b := b) (I := I2) (A := A2) (P := P1) (R := R1) (o := o1) (K := K)
    rw [ow2] at lj
    simp (maxSteps := 1000000) (disch := first | omega | (simp only [updI_at, upA_at, Nat.reduceEqDiff, reduceIte]; omega) | exact mIsRef_rf _ | exact rfl) only [↓s287_859, ↓s287_860, ↓s287_861, ↓s287_863, ↓s287_864, ↓s287_865, ↓s287_866, ↓s287_867r, ↓s287_870, ↓s287_872, ↓s287_873, ↓s287_874, ↓s287_876, ↓s287_877, ↓s287_878, ↓s287_879, ↓s287_882, ↓s287_884, ↓s287_885, ↓s287_888, ↓s287_890, ↓s287_893, ↓s287_894, ↓s287_895, ↓s287_897, ↓s287_900, ↓s287_901, ↓s287_902, ↓s287_903, ↓s287_905, ↓s287_906, ↓s287_907, ↓s287_910, ↓s287_911, ↓s287_912, wc_43, mN1_int, mN1_ref, mN1_null, mN1_U, mN1_rf, mCats_nil, mCats_int, mCats_ref, mCats_null, mCats_long, mCats_rf, mIsRef_ref, mIsRef_null, mIsRef_va, mRf_ref, mRf_null, mRf_rf, true_and, and_true, true_or, or_true, eq_self_iff_true, mK_v, mK_0, Nat.reduceAdd, Nat.reduceLeDiff, Nat.zero_le, iL_0, iL_1, iL_m1, iI_add, iI_sub, iI_mul, iI_neg, updI_at, upA_at, upP_at, upR_at, Nat.reduceEqDiff, reduceIte, Int.reduceAdd, Int.reduceSub, Int.reduceMul, Int.reduceDiv, Int.reduceMod, Int.reduceLT, Int.reduceLE, Int.reduceEq, Int.reduceNeg, not_true_eq_false, not_false_eq_true, Decidable.not_not, a1, c1, z1, z2, z178, iI_eq, lj, lg_self, if_true]
    exact hgo _ n1 (k + d) _ _ r2 (by omega) (by omega)
  · simp (maxSteps := 1000000) (disch := first | omega | (simp only [updI_at, upA_at, Nat.reduceEqDiff, reduceIte]; omega) | exact mIsRef_rf _ | exact rfl) only [↓s287_859, ↓s287_860, ↓s287_861, ↓s287_863, ↓s287_864, ↓s287_865, ↓s287_866, ↓s287_867r, ↓s287_870, ↓s287_872, ↓s287_873, ↓s287_874, ↓s287_876, ↓s287_877, ↓s287_878, ↓s287_879, ↓s287_882, ↓s287_884, ↓s287_885, ↓s287_888, ↓s287_890, ↓s287_893, ↓s287_894, ↓s287_895, ↓s287_897, ↓s287_900, ↓s287_901, ↓s287_902, ↓s287_903, ↓s287_905, ↓s287_906, ↓s287_907, ↓s287_910, ↓s287_911, ↓s287_912, wc_43, mN1_int, mN1_ref, mN1_null, mN1_U, mN1_rf, mCats_nil, mCats_int, mCats_ref, mCats_null, mCats_long, mCats_rf, mIsRef_ref, mIsRef_null, mIsRef_va, mRf_ref, mRf_null, mRf_rf, true_and, and_true, true_or, or_true, eq_self_iff_true, mK_v, mK_0, Nat.reduceAdd, Nat.reduceLeDiff, Nat.zero_le, iL_0, iL_1, iL_m1, iI_add, iI_sub, iI_mul, iI_neg, updI_at, upA_at, upP_at, upR_at, Nat.reduceEqDiff, reduceIte, Int.reduceAdd, Int.reduceSub, Int.reduceMul, Int.reduceDiv, Int.reduceMod, Int.reduceLT, Int.reduceLE, Int.reduceEq, Int.reduceNeg, not_true_eq_false, not_false_eq_true, Decidable.not_not, a1, c1, z1, z2, z178, iI_eq, p, if_true, if_false]
    exact hgo _ n1 (k + d) _ _ r2 (by omega) (by omega)
theorem lc_15 (hb : G.2.2.2 ≤ b) (hl : rl G b h n) (hi : i + 6 ≤ G.2.2.1 9) (hgo : lcT G b i n k Q) : mX G 287 915 [.ref (G.2.2.1 8), .ref b, .ref (b + 43), .ref (b + 78), .int (iI (i : Int)), v5, v6] [] h n k Q := by
  obtain ⟨h0, I, A, P, R, o, fa, fb, fcap, fg, W, V, X, cap, ng, rfl, hM, hr, hf, hri⟩ := hl
  have sc := hr.2.2.2.2.2.2.2.2.2.2.2.2.1
  have rg := sc.2.2
  obtain ⟨v, h1, I1, A1, P1, R1, o1, H2, z1, s1, z2, r2⟩ := op_count (o := o) hb hM hr hf hri (rg (i + 1))
  dsimp only at z1 z2
  have a1 := fun K => sc_1 (I := I) (A := A) (P := P) (R := R) (o := o) (K := K) (i := i) (t := 1) sc (by omega)
  have c1 := fun K => sc_1 (I := I1) (A := A1) (P := P1) (R := R1) (o := o1) (K := K) (i := i) (t := 1) s1 (by omega)
  rw [show ((1 : Nat) : Int) = 1 from rfl] at a1 c1
  simp (maxSteps := 1000000) (disch := first | omega | (simp only [updI_at, upA_at, Nat.reduceEqDiff, reduceIte]; omega) | exact mIsRef_rf _ | exact rfl) only [↓s287_915, ↓s287_916, ↓s287_917, ↓s287_919, ↓s287_920, ↓s287_921, ↓s287_922, ↓s287_925, ↓s287_926, ↓s287_927, ↓s287_929, ↓s287_930, ↓s287_931, ↓s287_932, ↓s287_935, ↓s287_938, ↓s287_939, wc_0, wc_43, mN1_int, mN1_ref, mN1_null, mN1_U, mN1_rf, mCats_nil, mCats_int, mCats_ref, mCats_null, mCats_long, mCats_rf, mIsRef_ref, mIsRef_null, mIsRef_va, mRf_ref, mRf_null, mRf_rf, true_and, and_true, true_or, or_true, eq_self_iff_true, mK_v, mK_0, Nat.reduceAdd, Nat.reduceLeDiff, Nat.zero_le, iL_0, iL_1, iL_m1, iI_add, iI_sub, iI_mul, iI_neg, updI_at, upA_at, upP_at, upR_at, Nat.reduceEqDiff, reduceIte, Int.reduceAdd, Int.reduceSub, Int.reduceMul, Int.reduceDiv, Int.reduceMod, Int.reduceLT, Int.reduceLE, Int.reduceEq, Int.reduceNeg, not_true_eq_false, not_false_eq_true, Decidable.not_not, a1, c1, z1, z2, if_true]
  exact hgo H2 n k v5 v6 r2 (by omega) (by omega)
theorem lc_16 (hb : G.2.2.2 ≤ b) (hl : rl G b h n) (hi : i + 6 ≤ G.2.2.1 9) (hgo : lcT G b i n k Q) : mX G 287 940 [.ref (G.2.2.1 8), .ref b, .ref (b + 43), .ref (b + 78), .int (iI (i : Int)), v5, v6] [] h n k Q := by
  obtain ⟨h0, I, A, P, R, o, fa, fb, fcap, fg, W, V, X, cap, ng, rfl, hM, hr, hf, hri⟩ := hl
  have sc := hr.2.2.2.2.2.2.2.2.2.2.2.2.1
  have rg := sc.2.2
  obtain ⟨v, h1, I1, A1, P1, R1, o1, H2, z1, s1, z2, r2⟩ := op_timer (o := o) hb hM hr hf hri (rg (i + 1))
  dsimp only at z1 z2
  have a1 := fun K => sc_1 (I := I) (A := A) (P := P) (R := R) (o := o) (K := K) (i := i) (t := 1) sc (by omega)
  have c1 := fun K => sc_1 (I := I1) (A := A1) (P := P1) (R := R1) (o := o1) (K := K) (i := i) (t := 1) s1 (by omega)
  rw [show ((1 : Nat) : Int) = 1 from rfl] at a1 c1
  simp (maxSteps := 1000000) (disch := first | omega | (simp only [updI_at, upA_at, Nat.reduceEqDiff, reduceIte]; omega) | exact mIsRef_rf _ | exact rfl) only [↓s287_940, ↓s287_941, ↓s287_942, ↓s287_944, ↓s287_945, ↓s287_946, ↓s287_947, ↓s287_950, ↓s287_951, ↓s287_952, ↓s287_954, ↓s287_955, ↓s287_956, ↓s287_957, ↓s287_960, ↓s287_963, ↓s287_964, wc_0, wc_43, mN1_int, mN1_ref, mN1_null, mN1_U, mN1_rf, mCats_nil, mCats_int, mCats_ref, mCats_null, mCats_long, mCats_rf, mIsRef_ref, mIsRef_null, mIsRef_va, mRf_ref, mRf_null, mRf_rf, true_and, and_true, true_or, or_true, eq_self_iff_true, mK_v, mK_0, Nat.reduceAdd, Nat.reduceLeDiff, Nat.zero_le, iL_0, iL_1, iL_m1, iI_add, iI_sub, iI_mul, iI_neg, updI_at, upA_at, upP_at, upR_at, Nat.reduceEqDiff, reduceIte, Int.reduceAdd, Int.reduceSub, Int.reduceMul, Int.reduceDiv, Int.reduceMod, Int.reduceLT, Int.reduceLE, Int.reduceEq, Int.reduceNeg, not_true_eq_false, not_false_eq_true, Decidable.not_not, a1, c1, z1, z2, if_true]
  exact hgo H2 n k v5 v6 r2 (by omega) (by omega)
theorem lc_17 (hb : G.2.2.2 ≤ b) (hl : rl G b h n) (hi : i + 6 ≤ G.2.2.1 9) (hgo : lcT G b i n k Q) : mX G 287 965 [.ref (G.2.2.1 8), .ref b, .ref (b + 43), .ref (b + 78), .int (iI (i : Int)), v5, v6] [] h n k Q := by
  obtain ⟨h0, I, A, P, R, o, fa, fb, fcap, fg, W, V, X, cap, ng, rfl, hM, hr, hf, hri⟩ := hl
  have sc := hr.2.2.2.2.2.2.2.2.2.2.2.2.1
  have rg := sc.2.2
  obtain ⟨v, h1, I1, A1, P1, R1, o1, H2, z1, s1, z2, r2⟩ := op_byteOf (o := o) hb hM hr hf hri (rg (i + 1)) (rg (i + 2))
  dsimp only at z1 z2
  have a1 := fun K => sc_1 (I := I) (A := A) (P := P) (R := R) (o := o) (K := K) (i := i) (t := 1) sc (by omega)
  have c1 := fun K => sc_1 (I := I1) (A := A1) (P := P1) (R := R1) (o := o1) (K := K) (i := i) (t := 1) s1 (by omega)
  rw [show ((1 : Nat) : Int) = 1 from rfl] at a1 c1
  have a2 := fun K => sc_1 (I := I) (A := A) (P := P) (R := R) (o := o) (K := K) (i := i) (t := 2) sc (by omega)
  have c2 := fun K => sc_1 (I := I1) (A := A1) (P := P1) (R := R1) (o := o1) (K := K) (i := i) (t := 2) s1 (by omega)
  rw [show ((2 : Nat) : Int) = 2 from rfl] at a2 c2
  simp (maxSteps := 1000000) (disch := first | omega | (simp only [updI_at, upA_at, Nat.reduceEqDiff, reduceIte]; omega) | exact mIsRef_rf _ | exact rfl) only [↓s287_965, ↓s287_966, ↓s287_967, ↓s287_969, ↓s287_970, ↓s287_971, ↓s287_972, ↓s287_973, ↓s287_975, ↓s287_976, ↓s287_977, ↓s287_978, ↓s287_981, ↓s287_982, ↓s287_983, ↓s287_985, ↓s287_986, ↓s287_987, ↓s287_988, ↓s287_989, ↓s287_991, ↓s287_992, ↓s287_993, ↓s287_994, ↓s287_997, ↓s287_1000, ↓s287_1001, iL_2, wc_0, wc_43, mN1_int, mN1_ref, mN1_null, mN1_U, mN1_rf, mCats_nil, mCats_int, mCats_ref, mCats_null, mCats_long, mCats_rf, mIsRef_ref, mIsRef_null, mIsRef_va, mRf_ref, mRf_null, mRf_rf, true_and, and_true, true_or, or_true, eq_self_iff_true, mK_v, mK_0, Nat.reduceAdd, Nat.reduceLeDiff, Nat.zero_le, iL_0, iL_1, iL_m1, iI_add, iI_sub, iI_mul, iI_neg, updI_at, upA_at, upP_at, upR_at, Nat.reduceEqDiff, reduceIte, Int.reduceAdd, Int.reduceSub, Int.reduceMul, Int.reduceDiv, Int.reduceMod, Int.reduceLT, Int.reduceLE, Int.reduceEq, Int.reduceNeg, not_true_eq_false, not_false_eq_true, Decidable.not_not, a1, c1, a2, c2, z1, z2, if_true]
  exact hgo H2 n k v5 v6 r2 (by omega) (by omega)
theorem lc_all (hb : G.2.2.2 ≤ b) (hl : rl G b h n) (hi : i + 6 ≤ G.2.2.1 9) (hgo : lcT G b i n k Q) : mX G 287 33 [.ref (G.2.2.1 8), .ref b, .ref (b + 43), .ref (b + 78), .int (iI (i : Int)), v5, v6] [] h n k Q := by
  obtain ⟨h0, I, A, P, R, o, fa, fb, fcap, fg, W, V, X, cap, ng, rfl, hM, hr, hf, hri⟩ := id hl
  have sc := hr.2.2.2.2.2.2.2.2.2.2.2.2.1
  have rg := sc.2.2 i
  have a0 := fun K => sc_ld (I := I) (A := A) (P := P) (R := R) (o := o) (K := K) (j := i) sc (by omega)
  have e31 : iI (scV G i) &&& iI 31 = iI (scV G i % 32) := by
    rw [iI_and31, iI_toInt rg.1 rg.2]
  have c0 : 0 ≤ scV G i % 32 ∧ scV G i % 32 < 32 := by omega
  generalize scV G i % 32 = c at *
  have hgo' : mX G 287 1002 [.ref (G.2.2.1 8), .ref b, .ref (b + 43), .ref (b + 78), .int (iI (i : Int)), v5, v6] [] (wH h0 b I A P R o) n k Q := hgo _ n k v5 v6 hl (by omega) (by omega)
  have g0 := fun (_ : Unit) => lc_0 (k := k) (Q := Q) (v5 := v5) (v6 := v6) hb hl hi hgo
  have g1 := fun (_ : Unit) => lc_1 (k := k) (Q := Q) (v5 := v5) (v6 := v6) hb hl hi hgo
  have g2 := fun (_ : Unit) => lc_2 (k := k) (Q := Q) (v5 := v5) (v6 := v6) hb hl hi hgo
  have g3 := fun (_ : Unit) => lc_3 (k := k) (Q := Q) (v5 := v5) (v6 := v6) hb hl hi hgo
  have g4 := fun (_ : Unit) => lc_4 (k := k) (Q := Q) (v5 := v5) (v6 := v6) hb hl hi hgo
  have g5 := fun (_ : Unit) => lc_5 (k := k) (Q := Q) (v5 := v5) (v6 := v6) hb hl hi hgo
  have g6 := fun (_ : Unit) => lc_6 (k := k) (Q := Q) (v5 := v5) (v6 := v6) hb hl hi hgo
  have g7 := fun (_ : Unit) => lc_7 (k := k) (Q := Q) (v5 := v5) (v6 := v6) hb hl hi hgo
  have g8 := fun (_ : Unit) => lc_8 (k := k) (Q := Q) (v5 := v5) (v6 := v6) hb hl hi hgo
  have g9 := fun (_ : Unit) => lc_9 (k := k) (Q := Q) (v5 := v5) (v6 := v6) hb hl hi hgo
  have g10 := fun (_ : Unit) => lc_10 (k := k) (Q := Q) (v5 := v5) (v6 := v6) hb hl hi hgo
  have g11 := fun (_ : Unit) => lc_11 (k := k) (Q := Q) (v5 := v5) (v6 := v6) hb hl hi hgo
  have g12 := fun (_ : Unit) => lc_12 (k := k) (Q := Q) (v5 := v5) (v6 := v6) hb hl hi hgo
  have g13 := fun (_ : Unit) => lc_13 (k := k) (Q := Q) (v5 := v5) (v6 := v6) hb hl hi hgo
  have g14 := fun (_ : Unit) => lc_14 (k := k) (Q := Q) (v5 := v5) (v6 := v6) hb hl hi hgo
  have g15 := fun (_ : Unit) => lc_15 (k := k) (Q := Q) (v5 := v5) (v6 := v6) hb hl hi hgo
  have g16 := fun (_ : Unit) => lc_16 (k := k) (Q := Q) (v5 := v5) (v6 := v6) hb hl hi hgo
  have g17 := fun (_ : Unit) => lc_17 (k := k) (Q := Q) (v5 := v5) (v6 := v6) hb hl hi hgo
  clear hgo hl hr hM hf hri
  by_cases q0 : c = 0
  · have g := g0 ()
    simp (maxSteps := 1000000) (disch := first | omega | (simp only [updI_at, upA_at, Nat.reduceEqDiff, reduceIte]; omega) | exact mIsRef_rf _ | exact rfl) only [↓s287_33, ↓s287_34, ↓s287_36, ↓s287_37, ↓s287_39, ↓s287_40, iL_10, iL_11, iL_12, iL_13, iL_14, iL_15, iL_16, iL_17, iL_2, iL_3, iL_31, iL_4, iL_5, iL_6, iL_7, iL_8, iL_9, mN1_int, mN1_ref, mN1_null, mN1_U, mN1_rf, mCats_nil, mCats_int, mCats_ref, mCats_null, mCats_long, mCats_rf, mIsRef_ref, mIsRef_null, mIsRef_va, mRf_ref, mRf_null, mRf_rf, true_and, and_true, true_or, or_true, eq_self_iff_true, mK_v, mK_0, Nat.reduceAdd, Nat.reduceLeDiff, Nat.zero_le, iL_0, iL_1, iL_m1, iI_add, iI_sub, iI_mul, iI_neg, updI_at, upA_at, upP_at, upR_at, Nat.reduceEqDiff, reduceIte, Int.reduceAdd, Int.reduceSub, Int.reduceMul, Int.reduceDiv, Int.reduceMod, Int.reduceLT, Int.reduceLE, Int.reduceEq, Int.reduceNeg, not_true_eq_false, not_false_eq_true, Decidable.not_not, a0, e31, iI_eq, q0]
    exact g
  by_cases q1 : c = 1
  · have g := g1 ()
    simp (maxSteps := 1000000) (disch := first | omega | (simp only [updI_at, upA_at, Nat.reduceEqDiff, reduceIte]; omega) | exact mIsRef_rf _ | exact rfl) only [↓s287_33, ↓s287_34, ↓s287_36, ↓s287_37, ↓s287_39, ↓s287_40, iL_10, iL_11, iL_12, iL_13, iL_14, iL_15, iL_16, iL_17, iL_2, iL_3, iL_31, iL_4, iL_5, iL_6, iL_7, iL_8, iL_9, mN1_int, mN1_ref, mN1_null, mN1_U, mN1_rf, mCats_nil, mCats_int, mCats_ref, mCats_null, mCats_long, mCats_rf, mIsRef_ref, mIsRef_null, mIsRef_va, mRf_ref, mRf_null, mRf_rf, true_and, and_true, true_or, or_true, eq_self_iff_true, mK_v, mK_0, Nat.reduceAdd, Nat.reduceLeDiff, Nat.zero_le, iL_0, iL_1, iL_m1, iI_add, iI_sub, iI_mul, iI_neg, updI_at, upA_at, upP_at, upR_at, Nat.reduceEqDiff, reduceIte, Int.reduceAdd, Int.reduceSub, Int.reduceMul, Int.reduceDiv, Int.reduceMod, Int.reduceLT, Int.reduceLE, Int.reduceEq, Int.reduceNeg, not_true_eq_false, not_false_eq_true, Decidable.not_not, a0, e31, iI_eq, q1]
    exact g
  by_cases q2 : c = 2
  · have g := g2 ()
    simp (maxSteps := 1000000) (disch := first | omega | (simp only [updI_at, upA_at, Nat.reduceEqDiff, reduceIte]; omega) | exact mIsRef_rf _ | exact rfl) only [↓s287_33, ↓s287_34, ↓s287_36, ↓s287_37, ↓s287_39, ↓s287_40, iL_10, iL_11, iL_12, iL_13, iL_14, iL_15, iL_16, iL_17, iL_2, iL_3, iL_31, iL_4, iL_5, iL_6, iL_7, iL_8, iL_9, mN1_int, mN1_ref, mN1_null, mN1_U, mN1_rf, mCats_nil, mCats_int, mCats_ref, mCats_null, mCats_long, mCats_rf, mIsRef_ref, mIsRef_null, mIsRef_va, mRf_ref, mRf_null, mRf_rf, true_and, and_true, true_or, or_true, eq_self_iff_true, mK_v, mK_0, Nat.reduceAdd, Nat.reduceLeDiff, Nat.zero_le, iL_0, iL_1, iL_m1, iI_add, iI_sub, iI_mul, iI_neg, updI_at, upA_at, upP_at, upR_at, Nat.reduceEqDiff, reduceIte, Int.reduceAdd, Int.reduceSub, Int.reduceMul, Int.reduceDiv, Int.reduceMod, Int.reduceLT, Int.reduceLE, Int.reduceEq, Int.reduceNeg, not_true_eq_false, not_false_eq_true, Decidable.not_not, a0, e31, iI_eq, q2]
    exact g
  by_cases q3 : c = 3
  · have g := g3 ()
    simp (maxSteps := 1000000) (disch := first | omega | (simp only [updI_at, upA_at, Nat.reduceEqDiff, reduceIte]; omega) | exact mIsRef_rf _ | exact rfl) only [↓s287_33, ↓s287_34, ↓s287_36, ↓s287_37, ↓s287_39, ↓s287_40, iL_10, iL_11, iL_12, iL_13, iL_14, iL_15, iL_16, iL_17, iL_2, iL_3, iL_31, iL_4, iL_5, iL_6, iL_7, iL_8, iL_9, mN1_int, mN1_ref, mN1_null, mN1_U, mN1_rf, mCats_nil, mCats_int, mCats_ref, mCats_null, mCats_long, mCats_rf, mIsRef_ref, mIsRef_null, mIsRef_va, mRf_ref, mRf_null, mRf_rf, true_and, and_true, true_or, or_true, eq_self_iff_true, mK_v, mK_0, Nat.reduceAdd, Nat.reduceLeDiff, Nat.zero_le, iL_0, iL_1, iL_m1, iI_add, iI_sub, iI_mul, iI_neg, updI_at, upA_at, upP_at, upR_at, Nat.reduceEqDiff, reduceIte, Int.reduceAdd, Int.reduceSub, Int.reduceMul, Int.reduceDiv, Int.reduceMod, Int.reduceLT, Int.reduceLE, Int.reduceEq, Int.reduceNeg, not_true_eq_false, not_false_eq_true, Decidable.not_not, a0, e31, iI_eq, q3]
    exact g
  by_cases q4 : c = 4
  · have g := g4 ()
    simp (maxSteps := 1000000) (disch := first | omega | (simp only [updI_at, upA_at, Nat.reduceEqDiff, reduceIte]; omega) | exact mIsRef_rf _ | exact rfl) only [↓s287_33, ↓s287_34, ↓s287_36, ↓s287_37, ↓s287_39, ↓s287_40, iL_10, iL_11, iL_12, iL_13, iL_14, iL_15, iL_16, iL_17, iL_2, iL_3, iL_31, iL_4, iL_5, iL_6, iL_7, iL_8, iL_9, mN1_int, mN1_ref, mN1_null, mN1_U, mN1_rf, mCats_nil, mCats_int, mCats_ref, mCats_null, mCats_long, mCats_rf, mIsRef_ref, mIsRef_null, mIsRef_va, mRf_ref, mRf_null, mRf_rf, true_and, and_true, true_or, or_true, eq_self_iff_true, mK_v, mK_0, Nat.reduceAdd, Nat.reduceLeDiff, Nat.zero_le, iL_0, iL_1, iL_m1, iI_add, iI_sub, iI_mul, iI_neg, updI_at, upA_at, upP_at, upR_at, Nat.reduceEqDiff, reduceIte, Int.reduceAdd, Int.reduceSub, Int.reduceMul, Int.reduceDiv, Int.reduceMod, Int.reduceLT, Int.reduceLE, Int.reduceEq, Int.reduceNeg, not_true_eq_false, not_false_eq_true, Decidable.not_not, a0, e31, iI_eq, q4]
    exact g
  by_cases q5 : c = 5
  · have g := g5 ()
    simp (maxSteps := 1000000) (disch := first | omega | (simp only [updI_at, upA_at, Nat.reduceEqDiff, reduceIte]; omega) | exact mIsRef_rf _ | exact rfl) only [↓s287_33, ↓s287_34, ↓s287_36, ↓s287_37, ↓s287_39, ↓s287_40, iL_10, iL_11, iL_12, iL_13, iL_14, iL_15, iL_16, iL_17, iL_2, iL_3, iL_31, iL_4, iL_5, iL_6, iL_7, iL_8, iL_9, mN1_int, mN1_ref, mN1_null, mN1_U, mN1_rf, mCats_nil, mCats_int, mCats_ref, mCats_null, mCats_long, mCats_rf, mIsRef_ref, mIsRef_null, mIsRef_va, mRf_ref, mRf_null, mRf_rf, true_and, and_true, true_or, or_true, eq_self_iff_true, mK_v, mK_0, Nat.reduceAdd, Nat.reduceLeDiff, Nat.zero_le, iL_0, iL_1, iL_m1, iI_add, iI_sub, iI_mul, iI_neg, updI_at, upA_at, upP_at, upR_at, Nat.reduceEqDiff, reduceIte, Int.reduceAdd, Int.reduceSub, Int.reduceMul, Int.reduceDiv, Int.reduceMod, Int.reduceLT, Int.reduceLE, Int.reduceEq, Int.reduceNeg, not_true_eq_false, not_false_eq_true, Decidable.not_not, a0, e31, iI_eq, q5]
    exact g
  by_cases q6 : c = 6
  · have g := g6 ()
    simp (maxSteps := 1000000) (disch := first | omega | (simp only [updI_at, upA_at, Nat.reduceEqDiff, reduceIte]; omega) | exact mIsRef_rf _ | exact rfl) only [↓s287_33, ↓s287_34, ↓s287_36, ↓s287_37, ↓s287_39, ↓s287_40, iL_10, iL_11, iL_12, iL_13, iL_14, iL_15, iL_16, iL_17, iL_2, iL_3, iL_31, iL_4, iL_5, iL_6, iL_7, iL_8, iL_9, mN1_int, mN1_ref, mN1_null, mN1_U, mN1_rf, mCats_nil, mCats_int, mCats_ref, mCats_null, mCats_long, mCats_rf, mIsRef_ref, mIsRef_null, mIsRef_va, mRf_ref, mRf_null, mRf_rf, true_and, and_true, true_or, or_true, eq_self_iff_true, mK_v, mK_0, Nat.reduceAdd, Nat.reduceLeDiff, Nat.zero_le, iL_0, iL_1, iL_m1, iI_add, iI_sub, iI_mul, iI_neg, updI_at, upA_at, upP_at, upR_at, Nat.reduceEqDiff, reduceIte, Int.reduceAdd, Int.reduceSub, Int.reduceMul, Int.reduceDiv, Int.reduceMod, Int.reduceLT, Int.reduceLE, Int.reduceEq, Int.reduceNeg, not_true_eq_false, not_false_eq_true, Decidable.not_not, a0, e31, iI_eq, q6]
    exact g
  by_cases q7 : c = 7
  · have g := g7 ()
    simp (maxSteps := 1000000) (disch := first | omega | (simp only [updI_at, upA_at, Nat.reduceEqDiff, reduceIte]; omega) | exact mIsRef_rf _ | exact rfl) only [↓s287_33, ↓s287_34, ↓s287_36, ↓s287_37, ↓s287_39, ↓s287_40, iL_10, iL_11, iL_12, iL_13, iL_14, iL_15, iL_16, iL_17, iL_2, iL_3, iL_31, iL_4, iL_5, iL_6, iL_7, iL_8, iL_9, mN1_int, mN1_ref, mN1_null, mN1_U, mN1_rf, mCats_nil, mCats_int, mCats_ref, mCats_null, mCats_long, mCats_rf, mIsRef_ref, mIsRef_null, mIsRef_va, mRf_ref, mRf_null, mRf_rf, true_and, and_true, true_or, or_true, eq_self_iff_true, mK_v, mK_0, Nat.reduceAdd, Nat.reduceLeDiff, Nat.zero_le, iL_0, iL_1, iL_m1, iI_add, iI_sub, iI_mul, iI_neg, updI_at, upA_at, upP_at, upR_at, Nat.reduceEqDiff, reduceIte, Int.reduceAdd, Int.reduceSub, Int.reduceMul, Int.reduceDiv, Int.reduceMod, Int.reduceLT, Int.reduceLE, Int.reduceEq, Int.reduceNeg, not_true_eq_false, not_false_eq_true, Decidable.not_not, a0, e31, iI_eq, q7]
    exact g
  by_cases q8 : c = 8
  · have g := g8 ()
    simp (maxSteps := 1000000) (disch := first | omega | (simp only [updI_at, upA_at, Nat.reduceEqDiff, reduceIte]; omega) | exact mIsRef_rf _ | exact rfl) only [↓s287_33, ↓s287_34, ↓s287_36, ↓s287_37, ↓s287_39, ↓s287_40, iL_10, iL_11, iL_12, iL_13, iL_14, iL_15, iL_16, iL_17, iL_2, iL_3, iL_31, iL_4, iL_5, iL_6, iL_7, iL_8, iL_9, mN1_int, mN1_ref, mN1_null, mN1_U, mN1_rf, mCats_nil, mCats_int, mCats_ref, mCats_null, mCats_long, mCats_rf, mIsRef_ref, mIsRef_null, mIsRef_va, mRf_ref, mRf_null, mRf_rf, true_and, and_true, true_or, or_true, eq_self_iff_true, mK_v, mK_0, Nat.reduceAdd, Nat.reduceLeDiff, Nat.zero_le, iL_0, iL_1, iL_m1, iI_add, iI_sub, iI_mul, iI_neg, updI_at, upA_at, upP_at, upR_at, Nat.reduceEqDiff, reduceIte, Int.reduceAdd, Int.reduceSub, Int.reduceMul, Int.reduceDiv, Int.reduceMod, Int.reduceLT, Int.reduceLE, Int.reduceEq, Int.reduceNeg, not_true_eq_false, not_false_eq_true, Decidable.not_not, a0, e31, iI_eq, q8]
    exact g
  by_cases q9 : c = 9
  · have g := g9 ()
    simp (maxSteps := 1000000) (disch := first | omega | (simp only [updI_at, upA_at, Nat.reduceEqDiff, reduceIte]; omega) | exact mIsRef_rf _ | exact rfl) only [↓s287_33, ↓s287_34, ↓s287_36, ↓s287_37, ↓s287_39, ↓s287_40, iL_10, iL_11, iL_12, iL_13, iL_14, iL_15, iL_16, iL_17, iL_2, iL_3, iL_31, iL_4, iL_5, iL_6, iL_7, iL_8, iL_9, mN1_int, mN1_ref, mN1_null, mN1_U, mN1_rf, mCats_nil, mCats_int, mCats_ref, mCats_null, mCats_long, mCats_rf, mIsRef_ref, mIsRef_null, mIsRef_va, mRf_ref, mRf_null, mRf_rf, true_and, and_true, true_or, or_true, eq_self_iff_true, mK_v, mK_0, Nat.reduceAdd, Nat.reduceLeDiff, Nat.zero_le, iL_0, iL_1, iL_m1, iI_add, iI_sub, iI_mul, iI_neg, updI_at, upA_at, upP_at, upR_at, Nat.reduceEqDiff, reduceIte, Int.reduceAdd, Int.reduceSub, Int.reduceMul, Int.reduceDiv, Int.reduceMod, Int.reduceLT, Int.reduceLE, Int.reduceEq, Int.reduceNeg, not_true_eq_false, not_false_eq_true, Decidable.not_not, a0, e31, iI_eq, q9]
    exact g
  by_cases q10 : c = 10
  · have g := g10 ()
    simp (maxSteps := 1000000) (disch := first | omega | (simp only [updI_at, upA_at, Nat.reduceEqDiff, reduceIte]; omega) | exact mIsRef_rf _ | exact rfl) only [↓s287_33, ↓s287_34, ↓s287_36, ↓s287_37, ↓s287_39, ↓s287_40, iL_10, iL_11, iL_12, iL_13, iL_14, iL_15, iL_16, iL_17, iL_2, iL_3, iL_31, iL_4, iL_5, iL_6, iL_7, iL_8, iL_9, mN1_int, mN1_ref, mN1_null, mN1_U, mN1_rf, mCats_nil, mCats_int, mCats_ref, mCats_null, mCats_long, mCats_rf, mIsRef_ref, mIsRef_null, mIsRef_va, mRf_ref, mRf_null, mRf_rf, true_and, and_true, true_or, or_true, eq_self_iff_true, mK_v, mK_0, Nat.reduceAdd, Nat.reduceLeDiff, Nat.zero_le, iL_0, iL_1, iL_m1, iI_add, iI_sub, iI_mul, iI_neg, updI_at, upA_at, upP_at, upR_at, Nat.reduceEqDiff, reduceIte, Int.reduceAdd, Int.reduceSub, Int.reduceMul, Int.reduceDiv, Int.reduceMod, Int.reduceLT, Int.reduceLE, Int.reduceEq, Int.reduceNeg, not_true_eq_false, not_false_eq_true, Decidable.not_not, a0, e31, iI_eq, q10]
    exact g
  by_cases q11 : c = 11
  · have g := g11 ()
    simp (maxSteps := 1000000) (disch := first | omega | (simp only [updI_at, upA_at, Nat.reduceEqDiff, reduceIte]; omega) | exact mIsRef_rf _ | exact rfl) only [↓s287_33, ↓s287_34, ↓s287_36, ↓s287_37, ↓s287_39, ↓s287_40, iL_10, iL_11, iL_12, iL_13, iL_14, iL_15, iL_16, iL_17, iL_2, iL_3, iL_31, iL_4, iL_5, iL_6, iL_7, iL_8, iL_9, mN1_int, mN1_ref, mN1_null, mN1_U, mN1_rf, mCats_nil, mCats_int, mCats_ref, mCats_null, mCats_long, mCats_rf, mIsRef_ref, mIsRef_null, mIsRef_va, mRf_ref, mRf_null, mRf_rf, true_and, and_true, true_or, or_true, eq_self_iff_true, mK_v, mK_0, Nat.reduceAdd, Nat.reduceLeDiff, Nat.zero_le, iL_0, iL_1, iL_m1, iI_add, iI_sub, iI_mul, iI_neg, updI_at, upA_at, upP_at, upR_at, Nat.reduceEqDiff, reduceIte, Int.reduceAdd, Int.reduceSub, Int.reduceMul, Int.reduceDiv, Int.reduceMod, Int.reduceLT, Int.reduceLE, Int.reduceEq, Int.reduceNeg, not_true_eq_false, not_false_eq_true, Decidable.not_not, a0, e31, iI_eq, q11]
    exact g
  by_cases q12 : c = 12
  · have g := g12 ()
    simp (maxSteps := 1000000) (disch := first | omega | (simp only [updI_at, upA_at, Nat.reduceEqDiff, reduceIte]; omega) | exact mIsRef_rf _ | exact rfl) only [↓s287_33, ↓s287_34, ↓s287_36, ↓s287_37, ↓s287_39, ↓s287_40, iL_10, iL_11, iL_12, iL_13, iL_14, iL_15, iL_16, iL_17, iL_2, iL_3, iL_31, iL_4, iL_5, iL_6, iL_7, iL_8, iL_9, mN1_int, mN1_ref, mN1_null, mN1_U, mN1_rf, mCats_nil, mCats_int, mCats_ref, mCats_null, mCats_long, mCats_rf, mIsRef_ref, mIsRef_null, mIsRef_va, mRf_ref, mRf_null, mRf_rf, true_and, and_true, true_or, or_true, eq_self_iff_true, mK_v, mK_0, Nat.reduceAdd, Nat.reduceLeDiff, Nat.zero_le, iL_0, iL_1, iL_m1, iI_add, iI_sub, iI_mul, iI_neg, updI_at, upA_at, upP_at, upR_at, Nat.reduceEqDiff, reduceIte, Int.reduceAdd, Int.reduceSub, Int.reduceMul, Int.reduceDiv, Int.reduceMod, Int.reduceLT, Int.reduceLE, Int.reduceEq, Int.reduceNeg, not_true_eq_false, not_false_eq_true, Decidable.not_not, a0, e31, iI_eq, q12]
    exact g
  by_cases q13 : c = 13
  · have g := g13 ()
    simp (maxSteps := 1000000) (disch := first | omega | (simp only [updI_at, upA_at, Nat.reduceEqDiff, reduceIte]; omega) | exact mIsRef_rf _ | exact rfl) only [↓s287_33, ↓s287_34, ↓s287_36, ↓s287_37, ↓s287_39, ↓s287_40, iL_10, iL_11, iL_12, iL_13, iL_14, iL_15, iL_16, iL_17, iL_2, iL_3, iL_31, iL_4, iL_5, iL_6, iL_7, iL_8, iL_9, mN1_int, mN1_ref, mN1_null, mN1_U, mN1_rf, mCats_nil, mCats_int, mCats_ref, mCats_null, mCats_long, mCats_rf, mIsRef_ref, mIsRef_null, mIsRef_va, mRf_ref, mRf_null, mRf_rf, true_and, and_true, true_or, or_true, eq_self_iff_true, mK_v, mK_0, Nat.reduceAdd, Nat.reduceLeDiff, Nat.zero_le, iL_0, iL_1, iL_m1, iI_add, iI_sub, iI_mul, iI_neg, updI_at, upA_at, upP_at, upR_at, Nat.reduceEqDiff, reduceIte, Int.reduceAdd, Int.reduceSub, Int.reduceMul, Int.reduceDiv, Int.reduceMod, Int.reduceLT, Int.reduceLE, Int.reduceEq, Int.reduceNeg, not_true_eq_false, not_false_eq_true, Decidable.not_not, a0, e31, iI_eq, q13]
    exact g
  by_cases q14 : c = 14
  · have g := g14 ()
    simp (maxSteps := 1000000) (disch := first | omega | (simp only [updI_at, upA_at, Nat.reduceEqDiff, reduceIte]; omega) | exact mIsRef_rf _ | exact rfl) only [↓s287_33, ↓s287_34, ↓s287_36, ↓s287_37, ↓s287_39, ↓s287_40, iL_10, iL_11, iL_12, iL_13, iL_14, iL_15, iL_16, iL_17, iL_2, iL_3, iL_31, iL_4, iL_5, iL_6, iL_7, iL_8, iL_9, mN1_int, mN1_ref, mN1_null, mN1_U, mN1_rf, mCats_nil, mCats_int, mCats_ref, mCats_null, mCats_long, mCats_rf, mIsRef_ref, mIsRef_null, mIsRef_va, mRf_ref, mRf_null, mRf_rf, true_and, and_true, true_or, or_true, eq_self_iff_true, mK_v, mK_0, Nat.reduceAdd, Nat.reduceLeDiff, Nat.zero_le, iL_0, iL_1, iL_m1, iI_add, iI_sub, iI_mul, iI_neg, updI_at, upA_at, upP_at, upR_at, Nat.reduceEqDiff, reduceIte, Int.reduceAdd, Int.reduceSub, Int.reduceMul, Int.reduceDiv, Int.reduceMod, Int.reduceLT, Int.reduceLE, Int.reduceEq, Int.reduceNeg, not_true_eq_false, not_false_eq_true, Decidable.not_not, a0, e31, iI_eq, q14]
    exact g
  by_cases q15 : c = 15
  · have g := g15 ()
    simp (maxSteps := 1000000) (disch := first | omega | (simp only [updI_at, upA_at, Nat.reduceEqDiff, reduceIte]; omega) | exact mIsRef_rf _ | exact rfl) only [↓s287_33, ↓s287_34, ↓s287_36, ↓s287_37, ↓s287_39, ↓s287_40, iL_10, iL_11, iL_12, iL_13, iL_14, iL_15, iL_16, iL_17, iL_2, iL_3, iL_31, iL_4, iL_5, iL_6, iL_7, iL_8, iL_9, mN1_int, mN1_ref, mN1_null, mN1_U, mN1_rf, mCats_nil, mCats_int, mCats_ref, mCats_null, mCats_long, mCats_rf, mIsRef_ref, mIsRef_null, mIsRef_va, mRf_ref, mRf_null, mRf_rf, true_and, and_true, true_or, or_true, eq_self_iff_true, mK_v, mK_0, Nat.reduceAdd, Nat.reduceLeDiff, Nat.zero_le, iL_0, iL_1, iL_m1, iI_add, iI_sub, iI_mul, iI_neg, updI_at, upA_at, upP_at, upR_at, Nat.reduceEqDiff, reduceIte, Int.reduceAdd, Int.reduceSub, Int.reduceMul, Int.reduceDiv, Int.reduceMod, Int.reduceLT, Int.reduceLE, Int.reduceEq, Int.reduceNeg, not_true_eq_false, not_false_eq_true, Decidable.not_not, a0, e31, iI_eq, q15]
    exact g
  by_cases q16 : c = 16
  · have g := g16 ()
    simp (maxSteps := 1000000) (disch := first | omega | (simp only [updI_at, upA_at, Nat.reduceEqDiff, reduceIte]; omega) | exact mIsRef_rf _ | exact rfl) only [↓s287_33, ↓s287_34, ↓s287_36, ↓s287_37, ↓s287_39, ↓s287_40, iL_10, iL_11, iL_12, iL_13, iL_14, iL_15, iL_16, iL_17, iL_2, iL_3, iL_31, iL_4, iL_5, iL_6, iL_7, iL_8, iL_9, mN1_int, mN1_ref, mN1_null, mN1_U, mN1_rf, mCats_nil, mCats_int, mCats_ref, mCats_null, mCats_long, mCats_rf, mIsRef_ref, mIsRef_null, mIsRef_va, mRf_ref, mRf_null, mRf_rf, true_and, and_true, true_or, or_true, eq_self_iff_true, mK_v, mK_0, Nat.reduceAdd, Nat.reduceLeDiff, Nat.zero_le, iL_0, iL_1, iL_m1, iI_add, iI_sub, iI_mul, iI_neg, updI_at, upA_at, upP_at, upR_at, Nat.reduceEqDiff, reduceIte, Int.reduceAdd, Int.reduceSub, Int.reduceMul, Int.reduceDiv, Int.reduceMod, Int.reduceLT, Int.reduceLE, Int.reduceEq, Int.reduceNeg, not_true_eq_false, not_false_eq_true, Decidable.not_not, a0, e31, iI_eq, q16]
    exact g
  by_cases q17 : c = 17
  · have g := g17 ()
    simp (maxSteps := 1000000) (disch := first | omega | (simp only [updI_at, upA_at, Nat.reduceEqDiff, reduceIte]; omega) | exact mIsRef_rf _ | exact rfl) only [↓s287_33, ↓s287_34, ↓s287_36, ↓s287_37, ↓s287_39, ↓s287_40, iL_10, iL_11, iL_12, iL_13, iL_14, iL_15, iL_16, iL_17, iL_2, iL_3, iL_31, iL_4, iL_5, iL_6, iL_7, iL_8, iL_9, mN1_int, mN1_ref, mN1_null, mN1_U, mN1_rf, mCats_nil, mCats_int, mCats_ref, mCats_null, mCats_long, mCats_rf, mIsRef_ref, mIsRef_null, mIsRef_va, mRf_ref, mRf_null, mRf_rf, true_and, and_true, true_or, or_true, eq_self_iff_true, mK_v, mK_0, Nat.reduceAdd, Nat.reduceLeDiff, Nat.zero_le, iL_0, iL_1, iL_m1, iI_add, iI_sub, iI_mul, iI_neg, updI_at, upA_at, upP_at, upR_at, Nat.reduceEqDiff, reduceIte, Int.reduceAdd, Int.reduceSub, Int.reduceMul, Int.reduceDiv, Int.reduceMod, Int.reduceLT, Int.reduceLE, Int.reduceEq, Int.reduceNeg, not_true_eq_false, not_false_eq_true, Decidable.not_not, a0, e31, iI_eq, q17]
    exact g
  simp (maxSteps := 1000000) (disch := first | omega | (simp only [updI_at, upA_at, Nat.reduceEqDiff, reduceIte]; omega) | exact mIsRef_rf _ | exact rfl) only [↓s287_33, ↓s287_34, ↓s287_36, ↓s287_37, ↓s287_39, ↓s287_40, iL_10, iL_11, iL_12, iL_13, iL_14, iL_15, iL_16, iL_17, iL_2, iL_3, iL_31, iL_4, iL_5, iL_6, iL_7, iL_8, iL_9, mN1_int, mN1_ref, mN1_null, mN1_U, mN1_rf, mCats_nil, mCats_int, mCats_ref, mCats_null, mCats_long, mCats_rf, mIsRef_ref, mIsRef_null, mIsRef_va, mRf_ref, mRf_null, mRf_rf, true_and, and_true, true_or, or_true, eq_self_iff_true, mK_v, mK_0, Nat.reduceAdd, Nat.reduceLeDiff, Nat.zero_le, iL_0, iL_1, iL_m1, iI_add, iI_sub, iI_mul, iI_neg, updI_at, upA_at, upP_at, upR_at, Nat.reduceEqDiff, reduceIte, Int.reduceAdd, Int.reduceSub, Int.reduceMul, Int.reduceDiv, Int.reduceMod, Int.reduceLT, Int.reduceLE, Int.reduceEq, Int.reduceNeg, not_true_eq_false, not_false_eq_true, Decidable.not_not, a0, e31, iI_eq, q0, q1, q2, q3, q4, q5, q6, q7, q8, q9, q10, q11, q12, q13, q14, q15, q16, q17]
  exact hgo'
end
theorem law_l (hb : G.2.2.2 ≤ b) : ∀ (d i : Nat) (h : mH) (n k : Nat) (v5 v6 : Value), rl G b h n → G.2.2.1 9 < i + 6 * d + 6 → i ≤ 4000 → (∀ (h' : mH) (n' k' : Nat), n' ≤ n + 16 * d → k' ≤ k + 9000 * d → Q (.inl (some (.int (iI 1))), h', n', k')) → mX G 287 23 [.ref (G.2.2.1 8), .ref b, .ref (b + 43), .ref (b + 78), .int (iI (i : Int)), v5, v6] [] h n k Q := by
  intro d
  induction d with
  | zero =>
    intro i h n k v5 v6 hl hi hi4 hQ
    obtain ⟨h0, I, A, P, R, o, fa, fb, fcap, fg, W, V, X, cap, ng, rfl, hM, hr, hf, hri⟩ := hl
    have sc := hr.2.2.2.2.2.2.2.2.2.2.2.2.1
    have l3 := sc.2.1
    have zl := fun K => sc_len (I := I) (A := A) (P := P) (R := R) (o := o) (K := K) sc
    have q : ((G.2.2.1 9 : Nat) : Int) - 6 < (i : Int) := by omega
    simp (maxSteps := 1000000) (disch := first | omega | (simp only [updI_at, upA_at, Nat.reduceEqDiff, reduceIte]; omega) | exact mIsRef_rf _ | exact rfl) only [↓s287_23, ↓s287_25, ↓s287_26, ↓s287_27, ↓s287_29, ↓s287_30, iL_6, ↓s287_1008, ↓s287_1009, mN1_int, mN1_ref, mN1_null, mN1_U, mN1_rf, mCats_nil, mCats_int, mCats_ref, mCats_null, mCats_long, mCats_rf, mIsRef_ref, mIsRef_null, mIsRef_va, mRf_ref, mRf_null, mRf_rf, true_and, and_true, true_or, or_true, eq_self_iff_true, mK_v, mK_0, Nat.reduceAdd, Nat.reduceLeDiff, Nat.zero_le, iL_0, iL_1, iL_m1, iI_add, iI_sub, iI_mul, iI_neg, updI_at, upA_at, upP_at, upR_at, Nat.reduceEqDiff, reduceIte, Int.reduceAdd, Int.reduceSub, Int.reduceMul, Int.reduceDiv, Int.reduceMod, Int.reduceLT, Int.reduceLE, Int.reduceEq, Int.reduceNeg, not_true_eq_false, not_false_eq_true, Decidable.not_not, zl, iI_nI, iI_lt, q, if_true]
    exact hQ _ n k (by omega) (by omega)
  | succ d ih =>
    intro i h n k v5 v6 hl hi hi4 hQ
    obtain ⟨h0, I, A, P, R, o, fa, fb, fcap, fg, W, V, X, cap, ng, rfl, hM, hr, hf, hri⟩ := id hl
    have sc := hr.2.2.2.2.2.2.2.2.2.2.2.2.1
    have l3 := sc.2.1
    have zl := fun K => sc_len (I := I) (A := A) (P := P) (R := R) (o := o) (K := K) sc
    by_cases q : ((G.2.2.1 9 : Nat) : Int) - 6 < (i : Int)
    · simp (maxSteps := 1000000) (disch := first | omega | (simp only [updI_at, upA_at, Nat.reduceEqDiff, reduceIte]; omega) | exact mIsRef_rf _ | exact rfl) only [↓s287_23, ↓s287_25, ↓s287_26, ↓s287_27, ↓s287_29, ↓s287_30, iL_6, ↓s287_1008, ↓s287_1009, mN1_int, mN1_ref, mN1_null, mN1_U, mN1_rf, mCats_nil, mCats_int, mCats_ref, mCats_null, mCats_long, mCats_rf, mIsRef_ref, mIsRef_null, mIsRef_va, mRf_ref, mRf_null, mRf_rf, true_and, and_true, true_or, or_true, eq_self_iff_true, mK_v, mK_0, Nat.reduceAdd, Nat.reduceLeDiff, Nat.zero_le, iL_0, iL_1, iL_m1, iI_add, iI_sub, iI_mul, iI_neg, updI_at, upA_at, upP_at, upR_at, Nat.reduceEqDiff, reduceIte, Int.reduceAdd, Int.reduceSub, Int.reduceMul, Int.reduceDiv, Int.reduceMod, Int.reduceLT, Int.reduceLE, Int.reduceEq, Int.reduceNeg, not_true_eq_false, not_false_eq_true, Decidable.not_not, zl, iI_nI, iI_lt, q, if_true]
      exact hQ _ n k (by omega) (by omega)
    · have g := lc_all (i := i) (k := k) (Q := Q) (v5 := v5) (v6 := v6) hb hl (by omega) (by
        intro h' n' k' w5 w6 r' q1 q2
        have z := ih (i + 6) h' n' k' w5 w6 r' (by omega) (by omega) (fun h2 n2 k2 u1 u2 => hQ h2 n2 k2 (by omega) (by omega))
        rw [Int.natCast_add, show ((6 : Nat) : Int) = 6 from rfl] at z
        simp (maxSteps := 1000000) (disch := first | omega | (simp only [updI_at, upA_at, Nat.reduceEqDiff, reduceIte]; omega) | exact mIsRef_rf _ | exact rfl) only [↓s287_1002, ↓s287_1005, iL_6, mN1_int, mN1_ref, mN1_null, mN1_U, mN1_rf, mCats_nil, mCats_int, mCats_ref, mCats_null, mCats_long, mCats_rf, mIsRef_ref, mIsRef_null, mIsRef_va, mRf_ref, mRf_null, mRf_rf, true_and, and_true, true_or, or_true, eq_self_iff_true, mK_v, mK_0, Nat.reduceAdd, Nat.reduceLeDiff, Nat.zero_le, iL_0, iL_1, iL_m1, iI_add, iI_sub, iI_mul, iI_neg, updI_at, upA_at, upP_at, upR_at, Nat.reduceEqDiff, reduceIte, Int.reduceAdd, Int.reduceSub, Int.reduceMul, Int.reduceDiv, Int.reduceMod, Int.reduceLT, Int.reduceLE, Int.reduceEq, Int.reduceNeg, not_true_eq_false, not_false_eq_true, Decidable.not_not]
        exact z)
      simp (maxSteps := 1000000) (disch := first | omega | (simp only [updI_at, upA_at, Nat.reduceEqDiff, reduceIte]; omega) | exact mIsRef_rf _ | exact rfl) only [↓s287_23, ↓s287_25, ↓s287_26, ↓s287_27, ↓s287_29, ↓s287_30, iL_6, mN1_int, mN1_ref, mN1_null, mN1_U, mN1_rf, mCats_nil, mCats_int, mCats_ref, mCats_null, mCats_long, mCats_rf, mIsRef_ref, mIsRef_null, mIsRef_va, mRf_ref, mRf_null, mRf_rf, true_and, and_true, true_or, or_true, eq_self_iff_true, mK_v, mK_0, Nat.reduceAdd, Nat.reduceLeDiff, Nat.zero_le, iL_0, iL_1, iL_m1, iI_add, iI_sub, iI_mul, iI_neg, updI_at, upA_at, upP_at, upR_at, Nat.reduceEqDiff, reduceIte, Int.reduceAdd, Int.reduceSub, Int.reduceMul, Int.reduceDiv, Int.reduceMod, Int.reduceLT, Int.reduceLE, Int.reduceEq, Int.reduceNeg, not_true_eq_false, not_false_eq_true, Decidable.not_not, zl, iI_nI, iI_lt, q, if_false]
      exact g
end MLOOP
