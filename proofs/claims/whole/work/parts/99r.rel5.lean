/-! The relation: ENVELOPE. -/
section MREL5
variable {G : mG} {h h0 : mH} {n k b : Nat} {Q : mR → Prop} {I : Nat → Int} {A : Nat → Nat → Int} {P : Nat → Nat} {R : Nat → Option Nat} {o : Nat → Int64}
section
variable {J : Nat → Int} {B : Nat → Nat → Int} {fa : Nat → Nat} {fb : Nat → Nat → Int} {fcap : Nat} {fg : Nat → Option Nat} {W : Nat → Nat → Nat → Nat} {V : Nat → Nat → Nat → Nat → Int} {X : Nat → Nat → Option Nat} {cap : Nat} {ng : Nat → Option Nat} {h1 : mH}
theorem ck_143 (hb : G.2.2.2 ≤ b) (hr : rst G h0 b I A P R J B fa fb fcap fg W V X cap ng) (hM : iM J B) (hq : rqR I A R b J B) (ht : tR K3 (J 49) A J B) (hp : J 39 = 1) (hs : J 41 = 0) : cmdOk G b I A P o fa fcap fg W V X cap ng (fun n k Q => mX G 143 0 [.ref (b + 34), mU, mU] [] (wH h0 b I A P R o) n k Q) (e3F J B 211) := by
  have e := hr.2.2.2.2.2.1
  have n2 := hM.2.2.2.2.1.2.1
  have z := fun n k Q => d143 (n := n) (k := k) (Q := Q) (o := o) hb hr.2.1.1 hr.2.1.2.1 hM hr.2.2.1.1 hr.2.2.1.2.2.1 (e.2.1.1 hp) (by rw [e.1.2.2.1]; exact n2) hq hr.2.2.2.2.2.2.2.1.1 ht
  have tg : (tgF 211).toNat = 16 := rfl
  have i5 := hM.2.2.2.1.2.2.1 40 (by omega)
  have hd := hr.2.1.1.2.2.2.2 40 (Or.inr rfl)
  unfold e3F
  rw [tg, if_neg (by omega), if_neg (fun t => t hs)]
  unfold atF at z
  by_cases p1 : J 51 = 0
  · simp only [eq_true p1, not_true_eq_false, if_false] at z ⊢
    by_cases p2 : B 46 16 < 0
    · simp only [p2, if_true, Int.reduceEq, not_false_eq_true] at z ⊢
      exact ck_f z (by decide) (by decide) hr kpM_refl
    · simp only [p2, if_false, not_true_eq_false, Int.reduceEq] at z ⊢
      by_cases p3 : B 46 16 = 1
      · simp only [eq_true p3, not_true_eq_false, if_false]
        unfold e4F
        rw [if_pos rfl]
        have pi := pl_it hd i5.1 p3
        rcases pi with ⟨pi1, pi2⟩ | ⟨pi1, pi2, pi3⟩
        · rw [if_pos (by rw [show (40 : Int) = ((40 : Nat) : Int) from rfl, pi2]; decide)]
          simp only [eq_true pi1, if_true] at z
          exact ck_f z (by decide) (by decide) hr kpM_refl
        · have pi1' : itF B 40 (B 14 (B 45 16).toNat) = 5 * 40 + plF B V 40 := pi1
          rw [if_neg (by rw [pi1']; omega), pi1', show (5 * 40 + plF B V 40).toNat = 200 + (plF B V 40).toNat by omega]
          simp only [show ¬ plF B V 40 = -1 by omega, if_false] at z
          exact ck_d z (rst_st hr hp n2) (kpM_st kpM_refl)
      · have pl : plF B V 40 = -1 := by unfold plF; rw [if_neg p3]
        simp only [p3, not_false_eq_true, if_true]
        simp only [eq_true pl, if_true] at z
        exact ck_f z (by decide) (by decide) hr kpM_refl
  · simp only [p1, not_false_eq_true, if_true, Int.reduceEq] at z ⊢
    exact ck_f z (by decide) (by decide) hr kpM_refl
theorem ck_144 (hb : G.2.2.2 ≤ b) (hr : rst G h0 b I A P R J B fa fb fcap fg W V X cap ng) (hM : iM J B) (hq : rqR I A R b J B) (ht : tR K4 (J 49) A J B) (hp : J 39 = 1) (hs : J 41 = 0) : cmdOk G b I A P o fa fcap fg W V X cap ng (fun n k Q => mX G 144 0 [.ref (b + 34), mU] [] (wH h0 b I A P R o) n k Q) (e3F J B 214) := by
  have e := hr.2.2.2.2.2.1
  have n2 := hM.2.2.2.2.1.2.1
  have z := fun n k Q => d144 (n := n) (k := k) (Q := Q) (o := o) hb hr.2.1.1 hr.2.1.2.1 hM hr.2.2.1.1 hr.2.2.1.2.2.2.1 (e.2.1.1 hp) (by rw [e.1.2.2.1]; exact n2) hq hr.2.2.2.2.2.2.2.1.1 ht hr.2.2.2.2.2.2.1.1
  have tg : (tgF 214).toNat = 25 := rfl
  unfold e3F
  rw [tg, if_neg (by omega), if_neg (fun t => t hs)]
  unfold atF at z
  by_cases p1 : J 51 = 0
  · simp only [eq_true p1, not_true_eq_false, if_false] at z ⊢
    by_cases p2 : B 46 25 < 0
    · simp only [p2, if_true, Int.reduceEq, not_false_eq_true] at z ⊢
      exact ck_f z (by decide) (by decide) hr kpM_refl
    · simp only [p2, if_false, not_true_eq_false, Int.reduceEq, if_true] at z ⊢
      by_cases p3 : B 46 25 = 0
      · simp only [show B 46 25 < 1 by omega, if_true]
        simp only [eq_true p3, if_true] at z
        exact ck_f z (by decide) (by decide) hr kpM_refl
      · simp only [show ¬ B 46 25 < 1 by omega, if_false]
        simp only [p3, if_false] at z
        unfold e4F
        rw [if_neg (by decide), if_pos rfl]
        exact ck_d z (rst_st hr hp n2) (kpM_st kpM_refl)
  · simp only [p1, not_false_eq_true, if_true, Int.reduceEq] at z ⊢
    exact ck_f z (by decide) (by decide) hr kpM_refl
theorem ck_145 (hb : G.2.2.2 ≤ b) (hr : rst G h0 b I A P R J B fa fb fcap fg W V X cap ng) (hM : iM J B) (hq : rqR I A R b J B) (ht : tR K5 (J 49) A J B) (hp : J 39 = 1) (hs : J 41 = 0) : cmdOk G b I A P o fa fcap fg W V X cap ng (fun n k Q => mX G 145 0 [.ref (b + 34), mU, mU] [] (wH h0 b I A P R o) n k Q) (e3F J B 215) := by
  have e := hr.2.2.2.2.2.1
  have n2 := hM.2.2.2.2.1.2.1
  have x := hr.2.2.2.2.2.2.2.1
  have z := fun n k Q => d145 (n := n) (k := k) (Q := Q) (o := o) hb hr.2.1.1 hr.2.1.2.1 hM hr.2.2.1.1 hr.2.2.1.2.2.2.2.1 (e.2.1.1 hp) (by rw [e.1.2.2.1]; exact n2) hq x.1 ht x.2.1 e.2.2.2.1.1 e.2.2.2.1.2.1 e.2.2.2.1.2.2 hr.2.2.2.2.2.2.1.2
  have tg : (tgF 215).toNat = 36 := rfl
  unfold e3F
  rw [tg, if_neg (by omega), if_neg (fun t => t hs)]
  unfold atF at z
  by_cases p1 : J 51 = 0
  · simp only [eq_true p1, not_true_eq_false, if_false] at z ⊢
    by_cases p2 : B 46 36 < 0
    · simp only [p2, if_true, Int.reduceEq, not_false_eq_true] at z ⊢
      exact ck_f z (by decide) (by decide) hr kpM_refl
    · simp only [p2, if_false, not_true_eq_false, Int.reduceEq] at z ⊢
      by_cases p3 : B 46 36 = 1
      · simp only [eq_true p3, not_true_eq_false, if_false]
        simp only [eq_true p3, not_true_eq_false, false_or] at z
        unfold e4F
        rw [if_neg (by decide), if_neg (by decide)]
        unfold tiV at z
        generalize B 14 (B 45 36).toNat = v at *
        by_cases p4 : (1 ≤ v ∧ v ≤ 8) ∧ ¬ B 40 v.toNat = 0
        · rw [if_neg (fun t => t p4)]
          simp only [eq_true p4, not_true_eq_false, if_false] at z
          exact ck_d z (rst_st (rst_run (i := v.toNat) (x := 0) hr (by omega) (by omega)) hp n2) (kpM_st (kpM_A kpM_refl (by decide)))
        · rw [if_pos p4]
          simp only [p4, not_false_eq_true, if_true] at z
          exact ck_f z (by decide) (by decide) hr kpM_refl
      · simp only [p3, not_false_eq_true, if_true]
        simp only [p3, not_false_eq_true, true_or, if_true] at z
        exact ck_f z (by decide) (by decide) hr kpM_refl
  · simp only [p1, not_false_eq_true, if_true, Int.reduceEq] at z ⊢
    exact ck_f z (by decide) (by decide) hr kpM_refl
theorem ck_146 (hb : G.2.2.2 ≤ b) (hr : rst G h0 b I A P R J B fa fb fcap fg W V X cap ng) (hM : iM J B) (hq : rqR I A R b J B) (ht : tR K2 (J 49) A J B) (hp : J 39 = 1) (hs : J 41 = 0) : cmdOk G b I A P o fa fcap fg W V X cap ng (fun n k Q => mX G 146 0 [.ref (b + 34), .ref (b + 4), mU, mU, mU, mU] [] (wH h0 b I A P R o) n k Q) (e3F J B 209) := by
  have e := hr.2.2.2.2.2.1
  have n2 := hM.2.2.2.2.1.2.1
  have z := d146 (o := o) hb hr.1.1 hr.2.1.1 hr.2.1.2.2 hr.1.2.1 hr.2.1.2.1 hM hr.2.2.1.1 hr.2.2.1.2.2.2.2.2 (e.2.1.1 hp) (by rw [e.1.2.2.1]; exact n2) hq hr.2.2.2.2.2.2.2.1.1 ht
  have tg : (tgF 209).toNat = 11 := rfl
  have tp := hM.2.2.2.2.2.2
  have hr0 := oaF_rng (I := J) (A := B) (e := B 45 11 + B 46 11) 262 (o1F B (B 45 11) (B 45 11 + B 46 11)) (-1) (Or.inl rfl)
  unfold e3F
  rw [tg, if_neg (by omega), if_neg (fun t => t hs)]
  rcases z with ⟨z1, z2⟩ | ⟨z1, z3, z2⟩ | ⟨z1, z3, h1, fb', b1, b2, z2⟩
  · unfold atF at z1 z2
    by_cases p1 : J 51 = 0
    · simp only [eq_true p1, not_true_eq_false, if_false] at z1 z2 ⊢
      by_cases p2 : B 46 11 < 0
      · simp only [p2, if_true] at z2 ⊢
        exact ck_f z2 (by decide) (by decide) hr kpM_refl
      · rw [if_neg p2] at z1
        exact absurd rfl z1
    · simp only [p1, not_false_eq_true, if_true] at z2 ⊢
      exact ck_f z2 (by decide) (by decide) hr kpM_refl
  · have m1 : J 51 = 0 := by
      unfold atF at z1
      split at z1
      · omega
      · omega
    have t1 := atF_ok z1
    rw [if_neg (fun t => t m1), if_neg t1, if_pos rfl]
    unfold orF
    unfold orS at z3 z2
    by_cases p1 : o1F B (B 45 11) (B 45 11 + B 46 11) < 0
    · simp only [eq_true p1, if_true] at z2 ⊢
      exact ck_f z2 (by decide) (by decide) hr kpM_refl
    · simp only [p1, if_false] at z2 z3 ⊢
      generalize oaF J B (B 45 11 + B 46 11) 262 (o1F B (B 45 11) (B 45 11 + B 46 11)) (-1) = w at *
      by_cases p2 : w.1 = 0
      · rw [if_neg (fun t => t p2)] at z3
        exact absurd rfl z3
      · simp only [p2, not_false_eq_true, if_true] at z2 ⊢
        exact ck_f z2 (by omega) (by omega) hr kpM_refl
  · have m1 : J 51 = 0 := by
      unfold atF at z1
      split at z1
      · omega
      · omega
    have t1 := atF_ok z1
    rw [if_neg (fun t => t m1), if_neg t1, if_pos rfl]
    unfold orF
    unfold orS at z3
    have p1 : ¬ o1F B (B 45 11) (B 45 11 + B 46 11) < 0 := by
      intro t
      rw [if_pos t] at z3
      omega
    rw [if_neg p1] at z3
    have p2 : (oaF J B (B 45 11 + B 46 11) 262 (o1F B (B 45 11) (B 45 11 + B 46 11)) (-1)).1 = 0 := by
      by_cases w : (oaF J B (B 45 11 + B 46 11) 262 (o1F B (B 45 11) (B 45 11 + B 46 11)) (-1)).1 = 0
      · exact w
      · rw [if_pos w] at z3
        omega
    rw [if_neg p1, if_neg (fun t => t p2)]
    have r2 := rst_kp hr b1 b2 (fun j hj => obA_oth hj _ _ _)
    exact ck_d z2 (rst_st r2 hp n2) (kpM_st kpM_refl)
/-- the tail of an ENVELOPE, once its list was read -/
theorem ck_132t {K : Int → Prop} [DecidablePred K] {c s : Int} (hb : G.2.2.2 ≤ b) (hr : rst G h0 b I A P R J B fa fb fcap fg W V X cap ng) (hM : iM J B) (hC : iCm J) (hq : cq I A J B) (hd : ¬ J 49 = 0) (hs : 0 ≤ s ∧ s ≤ J 49)
    (zr : ∀ n k Q, mX G 140 0 [.ref (b + 34), .ref (b + 4), mU, mU, mU] [] (wH h0 b I A P R o) n k Q ↔ Q (.inl (some (.int (iI (bI (¬ (clF (I 7) (A 1) 255 s (t0A A 128)).1 = -1))))), wH h0 b I (rdA I A s) P (upR R 3 (some (b + 4))) o, n, k))
    (hc : (B 14 5 = c) ∧ kn c)
    (hk : ∀ (A1 : Nat → Nat → Int) (R1 : Nat → Option Nat) (J1 : Nat → Int) (B1 : Nat → Nat → Int), rst G h0 b I A1 P R1 J1 B1 fa fb fcap fg W V X cap ng → iM J1 B1 → rqR I A1 R1 b J1 B1 → tR K (J1 49) A1 J1 B1 → J1 39 = 1 → J1 41 = 0 →
      cmdOk G b I A1 P o fa fcap fg W V X cap ng (fun n k Q => if c = 211 then mX G 143 0 [.ref (b + 34), mU, mU] [] (wH h0 b I A1 P R1 o) n k Q else if c = 214 then mX G 144 0 [.ref (b + 34), mU] [] (wH h0 b I A1 P R1 o) n k Q else if c = 215 then mX G 145 0 [.ref (b + 34), mU, mU] [] (wH h0 b I A1 P R1 o) n k Q else mX G 146 0 [.ref (b + 34), .ref (b + 4), mU, mU, mU, mU] [] (wH h0 b I A1 P R1 o) n k Q) (e3F J1 B1 c)) :
    cmdOk G b I A P o fa fcap fg W V X cap ng (fun n k Q => mX G 132 0 [.ref (b + 34), .ref (b + 3)] [] (wH h0 b I A P R o) n k Q) (e2F K J B c s) := by
  have dt := hC.2.2.1
  have q0 : rq0 I A J B := ⟨⟨hq.1.2.2, dt⟩, hq.2.1.1, hq.2.1.2⟩
  have hN : 0 ≤ (I 7) ∧ (I 7) ≤ 255 := by rw [hq.1.2.2]; exact dt
  have hL := hr.2.2.2.2.2.2.2.1.1
  have hn0 : 0 < (I 7) := by rw [hq.1.2.2]; omega
  have zw := fun n k Q' => d75 (G := G) (h0 := h0) (b := b) (n := n) (k := k) (Q := Q') (I := I) (A := A) (P := P) (R := R) (o := o) hN
  simp only [bI_t hn0] at zw
  obtain ⟨t1, t2, t3, t4, t5, t6, t7⟩ := tlF_ok (K := K) (a := s) hM hC hs.1
  have r2 := rst_tl (a := s) (v := some (b + 4)) hr hN (by omega) t6 t7
  have kk := kpM_rd (I := I) (A := A) (a := s)
  have er : rdA I A s 1 = (A 1) := rdA_oth (by decide) (by decide) (by decide)
  unfold e2F
  rcases rd_ok (K := K) (R := R) (b := b) q0 hL hM hC hs with h | ⟨h1, h2, h3⟩
  · simp only [bI_f (show ¬ ¬ (clF (I 7) (A 1) 255 s (t0A A 128)).1 = -1 from fun t => t h.1)] at zr
    rw [if_pos h.2]
    refine ck_f (fb := fb) (h1 := h0) ?_ (by decide) (by decide) r2 kk
    intro n k Q
    generalize rdA I A s = A2 at *
    generalize upR R 3 (some (b + 4)) = R2 at *
    simp (maxSteps := 1000000) (disch := first | omega | (simp only [updI_at, upA_at, Nat.reduceEqDiff, reduceIte]; omega) | exact mIsRef_rf _ | exact rfl) only [↓s132_0, ↓s132_1, ↓s132_4, ↓s132_7, ↓s132_10, ↓s132_11, ↓s132_12, ↓s132_13, ↓s132_16r, ↓s132_19, ↓s132_22, ↓s132_25, ↓s132_26, ↓s132_27, ↓s132_30, ↓s132_33, ↓s132_36, ↓s132_39, ↓s132_40, ↓s132_41, ↓s132_44, ↓s132_47, ↓s132_50, ↓s132_52, ↓s132_53, ↓s132_54, ↓s132_57, ↓s132_58, ↓s132_61, ↓s132_96, ↓s132_97, ↓s132_100, ↓s132_101, ↓s132_102, ↓s132_105, ↓s132_106, ↓s132_107, ↓s132_110, ↓s132_111, ↓s132_112, ↓s132_113, ↓s132_116r, ↓s132_119, iL_211, iL_212, iL_213, iL_214, iL_215, iL_26368, iL_27013, iL_27264, iL_37632, wc_1, wc_12, wc_14, wc_29, wc_3, wc_31, wc_34, wc_39, wc_4, wc_41, wg_28_4, wg_28_5, wg_34_2, wg_3_0, mN1_int, mN1_ref, mN1_null, mN1_U, mN1_rf, mCats_nil, mCats_int, mCats_ref, mCats_null, mCats_long, mCats_rf, mIsRef_ref, mIsRef_null, mIsRef_va, mRf_ref, mRf_null, mRf_rf, true_and, and_true, true_or, or_true, eq_self_iff_true, mK_v, mK_0, Nat.reduceAdd, Nat.reduceLeDiff, Nat.zero_le, iL_0, iL_1, iL_m1, iI_add, iI_sub, iI_mul, iI_neg, updI_at, upA_at, upP_at, upR_at, Nat.reduceEqDiff, reduceIte, Int.reduceAdd, Int.reduceSub, Int.reduceMul, Int.reduceDiv, Int.reduceMod, Int.reduceLT, Int.reduceLE, Int.reduceEq, Int.reduceNeg, not_true_eq_false, not_false_eq_true, Decidable.not_not, zw, zr, iI_eq]
  · simp only [bI_t h1.1] at zr
    rw [if_neg (by omega)]
    have g0 : rget (I 7) (A 1) 0 = c := by rw [rq_get q0 (by omega) (by omega)]; exact hc.1
    have z0 := fun n k Q' => d80_4 (G := G) (h0 := h0) (b := b) (n := n) (k := k) (Q := Q') (I := I) (A := rdA I A s) (P := P) (R := upR R 3 (some (b + 4))) (o := o) (z := 0) hN (by omega)
    rw [er, g0] at z0
    have kc := hc.2
    have hk' := hk _ _ _ _ r2 t2 h3 h2
    have pr := t2.2.2.2.2.1.2.2.2.2.2.1
    have sr := t2.2.2.2.2.1.1
    have ee := r2.2.2.2.2.2.1.1
    generalize (tlF K s J B).2.1 = J2 at *
    generalize (tlF K s J B).2.2 = B2 at *
    generalize rdA I A s = A2 at *
    generalize upR R 3 (some (b + 4)) = R2 at *
    have ep : (I 19) = J2 39 := ee.1
    have es : (I 20) = J2 41 := ee.2.1
    by_cases p1 : J2 39 = 0
    · unfold e3F
      rw [if_pos p1]
      refine ck_f (fb := fb) (h1 := h0) ?_ (by decide) (by decide) r2 kk
      intro n k Q
      simp (maxSteps := 1000000) (disch := first | omega | (simp only [updI_at, upA_at, Nat.reduceEqDiff, reduceIte]; omega) | exact mIsRef_rf _ | exact rfl) only [↓s132_0, ↓s132_1, ↓s132_4, ↓s132_7, ↓s132_10, ↓s132_11, ↓s132_12, ↓s132_13, ↓s132_16r, ↓s132_19, ↓s132_22, ↓s132_25, ↓s132_26, ↓s132_27, ↓s132_30, ↓s132_33, ↓s132_36, ↓s132_39, ↓s132_40, ↓s132_41, ↓s132_44, ↓s132_47, ↓s132_50, ↓s132_52, ↓s132_53, ↓s132_54, ↓s132_57, ↓s132_58, ↓s132_61, ↓s132_96, ↓s132_97, ↓s132_100, ↓s132_101, ↓s132_102, ↓s132_105, ↓s132_106, ↓s132_107, ↓s132_110, ↓s132_111, ↓s132_112, ↓s132_113, ↓s132_116r, ↓s132_119, iL_211, iL_212, iL_213, iL_214, iL_215, iL_26368, iL_27013, iL_27264, iL_37632, wc_1, wc_12, wc_14, wc_29, wc_3, wc_31, wc_34, wc_39, wc_4, wc_41, wg_28_4, wg_28_5, wg_34_2, wg_3_0, mN1_int, mN1_ref, mN1_null, mN1_U, mN1_rf, mCats_nil, mCats_int, mCats_ref, mCats_null, mCats_long, mCats_rf, mIsRef_ref, mIsRef_null, mIsRef_va, mRf_ref, mRf_null, mRf_rf, true_and, and_true, true_or, or_true, eq_self_iff_true, mK_v, mK_0, Nat.reduceAdd, Nat.reduceLeDiff, Nat.zero_le, iL_0, iL_1, iL_m1, iI_add, iI_sub, iI_mul, iI_neg, updI_at, upA_at, upP_at, upR_at, Nat.reduceEqDiff, reduceIte, Int.reduceAdd, Int.reduceSub, Int.reduceMul, Int.reduceDiv, Int.reduceMod, Int.reduceLT, Int.reduceLE, Int.reduceEq, Int.reduceNeg, not_true_eq_false, not_false_eq_true, Decidable.not_not, zw, zr, iI_eq, ep, p1]
    · by_cases p2 : J2 41 = 0
      · obtain ⟨st, h1', I1, A1, R1, fb1, m1, m2, m3, m4, m5⟩ := hk' (by omega) p2
        refine ⟨st, h1', I1, A1, R1, fb1, ?_, m2, m3, m4, kpM_tr kk m5⟩
        intro n k Q
        rcases kc with kc | kc | kc | kc
        · subst kc
          simp only [Int.reduceEq, if_false] at m1
          simp (maxSteps := 1000000) (disch := first | omega | (simp only [updI_at, upA_at, Nat.reduceEqDiff, reduceIte]; omega) | exact mIsRef_rf _ | exact rfl) only [↓s132_0, ↓s132_1, ↓s132_4, ↓s132_7, ↓s132_10, ↓s132_11, ↓s132_12, ↓s132_13, ↓s132_16r, ↓s132_19, ↓s132_22, ↓s132_25, ↓s132_26, ↓s132_27, ↓s132_30, ↓s132_33, ↓s132_36, ↓s132_39, ↓s132_40, ↓s132_41, ↓s132_44, ↓s132_47, ↓s132_50, ↓s132_52, ↓s132_53, ↓s132_54, ↓s132_57, ↓s132_58, ↓s132_61, ↓s132_96, ↓s132_97, ↓s132_100, ↓s132_101, ↓s132_102, ↓s132_105, ↓s132_106, ↓s132_107, ↓s132_110, ↓s132_111, ↓s132_112, ↓s132_113, ↓s132_116r, ↓s132_119, iL_211, iL_212, iL_213, iL_214, iL_215, iL_26368, iL_27013, iL_27264, iL_37632, wc_1, wc_12, wc_14, wc_29, wc_3, wc_31, wc_34, wc_39, wc_4, wc_41, wg_28_4, wg_28_5, wg_34_2, wg_3_0, mN1_int, mN1_ref, mN1_null, mN1_U, mN1_rf, mCats_nil, mCats_int, mCats_ref, mCats_null, mCats_long, mCats_rf, mIsRef_ref, mIsRef_null, mIsRef_va, mRf_ref, mRf_null, mRf_rf, true_and, and_true, true_or, or_true, eq_self_iff_true, mK_v, mK_0, Nat.reduceAdd, Nat.reduceLeDiff, Nat.zero_le, iL_0, iL_1, iL_m1, iI_add, iI_sub, iI_mul, iI_neg, updI_at, upA_at, upP_at, upR_at, Nat.reduceEqDiff, reduceIte, Int.reduceAdd, Int.reduceSub, Int.reduceMul, Int.reduceDiv, Int.reduceMod, Int.reduceLT, Int.reduceLE, Int.reduceEq, Int.reduceNeg, not_true_eq_false, not_false_eq_true, Decidable.not_not, zw, zr, iI_eq, ep, p1, es, p2, z0, m1]
        · subst kc
          simp only [if_true] at m1
          simp (maxSteps := 1000000) (disch := first | omega | (simp only [updI_at, upA_at, Nat.reduceEqDiff, reduceIte]; omega) | exact mIsRef_rf _ | exact rfl) only [↓s132_0, ↓s132_1, ↓s132_4, ↓s132_7, ↓s132_10, ↓s132_11, ↓s132_12, ↓s132_13, ↓s132_16r, ↓s132_19, ↓s132_22, ↓s132_25, ↓s132_26, ↓s132_27, ↓s132_30, ↓s132_33, ↓s132_36, ↓s132_39, ↓s132_40, ↓s132_41, ↓s132_44, ↓s132_47, ↓s132_50, ↓s132_52, ↓s132_53, ↓s132_54, ↓s132_57, ↓s132_58, ↓s132_61, ↓s132_96, ↓s132_97, ↓s132_100, ↓s132_101, ↓s132_102, ↓s132_105, ↓s132_106, ↓s132_107, ↓s132_110, ↓s132_111, ↓s132_112, ↓s132_113, ↓s132_116r, ↓s132_119, iL_211, iL_212, iL_213, iL_214, iL_215, iL_26368, iL_27013, iL_27264, iL_37632, wc_1, wc_12, wc_14, wc_29, wc_3, wc_31, wc_34, wc_39, wc_4, wc_41, wg_28_4, wg_28_5, wg_34_2, wg_3_0, mN1_int, mN1_ref, mN1_null, mN1_U, mN1_rf, mCats_nil, mCats_int, mCats_ref, mCats_null, mCats_long, mCats_rf, mIsRef_ref, mIsRef_null, mIsRef_va, mRf_ref, mRf_null, mRf_rf, true_and, and_true, true_or, or_true, eq_self_iff_true, mK_v, mK_0, Nat.reduceAdd, Nat.reduceLeDiff, Nat.zero_le, iL_0, iL_1, iL_m1, iI_add, iI_sub, iI_mul, iI_neg, updI_at, upA_at, upP_at, upR_at, Nat.reduceEqDiff, reduceIte, Int.reduceAdd, Int.reduceSub, Int.reduceMul, Int.reduceDiv, Int.reduceMod, Int.reduceLT, Int.reduceLE, Int.reduceEq, Int.reduceNeg, not_true_eq_false, not_false_eq_true, Decidable.not_not, zw, zr, iI_eq, ep, p1, es, p2, z0, m1]
        · subst kc
          simp only [Int.reduceEq, if_false, if_true] at m1
          simp (maxSteps := 1000000) (disch := first | omega | (simp only [updI_at, upA_at, Nat.reduceEqDiff, reduceIte]; omega) | exact mIsRef_rf _ | exact rfl) only [↓s132_0, ↓s132_1, ↓s132_4, ↓s132_7, ↓s132_10, ↓s132_11, ↓s132_12, ↓s132_13, ↓s132_16r, ↓s132_19, ↓s132_22, ↓s132_25, ↓s132_26, ↓s132_27, ↓s132_30, ↓s132_33, ↓s132_36, ↓s132_39, ↓s132_40, ↓s132_41, ↓s132_44, ↓s132_47, ↓s132_50, ↓s132_52, ↓s132_53, ↓s132_54, ↓s132_57, ↓s132_58, ↓s132_61, ↓s132_96, ↓s132_97, ↓s132_100, ↓s132_101, ↓s132_102, ↓s132_105, ↓s132_106, ↓s132_107, ↓s132_110, ↓s132_111, ↓s132_112, ↓s132_113, ↓s132_116r, ↓s132_119, iL_211, iL_212, iL_213, iL_214, iL_215, iL_26368, iL_27013, iL_27264, iL_37632, wc_1, wc_12, wc_14, wc_29, wc_3, wc_31, wc_34, wc_39, wc_4, wc_41, wg_28_4, wg_28_5, wg_34_2, wg_3_0, mN1_int, mN1_ref, mN1_null, mN1_U, mN1_rf, mCats_nil, mCats_int, mCats_ref, mCats_null, mCats_long, mCats_rf, mIsRef_ref, mIsRef_null, mIsRef_va, mRf_ref, mRf_null, mRf_rf, true_and, and_true, true_or, or_true, eq_self_iff_true, mK_v, mK_0, Nat.reduceAdd, Nat.reduceLeDiff, Nat.zero_le, iL_0, iL_1, iL_m1, iI_add, iI_sub, iI_mul, iI_neg, updI_at, upA_at, upP_at, upR_at, Nat.reduceEqDiff, reduceIte, Int.reduceAdd, Int.reduceSub, Int.reduceMul, Int.reduceDiv, Int.reduceMod, Int.reduceLT, Int.reduceLE, Int.reduceEq, Int.reduceNeg, not_true_eq_false, not_false_eq_true, Decidable.not_not, zw, zr, iI_eq, ep, p1, es, p2, z0, m1]
        · subst kc
          simp only [Int.reduceEq, if_false, if_true] at m1
          simp (maxSteps := 1000000) (disch := first | omega | (simp only [updI_at, upA_at, Nat.reduceEqDiff, reduceIte]; omega) | exact mIsRef_rf _ | exact rfl) only [↓s132_0, ↓s132_1, ↓s132_4, ↓s132_7, ↓s132_10, ↓s132_11, ↓s132_12, ↓s132_13, ↓s132_16r, ↓s132_19, ↓s132_22, ↓s132_25, ↓s132_26, ↓s132_27, ↓s132_30, ↓s132_33, ↓s132_36, ↓s132_39, ↓s132_40, ↓s132_41, ↓s132_44, ↓s132_47, ↓s132_50, ↓s132_52, ↓s132_53, ↓s132_54, ↓s132_57, ↓s132_58, ↓s132_61, ↓s132_96, ↓s132_97, ↓s132_100, ↓s132_101, ↓s132_102, ↓s132_105, ↓s132_106, ↓s132_107, ↓s132_110, ↓s132_111, ↓s132_112, ↓s132_113, ↓s132_116r, ↓s132_119, iL_211, iL_212, iL_213, iL_214, iL_215, iL_26368, iL_27013, iL_27264, iL_37632, wc_1, wc_12, wc_14, wc_29, wc_3, wc_31, wc_34, wc_39, wc_4, wc_41, wg_28_4, wg_28_5, wg_34_2, wg_3_0, mN1_int, mN1_ref, mN1_null, mN1_U, mN1_rf, mCats_nil, mCats_int, mCats_ref, mCats_null, mCats_long, mCats_rf, mIsRef_ref, mIsRef_null, mIsRef_va, mRf_ref, mRf_null, mRf_rf, true_and, and_true, true_or, or_true, eq_self_iff_true, mK_v, mK_0, Nat.reduceAdd, Nat.reduceLeDiff, Nat.zero_le, iL_0, iL_1, iL_m1, iI_add, iI_sub, iI_mul, iI_neg, updI_at, upA_at, upP_at, upR_at, Nat.reduceEqDiff, reduceIte, Int.reduceAdd, Int.reduceSub, Int.reduceMul, Int.reduceDiv, Int.reduceMod, Int.reduceLT, Int.reduceLE, Int.reduceEq, Int.reduceNeg, not_true_eq_false, not_false_eq_true, Decidable.not_not, zw, zr, iI_eq, ep, p1, es, p2, z0, m1]
      · unfold e3F
        rw [if_neg p1, if_pos p2]
        refine ck_f (fb := fb) (h1 := h0) ?_ (by decide) (by decide) r2 kk
        intro n k Q
        simp (maxSteps := 1000000) (disch := first | omega | (simp only [updI_at, upA_at, Nat.reduceEqDiff, reduceIte]; omega) | exact mIsRef_rf _ | exact rfl) only [↓s132_0, ↓s132_1, ↓s132_4, ↓s132_7, ↓s132_10, ↓s132_11, ↓s132_12, ↓s132_13, ↓s132_16r, ↓s132_19, ↓s132_22, ↓s132_25, ↓s132_26, ↓s132_27, ↓s132_30, ↓s132_33, ↓s132_36, ↓s132_39, ↓s132_40, ↓s132_41, ↓s132_44, ↓s132_47, ↓s132_50, ↓s132_52, ↓s132_53, ↓s132_54, ↓s132_57, ↓s132_58, ↓s132_61, ↓s132_96, ↓s132_97, ↓s132_100, ↓s132_101, ↓s132_102, ↓s132_105, ↓s132_106, ↓s132_107, ↓s132_110, ↓s132_111, ↓s132_112, ↓s132_113, ↓s132_116r, ↓s132_119, iL_211, iL_212, iL_213, iL_214, iL_215, iL_26368, iL_27013, iL_27264, iL_37632, wc_1, wc_12, wc_14, wc_29, wc_3, wc_31, wc_34, wc_39, wc_4, wc_41, wg_28_4, wg_28_5, wg_34_2, wg_3_0, mN1_int, mN1_ref, mN1_null, mN1_U, mN1_rf, mCats_nil, mCats_int, mCats_ref, mCats_null, mCats_long, mCats_rf, mIsRef_ref, mIsRef_null, mIsRef_va, mRf_ref, mRf_null, mRf_rf, true_and, and_true, true_or, or_true, eq_self_iff_true, mK_v, mK_0, Nat.reduceAdd, Nat.reduceLeDiff, Nat.zero_le, iL_0, iL_1, iL_m1, iI_add, iI_sub, iI_mul, iI_neg, updI_at, upA_at, upP_at, upR_at, Nat.reduceEqDiff, reduceIte, Int.reduceAdd, Int.reduceSub, Int.reduceMul, Int.reduceDiv, Int.reduceMod, Int.reduceLT, Int.reduceLE, Int.reduceEq, Int.reduceNeg, not_true_eq_false, not_false_eq_true, Decidable.not_not, zw, zr, iI_eq, ep, p1, es, p2]
theorem ck_132 (hb : G.2.2.2 ≤ b) (hr : rst G h0 b I A P R J B fa fb fcap fg W V X cap ng) (hM : iM J B) (hC : iCm J) (hq : cq I A J B) : cmdOk G b I A P o fa fcap fg W V X cap ng (fun n k Q => mX G 132 0 [.ref (b + 34), .ref (b + 3)] [] (wH h0 b I A P R o) n k Q) (enF J B) := by
  have dt := hC.2.2.1
  have q0 : rq0 I A J B := ⟨⟨hq.1.2.2, dt⟩, hq.2.1.1, hq.2.1.2⟩
  have hN : 0 ≤ (I 7) ∧ (I 7) ≤ 255 := by rw [hq.1.2.2]; exact dt
  have hL := hr.2.2.2.2.2.2.2.1.1
  have zw := fun n k Q' => d75 (G := G) (h0 := h0) (b := b) (n := n) (k := k) (Q := Q') (I := I) (A := A) (P := P) (R := R) (o := o) hN
  unfold enF
  by_cases p1 : J 49 = 0
  · rw [if_pos p1]
    refine ck_f (fb := fb) (h1 := h0) ?_ (by decide) (by decide) hr kpM_refl
    intro n k Q
    simp only [bI_f (show ¬ 0 < (I 7) by rw [hq.1.2.2]; omega)] at zw
    simp (maxSteps := 1000000) (disch := first | omega | (simp only [updI_at, upA_at, Nat.reduceEqDiff, reduceIte]; omega) | exact mIsRef_rf _ | exact rfl) only [↓s132_0, ↓s132_1, ↓s132_4, ↓s132_7, ↓s132_10, ↓s132_11, ↓s132_12, ↓s132_13, ↓s132_16r, ↓s132_19, ↓s132_22, ↓s132_25, ↓s132_26, ↓s132_27, ↓s132_30, ↓s132_33, ↓s132_36, ↓s132_39, ↓s132_40, ↓s132_41, ↓s132_44, ↓s132_47, ↓s132_50, ↓s132_52, ↓s132_53, ↓s132_54, ↓s132_57, ↓s132_58, ↓s132_61, ↓s132_96, ↓s132_97, ↓s132_100, ↓s132_101, ↓s132_102, ↓s132_105, ↓s132_106, ↓s132_107, ↓s132_110, ↓s132_111, ↓s132_112, ↓s132_113, ↓s132_116r, ↓s132_119, iL_211, iL_212, iL_213, iL_214, iL_215, iL_26368, iL_27013, iL_27264, iL_37632, wc_1, wc_12, wc_14, wc_29, wc_3, wc_31, wc_34, wc_39, wc_4, wc_41, wg_28_4, wg_28_5, wg_34_2, wg_3_0, mN1_int, mN1_ref, mN1_null, mN1_U, mN1_rf, mCats_nil, mCats_int, mCats_ref, mCats_null, mCats_long, mCats_rf, mIsRef_ref, mIsRef_null, mIsRef_va, mRf_ref, mRf_null, mRf_rf, true_and, and_true, true_or, or_true, eq_self_iff_true, mK_v, mK_0, Nat.reduceAdd, Nat.reduceLeDiff, Nat.zero_le, iL_0, iL_1, iL_m1, iI_add, iI_sub, iI_mul, iI_neg, updI_at, upA_at, upP_at, upR_at, Nat.reduceEqDiff, reduceIte, Int.reduceAdd, Int.reduceSub, Int.reduceMul, Int.reduceDiv, Int.reduceMod, Int.reduceLT, Int.reduceLE, Int.reduceEq, Int.reduceNeg, not_true_eq_false, not_false_eq_true, Decidable.not_not, zw, iI_eq]
  · rw [if_neg p1]
    have zr := fun n k Q => d140 (n := n) (k := k) (Q := Q) (h0 := h0) (P := P) (R := R) (o := o) hb q0 hL hM p1
    simp only [bI_t (show 0 < (I 7) by rw [hq.1.2.2]; omega)] at zw
    by_cases p2 : enB J B
    · simp only [eq_true p2, if_true] at zr
      have zz : ∀ n k Q, mX G 132 0 [.ref (b + 34), .ref (b + 3)] [] (wH h0 b I A P R o) n k Q ↔ Q (.inl (some (.int (iI 27264))), wH h0 b I A P R o, n, k) := by
        intro n k Q
        simp (maxSteps := 1000000) (disch := first | omega | (simp only [updI_at, upA_at, Nat.reduceEqDiff, reduceIte]; omega) | exact mIsRef_rf _ | exact rfl) only [↓s132_0, ↓s132_1, ↓s132_4, ↓s132_7, ↓s132_10, ↓s132_11, ↓s132_12, ↓s132_13, ↓s132_16r, ↓s132_19, ↓s132_22, ↓s132_25, ↓s132_26, ↓s132_27, ↓s132_30, ↓s132_33, ↓s132_36, ↓s132_39, ↓s132_40, ↓s132_41, ↓s132_44, ↓s132_47, ↓s132_50, ↓s132_52, ↓s132_53, ↓s132_54, ↓s132_57, ↓s132_58, ↓s132_61, ↓s132_96, ↓s132_97, ↓s132_100, ↓s132_101, ↓s132_102, ↓s132_105, ↓s132_106, ↓s132_107, ↓s132_110, ↓s132_111, ↓s132_112, ↓s132_113, ↓s132_116r, ↓s132_119, iL_211, iL_212, iL_213, iL_214, iL_215, iL_26368, iL_27013, iL_27264, iL_37632, wc_1, wc_12, wc_14, wc_29, wc_3, wc_31, wc_34, wc_39, wc_4, wc_41, wg_28_4, wg_28_5, wg_34_2, wg_3_0, mN1_int, mN1_ref, mN1_null, mN1_U, mN1_rf, mCats_nil, mCats_int, mCats_ref, mCats_null, mCats_long, mCats_rf, mIsRef_ref, mIsRef_null, mIsRef_va, mRf_ref, mRf_null, mRf_rf, true_and, and_true, true_or, or_true, eq_self_iff_true, mK_v, mK_0, Nat.reduceAdd, Nat.reduceLeDiff, Nat.zero_le, iL_0, iL_1, iL_m1, iI_add, iI_sub, iI_mul, iI_neg, updI_at, upA_at, upP_at, upR_at, Nat.reduceEqDiff, reduceIte, Int.reduceAdd, Int.reduceSub, Int.reduceMul, Int.reduceDiv, Int.reduceMod, Int.reduceLT, Int.reduceLE, Int.reduceEq, Int.reduceNeg, not_true_eq_false, not_false_eq_true, Decidable.not_not, zw, zr, iI_eq]
      by_cases p3 : rlen (J 49) (tpG B) 1 = -1
      · rw [if_pos p3]
        exact ck_f zz (by decide) (by decide) hr kpM_refl
      · rw [if_neg p3, if_pos (by rcases p2 with h | h | h; exact Or.inr h; exact absurd h p3; exact Or.inl h)]
        exact ck_f (J := e1I J B) zz (by decide) (by decide) hr kpM_refl
    · simp only [p2, if_false] at zr
      have k1 : kn (B 14 5) := Decidable.byContradiction (fun t => p2 (Or.inl t))
      have k2 : ¬ rlen (J 49) (tpG B) 1 = -1 := fun t => p2 (Or.inr (Or.inl t))
      have k3 : e1S J B + rlen (J 49) (tpG B) 1 = J 49 := Decidable.byContradiction (fun t => p2 (Or.inr (Or.inr t)))
      rw [if_neg k2, if_neg (fun t => t.elim (fun t => t k3) (fun t => t k1))]
      have rr := rlen_rng (len := J 49) (g := tpG B) (fun j => hM.2.2.2.2.2.2 (5 + j)) 1
      have h1 : 0 ≤ e1S J B ∧ e1S J B ≤ J 49 := by
        have : 2 ≤ e1S J B := by unfold e1S; split <;> omega
        omega
      have rs : rst G h0 b I A P R (e1I J B) B fa fb fcap fg W V X cap ng := hr
      have hM1 : iM (e1I J B) B := hM
      have hC1 : iCm (e1I J B) := hC
      have hq1 : cq I A (e1I J B) B := hq
      have p1' : ¬ e1I J B 49 = 0 := p1
      rcases k1 with k1 | k1 | k1 | k1
      · rw [if_pos k1]
        exact ck_132t (K := K2) (c := 209) hb rs hM1 hC1 hq1 p1' h1 zr ⟨k1, Or.inl rfl⟩ (fun A1 R1 J1 B1 c1 c2 c3 c4 c5 c6 => ck_146 hb c1 c2 c3 c4 c5 c6)
      · rw [if_neg (by omega), if_pos k1]
        exact ck_132t (K := K3) (c := 211) hb rs hM1 hC1 hq1 p1' h1 zr ⟨k1, Or.inr (Or.inl rfl)⟩ (fun A1 R1 J1 B1 c1 c2 c3 c4 c5 c6 => ck_143 hb c1 c2 c3 c4 c5 c6)
      · rw [if_neg (by omega), if_neg (by omega), if_pos k1]
        exact ck_132t (K := K4) (c := 214) hb rs hM1 hC1 hq1 p1' h1 zr ⟨k1, Or.inr (Or.inr (Or.inl rfl))⟩ (fun A1 R1 J1 B1 c1 c2 c3 c4 c5 c6 => ck_144 hb c1 c2 c3 c4 c5 c6)
      · rw [if_neg (by omega), if_neg (by omega), if_neg (by omega)]
        exact ck_132t (K := K5) (c := 215) hb rs hM1 hC1 hq1 p1' h1 zr ⟨k1, Or.inr (Or.inr (Or.inr rfl))⟩ (fun A1 R1 J1 B1 c1 c2 c3 c4 c5 c6 => ck_145 hb c1 c2 c3 c4 c5 c6)
end
end MREL5
