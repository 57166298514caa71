/-! The calls: feed, end, by, reset, count, timer, byteOf, command. -/
section MOPS1
variable {G : mG} {h h0 : mH} {n k b : Nat} {Q : mR → Prop} {I : Nat → Int} {A : Nat → Nat → Int} {P : Nat → Nat} {R : Nat → Option Nat} {o : Nat → Int64}
/-- a call of the class and the reference's: the same number, and they agree again -/
def op1 (G : mG) (b n : Nat) (Mc : Nat → Nat → (mR → Prop) → Prop) (Mm : mH → Nat → Nat → (mR → Prop) → Prop) : Prop :=
  ∃ (v : Int) (h1 : mH) (I1 : Nat → Int) (A1 : Nat → Nat → Int) (P1 : Nat → Nat) (R1 : Nat → Option Nat) (o1 : Nat → Int64) (H2 : mH), (∀ k Q, Mc n k Q ↔ Q (.inl (some (.int (iI v))), wH h1 b I1 A1 P1 R1 o1, n, k)) ∧ sSc G h1 b ∧ (∀ k Q, Mm (wH h1 b I1 A1 P1 R1 o1) n k Q ↔ Q (.inl (some (.int (iI v))), H2, n, k)) ∧ rl G b H2 n
section
variable {fa : Nat → Nat} {fb : Nat → Nat → Int} {fcap : Nat} {fg : Nat → Option Nat} {W : Nat → Nat → Nat → Nat} {V : Nat → Nat → Nat → Nat → Int} {X : Nat → Nat → Option Nat} {cap : Nat} {ng : Nat → Option Nat} {h1 : mH}
theorem w4_r (x : Int) : ∀ y ∈ w4 x, 0 ≤ y ∧ y ≤ 255 := by
  intro y hy
  unfold w4 at hy
  simp only [List.mem_cons, List.not_mem_nil, or_false] at hy
  rcases hy with h | h | h | h <;> omega
theorem w20_r (a1 a2 a3 a4 a5 : Int) : ∀ y ∈ w4 a1 ++ w4 a2 ++ w4 a3 ++ w4 a4 ++ w4 a5, 0 ≤ y ∧ y ≤ 255 := app_r (app_r (app_r (app_r (w4_r _) (w4_r _)) (w4_r _)) (w4_r _)) (w4_r _)
theorem iM_tape {J : Nat → Int} {B : Nat → Nat → Int} {x : Int} {g : Nat → Int} (h : iM J B) (hx : 0 ≤ x ∧ x ≤ 300) (hg : ∀ j, 0 ≤ g j ∧ g j ≤ 255) : iM (updI (updI J 27 0) 28 x) (upA B 14 g) := by
  obtain ⟨hA, hF, hH, hN, hS, ⟨⟨t1, t2, t3⟩, t4⟩⟩ := h
  exact ⟨RgA_upA hA (fun j => by have := hg j; omega), hF, hH, hN, hS, ⟨⟨hx, t2, t3⟩, hg⟩⟩
theorem putL_2' {l : List Int} {g g' : Nat → Int} {t : Int} (h0 : 0 ≤ t) (h : ∀ j : Nat, (j : Int) < t → g j = g' j) (hl : ∀ x ∈ l, 0 ≤ x ∧ x ≤ 255) (j : Nat) (hj : (j : Int) < t + l.length) : putL g t l j = putL g' t l j := by
  by_cases q : (j : Int) < t
  · rw [putL_lo l _ _ j q, putL_lo l _ _ j q]
    exact h j q
  · exact (putL_2 (p := fun x => 0 ≤ x ∧ x ≤ 255) l g g' t j h0 (by omega) hj hl).1
theorem op_feed {a1 a2 a3 a4 a5 : Int} (hb : G.2.2.2 ≤ b) (hM : iM I A) (hr : rst G h0 b I A P R I A fa fb fcap fg W V X cap ng) (hf : fre P b n W) (hri : ri I A) (h1 : -2147483648 ≤ a1 ∧ a1 < 2147483648) (h2 : -2147483648 ≤ a2 ∧ a2 < 2147483648) (h3 : -2147483648 ≤ a3 ∧ a3 < 2147483648) (h4 : -2147483648 ≤ a4 ∧ a4 < 2147483648) (h5 : -2147483648 ≤ a5 ∧ a5 < 2147483648) :
    op1 G b n (fun n k Q => mX G 154 0 [.ref b, .int (iI a1), .int (iI a2), .int (iI a3), .int (iI a4), .int (iI a5)] [] (wH h0 b I A P R o) n k Q) (fun h n k Q => mX G 181 0 [.ref (b + 43), .int (iI a1), .int (iI a2), .int (iI a3), .int (iI a4), .int (iI a5), mU, mU] [] h n k Q) := by
  have ht := hM.2.2.2.2.2.1.1
  have hg := hM.2.2.2.2.2.2
  have hl := w20_r a1 a2 a3 a4 a5
  have hlen : (w4 a1 ++ w4 a2 ++ w4 a3 ++ w4 a4 ++ w4 a5).length = 20 := by simp only [w4, List.length_append, List.length_cons, List.length_nil]
  have c := fun X1 Y k Q (hA : RgA (gm Y A)) => c181 (G := G) (h0 := h0) (n := n) (k := k) (Q := Q) (I := gl X1 I) (A := gm Y A) (P := P) (R := R) (o := o) hb hA h1 h2 h3 h4 h5 ht
  simp (disch := decide) only [gl_at, gm_at, gl_up, gm_up] at c
  obtain ⟨b1, b2, b3, b4, b5, b6, b7, ⟨x1, x2, x3, x4, ⟨x5, x6⟩, x7, x8⟩, b9, b10, b11⟩ := id hr
  rcases b10 with ⟨hP, ht1, ht2⟩ | ⟨hP, ht1, ht2⟩
  · have z := fun k Q => d154_a (G := G) (h0 := h0) (n := n) (k := k) (Q := Q) (I := I) (A := A) (P := P) (R := R) (o := o) hb hP.1 x7 h1 h2 h3 h4 h5
    rw [ht1] at z
    by_cases p : (I 28) ≤ 280
    · simp only [eq_true p, if_true] at z
      have hr1 : rst G h0 b (updI I 25 ((I 28) + 20)) (upA A 12 (putL (A 12) (I 28) (w4 a1 ++ w4 a2 ++ w4 a3 ++ w4 a4 ++ w4 a5))) P R (updI (updI I 27 0) 28 ((I 28) + 20)) (upA A 14 (putL (A 14) (I 28) (w4 a1 ++ w4 a2 ++ w4 a3 ++ w4 a4 ++ w4 a5))) fa fb fcap fg W V X cap ng := by
        refine ⟨b1, b2, b3, b4, b5, b6, b7, ⟨x1, x2, x3, x4, ⟨putL_P (p := fun x => 0 ≤ x ∧ x ≤ 255) _ _ _ x5 hl, x6⟩, (by show 0 ≤ (I 28) + 20 ∧ (I 28) + 20 ≤ 300; omega), x8⟩, b9, Or.inl ⟨hP, rfl, ?_⟩, b11⟩
        intro j hj
        have hj' : (j : Int) < (I 28) + 20 := hj
        exact putL_2' ht.1 ht2 hl j (by omega)
      obtain ⟨A2, e1, e2, e3⟩ := op_end (o := o) hr1 (kpM_A (kpM_I kpM_refl (by decide)) (by decide)) hM (iM_tape hM (by omega) (putL_P (p := fun x => 0 ≤ x ∧ x ≤ 255) _ _ _ hg hl)) hf hri
      refine ⟨(I 28) + 20, h0, _, _, P, R, o, _, z, b11.2.2.1, ?_, e3⟩
      intro k Q
      dsimp only
      rw [e1, c _ _ _ _ e2.1, if_pos p]
    · simp only [p, if_false] at z
      obtain ⟨A2, e1, e2, e3⟩ := op_end (o := o) (J := updI I 27 0) hr kpM_refl hM hM hf hri
      refine ⟨-1, h0, _, _, P, R, o, _, z, b11.2.2.1, ?_, e3⟩
      intro k Q
      dsimp only
      rw [e1, c _ _ _ _ e2.1, if_neg p]
  · have z := fun k Q => d154_b (G := G) (h0 := h0) (n := n) (k := k) (Q := Q) (I := I) (A := A) (P := P) (R := R) (o := o) hb hP.1 x8 h1 h2 h3 h4 h5
    rw [ht1] at z
    by_cases p : (I 28) ≤ 280
    · simp only [eq_true p, if_true] at z
      have hr1 : rst G h0 b (updI I 26 ((I 28) + 20)) (upA A 13 (putL (A 13) (I 28) (w4 a1 ++ w4 a2 ++ w4 a3 ++ w4 a4 ++ w4 a5))) P R (updI (updI I 27 0) 28 ((I 28) + 20)) (upA A 14 (putL (A 14) (I 28) (w4 a1 ++ w4 a2 ++ w4 a3 ++ w4 a4 ++ w4 a5))) fa fb fcap fg W V X cap ng := by
        refine ⟨b1, b2, b3, b4, b5, b6, b7, ⟨x1, x2, x3, x4, ⟨x5, putL_P (p := fun x => 0 ≤ x ∧ x ≤ 255) _ _ _ x6 hl⟩, x7, (by show 0 ≤ (I 28) + 20 ∧ (I 28) + 20 ≤ 300; omega)⟩, b9, Or.inr ⟨hP, rfl, ?_⟩, b11⟩
        intro j hj
        have hj' : (j : Int) < (I 28) + 20 := hj
        exact putL_2' ht.1 ht2 hl j (by omega)
      obtain ⟨A2, e1, e2, e3⟩ := op_end (o := o) hr1 (kpM_A (kpM_I kpM_refl (by decide)) (by decide)) hM (iM_tape hM (by omega) (putL_P (p := fun x => 0 ≤ x ∧ x ≤ 255) _ _ _ hg hl)) hf hri
      refine ⟨(I 28) + 20, h0, _, _, P, R, o, _, z, b11.2.2.1, ?_, e3⟩
      intro k Q
      dsimp only
      rw [e1, c _ _ _ _ e2.1, if_pos p]
    · simp only [p, if_false] at z
      obtain ⟨A2, e1, e2, e3⟩ := op_end (o := o) (J := updI I 27 0) hr kpM_refl hM hM hf hri
      refine ⟨-1, h0, _, _, P, R, o, _, z, b11.2.2.1, ?_, e3⟩
      intro k Q
      dsimp only
      rw [e1, c _ _ _ _ e2.1, if_neg p]
theorem op_endc {x : Int} (hb : G.2.2.2 ≤ b) (hM : iM I A) (hr : rst G h0 b I A P R I A fa fb fcap fg W V X cap ng) (hf : fre P b n W) (hri : ri I A) (hx : -2147483648 ≤ x ∧ x < 2147483648) :
    op1 G b n (fun n k Q => mX G 155 0 [.ref b, .int (iI x)] [] (wH h0 b I A P R o) n k Q) (fun h n k Q => mX G 182 0 [.ref (b + 43), .int (iI x)] [] h n k Q) := by
  have ht := hM.2.2.2.2.2.1.1
  have c := fun X1 Y k Q (hA : RgA (gm Y A)) => c182 (G := G) (h0 := h0) (n := n) (k := k) (Q := Q) (I := gl X1 I) (A := gm Y A) (P := P) (R := R) (o := o) hb hA ht hx
  simp (disch := decide) only [gl_at, gm_at, gl_up, gm_up] at c
  obtain ⟨b1, b2, b3, b4, b5, b6, b7, ⟨x1, x2, x3, x4, ⟨x5, x6⟩, x7, x8⟩, b9, b10, b11⟩ := id hr
  have iMt : 0 ≤ x ∧ x ≤ (I 28) → iM (updI (updI I 27 0) 28 x) A := by
    intro hh
    obtain ⟨hA, hF, hH, hN, hS, ⟨⟨t1, t2, t3⟩, t4⟩⟩ := hM
    exact ⟨hA, hF, hH, hN, hS, ⟨⟨(by show 0 ≤ x ∧ x ≤ 300; omega), t2, t3⟩, t4⟩⟩
  rcases b10 with ⟨hP, ht1, ht2⟩ | ⟨hP, ht1, ht2⟩
  · have z := fun k Q => d155_a (G := G) (h0 := h0) (n := n) (k := k) (Q := Q) (I := I) (A := A) (P := P) (R := R) (o := o) hb hP.1 x7 hx
    rw [ht1] at z
    by_cases p : 0 ≤ x ∧ x ≤ (I 28)
    · simp only [eq_true p, if_true] at z
      have hr1 : rst G h0 b (updI I 25 x) A P R (updI (updI I 27 0) 28 x) A fa fb fcap fg W V X cap ng := by
        refine ⟨b1, b2, b3, b4, b5, b6, b7, ⟨x1, x2, x3, x4, ⟨x5, x6⟩, (by show 0 ≤ x ∧ x ≤ 300; omega), x8⟩, b9, Or.inl ⟨hP, rfl, ?_⟩, b11⟩
        intro j hj
        have hj' : (j : Int) < x := hj
        exact ht2 j (by omega)
      obtain ⟨A2, e1, e2, e3⟩ := op_end (o := o) hr1 (kpM_I kpM_refl (by decide)) hM (iMt p) hf hri
      refine ⟨1, h0, _, _, P, R, o, _, z, b11.2.2.1, ?_, e3⟩
      intro k Q
      dsimp only
      rw [e1, c _ _ _ _ e2.1, if_pos p]
    · simp only [p, if_false] at z
      obtain ⟨A2, e1, e2, e3⟩ := op_end (o := o) (J := updI I 27 0) hr kpM_refl hM hM hf hri
      refine ⟨0, h0, _, _, P, R, o, _, z, b11.2.2.1, ?_, e3⟩
      intro k Q
      dsimp only
      rw [e1, c _ _ _ _ e2.1, if_neg p]
  · have z := fun k Q => d155_b (G := G) (h0 := h0) (n := n) (k := k) (Q := Q) (I := I) (A := A) (P := P) (R := R) (o := o) hb hP.1 x8 hx
    rw [ht1] at z
    by_cases p : 0 ≤ x ∧ x ≤ (I 28)
    · simp only [eq_true p, if_true] at z
      have hr1 : rst G h0 b (updI I 26 x) A P R (updI (updI I 27 0) 28 x) A fa fb fcap fg W V X cap ng := by
        refine ⟨b1, b2, b3, b4, b5, b6, b7, ⟨x1, x2, x3, x4, ⟨x5, x6⟩, x7, (by show 0 ≤ x ∧ x ≤ 300; omega)⟩, b9, Or.inr ⟨hP, rfl, ?_⟩, b11⟩
        intro j hj
        have hj' : (j : Int) < x := hj
        exact ht2 j (by omega)
      obtain ⟨A2, e1, e2, e3⟩ := op_end (o := o) hr1 (kpM_I kpM_refl (by decide)) hM (iMt p) hf hri
      refine ⟨1, h0, _, _, P, R, o, _, z, b11.2.2.1, ?_, e3⟩
      intro k Q
      dsimp only
      rw [e1, c _ _ _ _ e2.1, if_pos p]
    · simp only [p, if_false] at z
      obtain ⟨A2, e1, e2, e3⟩ := op_end (o := o) (J := updI I 27 0) hr kpM_refl hM hM hf hri
      refine ⟨0, h0, _, _, P, R, o, _, z, b11.2.2.1, ?_, e3⟩
      intro k Q
      dsimp only
      rw [e1, c _ _ _ _ e2.1, if_neg p]
theorem op_comm (hb : G.2.2.2 ≤ b) (hM : iM I A) (hr : rst G h0 b I A P R I A fa fb fcap fg W V X cap ng) (hf : fre P b n W) (hri : ri I A) :
    op1 G b n (fun n k Q => mX G 167 0 [.ref b, mU, mU] [] (wH h0 b I A P R o) n k Q) (fun h n k Q => mX G 205 0 [.ref (b + 43), mU, mU] [] h n k Q) := by
  obtain ⟨h1, I1, A1, P1, R1, fb1, z, r1, k1, kh⟩ := d167 (o := o) hb hr hM
  have hz := com_ok hM
  have hf1 : fre P1 b n W := ⟨hf.1, by rw [kh]; exact hf.2.1, hf.2.2⟩
  obtain ⟨A2, e1, e2, e3⟩ := op_end (o := o) r1 k1 hM hz.1 hf1 (ri_com hri)
  refine ⟨_, h1, I1, A1, P1, R1, o, _, fun k Q => z n k Q, r1.2.2.2.2.2.2.2.2.2.2.2.2.1, ?_, e3⟩
  intro k Q
  dsimp only
  rw [e1, c205 hb e2, comF_g]
  exact Iff.rfl
end
end MOPS1
