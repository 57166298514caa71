/-! The call: node. -/
section MNODE2
variable {G : mG} {h h0 : mH} {n k b : Nat} {Q : mR → Prop} {I : Nat → Int} {A : Nat → Nat → Int} {P : Nat → Nat} {R : Nat → Option Nat} {o : Nat → Int64}
def ndW (h0 : mH) (n : Nat) (num s q : Int) (t : Nat) : mH := mUp (mUp (mUp (mUp (mUp h0 n (mO 4 [.int (iI num), .int (iI s), .int (iI q), .ref (n + 1), .ref (n + 2), .ref (n + 3), .ref (n + 4), .int (iI 0), .ref t, .null, .int (iI 0), .int (iI 255)])) (n + 1) (mI 4 (fun j => iI (cpE zer (fun _ => -1) 0 4 j)))) (n + 2) (mI (rmS s) (fun _ => iI 0))) (n + 3) (mI (rmS s) (fun _ => iI 0))) (n + 4) (mA 3 (rmS s) (fun _ => none))
theorem ndW_ne {num s q : Int} {t y : Nat} (h : y < n ∨ n + 5 ≤ y) : ndW h0 n num s q t y = h0 y := by
  unfold ndW
  rw [mUp_ne (by omega), mUp_ne (by omega), mUp_ne (by omega), mUp_ne (by omega), mUp_ne (by omega)]
theorem ndW_0 {num s q : Int} {t : Nat} : ndW h0 n num s q t n = some (mO 4 [.int (iI num), .int (iI s), .int (iI q), .ref (n + 1), .ref (n + 2), .ref (n + 3), .ref (n + 4), .int (iI 0), .ref t, .null, .int (iI 0), .int (iI 255)]) := by
  unfold ndW
  rw [mUp_ne (by omega), mUp_ne (by omega), mUp_ne (by omega), mUp_ne (by omega), mUp_same]
theorem ndW_1 {num s q : Int} {t : Nat} : ndW h0 n num s q t (n + 1) = some (mI 4 (fun j => iI (cpE zer (fun _ => -1) 0 4 j))) := by
  unfold ndW
  rw [mUp_ne (by omega), mUp_ne (by omega), mUp_ne (by omega), mUp_same]
theorem ndW_2 {num s q : Int} {t : Nat} : ndW h0 n num s q t (n + 2) = some (mI (rmS s) (fun _ => iI 0)) := by
  unfold ndW
  rw [mUp_ne (by omega), mUp_ne (by omega), mUp_same]
theorem ndW_3 {num s q : Int} {t : Nat} : ndW h0 n num s q t (n + 3) = some (mI (rmS s) (fun _ => iI 0)) := by
  unfold ndW
  rw [mUp_ne (by omega), mUp_same]
theorem ndW_4 {num s q : Int} {t : Nat} : ndW h0 n num s q t (n + 4) = some (mA 3 (rmS s) (fun _ => none)) := mUp_same _ _ _
section
variable {J J' : Nat → Int} {B B' : Nat → Nat → Int} {fa : Nat → Nat} {fb : Nat → Nat → Int} {fcap : Nat} {fg : Nat → Option Nat} {W : Nat → Nat → Nat → Nat} {V : Nat → Nat → Nat → Nat → Int} {X : Nat → Nat → Option Nat} {cap : Nat} {ng : Nat → Option Nat} {h1 : mH} {ow : Nat → Nat}
theorem d67 {s q c : Int} {t : Nat} (hb : G.2.2.2 ≤ b) (hs : 0 ≤ s ∧ s ≤ 8) (hg1 : (c = 0 ∧ P 3 = G.2.2.1 6 ∧ ∃ f, h0 (P 3) = some (.inl (3, 0, f))) ∨ (G.2.2.2 ≤ P 3 ∧ (c ≤ cap ∧ 10 ≤ cap) ∧ h0 (P 3) = some (mA 4 cap ng))) (hcap : cap ≤ 100) (hl : hol b (P 3)) (hc : (I 18) = c) (hN : 0 ≤ c ∧ c < 40) (hn : b + 79 ≤ n) (hz : ∀ y, n ≤ y → h0 y = none)
    (hob : ∀ i : Nat, (i : Int) < c → ∃ q ci fs, ng i = some q ∧ hol b q ∧ h0 q = some (mO ci fs)) : ∃ (p3 cap' : Nat) (ng' : Nat → Option Nat) (n' d : Nat), (∀ k Q, mX G 67 0 [.ref (b + 17), .int (iI s), .int (iI q), .ref t, mU] [] (wH h0 b I A P R o) n k Q ↔ Q (.inl (some (.int (iI c))), wH (mUp (ndW h0 n c s q t) p3 (mA 4 cap' ng')) b (updI (updI I 17 ((I 17) + 1)) 18 (c + 1)) A (upP P 3 p3) R o, n', k + d)) ∧
      ((p3 = P 3 ∧ n' = n + 5 ∧ h0 p3 = some (mA 4 cap ng)) ∨ (p3 = n + 5 ∧ n' = n + 6)) ∧ d ≤ 200 ∧ ((∀ i : Nat, (i : Int) < c → ng' i = ng i) ∧ ng' c.toNat = some n) ∧ ((c + 1 ≤ cap' ∧ 10 ≤ cap') ∧ cap' ≤ 100) ∧ (G.2.2.2 ≤ p3 ∧ hol b p3) := by
  have hp3 : P 3 < n := by
    rcases hg1 with ⟨_, _, f, q⟩ | ⟨_, _, q⟩
    · exact hLt hz q
    · exact hLt hz q
  have w0 : ∀ (h : mH) (e : mE), mUp (wH h b I A P R o) n e = wH (mUp h n e) b I A P R o := fun h e => wH_put (Or.inr (Or.inl (by omega)))
  have w1 : ∀ (h : mH) (e : mE), mUp (wH h b I A P R o) (n + 1) e = wH (mUp h (n + 1) e) b I A P R o := fun h e => wH_put (Or.inr (Or.inl (by omega)))
  have w2 : ∀ (h : mH) (e : mE), mUp (wH h b I A P R o) (n + 2) e = wH (mUp h (n + 2) e) b I A P R o := fun h e => wH_put (Or.inr (Or.inl (by omega)))
  have w3 : ∀ (h : mH) (e : mE), mUp (wH h b I A P R o) (n + 3) e = wH (mUp h (n + 3) e) b I A P R o := fun h e => wH_put (Or.inr (Or.inl (by omega)))
  have w4 : ∀ (h : mH) (e : mE), mUp (wH h b I A P R o) (n + 4) e = wH (mUp h (n + 4) e) b I A P R o := fun h e => wH_put (Or.inr (Or.inl (by omega)))
  have z43 : ∀ k Q, mX G 43 0 [.ref n, .int (iI c), .int (iI s), .int (iI q), .ref t, mU] [] (wH (mUp h0 n (mO 4 [.int (iI 0), .int (iI 0), .int (iI 0), .null, .null, .null, .null, .int (iI 0), .null, .null, .int (iI 0), .int (iI 0)])) b I A P R o) (n + 1) k Q ↔ Q (.inl none, wH (ndW h0 n c s q t) b I A P R o, n + 5, k + (4 + (rmS s + (rmS s + rmS s)))) := by
    intro k Q
    have e := r43 (G := G) (H := wH h0 b I A P R o) (a := n) (t := t) (n := n + 1) (k := k) (Q := Q) (num := c) (s := s) (q := q) (by omega) (by omega) hs
    simp only [Nat.add_assoc, Nat.reduceAdd, w0, w1, w2, w3, w4] at e
    exact e
  have hrm : rmS s ≤ 5 := by unfold rmS; split <;> omega
  have hpe : ndW h0 n c s q t (P 3) = h0 (P 3) := ndW_ne (Or.inl hp3)
  have z269 := fun k Q => d269n (G := G) (b := b) (h0 := mUp h0 n (mO 4 [.int (iI 0), .int (iI 0), .int (iI 0), .null, .null, .null, .null, .int (iI 0), .null, .null, .int (iI 0), .int (iI 0)])) (n := n + 1) (k := k) (Q := Q) (I := I) (A := A) (P := P) (R := R) (o := o)
  rw [hc] at z269
  obtain ⟨p3, cap', ng', n', d, z273, a1, a2, a3, a4, a5⟩ := add_n (I := I) (A := A) (R := R) (o := o) (h0 := ndW h0 n c s q t) (n := n + 5) (y := n) (lo := 10) (c := c) (cap := cap) (ng := ng) hb (by omega) (by rw [hpe]; exact hg1) hcap hl hc hN ndW_0 (Or.inr (Or.inl hn)) (by omega) (by omega) (by omega) (fun i hi => by
    obtain ⟨q', ci, fs, q1, q2, q3⟩ := hob i hi
    have lt := hLt hz q3
    exact ⟨q', ci, fs, q1, by omega, q2, by rw [ndW_ne (Or.inl lt)]; exact q3⟩)
  refine ⟨p3, cap', ng', n', 12 + (4 + (rmS s + (rmS s + rmS s))) + d, ?_, ?_, by omega, a3, a4, a5⟩
  · intro k Q
    have hpn : n ≠ p3 := by
      rcases a1 with ⟨e, _⟩ | ⟨e, _⟩
      · rw [e]; omega
      · omega
    have zg : ∀ K, mGet (wH (mUp (ndW h0 n c s q t) p3 (mA 4 cap' ng')) b (updI (updI I 17 ((I 17) + 1)) 18 (c + 1)) A (upP P 3 p3) R o) n 4 0 K ↔ K (.int (iI c)) := fun K => hGet (by rw [wH_hole (Or.inr (Or.inl hn)), mUp_ne hpn]; exact ndW_0) rfl
    generalize mUp (ndW h0 n c s q t) p3 (mA 4 cap' ng') = h2 at *
    simp (maxSteps := 1000000) (disch := first | omega | (simp only [updI_at, upA_at, Nat.reduceEqDiff, reduceIte]; omega) | exact mIsRef_rf _ | exact rfl) only [↓s67_0, ↓s67_3, ↓s67_4, ↓s67_5, ↓s67_8, ↓s67_11, ↓s67_12, ↓s67_13, ↓s67_14r, ↓s67_17, ↓s67_19, ↓s67_20, ↓s67_23, ↓s67_25r, ↓s67_28, ↓s67_29, ↓s67_31, ↓s67_34, wc_18, wc_7, wg_17_0, mN1_int, mN1_ref, mN1_null, mN1_U, mN1_rf, mCats_nil, mCats_int, mCats_ref, mCats_null, mCats_long, mCats_rf, mIsRef_ref, mIsRef_null, mIsRef_va, mRf_ref, mRf_null, mRf_rf, true_and, and_true, true_or, or_true, eq_self_iff_true, mK_v, mK_0, Nat.reduceAdd, Nat.reduceLeDiff, Nat.zero_le, iL_0, iL_1, iL_m1, iI_add, iI_sub, iI_mul, iI_neg, updI_at, upA_at, upP_at, upR_at, Nat.reduceEqDiff, reduceIte, Int.reduceAdd, Int.reduceSub, Int.reduceMul, Int.reduceDiv, Int.reduceMod, Int.reduceLT, Int.reduceLE, Int.reduceEq, Int.reduceNeg, not_true_eq_false, not_false_eq_true, Decidable.not_not, w0, z269, z43, z273, zg, Nat.add_assoc, d269n]
  · rcases a1 with ⟨e, e2, e3⟩ | ⟨e, e2⟩
    · left
      refine ⟨e, e2, ?_⟩
      rw [e, hpe] at e3
      rw [e]
      exact e3
    · exact Or.inr ⟨e, e2⟩
theorem putL_4 (g : Nat → Int) (K u : Nat) : putL g (4 * (K : Int)) [-1, -1, -1, -1] u = if 4 * K ≤ u ∧ u < 4 * K + 4 then -1 else g u := by
  simp only [putL]
  unfold upE
  repeat' split
  all_goals first | rfl | (exfalso; omega)
theorem keep_f3 (ho : oW ow P J B fa W) (ha : ∀ y e, ow y ≠ 20001 → h0 y = some e → h1 y = some e) (hd : dFl G h0 b (P 2) J B fa fb fcap fg) : dFl G h1 b (P 2) J B fa fb fcap fg := by
  obtain ⟨⟨l1, l2, l3⟩, l4, hi, inj⟩ := hd
  have o2 := ho.2.2.1
  refine ⟨⟨l1, l2, ha _ _ (by omega) l3⟩, l4, ?_, inj⟩
  intro i hi'
  obtain ⟨i1, i2, i3, i4, i5⟩ := hi i hi'
  have o := ho.1 i hi'
  exact ⟨i1, ⟨i2.1, i2.2.1, ha _ _ (by omega) i2.2.2⟩, ha _ _ (by omega) i3, i4, i5⟩
theorem keep_n3 {i t : Nat} (ho : oW ow P J B fa W) (ht : 20000 ≤ t) (ha : ∀ y e, ow y ≠ t → h0 y = some e → h1 y = some e) (hi : (i : Int) < J 31 ∨ i = 40) (hN : J 31 ≤ 40) (hb5 : 0 ≤ B 32 i ∧ B 32 i ≤ 5) (hd : dN1 G h0 b J B fa W V X i) : dN1 G h1 b J B fa W V X i := by
  obtain ⟨⟨hn, hA, hT, h5, hrest⟩, a2⟩ := hd
  obtain ⟨o0, ⟨o1, o2, o3, o4⟩, ⟨o5, o6⟩, o7⟩ := ho.2.1 i hi
  refine ⟨⟨⟨hn.1, hn.2.1, ha _ _ (by omega) hn.2.2⟩, ⟨ha _ _ (by omega) hA.1, ha _ _ (by omega) hA.2.1, ha _ _ (by omega) hA.2.2.1, ha _ _ (by omega) hA.2.2.2⟩, ⟨hT.1, ha _ _ (by omega) hT.2.1, ha _ _ (by omega) hT.2.2⟩, ?_, hrest⟩, a2⟩
  intro j hj
  have hj' : (j : Int) < B 32 i := hj
  obtain ⟨b1, b2, b3⟩ := h5 j hj
  obtain ⟨q1, q2⟩ := o7 j hj'
  have w1 : ow (W 4 i j) ≠ t := by omega
  have w2 : ow (W 4 i j + 1) ≠ t := by omega
  exact ⟨b1, ⟨b2.1, ha _ _ w1 b2.2.1, ha _ _ w2 b2.2.2⟩, b3⟩
theorem iM_node {s q x : Int} {K : Nat} {g go : Nat → Int} (h : iM I A) (hK : (K : Int) = (I 31)) (hK4 : K < 40) (hs : 0 ≤ s ∧ s ≤ 7) (hq : 0 ≤ q ∧ q ≤ 255) (hx : 0 ≤ x ∧ x ≤ 100) (hg : ∀ j, 0 ≤ g j ∧ g j ≤ 255) (hgo : ∀ u, go u = if 4 * K ≤ u ∧ u < 4 * K + 4 then -1 else (A 29) u) : iM (updI (updI (updI I 27 0) 28 0) 31 ((I 31) + 1)) (upA (upA (upA (upA (upA (upA (upA (upA A 24 (upE (A 24) K s)) 25 (upE (A 25) K q)) 26 (upE (A 26) K 0)) 27 (upE (A 27) K 255)) 28 (upE (A 28) K (-1))) 29 go) 30 (upE (A 30) K x)) 31 g) := by
  obtain ⟨hA, hF, hH, ⟨n1, n2, n3, n4, n5, n6, n7, n8, n9, n10, n11⟩, hS, ⟨⟨t1, t2, t3⟩, t4⟩⟩ := h
  have f1 := hF.1
  refine ⟨RgA_upA (RgA_upA (RgA_upA (RgA_upA (RgA_upA (RgA_upA (RgA_upA (RgA_upA hA ?_) ?_) ?_) ?_) ?_) ?_) ?_) (fun j => by have := hg j; omega), hF, hH, ⟨?_, ?_, n3, ?_, ?_, n6, ?_, ?_, hg, n10, n11⟩, ?_, ⟨⟨by show (0 : Int) ≤ 0 ∧ (0 : Int) ≤ 300; omega, t2, t3⟩, t4⟩⟩
  · exact fun j => upE_P (p := fun x => -2147483648 ≤ x ∧ x < 2147483648) (hA _) (by omega) j
  · exact fun j => upE_P (p := fun x => -2147483648 ≤ x ∧ x < 2147483648) (hA _) (by omega) j
  · exact fun j => upE_P (p := fun x => -2147483648 ≤ x ∧ x < 2147483648) (hA _) (by omega) j
  · exact fun j => upE_P (p := fun x => -2147483648 ≤ x ∧ x < 2147483648) (hA _) (by omega) j
  · exact fun j => upE_P (p := fun x => -2147483648 ≤ x ∧ x < 2147483648) (hA _) (by omega) j
  · intro j
    rw [hgo j]
    split
    · omega
    · exact hA _ _
  · exact fun j => upE_P (p := fun x => -2147483648 ≤ x ∧ x < 2147483648) (hA _) (by omega) j
  · show 0 ≤ (I 31) + 1 ∧ (I 31) + 1 ≤ 40
    omega
  · intro z hz
    have hz' : (z : Int) < (I 31) + 1 := hz
    show (0 ≤ upE (A 24) K s z ∧ upE (A 24) K s z ≤ 7) ∧ (0 ≤ upE (A 25) K q z ∧ upE (A 25) K q z ≤ 255) ∧ (0 ≤ upE (A 26) K 0 z ∧ upE (A 26) K 0 z ≤ 255) ∧ (0 ≤ upE (A 27) K 255 z ∧ upE (A 27) K 255 z ≤ 255) ∧ (-1 ≤ upE (A 28) K (-1) z ∧ upE (A 28) K (-1) z < (I 29)) ∧ (0 ≤ upE (A 30) K x z ∧ upE (A 30) K x z ≤ 100) ∧ (∀ w : Nat, w < 4 → -1 ≤ go (4 * z + w) ∧ go (4 * z + w) < (I 31) + 1)
    by_cases e : z = K
    · subst e
      simp only [upE_same]
      refine ⟨hs, hq, by omega, by omega, by omega, hx, ?_⟩
      intro w hw
      rw [hgo, if_pos (by omega)]
      omega
    · simp only [upE_ne e]
      obtain ⟨k1, k2, k3, k4, k5, k6, k7⟩ := n2 z (by omega)
      refine ⟨k1, k2, k3, k4, k5, k6, ?_⟩
      intro w hw
      rw [hgo, if_neg (by omega)]
      have := k7 w hw
      omega
  · intro z hz q'
    have q1 : (I 31) + 1 ≤ z ∨ ¬ upE (A 24) K s z = 2 := q'
    show (A 32) z = 0
    by_cases e : z = K
    · exact n4 z hz (Or.inl (by omega))
    · rw [upE_ne e] at q1
      refine n4 z hz ?_
      rcases q1 with w | w
      · exact Or.inl (by omega)
      · exact Or.inr w
  · intro z c q1 q2 q3
    obtain ⟨k1, k2, k3⟩ := n5 z c q1 q2 q3
    refine ⟨k1, ?_, k3⟩
    show -1 ≤ (A 34) c ∧ (A 34) c < (I 31) + 1
    omega
  · intro j hj
    have := n7 j hj
    show -1 ≤ (A 38) j ∧ (A 38) j < (I 31) + 1
    omega
  · intro j hj
    have := n8 j hj
    show -1 ≤ (A 39) j ∧ (A 39) j < (I 31) + 1
    omega
  · obtain ⟨s1, s2, s3, s4, s5, s6⟩ := hS
    refine ⟨s1, s2, s3, s4, ?_, s6⟩
    intro w
    have := s5 w
    show (I 42) < (I 31) + 1 ∨ (I 42) = 40
    omega
end
end MNODE2
