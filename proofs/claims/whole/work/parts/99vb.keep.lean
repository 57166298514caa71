/-! What stays when one cell of the files or the Nodes is written. -/
section MKEEP
variable {G : mG} {h h0 : mH} {n k b : Nat} {Q : mR → Prop} {I : Nat → Int} {A : Nat → Nat → Int} {P : Nat → Nat} {R : Nat → Option Nat} {o : Nat → Int64}
def oW (ow : Nat → Nat) (P : Nat → Nat) (J : Nat → Int) (B : Nat → Nat → Int) (fa : Nat → Nat) (W : Nat → Nat → Nat → Nat) : Prop := (∀ x : Nat, (x : Int) < J 29 → ow (fa x) = 10000 + 10 * x ∧ ow (fa x + 1) = 10001 + 10 * x) ∧
  (∀ i : Nat, ((i : Int) < J 31 ∨ i = 40) → ow (W 0 i 0) = 100 * i ∧ (ow (W 1 i 0) = 100 * i + 10 ∧ ow (W 1 i 0 + 1) = 100 * i + 20 ∧ ow (W 1 i 0 + 2) = 100 * i + 30 ∧ ow (W 1 i 0 + 3) = 100 * i + 40) ∧ (ow (W 2 i 0) = 100 * i + 50 ∧ ow (W 2 i 0 + 1) = 100 * i + 51) ∧ (∀ j : Nat, (j : Int) < B 32 i → ow (W 4 i j) = 100 * i + 60 + j ∧ ow (W 4 i j + 1) = 100 * i + 70 + j)) ∧
  ow (P 2) = 20000 ∧ ow (P 3) = 20001
section
variable {J J' : Nat → Int} {B B' : Nat → Nat → Int} {fa : Nat → Nat} {fb : Nat → Nat → Int} {fcap : Nat} {fg : Nat → Option Nat} {W : Nat → Nat → Nat → Nat} {V : Nat → Nat → Nat → Nat → Int} {X : Nat → Nat → Option Nat} {cap : Nat} {ng : Nat → Option Nat} {h1 : mH} {ow : Nat → Nat} {t : Nat}
theorem keep_f (ho : oW ow P J B fa W) (ha : ∀ y, ow y ≠ t → h1 y = h0 y) (ht : t < 10000) (hd : dFl G h0 b (P 2) J B fa fb fcap fg) : dFl G h1 b (P 2) J B fa fb fcap fg := by
  obtain ⟨⟨l1, l2, l3⟩, l4, hi, inj⟩ := hd
  refine ⟨⟨l1, l2, by rw [ha _ (by rw [ho.2.2.1]; omega)]; exact l3⟩, l4, ?_, inj⟩
  intro i hi'
  obtain ⟨i1, i2, i3, i4, i5⟩ := hi i hi'
  have o := ho.1 i hi'
  exact ⟨i1, ⟨i2.1, i2.2.1, by rw [ha _ (by rw [o.1]; omega)]; exact i2.2.2⟩, by rw [ha _ (by rw [o.2]; omega)]; exact i3, i4, i5⟩
theorem nT_eq {t0 c : Nat} {len : Int} {tg : Nat → Int} (h1' : h1 t0 = h0 t0) (h2' : h1 (t0 + 1) = h0 (t0 + 1)) (h : nT h0 b t0 c len tg) : nT h1 b t0 c len tg := ⟨h.1, by rw [h1']; exact h.2.1, by rw [h2']; exact h.2.2⟩
theorem keep_n {i : Nat} (ho : oW ow P J B fa W) (ha : ∀ y, ow y ≠ t → h1 y = h0 y) (hi : (i : Int) < J 31 ∨ i = 40) (ht : ¬ t / 100 = i) (hb5 : 0 ≤ B 32 i ∧ B 32 i ≤ 5) (hd : dN1 G h0 b J B fa W V X i) : dN1 G h1 b J B fa W V X i := by
  obtain ⟨⟨hn, hA, hT, h5, hrest⟩, a2⟩ := hd
  obtain ⟨o0, ⟨o1, o2, o3, o4⟩, ⟨o5, o6⟩, o7⟩ := ho.2.1 i hi
  refine ⟨⟨⟨hn.1, hn.2.1, ?_⟩, ⟨?_, ?_, ?_, ?_⟩, nT_eq (ha _ (by omega)) (ha _ (by omega)) hT, ?_, hrest⟩, a2⟩
  · rw [ha _ (by omega)]; exact hn.2.2
  · rw [ha _ (by omega)]; exact hA.1
  · rw [ha _ (by omega)]; exact hA.2.1
  · rw [ha _ (by omega)]; exact hA.2.2.1
  · rw [ha _ (by omega)]; exact hA.2.2.2
  · intro j hj
    have hj' : (j : Int) < B 32 i := hj
    obtain ⟨b1, b2, b3⟩ := h5 j hj
    obtain ⟨q1, q2⟩ := o7 j hj'
    have w1 : ow (W 4 i j) ≠ t := by omega
    have w2 : ow (W 4 i j + 1) ≠ t := by omega
    exact ⟨b1, nT_eq (t0 := W 4 i j) (ha _ w1) (ha _ w2) b2, b3⟩
theorem keep_s {a : Nat} {e0 e1 : mE} (h : h0 a = some e0) (hn : ∀ k N f, 2 ≤ k → e0 ≠ .inl (k, N, f)) {y k N : Nat} {f : Nat → Int32} (hk : 2 ≤ k) (hy : h0 y = some (.inl (k, N, f))) : mUp h0 a e1 y = some (.inl (k, N, f)) := by
  rw [mUp_ne]
  · exact hy
  · intro e
    rw [e, h] at hy
    exact hn k N f hk (Option.some.inj hy)
theorem keep_T {a : Nat} {e0 e1 : mE} (h : h0 a = some e0) (hn : ∀ k N f, 2 ≤ k → e0 ≠ .inl (k, N, f)) (hT : rT G h0 b) : rT G (mUp h0 a e1) b := by
  obtain ⟨⟨f, f1, f2, f3⟩, g1, g2, g3, g4, g5⟩ := hT
  have gg : ∀ {i : Nat} {K : Int → Prop}, sTg G h0 b i K → sTg G (mUp h0 a e1) b i K := by
    intro i K ⟨M, f, ⟨f1, f2⟩, f3⟩
    exact ⟨M, f, ⟨f1, keep_s h hn (by decide) f2⟩, f3⟩
  exact ⟨⟨f, f1, keep_s h hn (by decide) f2, f3⟩, gg g1, gg g2, gg g3, gg g4, gg g5⟩
theorem keep_Sc {a : Nat} {e0 e1 : mE} (h : h0 a = some e0) (hn : ∀ k N f, 2 ≤ k → e0 ≠ .inl (k, N, f)) (hs : sSc G h0 b) : sSc G (mUp h0 a e1) b := ⟨⟨hs.1.1, keep_s h hn (by decide) hs.1.2⟩, hs.2⟩
theorem keep_0 {a m : Nat} {e0 e1 : mE} (h : h0 a = some e0) (hz : ∀ y, m ≤ y → h0 y = none) : ∀ y, m ≤ y → mUp h0 a e1 y = none := by
  intro y hy
  rw [mUp_ne]
  · exact hz y hy
  · intro e
    rw [← e, hz y hy] at h
    cases h
theorem keep_G {a : Nat} {e1 : mE} (ho : ow (P 3) = 20001) (hn : ow a ≠ 20001) (hg : rG1 G h0 (P 3) J cap ng) : rG1 G (mUp h0 a e1) (P 3) J cap ng := by
  have e : mUp h0 a e1 (P 3) = h0 (P 3) := mUp_ne (fun q => hn (by rw [← q]; exact ho))
  unfold rG1
  rw [e]
  exact hg
theorem ow_up {a : Nat} {e1 : mE} (ht : ow a = t) : ∀ y, ow y ≠ t → mUp h0 a e1 y = h0 y := fun y hy => mUp_ne (fun q => hy (by rw [q]; exact ht))
theorem dN1_cg {i : Nat} (e1 : nF B' i = nF B i) (e2 : rmN B' i = rmN B i) (e3 : tln J' B' i = tln J B i) (e4 : nfl fa B' i = nfl fa B i) (e5 : ∀ j, j < 4 → B' 29 (4 * i + j) = B 29 (4 * i + j)) (e6 : B' 32 i = B 32 i)
    (e7 : ∀ j : Nat, (j : Int) < B 32 i → (B' 33 (5 * i + j) = B 33 (5 * i + j) ∧ B' 34 (5 * i + j) = B 34 (5 * i + j) ∧ B' 35 (5 * i + j) = B 35 (5 * i + j)) ∧ (∀ u : Nat, (u : Int) < B 35 (5 * i + j) → B' 36 (20 * (5 * i + j) + u) = B 36 (20 * (5 * i + j) + u)))
    (e8 : ∀ u : Nat, (u : Int) < tln J B i → (if i = 40 then B' 37 u else B' 31 (100 * i + u)) = if i = 40 then B 37 u else B 31 (100 * i + u)) (hd : dN1 G h0 b J B fa W V X i) : dN1 G h0 b J' B' fa W V X i := by
  obtain ⟨d1, d2, d3, d4⟩ := hd
  refine ⟨?_, ?_, ?_, ?_⟩
  · rw [e1, e2, e3, e4]; exact d1
  · intro j hj
    rw [d2 j hj]
    split
    · rfl
    · exact (e5 j hj).symm
  · intro j hj
    rw [e6] at hj
    obtain ⟨⟨q1, q2, q3⟩, q4⟩ := e7 j hj
    obtain ⟨r1, r2, r3, r4⟩ := d3 j hj
    rw [q1, q2, q3]
    exact ⟨r1, r2, r3, fun u hu => by rw [r4 u hu, q4 u hu]⟩
  · intro u hu
    rw [e3] at hu
    rw [d4 u hu, e8 u hu]
def upW (W : Nat → Nat → Nat → Nat) (x : Nat) (w : Nat → Nat → Nat) : Nat → Nat → Nat → Nat := fun q i j => if i = x then w q j else W q i j
def upV (V : Nat → Nat → Nat → Nat → Int) (x : Nat) (v : Nat → Nat → Nat → Int) : Nat → Nat → Nat → Nat → Int := fun q i j u => if i = x then v q j u else V q i j u
def upX (X : Nat → Nat → Option Nat) (x : Nat) (z : Nat → Option Nat) : Nat → Nat → Option Nat := fun i j => if i = x then z j else X i j
theorem upW_ne {x i : Nat} {w : Nat → Nat → Nat} (h : ¬ i = x) (q j : Nat) : upW W x w q i j = W q i j := if_neg h
theorem upV_ne {x i : Nat} {v : Nat → Nat → Nat → Int} (h : ¬ i = x) (q j u : Nat) : upV V x v q i j u = V q i j u := if_neg h
theorem upX_ne {x i : Nat} {z : Nat → Option Nat} (h : ¬ i = x) : upX X x z i = X i := by funext j; exact if_neg h
theorem upW_eq {x : Nat} {w : Nat → Nat → Nat} (q j : Nat) : upW W x w q x j = w q j := if_pos rfl
theorem upV_eq {x : Nat} {v : Nat → Nat → Nat → Int} (q j u : Nat) : upV V x v q x j u = v q j u := if_pos rfl
theorem upX_eq {x : Nat} {z : Nat → Option Nat} : upX X x z x = z := by funext j; exact if_pos rfl
theorem dN1_up {x i : Nat} {w : Nat → Nat → Nat} {v : Nat → Nat → Nat → Int} {z : Nat → Option Nat} (h : ¬ i = x) (hd : dN1 G h0 b J B fa W V X i) : dN1 G h0 b J B fa (upW W x w) (upV V x v) (upX X x z) i := by
  unfold dN1
  simp only [upW_ne h, upV_ne h, upX_ne h]
  exact hd
end
end MKEEP
