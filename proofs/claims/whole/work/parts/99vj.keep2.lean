/-! What stays when cells of one Node are written: the general form. -/
section MKEEP2
variable {G : mG} {h h0 : mH} {n k b : Nat} {Q : mR → Prop} {I : Nat → Int} {A : Nat → Nat → Int} {P : Nat → Nat} {R : Nat → Option Nat} {o : Nat → Int64}
section
variable {J J' : Nat → Int} {B B' : Nat → Nat → Int} {fa : Nat → Nat} {fb : Nat → Nat → Int} {fcap : Nat} {fg : Nat → Option Nat} {W : Nat → Nat → Nat → Nat} {V : Nat → Nat → Nat → Nat → Int} {X : Nat → Nat → Option Nat} {cap : Nat} {ng : Nat → Option Nat} {h1 : mH} {ow : Nat → Nat}
theorem keep_f2 (ho : oW ow P J B fa W) (ha : ∀ y, 100 ≤ ow y / 100 → h1 y = h0 y) (hd : dFl G h0 b (P 2) J B fa fb fcap fg) : dFl G h1 b (P 2) J B fa fb fcap fg := by
  obtain ⟨⟨l1, l2, l3⟩, l4, hi, inj⟩ := hd
  have o2 := ho.2.2.1
  refine ⟨⟨l1, l2, by rw [ha _ (by omega)]; exact l3⟩, l4, ?_, inj⟩
  intro i hi'
  obtain ⟨i1, i2, i3, i4, i5⟩ := hi i hi'
  have o := ho.1 i hi'
  exact ⟨i1, ⟨i2.1, i2.2.1, by rw [ha _ (by omega)]; exact i2.2.2⟩, by rw [ha _ (by omega)]; exact i3, i4, i5⟩
theorem keep_n2 {i : Nat} (ho : oW ow P J B fa W) (ha : ∀ y, ow y / 100 = i → h1 y = h0 y) (hi : (i : Int) < J 31 ∨ i = 40) (hb5 : 0 ≤ B 32 i ∧ B 32 i ≤ 5) (hd : dN1 G h0 b J B fa W V X i) : dN1 G h1 b J B fa W V X i := by
  obtain ⟨⟨hn, hA, hT, h5, hrest⟩, a2⟩ := hd
  obtain ⟨o0, ⟨o1, o2, o3, o4⟩, ⟨o5, o6⟩, o7⟩ := ho.2.1 i hi
  refine ⟨⟨⟨hn.1, hn.2.1, ?_⟩, ⟨?_, ?_, ?_, ?_⟩, nT_eq (ha _ (by omega)) (ha _ (by omega)) hT, ?_, hrest⟩, a2⟩
  · rw [ha _ (by omega)]; exact hn.2.2
  · rw [ha _ (by omega)]; exact hA.1
  · rw [ha _ (by omega)]; exact hA.2.1
  · rw [ha _ (by omega)]; exact hA.2.2.1
  · rw [ha _ (by omega)]; exact hA.2.2.2
  · intro j hj
    have hj' : (j : Int) < B 32 i := hj
    obtain ⟨b1, b2, b3⟩ := h5 j hj
    obtain ⟨q1, q2⟩ := o7 j hj'
    have w1 : ow (W 4 i j) / 100 = i := by omega
    have w2 : ow (W 4 i j + 1) / 100 = i := by omega
    exact ⟨b1, nT_eq (t0 := W 4 i j) (ha _ w1) (ha _ w2) b2, b3⟩
def stc (h0 h1 : mH) : Prop := ∀ y k N f, 2 ≤ k → h0 y = some (.inl (k, N, f)) → h1 y = some (.inl (k, N, f))
theorem stc_T (hs : stc h0 h1) (hT : rT G h0 b) : rT G h1 b := by
  obtain ⟨⟨f, f1, f2, f3⟩, g1, g2, g3, g4, g5⟩ := hT
  have gg : ∀ {i : Nat} {K : Int → Prop}, sTg G h0 b i K → sTg G h1 b i K := by
    intro i K ⟨M, f, ⟨f1, f2⟩, f3⟩
    exact ⟨M, f, ⟨f1, hs _ _ _ _ (by decide) f2⟩, f3⟩
  exact ⟨⟨f, f1, hs _ _ _ _ (by decide) f2, f3⟩, gg g1, gg g2, gg g3, gg g4, gg g5⟩
theorem stc_Sc (hs : stc h0 h1) (h : sSc G h0 b) : sSc G h1 b := ⟨⟨h.1.1, hs _ _ _ _ (by decide) h.1.2⟩, h.2⟩
theorem stc_ext (he : ∀ a e, h0 a = some e → h1 a = some e) : stc h0 h1 := fun _ _ _ _ _ q => he _ _ q
theorem stc_up {a : Nat} {e0 e1 : mE} (hs : stc h0 h1) (h : h0 a = some e0) (hn : ∀ k N f, 2 ≤ k → e0 ≠ .inl (k, N, f)) : stc h0 (mUp h1 a e1) := by
  intro y k N f hk hy
  rw [mUp_ne]
  · exact hs y k N f hk hy
  · intro e
    rw [e, h] at hy
    exact hn k N f hk (Option.some.inj hy)
theorem stc_new {a : Nat} {e1 : mE} (hs : stc h0 h1) (h : h0 a = none) : stc h0 (mUp h1 a e1) := by
  intro y k N f hk hy
  rw [mUp_ne]
  · exact hs y k N f hk hy
  · intro e
    rw [e, h] at hy
    cases hy
theorem kept_gen {x : Nat} (hr : rst G h0 b I A P R J B fa fb fcap fg W V X cap ng) (hM : iM J B) (ho : oW ow P J B fa W) (hx : x ≤ 40) (ha : ∀ y, ¬ ow y / 100 = x → h1 y = h0 y) (hs : stc h0 h1) :
    (dFl G h1 b (P 2) J B fa fb fcap fg ∧ (∀ i : Nat, ((i : Int) < J 31 ∨ i = 40) → ¬ i = x → dN1 G h1 b J B fa W V X i)) ∧ (hol b (P 3) ∧ (0 < J 31 → h1 (P 3) = some (mA 4 cap ng))) ∧ rT G h1 b ∧ rG1 G h1 (P 3) J cap ng ∧ sSc G h1 b := by
  obtain ⟨⟨b1, b1'⟩, b2, b3, b4, b5, b6, b7, b8, b9, b10, b11, z1, z2, z3, z4⟩ := hr
  have n40 := hM.2.2.2.1.1
  have o3 := ho.2.2.2
  have e3 : h1 (P 3) = h0 (P 3) := ha _ (by omega)
  refine ⟨⟨keep_f2 ho (fun y hy => ha y (by omega)) b1, ?_⟩, ⟨b2.1.1.1, fun q => by rw [e3]; exact b2.1.1.2 q⟩, stc_T hs b3, ?_, stc_Sc hs z2⟩
  · intro i hi hx'
    exact keep_n2 ho (fun y hy => ha y (by omega)) hi (hM.2.2.2.1.2.2.1 i (by omega)) (b2.1.2.2.2.2 i hi)
  · unfold rG1
    rw [e3]
    exact z1
theorem nd_no {x p3 : Nat} {w : Nat → Nat → Nat} {v : Nat → Nat → Nat → Int} {z : Nat → Option Nat} (hk : ∀ i : Nat, ((i : Int) < J 31 ∨ i = 40) → ¬ i = x → dN1 G h1 b J B fa W V X i) (hl : hol b p3 ∧ (0 < J 31 → h1 p3 = some (mA 4 cap ng))) (hd : dNo G h0 b p3 J B fa W V X cap ng) (hn : J' 31 = J 31) (hw : w 0 0 = W 0 x 0)
    (hcg : ∀ i : Nat, ((i : Int) < J 31 ∨ i = 40) → ¬ i = x → dN1 G h1 b J B fa W V X i → dN1 G h1 b J' B' fa W V X i) (hx' : dN1 G h1 b J' B' fa (upW W x w) (upV V x v) (upX X x z) x) : dNo G h1 b p3 J' B' fa (upW W x w) (upV V x v) (upX X x z) cap ng := by
  obtain ⟨a1, a2, a3, a4, a5⟩ := hd
  have e0 : ∀ i, upW W x w 0 i 0 = W 0 i 0 := by
    intro i
    by_cases q : i = x
    · subst q; rw [upW_eq]; exact hw
    · exact upW_ne q _ _
  refine ⟨⟨hl.1, by rw [hn]; exact hl.2⟩, by rw [hn]; exact a2, by rw [e0]; exact a3, ?_, ?_⟩
  · intro i hi
    rw [hn] at hi
    rw [e0]
    exact a4 i hi
  · intro i hi
    rw [hn] at hi
    by_cases q : i = x
    · subst q; exact hx'
    · exact dN1_up q (hcg i hi q (hk i hi q))
theorem hLt {a : Nat} {e : mE} {m : Nat} (hz : ∀ y, m ≤ y → h0 y = none) (h : h0 a = some e) : a < m := by
  rcases Nat.lt_or_ge a m with q | q
  · exact q
  · rw [hz a q] at h; cases h
theorem cuR_W {W' : Nat → Nat → Nat → Nat} (h : cuR R J W) (he : ∀ i, W' 0 i 0 = W 0 i 0) : cuR R J W' := by
  unfold cuR at h ⊢
  rw [he]
  exact h
theorem opX_mono {dn dk dn' dk' : Nat} {Mc : Nat → Nat → (mR → Prop) → Prop} {Mm : mH → Nat → Nat → (mR → Prop) → Prop} (h : opX G b n dn dk Mc Mm) (h1 : dn ≤ dn') (h2 : dk ≤ dk') : opX G b n dn' dk' Mc Mm := by
  obtain ⟨v, w, n1, d, h3, I1, A1, P1, R1, o1, I2, A2, ⟨q1, q2⟩, q3⟩ := h
  exact ⟨v, w, n1, d, h3, I1, A1, P1, R1, o1, I2, A2, ⟨by omega, by omega⟩, q3⟩
theorem rcp_r (f : Int → Int) (m j : Nat) : 0 ≤ rcp zer 0 f m j ∧ rcp zer 0 f m j ≤ 255 := by
  rw [rcp_at]
  split
  · omega
  · exact ⟨Int.le_refl 0, by show (0 : Int) ≤ 255; omega⟩
theorem rcp_tp {m : Int} {g f : Nat → Int} (h1 : ∀ j : Nat, (j : Int) < m → g j = f j) (hr : ∀ j, 0 ≤ f j ∧ f j ≤ 255) (j : Nat) (hj : (j : Int) < m) : rcp zer 0 (fun j => rget m g j) m.toNat j = f j := by
  rw [rcp_at, if_pos (by omega)]
  show rget m g (j : Int) % 256 = f j
  unfold rget
  rw [if_pos (by omega), show ((j : Int)).toNat = j by omega, h1 j hj]
  have := hr j
  omega
end
end MKEEP2
