/-! The heap grows: what was there stays. -/
section MEXT
variable {G : mG} {h h0 : mH} {n k b : Nat} {Q : mR → Prop} {I : Nat → Int} {A : Nat → Nat → Int} {P : Nat → Nat} {R : Nat → Option Nat} {o : Nat → Int64}
section
variable {J : Nat → Int} {B : Nat → Nat → Int} {fa : Nat → Nat} {fb : Nat → Nat → Int} {fcap : Nat} {fg : Nat → Option Nat} {W : Nat → Nat → Nat → Nat} {V : Nat → Nat → Nat → Nat → Int} {X : Nat → Nat → Option Nat} {cap : Nat} {ng : Nat → Option Nat} {h1 : mH}
theorem dFl_ext {p2 : Nat} (he : ∀ a e, h0 a = some e → h1 a = some e) (hd : dFl G h0 b p2 J B fa fb fcap fg) : dFl G h1 b p2 J B fa fb fcap fg := by
  obtain ⟨⟨l1, l2, l3⟩, l4, hi, inj⟩ := hd
  refine ⟨⟨l1, l2, he _ _ l3⟩, l4, ?_, inj⟩
  intro i hi'
  obtain ⟨i1, i2, i3, i4, i5⟩ := hi i hi'
  exact ⟨i1, ⟨i2.1, i2.2.1, he _ _ i2.2.2⟩, he _ _ i3, i4, i5⟩
theorem nT_ext {t c : Nat} {len : Int} {tg : Nat → Int} (he : ∀ a e, h0 a = some e → h1 a = some e) (h : nT h0 b t c len tg) : nT h1 b t c len tg := ⟨h.1, he _ _ h.2.1, he _ _ h.2.2⟩
theorem dN1_ext {i : Nat} (he : ∀ a e, h0 a = some e → h1 a = some e) (hd : dN1 G h0 b J B fa W V X i) : dN1 G h1 b J B fa W V X i := by
  obtain ⟨⟨hn, hA, hT, h5, hrest⟩, a2⟩ := hd
  refine ⟨⟨⟨hn.1, hn.2.1, he _ _ hn.2.2⟩, ⟨he _ _ hA.1, he _ _ hA.2.1, he _ _ hA.2.2.1, he _ _ hA.2.2.2⟩, nT_ext he hT, ?_, hrest⟩, a2⟩
  intro j hj
  obtain ⟨b1, b2, b3⟩ := h5 j hj
  exact ⟨b1, nT_ext he b2, b3⟩
theorem dNo_ext {p3 : Nat} (he : ∀ a e, h0 a = some e → h1 a = some e) (hd : dNo G h0 b p3 J B fa W V X cap ng) : dNo G h1 b p3 J B fa W V X cap ng := by
  obtain ⟨⟨l1, l3⟩, l4, m1, hi, hN⟩ := hd
  exact ⟨⟨l1, fun q => he _ _ (l3 q)⟩, l4, m1, hi, fun i h => dN1_ext he (hN i h)⟩
theorem rT_ext (he : ∀ a e, h0 a = some e → h1 a = some e) (hT : rT G h0 b) : rT G h1 b := by
  obtain ⟨⟨f, f1, f2, f3⟩, g1, g2, g3, g4, g5⟩ := hT
  have gg : ∀ {i : Nat} {K : Int → Prop}, sTg G h0 b i K → sTg G h1 b i K := by
    intro i K ⟨M, f, ⟨f1, f2⟩, f3⟩
    exact ⟨M, f, ⟨f1, he _ _ f2⟩, f3⟩
  exact ⟨⟨f, f1, he _ _ f2, f3⟩, gg g1, gg g2, gg g3, gg g4, gg g5⟩
theorem rst_ext {m : Nat} (he : ∀ a e, h0 a = some e → h1 a = some e) (hz : ∀ y, m ≤ y → h1 y = none) (h : rst G h0 b I A P R J B fa fb fcap fg W V X cap ng) : rst G h1 b I A (upP P 4 m) R J B fa fb fcap fg W V X cap ng := by
  obtain ⟨⟨a1, a1'⟩, ⟨a2, a2'⟩, a3, a4, a5, a6, a7, a8, a9, a10, a11, z1, ⟨⟨z2, z2'⟩, z2''⟩, z3, z4⟩ := h
  refine ⟨⟨dFl_ext he a1, a1'⟩, ⟨dNo_ext he a2, a2'⟩, rT_ext he a3, a4, a5, a6, a7, a8, a9, a10, a11, ?_, ⟨⟨z2, he _ _ z2'⟩, z2''⟩, z3, hz⟩
  rcases z1 with ⟨q1, q2, f, q3⟩ | ⟨q1, q2, q3⟩
  · exact Or.inl ⟨q1, q2, f, he _ _ q3⟩
  · exact Or.inr ⟨q1, q2, he _ _ q3⟩
end
end MEXT
