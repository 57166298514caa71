/-! New tags for new places: the old ones stay. -/
section MTAGS
variable {G : mG} {h h0 : mH} {n k b : Nat} {Q : mR → Prop} {I : Nat → Int} {A : Nat → Nat → Int} {P : Nat → Nat} {R : Nat → Option Nat} {o : Nat → Int64}
section
variable {J : Nat → Int} {B : Nat → Nat → Int} {fa : Nat → Nat} {fb : Nat → Nat → Int} {fcap : Nat} {fg : Nat → Option Nat} {W : Nat → Nat → Nat → Nat} {V : Nat → Nat → Nat → Nat → Int} {X : Nat → Nat → Option Nat} {cap : Nat} {ng : Nat → Option Nat} {h1 : mH} {ow ow' : Nat → Nat}
theorem oW_ext (hr : rst G h0 b I A P R J B fa fb fcap fg W V X cap ng) (ha : ∀ a e, h0 a = some e → ow' a = ow a) (ho : oW ow P J B fa W) : oW ow' P J B fa W := by
  obtain ⟨⟨a1, a1'⟩, ⟨a2, a2'⟩, a3, a4, a5, a6, a7, a8, a9, a10, a11, z1, z2, z3, z4⟩ := hr
  obtain ⟨o1, o2, o3, o4⟩ := ho
  refine ⟨?_, ?_, ?_, ?_⟩
  · intro x hx
    obtain ⟨i1, i2, i3, i4⟩ := a1.2.2.1 x hx
    rw [ha _ _ i2.2.2, ha _ _ i3]
    exact o1 x hx
  · intro i hi
    obtain ⟨⟨hn, hA, hT, h5, hrest⟩, q2⟩ := a2.2.2.2.2 i hi
    obtain ⟨c1, ⟨c2, c3, c4, c5⟩, ⟨c6, c7⟩, c8⟩ := o2 i hi
    refine ⟨by rw [ha _ _ hn.2.2]; exact c1, ⟨by rw [ha _ _ hA.1]; exact c2, by rw [ha _ _ hA.2.1]; exact c3, by rw [ha _ _ hA.2.2.1]; exact c4, by rw [ha _ _ hA.2.2.2]; exact c5⟩, ⟨by rw [ha _ _ hT.2.1]; exact c6, by rw [ha _ _ hT.2.2]; exact c7⟩, ?_⟩
    intro j hj
    have hj' : (j : Int) < nF B i 7 := hj
    obtain ⟨b1, b2, b3⟩ := h5 j hj'
    have e1 : ow' (W 4 i j) = ow (W 4 i j) := ha _ _ b2.2.1
    have e2 : ow' (W 4 i j + 1) = ow (W 4 i j + 1) := ha _ _ b2.2.2
    rw [e1, e2]
    exact c8 j hj
  · rw [ha _ _ a1.1.2.2]
    exact o3
  · rcases z1 with ⟨q1, q2, f, q3⟩ | ⟨q1, q2, q3⟩
    · rw [ha _ _ q3]; exact o4
    · rw [ha _ _ q3]; exact o4
end
end MTAGS
