/-! A file's bytes are no Node's array: the Nodes stay as they are when a file is written. -/
section MSEP
variable {G : mG} {h h0 : mH} {n k b : Nat} {Q : mR → Prop} {I : Nat → Int} {A : Nat → Nat → Int} {P : Nat → Nat} {R : Nat → Option Nat} {o : Nat → Int64}
section
variable {J : Nat → Int} {B : Nat → Nat → Int} {fa : Nat → Nat} {fb : Nat → Nat → Int} {fcap : Nat} {fg : Nat → Option Nat} {W : Nat → Nat → Nat → Nat} {V : Nat → Nat → Nat → Nat → Int} {X : Nat → Nat → Option Nat} {cap : Nat} {ng : Nat → Option Nat}
/-- the int arrays of the Nodes are none of the files' -/
def dSe (J : Nat → Int) (fa : Nat → Nat) (W : Nat → Nat → Nat → Nat) : Prop := ∀ x : Nat, (x : Int) < J 29 → ∀ i : Nat, ((i : Int) < J 31 ∨ i = 40) → (fa x + 1 ≠ W 1 i 0 ∧ fa x + 1 ≠ W 1 i 0 + 1 ∧ fa x + 1 ≠ W 1 i 0 + 2) ∧ fa x ≠ W 2 i 0 ∧ (∀ j, fa x ≠ W 4 i j)
variable {q N N' : Nat} {g f : Nat → Int}
theorem nT_fW {t c : Nat} {len : Int} {tg : Nat → Int} (hx : h0 (q + 1) = some (mI N' (fun j => iI (f j)))) (h : nT h0 b t c len tg) (hs : q ≠ t) : nT (fW h0 q N g) b t c len tg := by
  obtain ⟨h1, h2, h3⟩ := h
  refine ⟨h1, ?_, ?_⟩
  · rw [fW_ne]
    · exact h2
    · intro e; rw [e, hx] at h2; cases h2
  · rw [fW_ne (by omega)]
    exact h3
theorem nN_fW {p w t rm tc : Nat} {fl : Option Nat} {F gw gi gt tg : Nat → Int} {gx : Nat → Option Nat} {len : Int} {tx ic : Nat → Nat} {tl : Nat → Int} {tgg : Nat → Nat → Int} (hx : h0 (q + 1) = some (mI N' (fun j => iI (f j)))) (h : nN G h0 b p w t rm tc fl F gw gi gt tg gx len tx ic tl tgg) (hs : q + 1 ≠ w ∧ q + 1 ≠ w + 1 ∧ q + 1 ≠ w + 2) (hs2 : q ≠ t) (hs3 : ∀ j, q ≠ tx j) : nN G (fW h0 q N g) b p w t rm tc fl F gw gi gt tg gx len tx ic tl tgg := by
  obtain ⟨hn, ha, ht, hi, hrest⟩ := h
  refine ⟨⟨hn.1, hn.2.1, ?_⟩, ⟨?_, ?_, ?_, ?_⟩, nT_fW hx ht hs2, ?_, hrest⟩
  · rw [fW_ne]
    · exact hn.2.2
    · intro e
      have := hn.2.2
      rw [e, hx] at this; cases this
  · rw [fW_ne (by omega)]; exact ha.1
  · rw [fW_ne (by omega)]; exact ha.2.1
  · rw [fW_ne (by omega)]; exact ha.2.2.1
  · rw [fW_ne]
    · exact ha.2.2.2
    · intro e
      have := ha.2.2.2
      rw [e, hx] at this; cases this
  · intro i h1
    obtain ⟨a1, a2, a3⟩ := hi i h1
    exact ⟨a1, nT_fW hx a2 (hs3 i), a3⟩
theorem dNo_fW {x p3 : Nat} (hd : dFl G h0 b (P 2) J B fa fb fcap fg) (hx : (x : Int) < J 29) (hn : dNo G h0 b p3 J B fa W V X cap ng) (hs : dSe J fa W) : dNo G (fW h0 (fa x) N g) b p3 J B fa W V X cap ng := by
  obtain ⟨x1, x2, x3, x4⟩ := hd.2.2.1 x hx
  obtain ⟨⟨l1, l3⟩, l4, m1, hi, hN⟩ := hn
  refine ⟨⟨l1, ?_⟩, l4, m1, hi, ?_⟩
  · intro w
    have l3' := l3 w
    rw [fW_ne]
    · exact l3'
    · intro e; rw [e, x3] at l3'; cases l3'
  · intro i h1
    obtain ⟨a1, a2⟩ := hN i h1
    obtain ⟨s1, s2, s3⟩ := hs x hx i h1
    exact ⟨nN_fW x3 a1 s1 s2 s3, a2⟩
theorem sTy_fW {x : Nat} (hd : dFl G h0 b (P 2) J B fa fb fcap fg) (hx : (x : Int) < J 29) (h : sTy G h0 b) : sTy G (fW h0 (fa x) N g) b := by
  obtain ⟨x1, x2, x3, x4⟩ := hd.2.2.1 x hx
  obtain ⟨f, f1, f2, f3⟩ := h
  refine ⟨f, f1, ?_, f3⟩
  rw [fW_ne]
  · exact f2
  · intro e; rw [e, x3] at f2; cases f2
theorem sTg_fW {x i : Nat} {K : Int → Prop} (hd : dFl G h0 b (P 2) J B fa fb fcap fg) (hx : (x : Int) < J 29) (h : sTg G h0 b i K) : sTg G (fW h0 (fa x) N g) b i K := by
  obtain ⟨x1, x2, x3, x4⟩ := hd.2.2.1 x hx
  obtain ⟨M, f, ⟨f1, f2⟩, f3⟩ := h
  refine ⟨M, f, ⟨f1, ?_⟩, f3⟩
  rw [fW_ne]
  · exact f2
  · intro e; rw [e, x3] at f2; cases f2
/-- a list of TLVs changes nothing of files and Nodes -/
theorem dNo_tl {p3 : Nat} {J' : Nat → Int} {B' : Nat → Nat → Int} (hJ : ∀ j, j ≠ 52 → j ≠ 51 → J' j = J j) (hB : ∀ j, j ≠ 45 → j ≠ 46 → B' j = B j) (h : dNo G h0 b p3 J B fa W V X cap ng) : dNo G h0 b p3 J' B' fa W V X cap ng := by
  rw [ext2I hJ, ext2A hB]
  exact h
theorem dFl_tl {p2 : Nat} {J' : Nat → Int} {B' : Nat → Nat → Int} (hJ : ∀ j, j ≠ 52 → j ≠ 51 → J' j = J j) (hB : ∀ j, j ≠ 45 → j ≠ 46 → B' j = B j) (h : dFl G h0 b p2 J B fa fb fcap fg) : dFl G h0 b p2 J' B' fa fb fcap fg := by
  rw [ext2I hJ, ext2A hB]
  exact h
end
end MSEP
