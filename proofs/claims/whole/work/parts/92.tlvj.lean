/-! The class's TLVs and the reference's: the same list. -/
section MTLVJ
variable {G : mG} {h h0 : mH} {n k b : Nat} {Q : mR → Prop} {I : Nat → Int} {A : Nat → Nat → Int} {P : Nat → Nat} {R : Nat → Option Nat} {o : Nat → Int64}
/-- what the class noted and what the reference noted (K: the tags that the reference knows) -/
def tR (K : Int → Prop) (N : Int) (A : Nat → Nat → Int) (J : Nat → Int) (B : Nat → Nat → Int) : Prop :=
  (∀ t : Nat, t < 128 → K t → ((A 9) t = -1 ∧ B 46 t = -1) ∨ ((0 ≤ (A 9) t ∧ 0 ≤ (A 10) t ∧ (A 9) t + (A 10) t ≤ N) ∧ B 45 t = 5 + (A 9) t ∧ B 46 t = (A 10) t)) ∧
  (J 51 = 0 ↔ ∀ t : Nat, t < 128 → ¬ K t → (A 11) t = 0) ∧ (0 ≤ J 51 ∧ J 51 ≤ 1)
theorem tR_one {K : Int → Prop} [DecidablePred K] {N a : Int} {g : Nat → Int} {A : Nat → Nat → Int} {J : Nat → Int} {B : Nat → Nat → Int} (hg : ∀ j, 0 ≤ g j ∧ g j ≤ 255) (hN : N ≤ 255) (hT : iTl A) (h : tR K N A J B) (ha : 0 ≤ a) (hb : ¬ tBad N g a) : tR K N (tOne N g a A) (lsI K J (rget N g a % 128) (rget N g a) (rlen N g (tPl (rget N g) a))) (lsA K B (rget N g a % 128) (tSt N g a) (rlen N g (tPl (rget N g) a))) := by
  have tr := tRng (N := N) (a := a) hg
  have rg := rget_rng (len := N) hg a
  obtain ⟨h1, h2, h3⟩ := h
  unfold tBad at hb
  have hs := hT.1 (rget N g a % 128).toNat
  have hm := hT.2 (rget N g a % 128).toNat
  have tb : 0 ≤ rget N g a % 128 ∧ rget N g a % 128 < 128 := by omega
  have tn : ((rget N g a % 128).toNat : Int) = rget N g a % 128 := by omega
  refine ⟨?_, ?_, lsI_must K h3⟩
  · intro t ht kt
    rw [tOne_sta, tOne_len]
    have h1t := h1 t ht kt
    by_cases e : t = (rget N g a % 128).toNat
    · subst e
      rw [tn] at kt
      by_cases q : (A 9) (rget N g a % 128).toNat = -1
      · rw [if_pos q, if_pos q, upE_same, upE_same]
        have ql : B 46 (rget N g a % 128).toNat < 0 := by
          rcases h1t with h | h <;> omega
        right
        unfold lsA
        rw [if_pos ⟨kt, ql⟩]
        refine ⟨by omega, ?_, ?_⟩
        · rw [upA_at, if_neg (by decide), upA_at, if_pos rfl, upE_same]
        · rw [upA_at, if_pos rfl, upE_same]
      · rw [if_neg q, if_neg q]
        have ql : ¬ (K (rget N g a % 128) ∧ B 46 (rget N g a % 128).toNat < 0) := by
          intro w
          rcases h1t with h | h
          · exact q h.1
          · omega
        unfold lsA
        rw [if_neg ql]
        exact h1t
    · have u1 : ∀ x, upE (A 9) (rget N g a % 128).toNat x t = (A 9) t := fun x => upE_ne e
      have u2 : ∀ x, upE (A 10) (rget N g a % 128).toNat x t = (A 10) t := fun x => upE_ne e
      have e1 : (if (A 9) (rget N g a % 128).toNat = -1 then upE (A 9) (rget N g a % 128).toNat (tSt N g a) else (A 9)) t = (A 9) t := by
        split
        · exact u1 _
        · rfl
      have e2 : (if (A 9) (rget N g a % 128).toNat = -1 then upE (A 10) (rget N g a % 128).toNat (rlen N g (tPl (rget N g) a)) else (A 10)) t = (A 10) t := by
        split
        · exact u2 _
        · rfl
      rw [e1, e2]
      have e3 : lsA K B (rget N g a % 128) (tSt N g a) (rlen N g (tPl (rget N g) a)) 46 t = B 46 t ∧ lsA K B (rget N g a % 128) (tSt N g a) (rlen N g (tPl (rget N g) a)) 45 t = B 45 t := by
        unfold lsA
        split
        · rw [upA_at, if_pos rfl, upA_at, if_neg (by decide), upA_at, if_pos rfl]
          exact ⟨upE_ne e, upE_ne e⟩
        · exact ⟨rfl, rfl⟩
      rw [e3.1, e3.2]
      exact h1t
  · rw [tOne_mus]
    by_cases kt : K (rget N g a % 128)
    · have e : lsI K J (rget N g a % 128) (rget N g a) (rlen N g (tPl (rget N g) a)) 51 = J 51 := by
        unfold lsI; rw [if_pos kt]; rfl
      rw [e, h2]
      constructor
      · intro h t ht nk
        rw [upE_ne (fun q => nk (by rw [q, tn]; exact kt))]
        exact h t ht nk
      · intro h t ht nk
        have := h t ht nk
        rw [upE_ne (fun q => nk (by rw [q, tn]; exact kt))] at this
        exact this
    · have e : lsI K J (rget N g a % 128) (rget N g a) (rlen N g (tPl (rget N g) a)) 51 = if J 51 = 0 ∧ rget N g a < 128 then 0 else 1 := by
        unfold lsI; rw [if_neg kt]; rfl
      rw [e]
      constructor
      · intro h t ht nk
        have hh : J 51 = 0 ∧ rget N g a < 128 := by
          by_cases w : J 51 = 0 ∧ rget N g a < 128
          · exact w
          · rw [if_neg w] at h; omega
        have h5 := h2.mp hh.1
        unfold upE
        split
        · rename_i q
          have h6 := h5 t ht nk
          rw [q] at h6
          rw [if_pos ⟨h6, hh.2⟩]
        · exact h5 t ht nk
      · intro h
        have h7 := h (rget N g a % 128).toNat (by omega) (by rw [tn]; exact kt)
        rw [upE_same] at h7
        have h8 : (A 11) (rget N g a % 128).toNat = 0 ∧ rget N g a < 128 := by
          by_cases w : (A 11) (rget N g a % 128).toNat = 0 ∧ rget N g a < 128
          · exact w
          · rw [if_neg w] at h7; omega
        have h9 : J 51 = 0 := by
          apply h2.mpr
          intro t ht nk
          have := h t ht nk
          unfold upE at this
          split at this
          · rename_i q; rw [q]; exact h8.1
          · exact this
        rw [if_pos ⟨h9, h8.2⟩]
theorem tR_all {K : Int → Prop} [DecidablePred K] {N : Int} {g : Nat → Int} (hg : ∀ j, 0 ≤ g j ∧ g j ≤ 255) (hN : N ≤ 255) : ∀ (d : Nat) (a : Int) (A : Nat → Nat → Int) (J : Nat → Int) (B : Nat → Nat → Int), iTl A → tR K N A J B → 0 ≤ a → a ≤ N → N ≤ a + d →
    ((clF N g d a A).1 = -1 ∧ (lsF K N g d a J B).1 = 0) ∨ ((¬ (clF N g d a A).1 = -1 ∧ (lsF K N g d a J B).1 = 1) ∧ tR K N (clF N g d a A).2 (lsF K N g d a J B).2.1 (lsF K N g d a J B).2.2) := by
  intro d
  induction d with
  | zero =>
    intro a A J B hT h h1 h2 h3
    right
    refine ⟨⟨?_, rfl⟩, h⟩
    show ¬ a = -1
    omega
  | succ d ih =>
    intro a A J B hT h h1 h2 h3
    rw [clF, lsF]
    by_cases p : N ≤ a
    · rw [if_pos (Or.inr p), if_pos p]
      right
      refine ⟨⟨?_, rfl⟩, h⟩
      show ¬ a = -1
      omega
    · rw [if_neg (show ¬ (a = -1 ∨ N ≤ a) by omega), if_neg p]
      by_cases q : tBad N g a
      · rw [if_pos q]
        left
        refine ⟨rfl, ?_⟩
        unfold tBad at q
        by_cases q1 : rget N g a % 128 = 0
        · rw [if_pos q1]
        · rw [if_neg q1]
          by_cases q2 : rlen N g (tPl (rget N g) a) = -1
          · rw [if_pos q2]
          · rw [if_neg q2, if_pos (by omega)]
      · have q' := q
        unfold tBad at q'
        rw [if_neg q, if_neg (show ¬ rget N g a % 128 = 0 by omega), if_neg (show ¬ rlen N g (tPl (rget N g) a) = -1 by omega), if_neg (show ¬ N < tSt N g a + rlen N g (tPl (rget N g) a) by omega)]
        have tr := tRng (N := N) (a := a) hg
        exact ih _ _ _ _ (iTl_one hg hN hT h1 q) (tR_one hg hN hT h h1 q) (by omega) (by omega) (by omega)
theorem rget_eq {N : Int} {g f : Nat → Int} (h : ∀ j : Nat, (j : Int) < N → g j = f j) : rget N g = rget N f := by
  funext i
  unfold rget
  split
  · exact h _ (by omega)
  · rfl
theorem rlen_eq {N : Int} {g f : Nat → Int} (h : rget N g = rget N f) : rlen N g = rlen N f := by
  funext i
  unfold rlen
  rw [h]
theorem clF_eq {N : Int} {g f : Nat → Int} (h : rget N g = rget N f) : ∀ (d : Nat) (a : Int) (A : Nat → Nat → Int), clF N g d a A = clF N f d a A := by
  have h2 := rlen_eq h
  have h3 : tSt N g = tSt N f := by funext a; unfold tSt; rw [h, h2]
  intro d
  induction d with
  | zero => intro a A; rfl
  | succ d ih =>
    intro a A
    rw [clF, clF, ih]
    unfold tBad tOne
    rw [h, h2, h3]
theorem tR_0 {K : Int → Prop} {N : Int} {A : Nat → Nat → Int} {J : Nat → Int} {B : Nat → Nat → Int} : tR K N (t0A A 128) (updI J 51 0) (nolA B) := by
  have e1 : t0A A 128 9 = cpE (A 9) (fun _ => -1) 0 128 := by unfold t0A; rw [upA_at, if_neg (by decide), upA_at, if_neg (by decide), upA_at, if_pos rfl]
  have e3 : t0A A 128 11 = cpE (A 11) (fun _ => 0) 0 128 := by unfold t0A; rw [upA_at, if_pos rfl]
  have e2 : nolA B 46 = cpE (B 46) (fun _ => -1) 0 128 := by unfold nolA; rw [upA_at, if_pos rfl]
  have e4 : updI J 51 0 51 = 0 := by rw [updI_at, if_pos rfl]
  refine ⟨?_, ?_, ?_⟩
  · intro t ht _
    left
    rw [e1, e2]
    unfold cpE
    rw [if_pos (by omega), if_pos (by omega)]
    exact ⟨rfl, rfl⟩
  · rw [e4]
    constructor
    · intro _ t ht _
      rw [e3]
      unfold cpE
      rw [if_pos (by omega)]
    · intro _; rfl
  · rw [e4]; omega
/-- both read the same list -/
theorem tR_both {K : Int → Prop} [DecidablePred K] {a : Int} {I : Nat → Int} {A : Nat → Nat → Int} {J : Nat → Int} {B : Nat → Nat → Int} (hT : iTl A) (hg : ∀ j, 0 ≤ B 14 j ∧ B 14 j ≤ 255) (hl : (I 7) = J 49) (hd : 0 ≤ J 49 ∧ J 49 ≤ 255) (hr : ∀ j : Nat, (j : Int) < J 49 → (A 1) j = B 14 (5 + j)) (h1 : 0 ≤ a) (h2 : a ≤ J 49) :
    ((clF (I 7) (A 1) 255 a (t0A A 128)).1 = -1 ∧ (tlF K a J B).1 = 0) ∨ ((¬ (clF (I 7) (A 1) 255 a (t0A A 128)).1 = -1 ∧ (tlF K a J B).1 = 1) ∧ tR K (J 49) (clF (I 7) (A 1) 255 a (t0A A 128)).2 (tlF K a J B).2.1 (tlF K a J B).2.2) := by
  have e : rget (I 7) (A 1) = rget (I 7) (tpG B) := rget_eq (fun j hj => hr j (by omega))
  rw [clF_eq e, hl]
  exact tR_all (fun j => hg (5 + j)) hd.2 255 a _ _ _ (iTl_0 hT) tR_0 h1 h2 (by omega)
end MTLVJ
