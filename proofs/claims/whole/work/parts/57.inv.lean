/-! What always holds of the reference's numbers. -/
section MINV
variable {G : mG} {h h0 : mH} {n k b : Nat} {Q : mR → Prop} {I : Nat → Int} {A : Nat → Nat → Int} {P : Nat → Nat} {R : Nat → Option Nat} {o : Nat → Int64}
def fOk (I : Nat → Int) (A : Nat → Nat → Int) (f : Nat) : Prop := (0 ≤ (A 17) f ∧ (A 17) f ≤ 3) ∧ shp ((A 17) f) ((A 18) f) ((A 19) f) ∧ (0 ≤ (A 15) f ∧ (A 15) f ≤ 65535) ∧ (0 ≤ (A 22) f ∧ (A 22) f + (A 18) f * (A 19) f ≤ (I 30)) ∧ (0 ≤ (A 20) f ∧ (A 20) f ≤ 2) ∧ (0 ≤ (A 21) f ∧ (A 21) f ≤ 2) ∧ (-1 ≤ (A 16) f ∧ (A 16) f < f) ∧ (0 < f → 0 ≤ (A 16) f ∧ (A 17) ((A 16) f).toNat = 0)
def iFl (I : Nat → Int) (A : Nat → Nat → Int) : Prop := (1 ≤ (I 29) ∧ (I 29) ≤ 40) ∧ (0 ≤ (I 30) ∧ (I 30) ≤ 8000) ∧ (∀ f : Nat, (f : Int) < (I 29) → fOk I A f) ∧ (∀ f g : Nat, f < g → (g : Int) < (I 29) → (A 22) f + (A 18) f * (A 19) f ≤ (A 22) g) ∧ ((A 16) 0 = -1 ∧ (A 15) 0 = 16128 ∧ (A 17) 0 = 0) ∧ (∀ j, 0 ≤ (A 23) j ∧ (A 23) j ≤ 255)
def iHd (I : Nat → Int) (A : Nat → Nat → Int) : Prop := (0 ≤ (I 36) ∧ (I 36) < (I 29)) ∧ (-1 ≤ (I 37) ∧ (I 37) < (I 29)) ∧ (0 ≤ (I 38) ∧ (I 38) ≤ 255) ∧ (0 ≤ (I 37) → 1 ≤ (A 17) ((I 37)).toNat ∧ (2 ≤ (A 17) ((I 37)).toNat → (I 38) ≤ (A 19) ((I 37)).toNat)) ∧ (0 ≤ (I 35) ∧ (I 35) ≤ 1) ∧ (0 ≤ (I 33) ∧ (I 33) ≤ 3) ∧ (0 ≤ (I 34) ∧ (I 34) ≤ 10) ∧ (∀ j, 0 ≤ (A 41) j ∧ (A 41) j ≤ 255) ∧ (∀ j, 0 ≤ (A 42) j ∧ (A 42) j ≤ 255)
def nOk (I : Nat → Int) (A : Nat → Nat → Int) (x : Nat) : Prop := (0 ≤ (A 24) x ∧ (A 24) x ≤ 7) ∧ (0 ≤ (A 25) x ∧ (A 25) x ≤ 255) ∧ (0 ≤ (A 26) x ∧ (A 26) x ≤ 255) ∧ (0 ≤ (A 27) x ∧ (A 27) x ≤ 255) ∧ (-1 ≤ (A 28) x ∧ (A 28) x < (I 29)) ∧ (0 ≤ (A 30) x ∧ (A 30) x ≤ 100) ∧ (∀ w : Nat, w < 4 → -1 ≤ (A 29) (4 * x + w) ∧ (A 29) (4 * x + w) < (I 31))
def iNo (I : Nat → Int) (A : Nat → Nat → Int) : Prop := (0 ≤ (I 31) ∧ (I 31) ≤ 40) ∧ (∀ x : Nat, (x : Int) < (I 31) → nOk I A x) ∧ (∀ x : Nat, x ≤ 40 → 0 ≤ (A 32) x ∧ (A 32) x ≤ 5) ∧ (∀ x : Nat, x < 40 → ((I 31) ≤ x ∨ ¬ (A 24) x = 2) → (A 32) x = 0) ∧
  (∀ x c : Nat, x ≤ 40 → 5 * x ≤ c → (c : Int) < 5 * x + (A 32) x → (1 ≤ (A 33) c ∧ (A 33) c ≤ 255) ∧ (-1 ≤ (A 34) c ∧ (A 34) c < (I 31)) ∧ (0 ≤ (A 35) c ∧ (A 35) c ≤ 20)) ∧ (0 ≤ (I 32) ∧ (I 32) ≤ 20) ∧
  (∀ j : Nat, j < 32 → -1 ≤ (A 38) j ∧ (A 38) j < (I 31)) ∧ (∀ j : Nat, j < 9 → -1 ≤ (A 39) j ∧ (A 39) j < (I 31)) ∧ (∀ j, 0 ≤ (A 31) j ∧ (A 31) j ≤ 255) ∧ (∀ j, 0 ≤ (A 36) j ∧ (A 36) j ≤ 255) ∧ (∀ j, 0 ≤ (A 37) j ∧ (A 37) j ≤ 255)
def iSe (I : Nat → Int) (A : Nat → Nat → Int) : Prop := (0 ≤ (I 41) ∧ (I 41) ≤ 2) ∧ (0 ≤ (I 43) ∧ (I 43) ≤ 254) ∧ (0 ≤ (I 44) ∧ (I 44) ≤ 2) ∧ (0 ≤ (I 42) ∧ (I 42) ≤ 40) ∧ (¬ (I 41) = 0 → (I 42) < (I 31) ∨ (I 42) = 40) ∧ (0 ≤ (I 39) ∧ (I 39) ≤ 1) ∧ (0 ≤ (I 40) ∧ (I 40) ≤ 255) ∧ (∀ j, 0 ≤ (A 43) j ∧ (A 43) j ≤ 255) ∧ (∀ j, 0 ≤ (A 40) j ∧ (A 40) j ≤ 1)
def iTp (I : Nat → Int) (A : Nat → Nat → Int) : Prop := ((0 ≤ (I 28) ∧ (I 28) ≤ 300) ∧ (∀ j, -1 ≤ (A 46) j ∧ (A 46) j ≤ 255) ∧ (0 ≤ (I 46) ∧ (I 46) ≤ 300)) ∧ (∀ j, 0 ≤ (A 14) j ∧ (A 14) j ≤ 255)
def iM (I : Nat → Int) (A : Nat → Nat → Int) : Prop := RgA A ∧ iFl I A ∧ iHd I A ∧ iNo I A ∧ iSe I A ∧ iTp I A
/-- a command's own numbers -/
def iCm (I : Nat → Int) : Prop := (0 ≤ (I 47) ∧ (I 47) ≤ 255) ∧ (0 ≤ (I 48) ∧ (I 48) ≤ 255) ∧ (0 ≤ (I 49) ∧ (I 49) ≤ 255) ∧ (-1 ≤ (I 50) ∧ (I 50) ≤ 256) ∧ (I 46) = 0
theorem bok_of {I : Nat → Int} {A : Nat → Nat → Int} (h1 : iNo I A) (h2 : iSe I A) (hs : ¬ (I 41) = 0) : bok I A := by
  obtain ⟨n1, n2, n3, n4, n5, n6, n7⟩ := h1
  obtain ⟨e1, e2, e3, e4, e5, e6⟩ := h2
  refine ⟨e4, e2, n6, ?_, ?_, ?_⟩
  · intro p
    have q := n2 ((I 42)).toNat (by rcases e5 hs with h | h <;> omega)
    exact ⟨q.1, q.2.2.2.2.2.1, q.2.2.2.1⟩
  · exact n3 ((I 42)).toNat (by omega)
  · intro c q1 q2
    exact (n5 ((I 42)).toNat c (by omega) (by omega) (by omega)).2.2
theorem shp_sz {c s y : Int} (h : shp c s y) : 0 ≤ s ∧ s ≤ 1000 ∧ 0 ≤ y ∧ y ≤ 255 := by
  unfold shp at h; omega
theorem shp_1 {s y : Int} (h : shp 1 s y) : 1 ≤ s ∧ y = 1 := by
  unfold shp at h; omega
theorem shp_2 {c s y : Int} (h : shp c s y) (hc : 2 ≤ c) : (1 ≤ s ∧ s ≤ 255) ∧ (1 ≤ y ∧ y ≤ 255) := by
  unfold shp at h; omega
theorem recB {s m r : Int} (hs : 0 ≤ s) (h1 : 1 ≤ r) (h2 : r ≤ m) : 0 ≤ s * (r - 1) ∧ s * (r - 1) + s ≤ s * m := by
  have a := Int.mul_nonneg hs (show 0 ≤ r - 1 by omega)
  have c := Int.mul_le_mul_of_nonneg_left h2 hs
  rw [Int.mul_sub, Int.mul_one] at *
  omega
theorem txtL_rng (g : Nat → Int) : ∀ (d c : Nat), ∀ x ∈ txtL g d c, -2147483648 ≤ x ∧ x < 2147483648
  | 0, _ => fun x h => by cases h
  | d + 1, c => fun x h => by
    rw [txtL] at h
    rcases List.mem_cons.mp h with q | q
    · omega
    · exact txtL_rng g d (c + 1) x q
end MINV
