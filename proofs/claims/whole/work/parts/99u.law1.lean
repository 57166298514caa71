/-! The relation over the whole world; from a call of the class to the reference's. -/
section MLAW1
variable {G : mG} {h h0 : mH} {n k b : Nat} {Q : mR → Prop} {I : Nat → Int} {A : Nat → Nat → Int} {P : Nat → Nat} {R : Nat → Option Nat} {o : Nat → Int64}
def nr (g : Nat → Int) : Nat → Int := fun j => (iI (g j)).toInt
theorem nr_i (g : Nat → Int) (j : Nat) : iI (nr g j) = iI (g j) := by unfold nr; exact iI_self _
theorem nr_rng (g : Nat → Int) (j : Nat) : -2147483648 ≤ nr g j ∧ nr g j < 2147483648 := iI_rng (iI (g j))
theorem nr_same {g : Nat → Int} {j : Nat} (h : -2147483648 ≤ g j ∧ g j < 2147483648) : nr g j = g j := by
  unfold nr
  exact iI_toInt h.1 h.2
def nA3 (A : Nat → Nat → Int) : Nat → Nat → Int := upA (upA (upA A 0 (nr (A 0))) 4 (nr (A 4))) 5 (nr (A 5))
theorem nA3_i (A : Nat → Nat → Int) (i j : Nat) : iI (nA3 A i j) = iI (A i j) := by
  unfold nA3
  rw [upA_at]
  split
  · rename_i q; rw [q]; exact nr_i _ _
  · rw [upA_at]
    split
    · rename_i q; rw [q]; exact nr_i _ _
    · rw [upA_at]
      split
      · rename_i q; rw [q]; exact nr_i _ _
      · rfl
theorem wH_nA3 : wH h0 b I (nA3 A) P R o = wH h0 b I A P R o := by
  unfold wH wL
  simp only [nA3_i]
def fre (P : Nat → Nat) (b n : Nat) (W : Nat → Nat → Nat → Nat) : Prop := b + 79 ≤ n ∧ P 4 = n ∧ (∀ i j, W 4 i j < n)
/-- class and reference agree -/
def rl (G : mG) (b : Nat) (h : mH) (n : Nat) : Prop := ∃ (h0 : mH) (I : Nat → Int) (A : Nat → Nat → Int) (P : Nat → Nat) (R : Nat → Option Nat) (o : Nat → Int64) (fa : Nat → Nat) (fb : Nat → Nat → Int) (fcap : Nat) (fg : Nat → Option Nat) (W : Nat → Nat → Nat → Nat) (V : Nat → Nat → Nat → Nat → Int) (X : Nat → Nat → Option Nat) (cap : Nat) (ng : Nat → Option Nat), h = wH h0 b I A P R o ∧ iM I A ∧ rst G h0 b I A P R I A fa fb fcap fg W V X cap ng ∧ fre P b n W ∧ ri I A
section
variable {J : Nat → Int} {B : Nat → Nat → Int} {fa : Nat → Nat} {fb : Nat → Nat → Int} {fcap : Nat} {fg : Nat → Option Nat} {W : Nat → Nat → Nat → Nat} {V : Nat → Nat → Nat → Nat → Int} {X : Nat → Nat → Option Nat} {cap : Nat} {ng : Nat → Option Nat} {h1 : mH}
theorem rst_nA3 (hr : rst G h0 b I A P R J B fa fb fcap fg W V X cap ng) (hM : iM J B) : rst G h0 b I (nA3 A) P R J B fa fb fcap fg W V X cap ng := by
  obtain ⟨a1, a2, a3, a4, a5, a6, a7, a8, a9, a10, a11⟩ := hr
  refine ⟨a1, a2, a3, a4, a5, a6, ⟨?_, ?_⟩, a8, ⟨a9.1, ?_⟩, a10, a11⟩
  · intro j hj
    have e := a7.1 j hj
    have r := hM.1 38 j
    show nr (A 4) j = B 38 j
    rw [nr_same (by rw [e]; exact r), e]
  · intro j hj
    have e := a7.2 j hj
    have r := hM.1 39 j
    show nr (A 5) j = B 39 j
    rw [nr_same (by rw [e]; exact r), e]
  · intro j hj
    obtain ⟨e, r⟩ := a9.2 j hj
    refine ⟨?_, r⟩
    show nr (A 0) j = B 44 j
    rw [nr_same (by omega), e]
theorem rgC (hr : rst G h0 b I A P R J B fa fb fcap fg W V X cap ng) : ∀ i j, i < 14 → -2147483648 ≤ nA3 A i j ∧ nA3 A i j < 2147483648 := by
  obtain ⟨a1, a2, a3, ⟨b1, b2, b3, b4, b5⟩, a5, ⟨c1, c2, c3, ⟨c4, c5, c6⟩, c7⟩, a7, ⟨⟨x1, x2⟩, x3, x4, x5, ⟨x6, x7⟩, x8⟩, a9, a10, a11⟩ := hr
  intro i j hi
  have d1 := b4 j
  have d2 := b5 j
  have d3 := c6 j
  have d4 := c7 j
  have d5 := x1 j
  have d6 := x2 j
  have d7 := x3 j
  have d8 := x4 j
  have d9 := x5 j
  have d10 := x6 j
  have d11 := x7 j
  have n0 := nr_rng (A 0) j
  have n4 := nr_rng (A 4) j
  have n5 := nr_rng (A 5) j
  match i, hi with
  | 0, _ => exact n0
  | 1, _ => show -2147483648 ≤ (A 1) j ∧ (A 1) j < 2147483648; omega
  | 2, _ => show -2147483648 ≤ (A 2) j ∧ (A 2) j < 2147483648; omega
  | 3, _ => show -2147483648 ≤ (A 3) j ∧ (A 3) j < 2147483648; omega
  | 4, _ => exact n4
  | 5, _ => exact n5
  | 6, _ => show -2147483648 ≤ (A 6) j ∧ (A 6) j < 2147483648; omega
  | 7, _ => show -2147483648 ≤ (A 7) j ∧ (A 7) j < 2147483648; omega
  | 8, _ => show -2147483648 ≤ (A 8) j ∧ (A 8) j < 2147483648; omega
  | 9, _ => show -2147483648 ≤ (A 9) j ∧ (A 9) j < 2147483648; omega
  | 10, _ => show -2147483648 ≤ (A 10) j ∧ (A 10) j < 2147483648; omega
  | 11, _ => show -2147483648 ≤ (A 11) j ∧ (A 11) j < 2147483648; omega
  | 12, _ => show -2147483648 ≤ (A 12) j ∧ (A 12) j < 2147483648; omega
  | 13, _ => show -2147483648 ≤ (A 13) j ∧ (A 13) j < 2147483648; omega
  | i + 14, h => omega
theorem iM_gm {Y : Nat → Nat → Int} {X1 : Nat → Int} (h : iM J B) (hY : ∀ i j, i < 14 → -2147483648 ≤ Y i j ∧ Y i j < 2147483648) : iM (gl X1 J) (gm Y B) := by
  obtain ⟨a1, a2⟩ := h
  refine ⟨?_, a2⟩
  intro i j
  unfold gm
  split
  · rename_i q; exact hY i j q
  · exact a1 i j
theorem rst_gl {X1 : Nat → Int} {Y : Nat → Nat → Int} (h : rst G h0 b X1 Y P R J B fa fb fcap fg W V X cap ng) : rst G h0 b (gl X1 J) (gm Y B) P R (gl X1 J) (gm Y B) fa fb fcap fg W V X cap ng := by
  obtain ⟨a1, a2, a3, a4, a5, a6, a7, a8, a9, a10, a11⟩ := h
  exact ⟨a1, a2, a3, a4, a5, a6, a7, a8, a9, a10, a11⟩
/-- the class's call is done: what the reference then starts from, and what holds when it comes to J, B -/
theorem op_end {I1 : Nat → Int} {A1 : Nat → Nat → Int} (hr : rst G h0 b I1 A1 P R J B fa fb fcap fg W V X cap ng) (hk : kpM I A I1 A1) (hM : iM I A) (hM' : iM J B) (hf : fre P b n W) (hri : ri J B) :
    ∃ (A2 : Nat → Nat → Int), wH h0 b I1 A1 P R o = wH h0 b (gl I1 I) (gm A2 A) P R o ∧ iM (gl I1 I) (gm A2 A) ∧ rl G b (wH h0 b (gl I1 J) (gm A2 B) P R o) n := by
  have k2 : kpM I A I1 (nA3 A1) := kpM_A (kpM_A (kpM_A hk (by decide)) (by decide)) (by decide)
  have rg := rgC hr
  refine ⟨nA3 A1, ?_, iM_gm hM rg, ⟨h0, gl I1 J, gm (nA3 A1) B, P, R, o, fa, fb, fcap, fg, W, V, X, cap, ng, rfl, iM_gm hM' rg, rst_gl (rst_nA3 hr hM'), hf, hri⟩⟩
  rw [← gl_of k2.1, ← gm_of k2.2, wH_nA3]
end
end MLAW1
