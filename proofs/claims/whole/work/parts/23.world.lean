/-! The fixed objects of class and reference as ONE layer of the heap, by program (wip/gen/world.py): C the class's, M the reference's, o the law's long. -/
section MWORLD
def upE (g : Nat → Int) (i : Nat) (x : Int) : Nat → Int := fun j => if j = i then x else g j
def updI (g : Nat → Int) (i : Nat) (x : Int) : Nat → Int := fun j => if j = i then x else g j
def upA (g : Nat → Nat → Int) (i : Nat) (x : Nat → Int) : Nat → Nat → Int := fun j => if j = i then x else g j
def upP (g : Nat → Nat) (i : Nat) (x : Nat) : Nat → Nat := fun j => if j = i then x else g j
def upR (g : Nat → Option Nat) (i : Nat) (x : Option Nat) : Nat → Option Nat := fun j => if j = i then x else g j
def fx (h0 : mH) (b : Nat) (l : List (Option mE)) : mH := fun a => match (if b ≤ a then (l[a - b]?).join else none) with
  | some e => some e
  | none => h0 a
theorem fx_at {h0 : mH} {b j : Nat} {l : List (Option mE)} : fx h0 b l (b + j) = match (l[j]?).join with
  | some e => some e
  | none => h0 (b + j) := by
  unfold fx
  rw [if_pos (Nat.le_add_right b j), Nat.add_sub_cancel_left]
theorem fx_get {h0 : mH} {b j : Nat} {l : List (Option mE)} {e : mE} (h : l[j]? = some (some e)) : fx h0 b l (b + j) = some e := by
  rw [fx_at, h]; rfl
theorem fx_set {h0 : mH} {b j : Nat} {l l' : List (Option mE)} {e e0 : mE} (h : l[j]? = some (some e0)) (hl : l.set j (some e) = l') : mUp (fx h0 b l) (b + j) e = fx h0 b l' := by
  subst hl
  have hj : j < l.length := by
    rcases Nat.lt_or_ge j l.length with q | q
    · exact q
    · rw [List.getElem?_eq_none q] at h; cases h
  funext a
  rcases Nat.lt_or_ge a b with q | q
  · rw [mUp_ne (by omega)]
    unfold fx
    rw [if_neg (by omega), if_neg (by omega)]
  · obtain ⟨i, rfl⟩ := Nat.exists_eq_add_of_le q
    by_cases hi : i = j
    · subst hi
      rw [mUp_same, fx_at, List.getElem?_set_self hj]; rfl
    · rw [mUp_ne (by omega), fx_at, fx_at, List.getElem?_set_ne (by omega)]
theorem fx_hole {h0 : mH} {b a : Nat} {l : List (Option mE)} (h : a < b ∨ (l[a - b]?).join = none) : fx h0 b l a = h0 a := by
  unfold fx
  rcases h with q | q
  · rw [if_neg (by omega)]
  · split <;> rename_i z
    · split at z
      · rw [q] at z; cases z
      · cases z
    · rfl
theorem fx_put {h0 : mH} {b a : Nat} {l : List (Option mE)} {e : mE} (h : a < b ∨ (l[a - b]?).join = none) : mUp (fx h0 b l) a e = fx (mUp h0 a e) b l := by
  funext c
  by_cases hc : c = a
  · subst hc; rw [mUp_same, fx_hole h, mUp_same]
  · rw [mUp_ne hc]; unfold fx; rw [mUp_ne hc]
section
variable {G : mG} {h0 : mH} {b c ci j N : Nat} {l l' : List (Option mE)} {fs : List Value} {v : Value} {g : Nat → Int} {z x : Int}
theorem fx_mGet {K : Value → Prop} (hl : l[c]? = some (some (mO ci fs))) (hv : fs[j]? = some v) : mGet (fx h0 b l) (b + c) ci j K ↔ K v := by
  unfold mGet; rw [fx_get hl]; dsimp only [mO]; rw [hv]; exact ⟨fun q => q.2, fun q => ⟨rfl, q⟩⟩
theorem fx_mPut {K : mH → Prop} (hl : l[c]? = some (some (mO ci fs))) (hj : j < fs.length) (hb : G.2.2.2 ≤ b) (hf : mFits ci j v = true) (hl' : l.set c (some (mO ci (fs.set j v))) = l') : mPut G (fx h0 b l) (b + c) ci j v K ↔ K (fx h0 b l') := by
  unfold mPut; rw [fx_get hl]; dsimp only [mO]
  have e := fx_set (h0 := h0) (b := b) hl hl'
  rw [show (Sum.inr (Sum.inr (Sum.inr (ci, fs.set j v))) : mE) = mO ci (fs.set j v) from rfl, e]
  exact ⟨fun q => q.2, fun q => ⟨⟨rfl, hj, by omega, hf⟩, q⟩⟩
theorem fx_mRecv (hl : l[c]? = some (some (mO ci fs))) : mRecv (fx h0 b l) (b + c) ci ↔ True := by
  unfold mRecv; rw [fx_get hl]; exact ⟨fun _ => trivial, fun _ => rfl⟩
theorem fx_mLenI {f : Nat → Int32} {K : Nat → Prop} (hl : l[c]? = some (some (mI N f))) : mLen (fx h0 b l) (b + c) K ↔ K N := by
  unfold mLen; rw [fx_get hl]
theorem fx_mLenZ {f : Nat → Int32} {K : Nat → Prop} (hl : l[c]? = some (some (mZ N f))) : mLen (fx h0 b l) (b + c) K ↔ K N := by
  unfold mLen; rw [fx_get hl]
theorem iI_ix {z : Int} {N : Nat} (h1 : 0 ≤ z) (h2 : z < N) (h3 : N < 2147483648) : ¬ iI z < 0 ∧ (iI z).toNatClampNeg < N := by
  constructor
  · rw [show (0 : Int32) = iI 0 from rfl, iI_lt (by omega) (by omega) (by omega) (by omega)]; omega
  · rw [iI_nat (by omega) (by omega)]; omega
theorem fx_mLdI {K : Int32 → Prop} (hl : l[c]? = some (some (mI N (fun j => iI (g j))))) (hN : N < 2147483648) (h1 : 0 ≤ z) (h2 : z < N) : mLdI (fx h0 b l) (b + c) (iI z) K ↔ K (iI (g z.toNat)) := by
  unfold mLdI; rw [fx_get hl]; dsimp only [mI]
  have q := iI_ix h1 h2 hN
  rw [iI_nat (by omega) (by omega)] at q ⊢
  exact ⟨fun q => q.2, fun w => ⟨⟨Or.inl rfl, q.1, q.2⟩, w⟩⟩
theorem fx_mLdZ {K : Int32 → Prop} (hl : l[c]? = some (some (mZ N (fun j => iI (g j))))) (hN : N < 2147483648) (h1 : 0 ≤ z) (h2 : z < N) : mLdZ (fx h0 b l) (b + c) (iI z) K ↔ K (iI (g z.toNat)) := by
  unfold mLdZ; rw [fx_get hl]; dsimp only [mZ]
  have q := iI_ix h1 h2 hN
  rw [iI_nat (by omega) (by omega)] at q ⊢
  exact ⟨fun q => q.2, fun w => ⟨⟨rfl, q.1, q.2⟩, w⟩⟩
theorem updI_iI (g : Nat → Int) (i : Nat) (x : Int) : upd (fun j => iI (g j)) i (iI x) = fun j => iI (upE g i x j) := by
  funext j; unfold upd upE; split <;> rfl
theorem updI_at (g : Nat → Int) (i : Nat) (x : Int) (j : Nat) : updI g i x j = if j = i then x else g j := rfl
theorem upA_at (g : Nat → Nat → Int) (i : Nat) (x : Nat → Int) (j : Nat) : upA g i x j = if j = i then x else g j := rfl
theorem upP_at (g : Nat → Nat) (i x j : Nat) : upP g i x j = if j = i then x else g j := rfl
theorem upR_at (g : Nat → Option Nat) (i : Nat) (x : Option Nat) (j : Nat) : upR g i x j = if j = i then x else g j := rfl
theorem upE_same (g : Nat → Int) (i : Nat) (x : Int) : upE g i x i = x := if_pos rfl
theorem upE_ne {g : Nat → Int} {i j : Nat} {x : Int} (h : j ≠ i) : upE g i x j = g j := if_neg h
theorem fx_mStI {K : mH → Prop} (hl : l[c]? = some (some (mI N (fun j => iI (g j))))) (hN : N < 2147483648) (hb : G.2.2.2 ≤ b) (h1 : 0 ≤ z) (h2 : z < N) (hl' : l.set c (some (mI N (fun j => iI (upE g z.toNat x j)))) = l') : mStI G (fx h0 b l) (b + c) (iI z) (iI x) K ↔ K (fx h0 b l') := by
  unfold mStI; rw [fx_get hl]; dsimp only [mI]
  have q := iI_ix h1 h2 hN
  rw [iI_nat (by omega) (by omega)] at q ⊢
  rw [updI_iI]
  have e := fx_set (h0 := h0) (b := b) hl hl'
  rw [show (Sum.inl (0, N, fun j => iI (upE g z.toNat x j)) : mE) = mI N (fun j => iI (upE g z.toNat x j)) from rfl, e]
  exact ⟨fun q => q.2, fun w => ⟨⟨rfl, by omega, q.1, q.2⟩, w⟩⟩
theorem fx_mStZ {K : mH → Prop} (hl : l[c]? = some (some (mZ N (fun j => iI (g j))))) (hN : N < 2147483648) (hb : G.2.2.2 ≤ b) (h1 : 0 ≤ z) (h2 : z < N) (hx : x = 0 ∨ x = 1) (hl' : l.set c (some (mZ N (fun j => iI (upE g z.toNat x j)))) = l') : mStZ G (fx h0 b l) (b + c) (iI z) (iI x) K ↔ K (fx h0 b l') := by
  unfold mStZ; rw [fx_get hl]; dsimp only [mZ]
  have q := iI_ix h1 h2 hN
  rw [iI_nat (by omega) (by omega)] at q ⊢
  rw [updI_iI]
  have e := fx_set (h0 := h0) (b := b) hl hl'
  rw [show (Sum.inl (1, N, fun j => iI (upE g z.toNat x j)) : mE) = mZ N (fun j => iI (upE g z.toNat x j)) from rfl, e]
  exact ⟨fun q => q.2, fun w => ⟨⟨rfl, by omega, q.1, q.2, by rcases hx with rfl | rfl <;> decide⟩, w⟩⟩
end
def wL (b : Nat) (I : Nat → Int) (A : Nat → Nat → Int) (P : Nat → Nat) (R : Nat → Option Nat) (o : Nat → Int64) : List (Option mE) := [some (mO 12 [.ref (b + 1), .ref (b + 3), .ref (b + 6), .ref (b + 11), .ref (b + 16), .ref (b + 17), .ref (b + 28), .ref (b + 34), .ref (b + P 0), .ref (b + P 1), .int (iI (I 0))]),
  some (mO 7 [.ref (b + 2), .int (iI (I 1))]),
  some (mI 256 (fun j => iI (A 0 j))),
  some (mO 6 [.ref (b + 4), .int (iI (I 2)), .int (iI (I 3)), .int (iI (I 4)), .int (iI (I 5)), .int (iI (I 6))]),
  some (mO 7 [.ref (b + 5), .int (iI (I 7))]),
  some (mI 255 (fun j => iI (A 1 j))),
  some (mO 3 [.ref (b + 7), .int (iI (I 8))]),
  some (mO 0 [.int (iI (I 9)), .ref (P 2), .int (iI (I 10))]),
  none,
  none,
  none,
  some (mO 8 [.ref (b + 12), .ref (b + 14), .int (iI (I 11)), .int (iI (I 12)), .int (iI (I 13))]),
  some (mO 7 [.ref (b + 13), .int (iI (I 14))]),
  some (mI 8 (fun j => iI (A 2 j))),
  some (mO 7 [.ref (b + 15), .int (iI (I 15))]),
  some (mI 8 (fun j => iI (A 3 j))),
  some (mO 2 [.ref (b + 6), .ref (b + 11), .ref (b + 1), va_rf (R 0), va_rf (R 1), .int (iI (I 16))]),
  some (mO 5 [.ref (b + 18), .ref (b + 19), .ref (b + 26), .ref (b + 27)]),
  some (mO 0 [.int (iI (I 17)), .ref (P 3), .int (iI (I 18))]),
  none,
  none,
  none,
  none,
  none,
  none,
  none,
  some (mI 32 (fun j => iI (A 4 j))),
  some (mI 9 (fun j => iI (A 5 j))),
  some (mO 9 [.ref (b + 17), .ref (b + 29), .ref (b + 31), .ref (b + 33), .int (iI (I 19)), .int (iI (I 20)), va_rf (R 2), .int (iI (I 21)), .int (iI (I 22))]),
  some (mO 7 [.ref (b + 30), .int (iI (I 23))]),
  some (mI 255 (fun j => iI (A 6 j))),
  some (mO 7 [.ref (b + 32), .int (iI (I 24))]),
  some (mI 255 (fun j => iI (A 7 j))),
  some (mZ 9 (fun j => iI (A 8 j))),
  some (mO 11 [.ref (b + 6), .ref (b + 17), .ref (b + 28), .ref (b + 1), .ref (b + 35)]),
  some (mO 10 [.ref (b + 36), .ref (b + 37), .ref (b + 38), va_rf (R 3)]),
  some (mI 128 (fun j => iI (A 9 j))),
  some (mI 128 (fun j => iI (A 10 j))),
  some (mZ 128 (fun j => iI (A 11 j))),
  some (mO 7 [.ref (b + 40), .int (iI (I 25))]),
  some (mI 300 (fun j => iI (A 12 j))),
  some (mO 7 [.ref (b + 42), .int (iI (I 26))]),
  some (mI 300 (fun j => iI (A 13 j))),
  some (mO 13 [.int (iI (I 27)), .ref (b + 44), .int (iI (I 28)), .int (iI (I 29)), .ref (b + 45), .ref (b + 46), .ref (b + 47), .ref (b + 48), .ref (b + 49), .ref (b + 50), .ref (b + 51), .ref (b + 52), .ref (b + 53), .int (iI (I 30)), .int (iI (I 31)), .ref (b + 54), .ref (b + 55), .ref (b + 56), .ref (b + 57), .ref (b + 58), .ref (b + 59), .ref (b + 60), .ref (b + 61), .ref (b + 62), .ref (b + 63), .ref (b + 64), .ref (b + 65), .ref (b + 66), .ref (b + 67), .int (iI (I 32)), .ref (b + 68), .ref (b + 69), .ref (b + 70), .ref (b + 71), .ref (b + 72), .int (iI (I 33)), .int (iI (I 34)), .int (iI (I 35)), .int (iI (I 36)), .int (iI (I 37)), .int (iI (I 38)), .int (iI (I 39)), .int (iI (I 40)), .ref (b + 73), .int (iI (I 41)), .int (iI (I 42)), .int (iI (I 43)), .int (iI (I 44)), .int (iI (I 45)), .ref (b + 74), .int (iI (I 46)), .int (iI (I 47)), .int (iI (I 48)), .int (iI (I 49)), .int (iI (I 50)), .ref (b + 75), .ref (b + 76), .int (iI (I 51)), .int (iI (I 52)), .ref (b + 77), .int (iI (I 53))]),
  some (mI 300 (fun j => iI (A 14 j))),
  some (mI 40 (fun j => iI (A 15 j))),
  some (mI 40 (fun j => iI (A 16 j))),
  some (mI 40 (fun j => iI (A 17 j))),
  some (mI 40 (fun j => iI (A 18 j))),
  some (mI 40 (fun j => iI (A 19 j))),
  some (mI 40 (fun j => iI (A 20 j))),
  some (mI 40 (fun j => iI (A 21 j))),
  some (mI 40 (fun j => iI (A 22 j))),
  some (mI 8000 (fun j => iI (A 23 j))),
  some (mI 40 (fun j => iI (A 24 j))),
  some (mI 40 (fun j => iI (A 25 j))),
  some (mI 40 (fun j => iI (A 26 j))),
  some (mI 40 (fun j => iI (A 27 j))),
  some (mI 40 (fun j => iI (A 28 j))),
  some (mI 160 (fun j => iI (A 29 j))),
  some (mI 40 (fun j => iI (A 30 j))),
  some (mI 4000 (fun j => iI (A 31 j))),
  some (mI 41 (fun j => iI (A 32 j))),
  some (mI 205 (fun j => iI (A 33 j))),
  some (mI 205 (fun j => iI (A 34 j))),
  some (mI 205 (fun j => iI (A 35 j))),
  some (mI 4100 (fun j => iI (A 36 j))),
  some (mI 20 (fun j => iI (A 37 j))),
  some (mI 32 (fun j => iI (A 38 j))),
  some (mI 9 (fun j => iI (A 39 j))),
  some (mZ 9 (fun j => iI (A 40 j))),
  some (mI 8 (fun j => iI (A 41 j))),
  some (mI 8 (fun j => iI (A 42 j))),
  some (mI 256 (fun j => iI (A 43 j))),
  some (mI 300 (fun j => iI (A 44 j))),
  some (mI 128 (fun j => iI (A 45 j))),
  some (mI 128 (fun j => iI (A 46 j))),
  some (mI 300 (fun j => iI (A 47 j))),
  some (mJ 1 o)]
def wH (h0 : mH) (b : Nat) (I : Nat → Int) (A : Nat → Nat → Int) (P : Nat → Nat) (R : Nat → Option Nat) (o : Nat → Int64) : mH := fx h0 b (wL b I A P R o)
section
variable {G : mG} {h0 : mH} {b : Nat} {I : Nat → Int} {A : Nat → Nat → Int} {P : Nat → Nat} {R : Nat → Option Nat} {o : Nat → Int64}
theorem wc_0 : mRecv (wH h0 b I A P R o) b 12 ↔ True := fx_mRecv (c := 0) (l := wL b I A P R o) rfl
theorem wg_0_0 {K : Value → Prop} : mGet (wH h0 b I A P R o) b 12 0 K ↔ K (.ref (b + 1)) := fx_mGet (c := 0) (l := wL b I A P R o) rfl rfl
theorem wg_0_1 {K : Value → Prop} : mGet (wH h0 b I A P R o) b 12 1 K ↔ K (.ref (b + 3)) := fx_mGet (c := 0) (l := wL b I A P R o) rfl rfl
theorem wg_0_2 {K : Value → Prop} : mGet (wH h0 b I A P R o) b 12 2 K ↔ K (.ref (b + 6)) := fx_mGet (c := 0) (l := wL b I A P R o) rfl rfl
theorem wg_0_3 {K : Value → Prop} : mGet (wH h0 b I A P R o) b 12 3 K ↔ K (.ref (b + 11)) := fx_mGet (c := 0) (l := wL b I A P R o) rfl rfl
theorem wg_0_4 {K : Value → Prop} : mGet (wH h0 b I A P R o) b 12 4 K ↔ K (.ref (b + 16)) := fx_mGet (c := 0) (l := wL b I A P R o) rfl rfl
theorem wg_0_5 {K : Value → Prop} : mGet (wH h0 b I A P R o) b 12 5 K ↔ K (.ref (b + 17)) := fx_mGet (c := 0) (l := wL b I A P R o) rfl rfl
theorem wg_0_6 {K : Value → Prop} : mGet (wH h0 b I A P R o) b 12 6 K ↔ K (.ref (b + 28)) := fx_mGet (c := 0) (l := wL b I A P R o) rfl rfl
theorem wg_0_7 {K : Value → Prop} : mGet (wH h0 b I A P R o) b 12 7 K ↔ K (.ref (b + 34)) := fx_mGet (c := 0) (l := wL b I A P R o) rfl rfl
theorem wg_0_8 {K : Value → Prop} : mGet (wH h0 b I A P R o) b 12 8 K ↔ K (.ref (b + P 0)) := fx_mGet (c := 0) (l := wL b I A P R o) rfl rfl
theorem wp_0_8 {x : Nat} {K : mH → Prop} (hb : G.2.2.2 ≤ b) : mPut G (wH h0 b I A P R o) b 12 8 (.ref (b + x)) K ↔ K (wH h0 b I A (upP P 0 x) R o) := fx_mPut (c := 0) (l := wL b I A P R o) (l' := wL b I A (upP P 0 x) R o) rfl (Nat.le_of_ble_eq_true rfl) hb rfl rfl
theorem wg_0_9 {K : Value → Prop} : mGet (wH h0 b I A P R o) b 12 9 K ↔ K (.ref (b + P 1)) := fx_mGet (c := 0) (l := wL b I A P R o) rfl rfl
theorem wp_0_9 {x : Nat} {K : mH → Prop} (hb : G.2.2.2 ≤ b) : mPut G (wH h0 b I A P R o) b 12 9 (.ref (b + x)) K ↔ K (wH h0 b I A (upP P 1 x) R o) := fx_mPut (c := 0) (l := wL b I A P R o) (l' := wL b I A (upP P 1 x) R o) rfl (Nat.le_of_ble_eq_true rfl) hb rfl rfl
theorem wg_0_10 {K : Value → Prop} : mGet (wH h0 b I A P R o) b 12 10 K ↔ K (.int (iI (I 0))) := fx_mGet (c := 0) (l := wL b I A P R o) rfl rfl
theorem wp_0_10 {x : Int} {K : mH → Prop} (hb : G.2.2.2 ≤ b) : mPut G (wH h0 b I A P R o) b 12 10 (.int (iI x)) K ↔ K (wH h0 b (updI I 0 x) A P R o) := fx_mPut (c := 0) (l := wL b I A P R o) (l' := wL b (updI I 0 x) A P R o) rfl (Nat.le_of_ble_eq_true rfl) hb rfl rfl
theorem wc_1 : mRecv (wH h0 b I A P R o) (b + 1) 7 ↔ True := fx_mRecv (c := 1) (l := wL b I A P R o) rfl
theorem wg_1_0 {K : Value → Prop} : mGet (wH h0 b I A P R o) (b + 1) 7 0 K ↔ K (.ref (b + 2)) := fx_mGet (c := 1) (l := wL b I A P R o) rfl rfl
theorem wg_1_1 {K : Value → Prop} : mGet (wH h0 b I A P R o) (b + 1) 7 1 K ↔ K (.int (iI (I 1))) := fx_mGet (c := 1) (l := wL b I A P R o) rfl rfl
theorem wp_1_1 {x : Int} {K : mH → Prop} (hb : G.2.2.2 ≤ b) : mPut G (wH h0 b I A P R o) (b + 1) 7 1 (.int (iI x)) K ↔ K (wH h0 b (updI I 1 x) A P R o) := fx_mPut (c := 1) (l := wL b I A P R o) (l' := wL b (updI I 1 x) A P R o) rfl (Nat.le_of_ble_eq_true rfl) hb rfl rfl
theorem wn_2 {K : Nat → Prop} : mLen (wH h0 b I A P R o) (b + 2) K ↔ K 256 := fx_mLenI (c := 2) (l := wL b I A P R o) rfl
theorem wl_2 {z : Int} {K : Int32 → Prop} (h1 : 0 ≤ z) (h2 : z < 256) : mLdI (wH h0 b I A P R o) (b + 2) (iI z) K ↔ K (iI (A 0 z.toNat)) := fx_mLdI (c := 2) (l := wL b I A P R o) rfl (by decide) h1 h2
theorem ws_2 {z x : Int} {K : mH → Prop} (hb : G.2.2.2 ≤ b) (h1 : 0 ≤ z) (h2 : z < 256) : mStI G (wH h0 b I A P R o) (b + 2) (iI z) (iI x) K ↔ K (wH h0 b I (upA A 0 (upE (A 0) z.toNat x)) P R o) := fx_mStI (c := 2) (l := wL b I A P R o) (l' := wL b I (upA A 0 (upE (A 0) z.toNat x)) P R o) rfl (by decide) hb h1 h2 rfl
theorem wc_3 : mRecv (wH h0 b I A P R o) (b + 3) 6 ↔ True := fx_mRecv (c := 3) (l := wL b I A P R o) rfl
theorem wg_3_0 {K : Value → Prop} : mGet (wH h0 b I A P R o) (b + 3) 6 0 K ↔ K (.ref (b + 4)) := fx_mGet (c := 3) (l := wL b I A P R o) rfl rfl
theorem wg_3_1 {K : Value → Prop} : mGet (wH h0 b I A P R o) (b + 3) 6 1 K ↔ K (.int (iI (I 2))) := fx_mGet (c := 3) (l := wL b I A P R o) rfl rfl
theorem wp_3_1 {x : Int} {K : mH → Prop} (hb : G.2.2.2 ≤ b) : mPut G (wH h0 b I A P R o) (b + 3) 6 1 (.int (iI x)) K ↔ K (wH h0 b (updI I 2 x) A P R o) := fx_mPut (c := 3) (l := wL b I A P R o) (l' := wL b (updI I 2 x) A P R o) rfl (Nat.le_of_ble_eq_true rfl) hb rfl rfl
theorem wg_3_2 {K : Value → Prop} : mGet (wH h0 b I A P R o) (b + 3) 6 2 K ↔ K (.int (iI (I 3))) := fx_mGet (c := 3) (l := wL b I A P R o) rfl rfl
theorem wp_3_2 {x : Int} {K : mH → Prop} (hb : G.2.2.2 ≤ b) : mPut G (wH h0 b I A P R o) (b + 3) 6 2 (.int (iI x)) K ↔ K (wH h0 b (updI I 3 x) A P R o) := fx_mPut (c := 3) (l := wL b I A P R o) (l' := wL b (updI I 3 x) A P R o) rfl (Nat.le_of_ble_eq_true rfl) hb rfl rfl
theorem wg_3_3 {K : Value → Prop} : mGet (wH h0 b I A P R o) (b + 3) 6 3 K ↔ K (.int (iI (I 4))) := fx_mGet (c := 3) (l := wL b I A P R o) rfl rfl
theorem wp_3_3 {x : Int} {K : mH → Prop} (hb : G.2.2.2 ≤ b) : mPut G (wH h0 b I A P R o) (b + 3) 6 3 (.int (iI x)) K ↔ K (wH h0 b (updI I 4 x) A P R o) := fx_mPut (c := 3) (l := wL b I A P R o) (l' := wL b (updI I 4 x) A P R o) rfl (Nat.le_of_ble_eq_true rfl) hb rfl rfl
theorem wg_3_4 {K : Value → Prop} : mGet (wH h0 b I A P R o) (b + 3) 6 4 K ↔ K (.int (iI (I 5))) := fx_mGet (c := 3) (l := wL b I A P R o) rfl rfl
theorem wp_3_4 {x : Int} {K : mH → Prop} (hb : G.2.2.2 ≤ b) : mPut G (wH h0 b I A P R o) (b + 3) 6 4 (.int (iI x)) K ↔ K (wH h0 b (updI I 5 x) A P R o) := fx_mPut (c := 3) (l := wL b I A P R o) (l' := wL b (updI I 5 x) A P R o) rfl (Nat.le_of_ble_eq_true rfl) hb rfl rfl
theorem wg_3_5 {K : Value → Prop} : mGet (wH h0 b I A P R o) (b + 3) 6 5 K ↔ K (.int (iI (I 6))) := fx_mGet (c := 3) (l := wL b I A P R o) rfl rfl
theorem wp_3_5 {x : Int} {K : mH → Prop} (hb : G.2.2.2 ≤ b) : mPut G (wH h0 b I A P R o) (b + 3) 6 5 (.int (iI x)) K ↔ K (wH h0 b (updI I 6 x) A P R o) := fx_mPut (c := 3) (l := wL b I A P R o) (l' := wL b (updI I 6 x) A P R o) rfl (Nat.le_of_ble_eq_true rfl) hb rfl rfl
theorem wc_4 : mRecv (wH h0 b I A P R o) (b + 4) 7 ↔ True := fx_mRecv (c := 4) (l := wL b I A P R o) rfl
theorem wg_4_0 {K : Value → Prop} : mGet (wH h0 b I A P R o) (b + 4) 7 0 K ↔ K (.ref (b + 5)) := fx_mGet (c := 4) (l := wL b I A P R o) rfl rfl
theorem wg_4_1 {K : Value → Prop} : mGet (wH h0 b I A P R o) (b + 4) 7 1 K ↔ K (.int (iI (I 7))) := fx_mGet (c := 4) (l := wL b I A P R o) rfl rfl
theorem wp_4_1 {x : Int} {K : mH → Prop} (hb : G.2.2.2 ≤ b) : mPut G (wH h0 b I A P R o) (b + 4) 7 1 (.int (iI x)) K ↔ K (wH h0 b (updI I 7 x) A P R o) := fx_mPut (c := 4) (l := wL b I A P R o) (l' := wL b (updI I 7 x) A P R o) rfl (Nat.le_of_ble_eq_true rfl) hb rfl rfl
theorem wn_5 {K : Nat → Prop} : mLen (wH h0 b I A P R o) (b + 5) K ↔ K 255 := fx_mLenI (c := 5) (l := wL b I A P R o) rfl
theorem wl_5 {z : Int} {K : Int32 → Prop} (h1 : 0 ≤ z) (h2 : z < 255) : mLdI (wH h0 b I A P R o) (b + 5) (iI z) K ↔ K (iI (A 1 z.toNat)) := fx_mLdI (c := 5) (l := wL b I A P R o) rfl (by decide) h1 h2
theorem ws_5 {z x : Int} {K : mH → Prop} (hb : G.2.2.2 ≤ b) (h1 : 0 ≤ z) (h2 : z < 255) : mStI G (wH h0 b I A P R o) (b + 5) (iI z) (iI x) K ↔ K (wH h0 b I (upA A 1 (upE (A 1) z.toNat x)) P R o) := fx_mStI (c := 5) (l := wL b I A P R o) (l' := wL b I (upA A 1 (upE (A 1) z.toNat x)) P R o) rfl (by decide) hb h1 h2 rfl
theorem wc_6 : mRecv (wH h0 b I A P R o) (b + 6) 3 ↔ True := fx_mRecv (c := 6) (l := wL b I A P R o) rfl
theorem wg_6_0 {K : Value → Prop} : mGet (wH h0 b I A P R o) (b + 6) 3 0 K ↔ K (.ref (b + 7)) := fx_mGet (c := 6) (l := wL b I A P R o) rfl rfl
theorem wg_6_1 {K : Value → Prop} : mGet (wH h0 b I A P R o) (b + 6) 3 1 K ↔ K (.int (iI (I 8))) := fx_mGet (c := 6) (l := wL b I A P R o) rfl rfl
theorem wp_6_1 {x : Int} {K : mH → Prop} (hb : G.2.2.2 ≤ b) : mPut G (wH h0 b I A P R o) (b + 6) 3 1 (.int (iI x)) K ↔ K (wH h0 b (updI I 8 x) A P R o) := fx_mPut (c := 6) (l := wL b I A P R o) (l' := wL b (updI I 8 x) A P R o) rfl (Nat.le_of_ble_eq_true rfl) hb rfl rfl
theorem wc_7 : mRecv (wH h0 b I A P R o) (b + 7) 0 ↔ True := fx_mRecv (c := 7) (l := wL b I A P R o) rfl
theorem wg_7_0 {K : Value → Prop} : mGet (wH h0 b I A P R o) (b + 7) 0 0 K ↔ K (.int (iI (I 9))) := fx_mGet (c := 7) (l := wL b I A P R o) rfl rfl
theorem wp_7_0 {x : Int} {K : mH → Prop} (hb : G.2.2.2 ≤ b) : mPut G (wH h0 b I A P R o) (b + 7) 0 0 (.int (iI x)) K ↔ K (wH h0 b (updI I 9 x) A P R o) := fx_mPut (c := 7) (l := wL b I A P R o) (l' := wL b (updI I 9 x) A P R o) rfl (Nat.le_of_ble_eq_true rfl) hb rfl rfl
theorem wg_7_1 {K : Value → Prop} : mGet (wH h0 b I A P R o) (b + 7) 0 1 K ↔ K (.ref (P 2)) := fx_mGet (c := 7) (l := wL b I A P R o) rfl rfl
theorem wp_7_1 {x : Nat} {K : mH → Prop} (hb : G.2.2.2 ≤ b) : mPut G (wH h0 b I A P R o) (b + 7) 0 1 (.ref x) K ↔ K (wH h0 b I A (upP P 2 x) R o) := fx_mPut (c := 7) (l := wL b I A P R o) (l' := wL b I A (upP P 2 x) R o) rfl (Nat.le_of_ble_eq_true rfl) hb rfl rfl
theorem wg_7_2 {K : Value → Prop} : mGet (wH h0 b I A P R o) (b + 7) 0 2 K ↔ K (.int (iI (I 10))) := fx_mGet (c := 7) (l := wL b I A P R o) rfl rfl
theorem wp_7_2 {x : Int} {K : mH → Prop} (hb : G.2.2.2 ≤ b) : mPut G (wH h0 b I A P R o) (b + 7) 0 2 (.int (iI x)) K ↔ K (wH h0 b (updI I 10 x) A P R o) := fx_mPut (c := 7) (l := wL b I A P R o) (l' := wL b (updI I 10 x) A P R o) rfl (Nat.le_of_ble_eq_true rfl) hb rfl rfl
theorem wc_11 : mRecv (wH h0 b I A P R o) (b + 11) 8 ↔ True := fx_mRecv (c := 11) (l := wL b I A P R o) rfl
theorem wg_11_0 {K : Value → Prop} : mGet (wH h0 b I A P R o) (b + 11) 8 0 K ↔ K (.ref (b + 12)) := fx_mGet (c := 11) (l := wL b I A P R o) rfl rfl
theorem wg_11_1 {K : Value → Prop} : mGet (wH h0 b I A P R o) (b + 11) 8 1 K ↔ K (.ref (b + 14)) := fx_mGet (c := 11) (l := wL b I A P R o) rfl rfl
theorem wg_11_2 {K : Value → Prop} : mGet (wH h0 b I A P R o) (b + 11) 8 2 K ↔ K (.int (iI (I 11))) := fx_mGet (c := 11) (l := wL b I A P R o) rfl rfl
theorem wp_11_2 {x : Int} {K : mH → Prop} (hb : G.2.2.2 ≤ b) : mPut G (wH h0 b I A P R o) (b + 11) 8 2 (.int (iI x)) K ↔ K (wH h0 b (updI I 11 x) A P R o) := fx_mPut (c := 11) (l := wL b I A P R o) (l' := wL b (updI I 11 x) A P R o) rfl (Nat.le_of_ble_eq_true rfl) hb rfl rfl
theorem wg_11_3 {K : Value → Prop} : mGet (wH h0 b I A P R o) (b + 11) 8 3 K ↔ K (.int (iI (I 12))) := fx_mGet (c := 11) (l := wL b I A P R o) rfl rfl
theorem wp_11_3 {x : Int} {K : mH → Prop} (hb : G.2.2.2 ≤ b) : mPut G (wH h0 b I A P R o) (b + 11) 8 3 (.int (iI x)) K ↔ K (wH h0 b (updI I 12 x) A P R o) := fx_mPut (c := 11) (l := wL b I A P R o) (l' := wL b (updI I 12 x) A P R o) rfl (Nat.le_of_ble_eq_true rfl) hb rfl rfl
theorem wg_11_4 {K : Value → Prop} : mGet (wH h0 b I A P R o) (b + 11) 8 4 K ↔ K (.int (iI (I 13))) := fx_mGet (c := 11) (l := wL b I A P R o) rfl rfl
theorem wp_11_4 {x : Int} {K : mH → Prop} (hb : G.2.2.2 ≤ b) (hx : x = 0 ∨ x = 1) : mPut G (wH h0 b I A P R o) (b + 11) 8 4 (.int (iI x)) K ↔ K (wH h0 b (updI I 13 x) A P R o) := fx_mPut (c := 11) (l := wL b I A P R o) (l' := wL b (updI I 13 x) A P R o) rfl (Nat.le_of_ble_eq_true rfl) hb (by rcases hx with rfl | rfl <;> decide +kernel) rfl
theorem wc_12 : mRecv (wH h0 b I A P R o) (b + 12) 7 ↔ True := fx_mRecv (c := 12) (l := wL b I A P R o) rfl
theorem wg_12_0 {K : Value → Prop} : mGet (wH h0 b I A P R o) (b + 12) 7 0 K ↔ K (.ref (b + 13)) := fx_mGet (c := 12) (l := wL b I A P R o) rfl rfl
theorem wg_12_1 {K : Value → Prop} : mGet (wH h0 b I A P R o) (b + 12) 7 1 K ↔ K (.int (iI (I 14))) := fx_mGet (c := 12) (l := wL b I A P R o) rfl rfl
theorem wp_12_1 {x : Int} {K : mH → Prop} (hb : G.2.2.2 ≤ b) : mPut G (wH h0 b I A P R o) (b + 12) 7 1 (.int (iI x)) K ↔ K (wH h0 b (updI I 14 x) A P R o) := fx_mPut (c := 12) (l := wL b I A P R o) (l' := wL b (updI I 14 x) A P R o) rfl (Nat.le_of_ble_eq_true rfl) hb rfl rfl
theorem wn_13 {K : Nat → Prop} : mLen (wH h0 b I A P R o) (b + 13) K ↔ K 8 := fx_mLenI (c := 13) (l := wL b I A P R o) rfl
theorem wl_13 {z : Int} {K : Int32 → Prop} (h1 : 0 ≤ z) (h2 : z < 8) : mLdI (wH h0 b I A P R o) (b + 13) (iI z) K ↔ K (iI (A 2 z.toNat)) := fx_mLdI (c := 13) (l := wL b I A P R o) rfl (by decide) h1 h2
theorem ws_13 {z x : Int} {K : mH → Prop} (hb : G.2.2.2 ≤ b) (h1 : 0 ≤ z) (h2 : z < 8) : mStI G (wH h0 b I A P R o) (b + 13) (iI z) (iI x) K ↔ K (wH h0 b I (upA A 2 (upE (A 2) z.toNat x)) P R o) := fx_mStI (c := 13) (l := wL b I A P R o) (l' := wL b I (upA A 2 (upE (A 2) z.toNat x)) P R o) rfl (by decide) hb h1 h2 rfl
theorem wc_14 : mRecv (wH h0 b I A P R o) (b + 14) 7 ↔ True := fx_mRecv (c := 14) (l := wL b I A P R o) rfl
theorem wg_14_0 {K : Value → Prop} : mGet (wH h0 b I A P R o) (b + 14) 7 0 K ↔ K (.ref (b + 15)) := fx_mGet (c := 14) (l := wL b I A P R o) rfl rfl
theorem wg_14_1 {K : Value → Prop} : mGet (wH h0 b I A P R o) (b + 14) 7 1 K ↔ K (.int (iI (I 15))) := fx_mGet (c := 14) (l := wL b I A P R o) rfl rfl
theorem wp_14_1 {x : Int} {K : mH → Prop} (hb : G.2.2.2 ≤ b) : mPut G (wH h0 b I A P R o) (b + 14) 7 1 (.int (iI x)) K ↔ K (wH h0 b (updI I 15 x) A P R o) := fx_mPut (c := 14) (l := wL b I A P R o) (l' := wL b (updI I 15 x) A P R o) rfl (Nat.le_of_ble_eq_true rfl) hb rfl rfl
theorem wn_15 {K : Nat → Prop} : mLen (wH h0 b I A P R o) (b + 15) K ↔ K 8 := fx_mLenI (c := 15) (l := wL b I A P R o) rfl
theorem wl_15 {z : Int} {K : Int32 → Prop} (h1 : 0 ≤ z) (h2 : z < 8) : mLdI (wH h0 b I A P R o) (b + 15) (iI z) K ↔ K (iI (A 3 z.toNat)) := fx_mLdI (c := 15) (l := wL b I A P R o) rfl (by decide) h1 h2
theorem ws_15 {z x : Int} {K : mH → Prop} (hb : G.2.2.2 ≤ b) (h1 : 0 ≤ z) (h2 : z < 8) : mStI G (wH h0 b I A P R o) (b + 15) (iI z) (iI x) K ↔ K (wH h0 b I (upA A 3 (upE (A 3) z.toNat x)) P R o) := fx_mStI (c := 15) (l := wL b I A P R o) (l' := wL b I (upA A 3 (upE (A 3) z.toNat x)) P R o) rfl (by decide) hb h1 h2 rfl
theorem wc_16 : mRecv (wH h0 b I A P R o) (b + 16) 2 ↔ True := fx_mRecv (c := 16) (l := wL b I A P R o) rfl
theorem wg_16_0 {K : Value → Prop} : mGet (wH h0 b I A P R o) (b + 16) 2 0 K ↔ K (.ref (b + 6)) := fx_mGet (c := 16) (l := wL b I A P R o) rfl rfl
theorem wg_16_1 {K : Value → Prop} : mGet (wH h0 b I A P R o) (b + 16) 2 1 K ↔ K (.ref (b + 11)) := fx_mGet (c := 16) (l := wL b I A P R o) rfl rfl
theorem wg_16_2 {K : Value → Prop} : mGet (wH h0 b I A P R o) (b + 16) 2 2 K ↔ K (.ref (b + 1)) := fx_mGet (c := 16) (l := wL b I A P R o) rfl rfl
theorem wg_16_3 {K : Value → Prop} : mGet (wH h0 b I A P R o) (b + 16) 2 3 K ↔ K (va_rf (R 0)) := fx_mGet (c := 16) (l := wL b I A P R o) rfl rfl
theorem wp_16_3 {x : Option Nat} {K : mH → Prop} (hb : G.2.2.2 ≤ b) : mPut G (wH h0 b I A P R o) (b + 16) 2 3 (va_rf x) K ↔ K (wH h0 b I A P (upR R 0 x) o) := fx_mPut (c := 16) (l := wL b I A P R o) (l' := wL b I A P (upR R 0 x) o) rfl (Nat.le_of_ble_eq_true rfl) hb (by cases x <;> rfl) rfl
theorem wp_16_3n {K : mH → Prop} (hb : G.2.2.2 ≤ b) : mPut G (wH h0 b I A P R o) (b + 16) 2 3 (.null) K ↔ K (wH h0 b I A P (upR R 0 (none)) o) := fx_mPut (c := 16) (l := wL b I A P R o) (l' := wL b I A P (upR R 0 (none)) o) rfl (Nat.le_of_ble_eq_true rfl) hb rfl rfl
theorem wp_16_3s {x : Nat} {K : mH → Prop} (hb : G.2.2.2 ≤ b) : mPut G (wH h0 b I A P R o) (b + 16) 2 3 (.ref x) K ↔ K (wH h0 b I A P (upR R 0 (some x)) o) := fx_mPut (c := 16) (l := wL b I A P R o) (l' := wL b I A P (upR R 0 (some x)) o) rfl (Nat.le_of_ble_eq_true rfl) hb rfl rfl
theorem wg_16_4 {K : Value → Prop} : mGet (wH h0 b I A P R o) (b + 16) 2 4 K ↔ K (va_rf (R 1)) := fx_mGet (c := 16) (l := wL b I A P R o) rfl rfl
theorem wp_16_4 {x : Option Nat} {K : mH → Prop} (hb : G.2.2.2 ≤ b) : mPut G (wH h0 b I A P R o) (b + 16) 2 4 (va_rf x) K ↔ K (wH h0 b I A P (upR R 1 x) o) := fx_mPut (c := 16) (l := wL b I A P R o) (l' := wL b I A P (upR R 1 x) o) rfl (Nat.le_of_ble_eq_true rfl) hb (by cases x <;> rfl) rfl
theorem wp_16_4n {K : mH → Prop} (hb : G.2.2.2 ≤ b) : mPut G (wH h0 b I A P R o) (b + 16) 2 4 (.null) K ↔ K (wH h0 b I A P (upR R 1 (none)) o) := fx_mPut (c := 16) (l := wL b I A P R o) (l' := wL b I A P (upR R 1 (none)) o) rfl (Nat.le_of_ble_eq_true rfl) hb rfl rfl
theorem wp_16_4s {x : Nat} {K : mH → Prop} (hb : G.2.2.2 ≤ b) : mPut G (wH h0 b I A P R o) (b + 16) 2 4 (.ref x) K ↔ K (wH h0 b I A P (upR R 1 (some x)) o) := fx_mPut (c := 16) (l := wL b I A P R o) (l' := wL b I A P (upR R 1 (some x)) o) rfl (Nat.le_of_ble_eq_true rfl) hb rfl rfl
theorem wg_16_5 {K : Value → Prop} : mGet (wH h0 b I A P R o) (b + 16) 2 5 K ↔ K (.int (iI (I 16))) := fx_mGet (c := 16) (l := wL b I A P R o) rfl rfl
theorem wp_16_5 {x : Int} {K : mH → Prop} (hb : G.2.2.2 ≤ b) : mPut G (wH h0 b I A P R o) (b + 16) 2 5 (.int (iI x)) K ↔ K (wH h0 b (updI I 16 x) A P R o) := fx_mPut (c := 16) (l := wL b I A P R o) (l' := wL b (updI I 16 x) A P R o) rfl (Nat.le_of_ble_eq_true rfl) hb rfl rfl
theorem wc_17 : mRecv (wH h0 b I A P R o) (b + 17) 5 ↔ True := fx_mRecv (c := 17) (l := wL b I A P R o) rfl
theorem wg_17_0 {K : Value → Prop} : mGet (wH h0 b I A P R o) (b + 17) 5 0 K ↔ K (.ref (b + 18)) := fx_mGet (c := 17) (l := wL b I A P R o) rfl rfl
theorem wg_17_1 {K : Value → Prop} : mGet (wH h0 b I A P R o) (b + 17) 5 1 K ↔ K (.ref (b + 19)) := fx_mGet (c := 17) (l := wL b I A P R o) rfl rfl
theorem wg_17_2 {K : Value → Prop} : mGet (wH h0 b I A P R o) (b + 17) 5 2 K ↔ K (.ref (b + 26)) := fx_mGet (c := 17) (l := wL b I A P R o) rfl rfl
theorem wg_17_3 {K : Value → Prop} : mGet (wH h0 b I A P R o) (b + 17) 5 3 K ↔ K (.ref (b + 27)) := fx_mGet (c := 17) (l := wL b I A P R o) rfl rfl
theorem wc_18 : mRecv (wH h0 b I A P R o) (b + 18) 0 ↔ True := fx_mRecv (c := 18) (l := wL b I A P R o) rfl
theorem wg_18_0 {K : Value → Prop} : mGet (wH h0 b I A P R o) (b + 18) 0 0 K ↔ K (.int (iI (I 17))) := fx_mGet (c := 18) (l := wL b I A P R o) rfl rfl
theorem wp_18_0 {x : Int} {K : mH → Prop} (hb : G.2.2.2 ≤ b) : mPut G (wH h0 b I A P R o) (b + 18) 0 0 (.int (iI x)) K ↔ K (wH h0 b (updI I 17 x) A P R o) := fx_mPut (c := 18) (l := wL b I A P R o) (l' := wL b (updI I 17 x) A P R o) rfl (Nat.le_of_ble_eq_true rfl) hb rfl rfl
theorem wg_18_1 {K : Value → Prop} : mGet (wH h0 b I A P R o) (b + 18) 0 1 K ↔ K (.ref (P 3)) := fx_mGet (c := 18) (l := wL b I A P R o) rfl rfl
theorem wp_18_1 {x : Nat} {K : mH → Prop} (hb : G.2.2.2 ≤ b) : mPut G (wH h0 b I A P R o) (b + 18) 0 1 (.ref x) K ↔ K (wH h0 b I A (upP P 3 x) R o) := fx_mPut (c := 18) (l := wL b I A P R o) (l' := wL b I A (upP P 3 x) R o) rfl (Nat.le_of_ble_eq_true rfl) hb rfl rfl
theorem wg_18_2 {K : Value → Prop} : mGet (wH h0 b I A P R o) (b + 18) 0 2 K ↔ K (.int (iI (I 18))) := fx_mGet (c := 18) (l := wL b I A P R o) rfl rfl
theorem wp_18_2 {x : Int} {K : mH → Prop} (hb : G.2.2.2 ≤ b) : mPut G (wH h0 b I A P R o) (b + 18) 0 2 (.int (iI x)) K ↔ K (wH h0 b (updI I 18 x) A P R o) := fx_mPut (c := 18) (l := wL b I A P R o) (l' := wL b (updI I 18 x) A P R o) rfl (Nat.le_of_ble_eq_true rfl) hb rfl rfl
theorem wn_26 {K : Nat → Prop} : mLen (wH h0 b I A P R o) (b + 26) K ↔ K 32 := fx_mLenI (c := 26) (l := wL b I A P R o) rfl
theorem wl_26 {z : Int} {K : Int32 → Prop} (h1 : 0 ≤ z) (h2 : z < 32) : mLdI (wH h0 b I A P R o) (b + 26) (iI z) K ↔ K (iI (A 4 z.toNat)) := fx_mLdI (c := 26) (l := wL b I A P R o) rfl (by decide) h1 h2
theorem ws_26 {z x : Int} {K : mH → Prop} (hb : G.2.2.2 ≤ b) (h1 : 0 ≤ z) (h2 : z < 32) : mStI G (wH h0 b I A P R o) (b + 26) (iI z) (iI x) K ↔ K (wH h0 b I (upA A 4 (upE (A 4) z.toNat x)) P R o) := fx_mStI (c := 26) (l := wL b I A P R o) (l' := wL b I (upA A 4 (upE (A 4) z.toNat x)) P R o) rfl (by decide) hb h1 h2 rfl
theorem wn_27 {K : Nat → Prop} : mLen (wH h0 b I A P R o) (b + 27) K ↔ K 9 := fx_mLenI (c := 27) (l := wL b I A P R o) rfl
theorem wl_27 {z : Int} {K : Int32 → Prop} (h1 : 0 ≤ z) (h2 : z < 9) : mLdI (wH h0 b I A P R o) (b + 27) (iI z) K ↔ K (iI (A 5 z.toNat)) := fx_mLdI (c := 27) (l := wL b I A P R o) rfl (by decide) h1 h2
theorem ws_27 {z x : Int} {K : mH → Prop} (hb : G.2.2.2 ≤ b) (h1 : 0 ≤ z) (h2 : z < 9) : mStI G (wH h0 b I A P R o) (b + 27) (iI z) (iI x) K ↔ K (wH h0 b I (upA A 5 (upE (A 5) z.toNat x)) P R o) := fx_mStI (c := 27) (l := wL b I A P R o) (l' := wL b I (upA A 5 (upE (A 5) z.toNat x)) P R o) rfl (by decide) hb h1 h2 rfl
theorem wc_28 : mRecv (wH h0 b I A P R o) (b + 28) 9 ↔ True := fx_mRecv (c := 28) (l := wL b I A P R o) rfl
theorem wg_28_0 {K : Value → Prop} : mGet (wH h0 b I A P R o) (b + 28) 9 0 K ↔ K (.ref (b + 17)) := fx_mGet (c := 28) (l := wL b I A P R o) rfl rfl
theorem wg_28_1 {K : Value → Prop} : mGet (wH h0 b I A P R o) (b + 28) 9 1 K ↔ K (.ref (b + 29)) := fx_mGet (c := 28) (l := wL b I A P R o) rfl rfl
theorem wg_28_2 {K : Value → Prop} : mGet (wH h0 b I A P R o) (b + 28) 9 2 K ↔ K (.ref (b + 31)) := fx_mGet (c := 28) (l := wL b I A P R o) rfl rfl
theorem wg_28_3 {K : Value → Prop} : mGet (wH h0 b I A P R o) (b + 28) 9 3 K ↔ K (.ref (b + 33)) := fx_mGet (c := 28) (l := wL b I A P R o) rfl rfl
theorem wg_28_4 {K : Value → Prop} : mGet (wH h0 b I A P R o) (b + 28) 9 4 K ↔ K (.int (iI (I 19))) := fx_mGet (c := 28) (l := wL b I A P R o) rfl rfl
theorem wp_28_4 {x : Int} {K : mH → Prop} (hb : G.2.2.2 ≤ b) (hx : x = 0 ∨ x = 1) : mPut G (wH h0 b I A P R o) (b + 28) 9 4 (.int (iI x)) K ↔ K (wH h0 b (updI I 19 x) A P R o) := fx_mPut (c := 28) (l := wL b I A P R o) (l' := wL b (updI I 19 x) A P R o) rfl (Nat.le_of_ble_eq_true rfl) hb (by rcases hx with rfl | rfl <;> decide +kernel) rfl
theorem wg_28_5 {K : Value → Prop} : mGet (wH h0 b I A P R o) (b + 28) 9 5 K ↔ K (.int (iI (I 20))) := fx_mGet (c := 28) (l := wL b I A P R o) rfl rfl
theorem wp_28_5 {x : Int} {K : mH → Prop} (hb : G.2.2.2 ≤ b) : mPut G (wH h0 b I A P R o) (b + 28) 9 5 (.int (iI x)) K ↔ K (wH h0 b (updI I 20 x) A P R o) := fx_mPut (c := 28) (l := wL b I A P R o) (l' := wL b (updI I 20 x) A P R o) rfl (Nat.le_of_ble_eq_true rfl) hb rfl rfl
theorem wg_28_6 {K : Value → Prop} : mGet (wH h0 b I A P R o) (b + 28) 9 6 K ↔ K (va_rf (R 2)) := fx_mGet (c := 28) (l := wL b I A P R o) rfl rfl
theorem wp_28_6 {x : Option Nat} {K : mH → Prop} (hb : G.2.2.2 ≤ b) : mPut G (wH h0 b I A P R o) (b + 28) 9 6 (va_rf x) K ↔ K (wH h0 b I A P (upR R 2 x) o) := fx_mPut (c := 28) (l := wL b I A P R o) (l' := wL b I A P (upR R 2 x) o) rfl (Nat.le_of_ble_eq_true rfl) hb (by cases x <;> rfl) rfl
theorem wp_28_6n {K : mH → Prop} (hb : G.2.2.2 ≤ b) : mPut G (wH h0 b I A P R o) (b + 28) 9 6 (.null) K ↔ K (wH h0 b I A P (upR R 2 (none)) o) := fx_mPut (c := 28) (l := wL b I A P R o) (l' := wL b I A P (upR R 2 (none)) o) rfl (Nat.le_of_ble_eq_true rfl) hb rfl rfl
theorem wp_28_6s {x : Nat} {K : mH → Prop} (hb : G.2.2.2 ≤ b) : mPut G (wH h0 b I A P R o) (b + 28) 9 6 (.ref x) K ↔ K (wH h0 b I A P (upR R 2 (some x)) o) := fx_mPut (c := 28) (l := wL b I A P R o) (l' := wL b I A P (upR R 2 (some x)) o) rfl (Nat.le_of_ble_eq_true rfl) hb rfl rfl
theorem wg_28_7 {K : Value → Prop} : mGet (wH h0 b I A P R o) (b + 28) 9 7 K ↔ K (.int (iI (I 21))) := fx_mGet (c := 28) (l := wL b I A P R o) rfl rfl
theorem wp_28_7 {x : Int} {K : mH → Prop} (hb : G.2.2.2 ≤ b) : mPut G (wH h0 b I A P R o) (b + 28) 9 7 (.int (iI x)) K ↔ K (wH h0 b (updI I 21 x) A P R o) := fx_mPut (c := 28) (l := wL b I A P R o) (l' := wL b (updI I 21 x) A P R o) rfl (Nat.le_of_ble_eq_true rfl) hb rfl rfl
theorem wg_28_8 {K : Value → Prop} : mGet (wH h0 b I A P R o) (b + 28) 9 8 K ↔ K (.int (iI (I 22))) := fx_mGet (c := 28) (l := wL b I A P R o) rfl rfl
theorem wp_28_8 {x : Int} {K : mH → Prop} (hb : G.2.2.2 ≤ b) : mPut G (wH h0 b I A P R o) (b + 28) 9 8 (.int (iI x)) K ↔ K (wH h0 b (updI I 22 x) A P R o) := fx_mPut (c := 28) (l := wL b I A P R o) (l' := wL b (updI I 22 x) A P R o) rfl (Nat.le_of_ble_eq_true rfl) hb rfl rfl
theorem wc_29 : mRecv (wH h0 b I A P R o) (b + 29) 7 ↔ True := fx_mRecv (c := 29) (l := wL b I A P R o) rfl
theorem wg_29_0 {K : Value → Prop} : mGet (wH h0 b I A P R o) (b + 29) 7 0 K ↔ K (.ref (b + 30)) := fx_mGet (c := 29) (l := wL b I A P R o) rfl rfl
theorem wg_29_1 {K : Value → Prop} : mGet (wH h0 b I A P R o) (b + 29) 7 1 K ↔ K (.int (iI (I 23))) := fx_mGet (c := 29) (l := wL b I A P R o) rfl rfl
theorem wp_29_1 {x : Int} {K : mH → Prop} (hb : G.2.2.2 ≤ b) : mPut G (wH h0 b I A P R o) (b + 29) 7 1 (.int (iI x)) K ↔ K (wH h0 b (updI I 23 x) A P R o) := fx_mPut (c := 29) (l := wL b I A P R o) (l' := wL b (updI I 23 x) A P R o) rfl (Nat.le_of_ble_eq_true rfl) hb rfl rfl
theorem wn_30 {K : Nat → Prop} : mLen (wH h0 b I A P R o) (b + 30) K ↔ K 255 := fx_mLenI (c := 30) (l := wL b I A P R o) rfl
theorem wl_30 {z : Int} {K : Int32 → Prop} (h1 : 0 ≤ z) (h2 : z < 255) : mLdI (wH h0 b I A P R o) (b + 30) (iI z) K ↔ K (iI (A 6 z.toNat)) := fx_mLdI (c := 30) (l := wL b I A P R o) rfl (by decide) h1 h2
theorem ws_30 {z x : Int} {K : mH → Prop} (hb : G.2.2.2 ≤ b) (h1 : 0 ≤ z) (h2 : z < 255) : mStI G (wH h0 b I A P R o) (b + 30) (iI z) (iI x) K ↔ K (wH h0 b I (upA A 6 (upE (A 6) z.toNat x)) P R o) := fx_mStI (c := 30) (l := wL b I A P R o) (l' := wL b I (upA A 6 (upE (A 6) z.toNat x)) P R o) rfl (by decide) hb h1 h2 rfl
theorem wc_31 : mRecv (wH h0 b I A P R o) (b + 31) 7 ↔ True := fx_mRecv (c := 31) (l := wL b I A P R o) rfl
theorem wg_31_0 {K : Value → Prop} : mGet (wH h0 b I A P R o) (b + 31) 7 0 K ↔ K (.ref (b + 32)) := fx_mGet (c := 31) (l := wL b I A P R o) rfl rfl
theorem wg_31_1 {K : Value → Prop} : mGet (wH h0 b I A P R o) (b + 31) 7 1 K ↔ K (.int (iI (I 24))) := fx_mGet (c := 31) (l := wL b I A P R o) rfl rfl
theorem wp_31_1 {x : Int} {K : mH → Prop} (hb : G.2.2.2 ≤ b) : mPut G (wH h0 b I A P R o) (b + 31) 7 1 (.int (iI x)) K ↔ K (wH h0 b (updI I 24 x) A P R o) := fx_mPut (c := 31) (l := wL b I A P R o) (l' := wL b (updI I 24 x) A P R o) rfl (Nat.le_of_ble_eq_true rfl) hb rfl rfl
theorem wn_32 {K : Nat → Prop} : mLen (wH h0 b I A P R o) (b + 32) K ↔ K 255 := fx_mLenI (c := 32) (l := wL b I A P R o) rfl
theorem wl_32 {z : Int} {K : Int32 → Prop} (h1 : 0 ≤ z) (h2 : z < 255) : mLdI (wH h0 b I A P R o) (b + 32) (iI z) K ↔ K (iI (A 7 z.toNat)) := fx_mLdI (c := 32) (l := wL b I A P R o) rfl (by decide) h1 h2
theorem ws_32 {z x : Int} {K : mH → Prop} (hb : G.2.2.2 ≤ b) (h1 : 0 ≤ z) (h2 : z < 255) : mStI G (wH h0 b I A P R o) (b + 32) (iI z) (iI x) K ↔ K (wH h0 b I (upA A 7 (upE (A 7) z.toNat x)) P R o) := fx_mStI (c := 32) (l := wL b I A P R o) (l' := wL b I (upA A 7 (upE (A 7) z.toNat x)) P R o) rfl (by decide) hb h1 h2 rfl
theorem wn_33 {K : Nat → Prop} : mLen (wH h0 b I A P R o) (b + 33) K ↔ K 9 := fx_mLenZ (c := 33) (l := wL b I A P R o) rfl
theorem wl_33 {z : Int} {K : Int32 → Prop} (h1 : 0 ≤ z) (h2 : z < 9) : mLdZ (wH h0 b I A P R o) (b + 33) (iI z) K ↔ K (iI (A 8 z.toNat)) := fx_mLdZ (c := 33) (l := wL b I A P R o) rfl (by decide) h1 h2
theorem ws_33 {z x : Int} {K : mH → Prop} (hb : G.2.2.2 ≤ b) (h1 : 0 ≤ z) (h2 : z < 9) (hx : x = 0 ∨ x = 1) : mStZ G (wH h0 b I A P R o) (b + 33) (iI z) (iI x) K ↔ K (wH h0 b I (upA A 8 (upE (A 8) z.toNat x)) P R o) := fx_mStZ (c := 33) (l := wL b I A P R o) (l' := wL b I (upA A 8 (upE (A 8) z.toNat x)) P R o) rfl (by decide) hb h1 h2 hx rfl
theorem wc_34 : mRecv (wH h0 b I A P R o) (b + 34) 11 ↔ True := fx_mRecv (c := 34) (l := wL b I A P R o) rfl
theorem wg_34_0 {K : Value → Prop} : mGet (wH h0 b I A P R o) (b + 34) 11 0 K ↔ K (.ref (b + 6)) := fx_mGet (c := 34) (l := wL b I A P R o) rfl rfl
theorem wg_34_1 {K : Value → Prop} : mGet (wH h0 b I A P R o) (b + 34) 11 1 K ↔ K (.ref (b + 17)) := fx_mGet (c := 34) (l := wL b I A P R o) rfl rfl
theorem wg_34_2 {K : Value → Prop} : mGet (wH h0 b I A P R o) (b + 34) 11 2 K ↔ K (.ref (b + 28)) := fx_mGet (c := 34) (l := wL b I A P R o) rfl rfl
theorem wg_34_3 {K : Value → Prop} : mGet (wH h0 b I A P R o) (b + 34) 11 3 K ↔ K (.ref (b + 1)) := fx_mGet (c := 34) (l := wL b I A P R o) rfl rfl
theorem wg_34_4 {K : Value → Prop} : mGet (wH h0 b I A P R o) (b + 34) 11 4 K ↔ K (.ref (b + 35)) := fx_mGet (c := 34) (l := wL b I A P R o) rfl rfl
theorem wc_35 : mRecv (wH h0 b I A P R o) (b + 35) 10 ↔ True := fx_mRecv (c := 35) (l := wL b I A P R o) rfl
theorem wg_35_0 {K : Value → Prop} : mGet (wH h0 b I A P R o) (b + 35) 10 0 K ↔ K (.ref (b + 36)) := fx_mGet (c := 35) (l := wL b I A P R o) rfl rfl
theorem wg_35_1 {K : Value → Prop} : mGet (wH h0 b I A P R o) (b + 35) 10 1 K ↔ K (.ref (b + 37)) := fx_mGet (c := 35) (l := wL b I A P R o) rfl rfl
theorem wg_35_2 {K : Value → Prop} : mGet (wH h0 b I A P R o) (b + 35) 10 2 K ↔ K (.ref (b + 38)) := fx_mGet (c := 35) (l := wL b I A P R o) rfl rfl
theorem wg_35_3 {K : Value → Prop} : mGet (wH h0 b I A P R o) (b + 35) 10 3 K ↔ K (va_rf (R 3)) := fx_mGet (c := 35) (l := wL b I A P R o) rfl rfl
theorem wp_35_3 {x : Option Nat} {K : mH → Prop} (hb : G.2.2.2 ≤ b) : mPut G (wH h0 b I A P R o) (b + 35) 10 3 (va_rf x) K ↔ K (wH h0 b I A P (upR R 3 x) o) := fx_mPut (c := 35) (l := wL b I A P R o) (l' := wL b I A P (upR R 3 x) o) rfl (Nat.le_of_ble_eq_true rfl) hb (by cases x <;> rfl) rfl
theorem wp_35_3n {K : mH → Prop} (hb : G.2.2.2 ≤ b) : mPut G (wH h0 b I A P R o) (b + 35) 10 3 (.null) K ↔ K (wH h0 b I A P (upR R 3 (none)) o) := fx_mPut (c := 35) (l := wL b I A P R o) (l' := wL b I A P (upR R 3 (none)) o) rfl (Nat.le_of_ble_eq_true rfl) hb rfl rfl
theorem wp_35_3s {x : Nat} {K : mH → Prop} (hb : G.2.2.2 ≤ b) : mPut G (wH h0 b I A P R o) (b + 35) 10 3 (.ref x) K ↔ K (wH h0 b I A P (upR R 3 (some x)) o) := fx_mPut (c := 35) (l := wL b I A P R o) (l' := wL b I A P (upR R 3 (some x)) o) rfl (Nat.le_of_ble_eq_true rfl) hb rfl rfl
theorem wn_36 {K : Nat → Prop} : mLen (wH h0 b I A P R o) (b + 36) K ↔ K 128 := fx_mLenI (c := 36) (l := wL b I A P R o) rfl
theorem wl_36 {z : Int} {K : Int32 → Prop} (h1 : 0 ≤ z) (h2 : z < 128) : mLdI (wH h0 b I A P R o) (b + 36) (iI z) K ↔ K (iI (A 9 z.toNat)) := fx_mLdI (c := 36) (l := wL b I A P R o) rfl (by decide) h1 h2
theorem ws_36 {z x : Int} {K : mH → Prop} (hb : G.2.2.2 ≤ b) (h1 : 0 ≤ z) (h2 : z < 128) : mStI G (wH h0 b I A P R o) (b + 36) (iI z) (iI x) K ↔ K (wH h0 b I (upA A 9 (upE (A 9) z.toNat x)) P R o) := fx_mStI (c := 36) (l := wL b I A P R o) (l' := wL b I (upA A 9 (upE (A 9) z.toNat x)) P R o) rfl (by decide) hb h1 h2 rfl
theorem wn_37 {K : Nat → Prop} : mLen (wH h0 b I A P R o) (b + 37) K ↔ K 128 := fx_mLenI (c := 37) (l := wL b I A P R o) rfl
theorem wl_37 {z : Int} {K : Int32 → Prop} (h1 : 0 ≤ z) (h2 : z < 128) : mLdI (wH h0 b I A P R o) (b + 37) (iI z) K ↔ K (iI (A 10 z.toNat)) := fx_mLdI (c := 37) (l := wL b I A P R o) rfl (by decide) h1 h2
theorem ws_37 {z x : Int} {K : mH → Prop} (hb : G.2.2.2 ≤ b) (h1 : 0 ≤ z) (h2 : z < 128) : mStI G (wH h0 b I A P R o) (b + 37) (iI z) (iI x) K ↔ K (wH h0 b I (upA A 10 (upE (A 10) z.toNat x)) P R o) := fx_mStI (c := 37) (l := wL b I A P R o) (l' := wL b I (upA A 10 (upE (A 10) z.toNat x)) P R o) rfl (by decide) hb h1 h2 rfl
theorem wn_38 {K : Nat → Prop} : mLen (wH h0 b I A P R o) (b + 38) K ↔ K 128 := fx_mLenZ (c := 38) (l := wL b I A P R o) rfl
theorem wl_38 {z : Int} {K : Int32 → Prop} (h1 : 0 ≤ z) (h2 : z < 128) : mLdZ (wH h0 b I A P R o) (b + 38) (iI z) K ↔ K (iI (A 11 z.toNat)) := fx_mLdZ (c := 38) (l := wL b I A P R o) rfl (by decide) h1 h2
theorem ws_38 {z x : Int} {K : mH → Prop} (hb : G.2.2.2 ≤ b) (h1 : 0 ≤ z) (h2 : z < 128) (hx : x = 0 ∨ x = 1) : mStZ G (wH h0 b I A P R o) (b + 38) (iI z) (iI x) K ↔ K (wH h0 b I (upA A 11 (upE (A 11) z.toNat x)) P R o) := fx_mStZ (c := 38) (l := wL b I A P R o) (l' := wL b I (upA A 11 (upE (A 11) z.toNat x)) P R o) rfl (by decide) hb h1 h2 hx rfl
theorem wc_39 : mRecv (wH h0 b I A P R o) (b + 39) 7 ↔ True := fx_mRecv (c := 39) (l := wL b I A P R o) rfl
theorem wg_39_0 {K : Value → Prop} : mGet (wH h0 b I A P R o) (b + 39) 7 0 K ↔ K (.ref (b + 40)) := fx_mGet (c := 39) (l := wL b I A P R o) rfl rfl
theorem wg_39_1 {K : Value → Prop} : mGet (wH h0 b I A P R o) (b + 39) 7 1 K ↔ K (.int (iI (I 25))) := fx_mGet (c := 39) (l := wL b I A P R o) rfl rfl
theorem wp_39_1 {x : Int} {K : mH → Prop} (hb : G.2.2.2 ≤ b) : mPut G (wH h0 b I A P R o) (b + 39) 7 1 (.int (iI x)) K ↔ K (wH h0 b (updI I 25 x) A P R o) := fx_mPut (c := 39) (l := wL b I A P R o) (l' := wL b (updI I 25 x) A P R o) rfl (Nat.le_of_ble_eq_true rfl) hb rfl rfl
theorem wn_40 {K : Nat → Prop} : mLen (wH h0 b I A P R o) (b + 40) K ↔ K 300 := fx_mLenI (c := 40) (l := wL b I A P R o) rfl
theorem wl_40 {z : Int} {K : Int32 → Prop} (h1 : 0 ≤ z) (h2 : z < 300) : mLdI (wH h0 b I A P R o) (b + 40) (iI z) K ↔ K (iI (A 12 z.toNat)) := fx_mLdI (c := 40) (l := wL b I A P R o) rfl (by decide) h1 h2
theorem ws_40 {z x : Int} {K : mH → Prop} (hb : G.2.2.2 ≤ b) (h1 : 0 ≤ z) (h2 : z < 300) : mStI G (wH h0 b I A P R o) (b + 40) (iI z) (iI x) K ↔ K (wH h0 b I (upA A 12 (upE (A 12) z.toNat x)) P R o) := fx_mStI (c := 40) (l := wL b I A P R o) (l' := wL b I (upA A 12 (upE (A 12) z.toNat x)) P R o) rfl (by decide) hb h1 h2 rfl
theorem wc_41 : mRecv (wH h0 b I A P R o) (b + 41) 7 ↔ True := fx_mRecv (c := 41) (l := wL b I A P R o) rfl
theorem wg_41_0 {K : Value → Prop} : mGet (wH h0 b I A P R o) (b + 41) 7 0 K ↔ K (.ref (b + 42)) := fx_mGet (c := 41) (l := wL b I A P R o) rfl rfl
theorem wg_41_1 {K : Value → Prop} : mGet (wH h0 b I A P R o) (b + 41) 7 1 K ↔ K (.int (iI (I 26))) := fx_mGet (c := 41) (l := wL b I A P R o) rfl rfl
theorem wp_41_1 {x : Int} {K : mH → Prop} (hb : G.2.2.2 ≤ b) : mPut G (wH h0 b I A P R o) (b + 41) 7 1 (.int (iI x)) K ↔ K (wH h0 b (updI I 26 x) A P R o) := fx_mPut (c := 41) (l := wL b I A P R o) (l' := wL b (updI I 26 x) A P R o) rfl (Nat.le_of_ble_eq_true rfl) hb rfl rfl
theorem wn_42 {K : Nat → Prop} : mLen (wH h0 b I A P R o) (b + 42) K ↔ K 300 := fx_mLenI (c := 42) (l := wL b I A P R o) rfl
theorem wl_42 {z : Int} {K : Int32 → Prop} (h1 : 0 ≤ z) (h2 : z < 300) : mLdI (wH h0 b I A P R o) (b + 42) (iI z) K ↔ K (iI (A 13 z.toNat)) := fx_mLdI (c := 42) (l := wL b I A P R o) rfl (by decide) h1 h2
theorem ws_42 {z x : Int} {K : mH → Prop} (hb : G.2.2.2 ≤ b) (h1 : 0 ≤ z) (h2 : z < 300) : mStI G (wH h0 b I A P R o) (b + 42) (iI z) (iI x) K ↔ K (wH h0 b I (upA A 13 (upE (A 13) z.toNat x)) P R o) := fx_mStI (c := 42) (l := wL b I A P R o) (l' := wL b I (upA A 13 (upE (A 13) z.toNat x)) P R o) rfl (by decide) hb h1 h2 rfl
theorem wc_43 : mRecv (wH h0 b I A P R o) (b + 43) 13 ↔ True := fx_mRecv (c := 43) (l := wL b I A P R o) rfl
theorem wg_43_0 {K : Value → Prop} : mGet (wH h0 b I A P R o) (b + 43) 13 0 K ↔ K (.int (iI (I 27))) := fx_mGet (c := 43) (l := wL b I A P R o) rfl rfl
theorem wp_43_0 {x : Int} {K : mH → Prop} (hb : G.2.2.2 ≤ b) : mPut G (wH h0 b I A P R o) (b + 43) 13 0 (.int (iI x)) K ↔ K (wH h0 b (updI I 27 x) A P R o) := fx_mPut (c := 43) (l := wL b I A P R o) (l' := wL b (updI I 27 x) A P R o) rfl (Nat.le_of_ble_eq_true rfl) hb rfl rfl
theorem wg_43_1 {K : Value → Prop} : mGet (wH h0 b I A P R o) (b + 43) 13 1 K ↔ K (.ref (b + 44)) := fx_mGet (c := 43) (l := wL b I A P R o) rfl rfl
theorem wg_43_2 {K : Value → Prop} : mGet (wH h0 b I A P R o) (b + 43) 13 2 K ↔ K (.int (iI (I 28))) := fx_mGet (c := 43) (l := wL b I A P R o) rfl rfl
theorem wp_43_2 {x : Int} {K : mH → Prop} (hb : G.2.2.2 ≤ b) : mPut G (wH h0 b I A P R o) (b + 43) 13 2 (.int (iI x)) K ↔ K (wH h0 b (updI I 28 x) A P R o) := fx_mPut (c := 43) (l := wL b I A P R o) (l' := wL b (updI I 28 x) A P R o) rfl (Nat.le_of_ble_eq_true rfl) hb rfl rfl
theorem wg_43_3 {K : Value → Prop} : mGet (wH h0 b I A P R o) (b + 43) 13 3 K ↔ K (.int (iI (I 29))) := fx_mGet (c := 43) (l := wL b I A P R o) rfl rfl
theorem wp_43_3 {x : Int} {K : mH → Prop} (hb : G.2.2.2 ≤ b) : mPut G (wH h0 b I A P R o) (b + 43) 13 3 (.int (iI x)) K ↔ K (wH h0 b (updI I 29 x) A P R o) := fx_mPut (c := 43) (l := wL b I A P R o) (l' := wL b (updI I 29 x) A P R o) rfl (Nat.le_of_ble_eq_true rfl) hb rfl rfl
theorem wg_43_4 {K : Value → Prop} : mGet (wH h0 b I A P R o) (b + 43) 13 4 K ↔ K (.ref (b + 45)) := fx_mGet (c := 43) (l := wL b I A P R o) rfl rfl
theorem wg_43_5 {K : Value → Prop} : mGet (wH h0 b I A P R o) (b + 43) 13 5 K ↔ K (.ref (b + 46)) := fx_mGet (c := 43) (l := wL b I A P R o) rfl rfl
theorem wg_43_6 {K : Value → Prop} : mGet (wH h0 b I A P R o) (b + 43) 13 6 K ↔ K (.ref (b + 47)) := fx_mGet (c := 43) (l := wL b I A P R o) rfl rfl
theorem wg_43_7 {K : Value → Prop} : mGet (wH h0 b I A P R o) (b + 43) 13 7 K ↔ K (.ref (b + 48)) := fx_mGet (c := 43) (l := wL b I A P R o) rfl rfl
theorem wg_43_8 {K : Value → Prop} : mGet (wH h0 b I A P R o) (b + 43) 13 8 K ↔ K (.ref (b + 49)) := fx_mGet (c := 43) (l := wL b I A P R o) rfl rfl
theorem wg_43_9 {K : Value → Prop} : mGet (wH h0 b I A P R o) (b + 43) 13 9 K ↔ K (.ref (b + 50)) := fx_mGet (c := 43) (l := wL b I A P R o) rfl rfl
theorem wg_43_10 {K : Value → Prop} : mGet (wH h0 b I A P R o) (b + 43) 13 10 K ↔ K (.ref (b + 51)) := fx_mGet (c := 43) (l := wL b I A P R o) rfl rfl
theorem wg_43_11 {K : Value → Prop} : mGet (wH h0 b I A P R o) (b + 43) 13 11 K ↔ K (.ref (b + 52)) := fx_mGet (c := 43) (l := wL b I A P R o) rfl rfl
theorem wg_43_12 {K : Value → Prop} : mGet (wH h0 b I A P R o) (b + 43) 13 12 K ↔ K (.ref (b + 53)) := fx_mGet (c := 43) (l := wL b I A P R o) rfl rfl
theorem wg_43_13 {K : Value → Prop} : mGet (wH h0 b I A P R o) (b + 43) 13 13 K ↔ K (.int (iI (I 30))) := fx_mGet (c := 43) (l := wL b I A P R o) rfl rfl
theorem wp_43_13 {x : Int} {K : mH → Prop} (hb : G.2.2.2 ≤ b) : mPut G (wH h0 b I A P R o) (b + 43) 13 13 (.int (iI x)) K ↔ K (wH h0 b (updI I 30 x) A P R o) := fx_mPut (c := 43) (l := wL b I A P R o) (l' := wL b (updI I 30 x) A P R o) rfl (Nat.le_of_ble_eq_true rfl) hb rfl rfl
theorem wg_43_14 {K : Value → Prop} : mGet (wH h0 b I A P R o) (b + 43) 13 14 K ↔ K (.int (iI (I 31))) := fx_mGet (c := 43) (l := wL b I A P R o) rfl rfl
theorem wp_43_14 {x : Int} {K : mH → Prop} (hb : G.2.2.2 ≤ b) : mPut G (wH h0 b I A P R o) (b + 43) 13 14 (.int (iI x)) K ↔ K (wH h0 b (updI I 31 x) A P R o) := fx_mPut (c := 43) (l := wL b I A P R o) (l' := wL b (updI I 31 x) A P R o) rfl (Nat.le_of_ble_eq_true rfl) hb rfl rfl
theorem wg_43_15 {K : Value → Prop} : mGet (wH h0 b I A P R o) (b + 43) 13 15 K ↔ K (.ref (b + 54)) := fx_mGet (c := 43) (l := wL b I A P R o) rfl rfl
theorem wg_43_16 {K : Value → Prop} : mGet (wH h0 b I A P R o) (b + 43) 13 16 K ↔ K (.ref (b + 55)) := fx_mGet (c := 43) (l := wL b I A P R o) rfl rfl
theorem wg_43_17 {K : Value → Prop} : mGet (wH h0 b I A P R o) (b + 43) 13 17 K ↔ K (.ref (b + 56)) := fx_mGet (c := 43) (l := wL b I A P R o) rfl rfl
theorem wg_43_18 {K : Value → Prop} : mGet (wH h0 b I A P R o) (b + 43) 13 18 K ↔ K (.ref (b + 57)) := fx_mGet (c := 43) (l := wL b I A P R o) rfl rfl
theorem wg_43_19 {K : Value → Prop} : mGet (wH h0 b I A P R o) (b + 43) 13 19 K ↔ K (.ref (b + 58)) := fx_mGet (c := 43) (l := wL b I A P R o) rfl rfl
theorem wg_43_20 {K : Value → Prop} : mGet (wH h0 b I A P R o) (b + 43) 13 20 K ↔ K (.ref (b + 59)) := fx_mGet (c := 43) (l := wL b I A P R o) rfl rfl
theorem wg_43_21 {K : Value → Prop} : mGet (wH h0 b I A P R o) (b + 43) 13 21 K ↔ K (.ref (b + 60)) := fx_mGet (c := 43) (l := wL b I A P R o) rfl rfl
theorem wg_43_22 {K : Value → Prop} : mGet (wH h0 b I A P R o) (b + 43) 13 22 K ↔ K (.ref (b + 61)) := fx_mGet (c := 43) (l := wL b I A P R o) rfl rfl
theorem wg_43_23 {K : Value → Prop} : mGet (wH h0 b I A P R o) (b + 43) 13 23 K ↔ K (.ref (b + 62)) := fx_mGet (c := 43) (l := wL b I A P R o) rfl rfl
theorem wg_43_24 {K : Value → Prop} : mGet (wH h0 b I A P R o) (b + 43) 13 24 K ↔ K (.ref (b + 63)) := fx_mGet (c := 43) (l := wL b I A P R o) rfl rfl
theorem wg_43_25 {K : Value → Prop} : mGet (wH h0 b I A P R o) (b + 43) 13 25 K ↔ K (.ref (b + 64)) := fx_mGet (c := 43) (l := wL b I A P R o) rfl rfl
theorem wg_43_26 {K : Value → Prop} : mGet (wH h0 b I A P R o) (b + 43) 13 26 K ↔ K (.ref (b + 65)) := fx_mGet (c := 43) (l := wL b I A P R o) rfl rfl
theorem wg_43_27 {K : Value → Prop} : mGet (wH h0 b I A P R o) (b + 43) 13 27 K ↔ K (.ref (b + 66)) := fx_mGet (c := 43) (l := wL b I A P R o) rfl rfl
theorem wg_43_28 {K : Value → Prop} : mGet (wH h0 b I A P R o) (b + 43) 13 28 K ↔ K (.ref (b + 67)) := fx_mGet (c := 43) (l := wL b I A P R o) rfl rfl
theorem wg_43_29 {K : Value → Prop} : mGet (wH h0 b I A P R o) (b + 43) 13 29 K ↔ K (.int (iI (I 32))) := fx_mGet (c := 43) (l := wL b I A P R o) rfl rfl
theorem wp_43_29 {x : Int} {K : mH → Prop} (hb : G.2.2.2 ≤ b) : mPut G (wH h0 b I A P R o) (b + 43) 13 29 (.int (iI x)) K ↔ K (wH h0 b (updI I 32 x) A P R o) := fx_mPut (c := 43) (l := wL b I A P R o) (l' := wL b (updI I 32 x) A P R o) rfl (Nat.le_of_ble_eq_true rfl) hb rfl rfl
theorem wg_43_30 {K : Value → Prop} : mGet (wH h0 b I A P R o) (b + 43) 13 30 K ↔ K (.ref (b + 68)) := fx_mGet (c := 43) (l := wL b I A P R o) rfl rfl
theorem wg_43_31 {K : Value → Prop} : mGet (wH h0 b I A P R o) (b + 43) 13 31 K ↔ K (.ref (b + 69)) := fx_mGet (c := 43) (l := wL b I A P R o) rfl rfl
theorem wg_43_32 {K : Value → Prop} : mGet (wH h0 b I A P R o) (b + 43) 13 32 K ↔ K (.ref (b + 70)) := fx_mGet (c := 43) (l := wL b I A P R o) rfl rfl
theorem wg_43_33 {K : Value → Prop} : mGet (wH h0 b I A P R o) (b + 43) 13 33 K ↔ K (.ref (b + 71)) := fx_mGet (c := 43) (l := wL b I A P R o) rfl rfl
theorem wg_43_34 {K : Value → Prop} : mGet (wH h0 b I A P R o) (b + 43) 13 34 K ↔ K (.ref (b + 72)) := fx_mGet (c := 43) (l := wL b I A P R o) rfl rfl
theorem wg_43_35 {K : Value → Prop} : mGet (wH h0 b I A P R o) (b + 43) 13 35 K ↔ K (.int (iI (I 33))) := fx_mGet (c := 43) (l := wL b I A P R o) rfl rfl
theorem wp_43_35 {x : Int} {K : mH → Prop} (hb : G.2.2.2 ≤ b) : mPut G (wH h0 b I A P R o) (b + 43) 13 35 (.int (iI x)) K ↔ K (wH h0 b (updI I 33 x) A P R o) := fx_mPut (c := 43) (l := wL b I A P R o) (l' := wL b (updI I 33 x) A P R o) rfl (Nat.le_of_ble_eq_true rfl) hb rfl rfl
theorem wg_43_36 {K : Value → Prop} : mGet (wH h0 b I A P R o) (b + 43) 13 36 K ↔ K (.int (iI (I 34))) := fx_mGet (c := 43) (l := wL b I A P R o) rfl rfl
theorem wp_43_36 {x : Int} {K : mH → Prop} (hb : G.2.2.2 ≤ b) : mPut G (wH h0 b I A P R o) (b + 43) 13 36 (.int (iI x)) K ↔ K (wH h0 b (updI I 34 x) A P R o) := fx_mPut (c := 43) (l := wL b I A P R o) (l' := wL b (updI I 34 x) A P R o) rfl (Nat.le_of_ble_eq_true rfl) hb rfl rfl
theorem wg_43_37 {K : Value → Prop} : mGet (wH h0 b I A P R o) (b + 43) 13 37 K ↔ K (.int (iI (I 35))) := fx_mGet (c := 43) (l := wL b I A P R o) rfl rfl
theorem wp_43_37 {x : Int} {K : mH → Prop} (hb : G.2.2.2 ≤ b) (hx : x = 0 ∨ x = 1) : mPut G (wH h0 b I A P R o) (b + 43) 13 37 (.int (iI x)) K ↔ K (wH h0 b (updI I 35 x) A P R o) := fx_mPut (c := 43) (l := wL b I A P R o) (l' := wL b (updI I 35 x) A P R o) rfl (Nat.le_of_ble_eq_true rfl) hb (by rcases hx with rfl | rfl <;> decide +kernel) rfl
theorem wg_43_38 {K : Value → Prop} : mGet (wH h0 b I A P R o) (b + 43) 13 38 K ↔ K (.int (iI (I 36))) := fx_mGet (c := 43) (l := wL b I A P R o) rfl rfl
theorem wp_43_38 {x : Int} {K : mH → Prop} (hb : G.2.2.2 ≤ b) : mPut G (wH h0 b I A P R o) (b + 43) 13 38 (.int (iI x)) K ↔ K (wH h0 b (updI I 36 x) A P R o) := fx_mPut (c := 43) (l := wL b I A P R o) (l' := wL b (updI I 36 x) A P R o) rfl (Nat.le_of_ble_eq_true rfl) hb rfl rfl
theorem wg_43_39 {K : Value → Prop} : mGet (wH h0 b I A P R o) (b + 43) 13 39 K ↔ K (.int (iI (I 37))) := fx_mGet (c := 43) (l := wL b I A P R o) rfl rfl
theorem wp_43_39 {x : Int} {K : mH → Prop} (hb : G.2.2.2 ≤ b) : mPut G (wH h0 b I A P R o) (b + 43) 13 39 (.int (iI x)) K ↔ K (wH h0 b (updI I 37 x) A P R o) := fx_mPut (c := 43) (l := wL b I A P R o) (l' := wL b (updI I 37 x) A P R o) rfl (Nat.le_of_ble_eq_true rfl) hb rfl rfl
theorem wg_43_40 {K : Value → Prop} : mGet (wH h0 b I A P R o) (b + 43) 13 40 K ↔ K (.int (iI (I 38))) := fx_mGet (c := 43) (l := wL b I A P R o) rfl rfl
theorem wp_43_40 {x : Int} {K : mH → Prop} (hb : G.2.2.2 ≤ b) : mPut G (wH h0 b I A P R o) (b + 43) 13 40 (.int (iI x)) K ↔ K (wH h0 b (updI I 38 x) A P R o) := fx_mPut (c := 43) (l := wL b I A P R o) (l' := wL b (updI I 38 x) A P R o) rfl (Nat.le_of_ble_eq_true rfl) hb rfl rfl
theorem wg_43_41 {K : Value → Prop} : mGet (wH h0 b I A P R o) (b + 43) 13 41 K ↔ K (.int (iI (I 39))) := fx_mGet (c := 43) (l := wL b I A P R o) rfl rfl
theorem wp_43_41 {x : Int} {K : mH → Prop} (hb : G.2.2.2 ≤ b) (hx : x = 0 ∨ x = 1) : mPut G (wH h0 b I A P R o) (b + 43) 13 41 (.int (iI x)) K ↔ K (wH h0 b (updI I 39 x) A P R o) := fx_mPut (c := 43) (l := wL b I A P R o) (l' := wL b (updI I 39 x) A P R o) rfl (Nat.le_of_ble_eq_true rfl) hb (by rcases hx with rfl | rfl <;> decide +kernel) rfl
theorem wg_43_42 {K : Value → Prop} : mGet (wH h0 b I A P R o) (b + 43) 13 42 K ↔ K (.int (iI (I 40))) := fx_mGet (c := 43) (l := wL b I A P R o) rfl rfl
theorem wp_43_42 {x : Int} {K : mH → Prop} (hb : G.2.2.2 ≤ b) : mPut G (wH h0 b I A P R o) (b + 43) 13 42 (.int (iI x)) K ↔ K (wH h0 b (updI I 40 x) A P R o) := fx_mPut (c := 43) (l := wL b I A P R o) (l' := wL b (updI I 40 x) A P R o) rfl (Nat.le_of_ble_eq_true rfl) hb rfl rfl
theorem wg_43_43 {K : Value → Prop} : mGet (wH h0 b I A P R o) (b + 43) 13 43 K ↔ K (.ref (b + 73)) := fx_mGet (c := 43) (l := wL b I A P R o) rfl rfl
theorem wg_43_44 {K : Value → Prop} : mGet (wH h0 b I A P R o) (b + 43) 13 44 K ↔ K (.int (iI (I 41))) := fx_mGet (c := 43) (l := wL b I A P R o) rfl rfl
theorem wp_43_44 {x : Int} {K : mH → Prop} (hb : G.2.2.2 ≤ b) : mPut G (wH h0 b I A P R o) (b + 43) 13 44 (.int (iI x)) K ↔ K (wH h0 b (updI I 41 x) A P R o) := fx_mPut (c := 43) (l := wL b I A P R o) (l' := wL b (updI I 41 x) A P R o) rfl (Nat.le_of_ble_eq_true rfl) hb rfl rfl
theorem wg_43_45 {K : Value → Prop} : mGet (wH h0 b I A P R o) (b + 43) 13 45 K ↔ K (.int (iI (I 42))) := fx_mGet (c := 43) (l := wL b I A P R o) rfl rfl
theorem wp_43_45 {x : Int} {K : mH → Prop} (hb : G.2.2.2 ≤ b) : mPut G (wH h0 b I A P R o) (b + 43) 13 45 (.int (iI x)) K ↔ K (wH h0 b (updI I 42 x) A P R o) := fx_mPut (c := 43) (l := wL b I A P R o) (l' := wL b (updI I 42 x) A P R o) rfl (Nat.le_of_ble_eq_true rfl) hb rfl rfl
theorem wg_43_46 {K : Value → Prop} : mGet (wH h0 b I A P R o) (b + 43) 13 46 K ↔ K (.int (iI (I 43))) := fx_mGet (c := 43) (l := wL b I A P R o) rfl rfl
theorem wp_43_46 {x : Int} {K : mH → Prop} (hb : G.2.2.2 ≤ b) : mPut G (wH h0 b I A P R o) (b + 43) 13 46 (.int (iI x)) K ↔ K (wH h0 b (updI I 43 x) A P R o) := fx_mPut (c := 43) (l := wL b I A P R o) (l' := wL b (updI I 43 x) A P R o) rfl (Nat.le_of_ble_eq_true rfl) hb rfl rfl
theorem wg_43_47 {K : Value → Prop} : mGet (wH h0 b I A P R o) (b + 43) 13 47 K ↔ K (.int (iI (I 44))) := fx_mGet (c := 43) (l := wL b I A P R o) rfl rfl
theorem wp_43_47 {x : Int} {K : mH → Prop} (hb : G.2.2.2 ≤ b) : mPut G (wH h0 b I A P R o) (b + 43) 13 47 (.int (iI x)) K ↔ K (wH h0 b (updI I 44 x) A P R o) := fx_mPut (c := 43) (l := wL b I A P R o) (l' := wL b (updI I 44 x) A P R o) rfl (Nat.le_of_ble_eq_true rfl) hb rfl rfl
theorem wg_43_48 {K : Value → Prop} : mGet (wH h0 b I A P R o) (b + 43) 13 48 K ↔ K (.int (iI (I 45))) := fx_mGet (c := 43) (l := wL b I A P R o) rfl rfl
theorem wp_43_48 {x : Int} {K : mH → Prop} (hb : G.2.2.2 ≤ b) : mPut G (wH h0 b I A P R o) (b + 43) 13 48 (.int (iI x)) K ↔ K (wH h0 b (updI I 45 x) A P R o) := fx_mPut (c := 43) (l := wL b I A P R o) (l' := wL b (updI I 45 x) A P R o) rfl (Nat.le_of_ble_eq_true rfl) hb rfl rfl
theorem wg_43_49 {K : Value → Prop} : mGet (wH h0 b I A P R o) (b + 43) 13 49 K ↔ K (.ref (b + 74)) := fx_mGet (c := 43) (l := wL b I A P R o) rfl rfl
theorem wg_43_50 {K : Value → Prop} : mGet (wH h0 b I A P R o) (b + 43) 13 50 K ↔ K (.int (iI (I 46))) := fx_mGet (c := 43) (l := wL b I A P R o) rfl rfl
theorem wp_43_50 {x : Int} {K : mH → Prop} (hb : G.2.2.2 ≤ b) : mPut G (wH h0 b I A P R o) (b + 43) 13 50 (.int (iI x)) K ↔ K (wH h0 b (updI I 46 x) A P R o) := fx_mPut (c := 43) (l := wL b I A P R o) (l' := wL b (updI I 46 x) A P R o) rfl (Nat.le_of_ble_eq_true rfl) hb rfl rfl
theorem wg_43_51 {K : Value → Prop} : mGet (wH h0 b I A P R o) (b + 43) 13 51 K ↔ K (.int (iI (I 47))) := fx_mGet (c := 43) (l := wL b I A P R o) rfl rfl
theorem wp_43_51 {x : Int} {K : mH → Prop} (hb : G.2.2.2 ≤ b) : mPut G (wH h0 b I A P R o) (b + 43) 13 51 (.int (iI x)) K ↔ K (wH h0 b (updI I 47 x) A P R o) := fx_mPut (c := 43) (l := wL b I A P R o) (l' := wL b (updI I 47 x) A P R o) rfl (Nat.le_of_ble_eq_true rfl) hb rfl rfl
theorem wg_43_52 {K : Value → Prop} : mGet (wH h0 b I A P R o) (b + 43) 13 52 K ↔ K (.int (iI (I 48))) := fx_mGet (c := 43) (l := wL b I A P R o) rfl rfl
theorem wp_43_52 {x : Int} {K : mH → Prop} (hb : G.2.2.2 ≤ b) : mPut G (wH h0 b I A P R o) (b + 43) 13 52 (.int (iI x)) K ↔ K (wH h0 b (updI I 48 x) A P R o) := fx_mPut (c := 43) (l := wL b I A P R o) (l' := wL b (updI I 48 x) A P R o) rfl (Nat.le_of_ble_eq_true rfl) hb rfl rfl
theorem wg_43_53 {K : Value → Prop} : mGet (wH h0 b I A P R o) (b + 43) 13 53 K ↔ K (.int (iI (I 49))) := fx_mGet (c := 43) (l := wL b I A P R o) rfl rfl
theorem wp_43_53 {x : Int} {K : mH → Prop} (hb : G.2.2.2 ≤ b) : mPut G (wH h0 b I A P R o) (b + 43) 13 53 (.int (iI x)) K ↔ K (wH h0 b (updI I 49 x) A P R o) := fx_mPut (c := 43) (l := wL b I A P R o) (l' := wL b (updI I 49 x) A P R o) rfl (Nat.le_of_ble_eq_true rfl) hb rfl rfl
theorem wg_43_54 {K : Value → Prop} : mGet (wH h0 b I A P R o) (b + 43) 13 54 K ↔ K (.int (iI (I 50))) := fx_mGet (c := 43) (l := wL b I A P R o) rfl rfl
theorem wp_43_54 {x : Int} {K : mH → Prop} (hb : G.2.2.2 ≤ b) : mPut G (wH h0 b I A P R o) (b + 43) 13 54 (.int (iI x)) K ↔ K (wH h0 b (updI I 50 x) A P R o) := fx_mPut (c := 43) (l := wL b I A P R o) (l' := wL b (updI I 50 x) A P R o) rfl (Nat.le_of_ble_eq_true rfl) hb rfl rfl
theorem wg_43_55 {K : Value → Prop} : mGet (wH h0 b I A P R o) (b + 43) 13 55 K ↔ K (.ref (b + 75)) := fx_mGet (c := 43) (l := wL b I A P R o) rfl rfl
theorem wg_43_56 {K : Value → Prop} : mGet (wH h0 b I A P R o) (b + 43) 13 56 K ↔ K (.ref (b + 76)) := fx_mGet (c := 43) (l := wL b I A P R o) rfl rfl
theorem wg_43_57 {K : Value → Prop} : mGet (wH h0 b I A P R o) (b + 43) 13 57 K ↔ K (.int (iI (I 51))) := fx_mGet (c := 43) (l := wL b I A P R o) rfl rfl
theorem wp_43_57 {x : Int} {K : mH → Prop} (hb : G.2.2.2 ≤ b) (hx : x = 0 ∨ x = 1) : mPut G (wH h0 b I A P R o) (b + 43) 13 57 (.int (iI x)) K ↔ K (wH h0 b (updI I 51 x) A P R o) := fx_mPut (c := 43) (l := wL b I A P R o) (l' := wL b (updI I 51 x) A P R o) rfl (Nat.le_of_ble_eq_true rfl) hb (by rcases hx with rfl | rfl <;> decide +kernel) rfl
theorem wg_43_58 {K : Value → Prop} : mGet (wH h0 b I A P R o) (b + 43) 13 58 K ↔ K (.int (iI (I 52))) := fx_mGet (c := 43) (l := wL b I A P R o) rfl rfl
theorem wp_43_58 {x : Int} {K : mH → Prop} (hb : G.2.2.2 ≤ b) : mPut G (wH h0 b I A P R o) (b + 43) 13 58 (.int (iI x)) K ↔ K (wH h0 b (updI I 52 x) A P R o) := fx_mPut (c := 43) (l := wL b I A P R o) (l' := wL b (updI I 52 x) A P R o) rfl (Nat.le_of_ble_eq_true rfl) hb rfl rfl
theorem wg_43_59 {K : Value → Prop} : mGet (wH h0 b I A P R o) (b + 43) 13 59 K ↔ K (.ref (b + 77)) := fx_mGet (c := 43) (l := wL b I A P R o) rfl rfl
theorem wg_43_60 {K : Value → Prop} : mGet (wH h0 b I A P R o) (b + 43) 13 60 K ↔ K (.int (iI (I 53))) := fx_mGet (c := 43) (l := wL b I A P R o) rfl rfl
theorem wp_43_60 {x : Int} {K : mH → Prop} (hb : G.2.2.2 ≤ b) : mPut G (wH h0 b I A P R o) (b + 43) 13 60 (.int (iI x)) K ↔ K (wH h0 b (updI I 53 x) A P R o) := fx_mPut (c := 43) (l := wL b I A P R o) (l' := wL b (updI I 53 x) A P R o) rfl (Nat.le_of_ble_eq_true rfl) hb rfl rfl
theorem wn_44 {K : Nat → Prop} : mLen (wH h0 b I A P R o) (b + 44) K ↔ K 300 := fx_mLenI (c := 44) (l := wL b I A P R o) rfl
theorem wl_44 {z : Int} {K : Int32 → Prop} (h1 : 0 ≤ z) (h2 : z < 300) : mLdI (wH h0 b I A P R o) (b + 44) (iI z) K ↔ K (iI (A 14 z.toNat)) := fx_mLdI (c := 44) (l := wL b I A P R o) rfl (by decide) h1 h2
theorem ws_44 {z x : Int} {K : mH → Prop} (hb : G.2.2.2 ≤ b) (h1 : 0 ≤ z) (h2 : z < 300) : mStI G (wH h0 b I A P R o) (b + 44) (iI z) (iI x) K ↔ K (wH h0 b I (upA A 14 (upE (A 14) z.toNat x)) P R o) := fx_mStI (c := 44) (l := wL b I A P R o) (l' := wL b I (upA A 14 (upE (A 14) z.toNat x)) P R o) rfl (by decide) hb h1 h2 rfl
theorem wn_45 {K : Nat → Prop} : mLen (wH h0 b I A P R o) (b + 45) K ↔ K 40 := fx_mLenI (c := 45) (l := wL b I A P R o) rfl
theorem wl_45 {z : Int} {K : Int32 → Prop} (h1 : 0 ≤ z) (h2 : z < 40) : mLdI (wH h0 b I A P R o) (b + 45) (iI z) K ↔ K (iI (A 15 z.toNat)) := fx_mLdI (c := 45) (l := wL b I A P R o) rfl (by decide) h1 h2
theorem ws_45 {z x : Int} {K : mH → Prop} (hb : G.2.2.2 ≤ b) (h1 : 0 ≤ z) (h2 : z < 40) : mStI G (wH h0 b I A P R o) (b + 45) (iI z) (iI x) K ↔ K (wH h0 b I (upA A 15 (upE (A 15) z.toNat x)) P R o) := fx_mStI (c := 45) (l := wL b I A P R o) (l' := wL b I (upA A 15 (upE (A 15) z.toNat x)) P R o) rfl (by decide) hb h1 h2 rfl
theorem wn_46 {K : Nat → Prop} : mLen (wH h0 b I A P R o) (b + 46) K ↔ K 40 := fx_mLenI (c := 46) (l := wL b I A P R o) rfl
theorem wl_46 {z : Int} {K : Int32 → Prop} (h1 : 0 ≤ z) (h2 : z < 40) : mLdI (wH h0 b I A P R o) (b + 46) (iI z) K ↔ K (iI (A 16 z.toNat)) := fx_mLdI (c := 46) (l := wL b I A P R o) rfl (by decide) h1 h2
theorem ws_46 {z x : Int} {K : mH → Prop} (hb : G.2.2.2 ≤ b) (h1 : 0 ≤ z) (h2 : z < 40) : mStI G (wH h0 b I A P R o) (b + 46) (iI z) (iI x) K ↔ K (wH h0 b I (upA A 16 (upE (A 16) z.toNat x)) P R o) := fx_mStI (c := 46) (l := wL b I A P R o) (l' := wL b I (upA A 16 (upE (A 16) z.toNat x)) P R o) rfl (by decide) hb h1 h2 rfl
theorem wn_47 {K : Nat → Prop} : mLen (wH h0 b I A P R o) (b + 47) K ↔ K 40 := fx_mLenI (c := 47) (l := wL b I A P R o) rfl
theorem wl_47 {z : Int} {K : Int32 → Prop} (h1 : 0 ≤ z) (h2 : z < 40) : mLdI (wH h0 b I A P R o) (b + 47) (iI z) K ↔ K (iI (A 17 z.toNat)) := fx_mLdI (c := 47) (l := wL b I A P R o) rfl (by decide) h1 h2
theorem ws_47 {z x : Int} {K : mH → Prop} (hb : G.2.2.2 ≤ b) (h1 : 0 ≤ z) (h2 : z < 40) : mStI G (wH h0 b I A P R o) (b + 47) (iI z) (iI x) K ↔ K (wH h0 b I (upA A 17 (upE (A 17) z.toNat x)) P R o) := fx_mStI (c := 47) (l := wL b I A P R o) (l' := wL b I (upA A 17 (upE (A 17) z.toNat x)) P R o) rfl (by decide) hb h1 h2 rfl
theorem wn_48 {K : Nat → Prop} : mLen (wH h0 b I A P R o) (b + 48) K ↔ K 40 := fx_mLenI (c := 48) (l := wL b I A P R o) rfl
theorem wl_48 {z : Int} {K : Int32 → Prop} (h1 : 0 ≤ z) (h2 : z < 40) : mLdI (wH h0 b I A P R o) (b + 48) (iI z) K ↔ K (iI (A 18 z.toNat)) := fx_mLdI (c := 48) (l := wL b I A P R o) rfl (by decide) h1 h2
theorem ws_48 {z x : Int} {K : mH → Prop} (hb : G.2.2.2 ≤ b) (h1 : 0 ≤ z) (h2 : z < 40) : mStI G (wH h0 b I A P R o) (b + 48) (iI z) (iI x) K ↔ K (wH h0 b I (upA A 18 (upE (A 18) z.toNat x)) P R o) := fx_mStI (c := 48) (l := wL b I A P R o) (l' := wL b I (upA A 18 (upE (A 18) z.toNat x)) P R o) rfl (by decide) hb h1 h2 rfl
theorem wn_49 {K : Nat → Prop} : mLen (wH h0 b I A P R o) (b + 49) K ↔ K 40 := fx_mLenI (c := 49) (l := wL b I A P R o) rfl
theorem wl_49 {z : Int} {K : Int32 → Prop} (h1 : 0 ≤ z) (h2 : z < 40) : mLdI (wH h0 b I A P R o) (b + 49) (iI z) K ↔ K (iI (A 19 z.toNat)) := fx_mLdI (c := 49) (l := wL b I A P R o) rfl (by decide) h1 h2
theorem ws_49 {z x : Int} {K : mH → Prop} (hb : G.2.2.2 ≤ b) (h1 : 0 ≤ z) (h2 : z < 40) : mStI G (wH h0 b I A P R o) (b + 49) (iI z) (iI x) K ↔ K (wH h0 b I (upA A 19 (upE (A 19) z.toNat x)) P R o) := fx_mStI (c := 49) (l := wL b I A P R o) (l' := wL b I (upA A 19 (upE (A 19) z.toNat x)) P R o) rfl (by decide) hb h1 h2 rfl
theorem wn_50 {K : Nat → Prop} : mLen (wH h0 b I A P R o) (b + 50) K ↔ K 40 := fx_mLenI (c := 50) (l := wL b I A P R o) rfl
theorem wl_50 {z : Int} {K : Int32 → Prop} (h1 : 0 ≤ z) (h2 : z < 40) : mLdI (wH h0 b I A P R o) (b + 50) (iI z) K ↔ K (iI (A 20 z.toNat)) := fx_mLdI (c := 50) (l := wL b I A P R o) rfl (by decide) h1 h2
theorem ws_50 {z x : Int} {K : mH → Prop} (hb : G.2.2.2 ≤ b) (h1 : 0 ≤ z) (h2 : z < 40) : mStI G (wH h0 b I A P R o) (b + 50) (iI z) (iI x) K ↔ K (wH h0 b I (upA A 20 (upE (A 20) z.toNat x)) P R o) := fx_mStI (c := 50) (l := wL b I A P R o) (l' := wL b I (upA A 20 (upE (A 20) z.toNat x)) P R o) rfl (by decide) hb h1 h2 rfl
theorem wn_51 {K : Nat → Prop} : mLen (wH h0 b I A P R o) (b + 51) K ↔ K 40 := fx_mLenI (c := 51) (l := wL b I A P R o) rfl
theorem wl_51 {z : Int} {K : Int32 → Prop} (h1 : 0 ≤ z) (h2 : z < 40) : mLdI (wH h0 b I A P R o) (b + 51) (iI z) K ↔ K (iI (A 21 z.toNat)) := fx_mLdI (c := 51) (l := wL b I A P R o) rfl (by decide) h1 h2
theorem ws_51 {z x : Int} {K : mH → Prop} (hb : G.2.2.2 ≤ b) (h1 : 0 ≤ z) (h2 : z < 40) : mStI G (wH h0 b I A P R o) (b + 51) (iI z) (iI x) K ↔ K (wH h0 b I (upA A 21 (upE (A 21) z.toNat x)) P R o) := fx_mStI (c := 51) (l := wL b I A P R o) (l' := wL b I (upA A 21 (upE (A 21) z.toNat x)) P R o) rfl (by decide) hb h1 h2 rfl
theorem wn_52 {K : Nat → Prop} : mLen (wH h0 b I A P R o) (b + 52) K ↔ K 40 := fx_mLenI (c := 52) (l := wL b I A P R o) rfl
theorem wl_52 {z : Int} {K : Int32 → Prop} (h1 : 0 ≤ z) (h2 : z < 40) : mLdI (wH h0 b I A P R o) (b + 52) (iI z) K ↔ K (iI (A 22 z.toNat)) := fx_mLdI (c := 52) (l := wL b I A P R o) rfl (by decide) h1 h2
theorem ws_52 {z x : Int} {K : mH → Prop} (hb : G.2.2.2 ≤ b) (h1 : 0 ≤ z) (h2 : z < 40) : mStI G (wH h0 b I A P R o) (b + 52) (iI z) (iI x) K ↔ K (wH h0 b I (upA A 22 (upE (A 22) z.toNat x)) P R o) := fx_mStI (c := 52) (l := wL b I A P R o) (l' := wL b I (upA A 22 (upE (A 22) z.toNat x)) P R o) rfl (by decide) hb h1 h2 rfl
theorem wn_53 {K : Nat → Prop} : mLen (wH h0 b I A P R o) (b + 53) K ↔ K 8000 := fx_mLenI (c := 53) (l := wL b I A P R o) rfl
theorem wl_53 {z : Int} {K : Int32 → Prop} (h1 : 0 ≤ z) (h2 : z < 8000) : mLdI (wH h0 b I A P R o) (b + 53) (iI z) K ↔ K (iI (A 23 z.toNat)) := fx_mLdI (c := 53) (l := wL b I A P R o) rfl (by decide) h1 h2
theorem ws_53 {z x : Int} {K : mH → Prop} (hb : G.2.2.2 ≤ b) (h1 : 0 ≤ z) (h2 : z < 8000) : mStI G (wH h0 b I A P R o) (b + 53) (iI z) (iI x) K ↔ K (wH h0 b I (upA A 23 (upE (A 23) z.toNat x)) P R o) := fx_mStI (c := 53) (l := wL b I A P R o) (l' := wL b I (upA A 23 (upE (A 23) z.toNat x)) P R o) rfl (by decide) hb h1 h2 rfl
theorem wn_54 {K : Nat → Prop} : mLen (wH h0 b I A P R o) (b + 54) K ↔ K 40 := fx_mLenI (c := 54) (l := wL b I A P R o) rfl
theorem wl_54 {z : Int} {K : Int32 → Prop} (h1 : 0 ≤ z) (h2 : z < 40) : mLdI (wH h0 b I A P R o) (b + 54) (iI z) K ↔ K (iI (A 24 z.toNat)) := fx_mLdI (c := 54) (l := wL b I A P R o) rfl (by decide) h1 h2
theorem ws_54 {z x : Int} {K : mH → Prop} (hb : G.2.2.2 ≤ b) (h1 : 0 ≤ z) (h2 : z < 40) : mStI G (wH h0 b I A P R o) (b + 54) (iI z) (iI x) K ↔ K (wH h0 b I (upA A 24 (upE (A 24) z.toNat x)) P R o) := fx_mStI (c := 54) (l := wL b I A P R o) (l' := wL b I (upA A 24 (upE (A 24) z.toNat x)) P R o) rfl (by decide) hb h1 h2 rfl
theorem wn_55 {K : Nat → Prop} : mLen (wH h0 b I A P R o) (b + 55) K ↔ K 40 := fx_mLenI (c := 55) (l := wL b I A P R o) rfl
theorem wl_55 {z : Int} {K : Int32 → Prop} (h1 : 0 ≤ z) (h2 : z < 40) : mLdI (wH h0 b I A P R o) (b + 55) (iI z) K ↔ K (iI (A 25 z.toNat)) := fx_mLdI (c := 55) (l := wL b I A P R o) rfl (by decide) h1 h2
theorem ws_55 {z x : Int} {K : mH → Prop} (hb : G.2.2.2 ≤ b) (h1 : 0 ≤ z) (h2 : z < 40) : mStI G (wH h0 b I A P R o) (b + 55) (iI z) (iI x) K ↔ K (wH h0 b I (upA A 25 (upE (A 25) z.toNat x)) P R o) := fx_mStI (c := 55) (l := wL b I A P R o) (l' := wL b I (upA A 25 (upE (A 25) z.toNat x)) P R o) rfl (by decide) hb h1 h2 rfl
theorem wn_56 {K : Nat → Prop} : mLen (wH h0 b I A P R o) (b + 56) K ↔ K 40 := fx_mLenI (c := 56) (l := wL b I A P R o) rfl
theorem wl_56 {z : Int} {K : Int32 → Prop} (h1 : 0 ≤ z) (h2 : z < 40) : mLdI (wH h0 b I A P R o) (b + 56) (iI z) K ↔ K (iI (A 26 z.toNat)) := fx_mLdI (c := 56) (l := wL b I A P R o) rfl (by decide) h1 h2
theorem ws_56 {z x : Int} {K : mH → Prop} (hb : G.2.2.2 ≤ b) (h1 : 0 ≤ z) (h2 : z < 40) : mStI G (wH h0 b I A P R o) (b + 56) (iI z) (iI x) K ↔ K (wH h0 b I (upA A 26 (upE (A 26) z.toNat x)) P R o) := fx_mStI (c := 56) (l := wL b I A P R o) (l' := wL b I (upA A 26 (upE (A 26) z.toNat x)) P R o) rfl (by decide) hb h1 h2 rfl
theorem wn_57 {K : Nat → Prop} : mLen (wH h0 b I A P R o) (b + 57) K ↔ K 40 := fx_mLenI (c := 57) (l := wL b I A P R o) rfl
theorem wl_57 {z : Int} {K : Int32 → Prop} (h1 : 0 ≤ z) (h2 : z < 40) : mLdI (wH h0 b I A P R o) (b + 57) (iI z) K ↔ K (iI (A 27 z.toNat)) := fx_mLdI (c := 57) (l := wL b I A P R o) rfl (by decide) h1 h2
theorem ws_57 {z x : Int} {K : mH → Prop} (hb : G.2.2.2 ≤ b) (h1 : 0 ≤ z) (h2 : z < 40) : mStI G (wH h0 b I A P R o) (b + 57) (iI z) (iI x) K ↔ K (wH h0 b I (upA A 27 (upE (A 27) z.toNat x)) P R o) := fx_mStI (c := 57) (l := wL b I A P R o) (l' := wL b I (upA A 27 (upE (A 27) z.toNat x)) P R o) rfl (by decide) hb h1 h2 rfl
theorem wn_58 {K : Nat → Prop} : mLen (wH h0 b I A P R o) (b + 58) K ↔ K 40 := fx_mLenI (c := 58) (l := wL b I A P R o) rfl
theorem wl_58 {z : Int} {K : Int32 → Prop} (h1 : 0 ≤ z) (h2 : z < 40) : mLdI (wH h0 b I A P R o) (b + 58) (iI z) K ↔ K (iI (A 28 z.toNat)) := fx_mLdI (c := 58) (l := wL b I A P R o) rfl (by decide) h1 h2
theorem ws_58 {z x : Int} {K : mH → Prop} (hb : G.2.2.2 ≤ b) (h1 : 0 ≤ z) (h2 : z < 40) : mStI G (wH h0 b I A P R o) (b + 58) (iI z) (iI x) K ↔ K (wH h0 b I (upA A 28 (upE (A 28) z.toNat x)) P R o) := fx_mStI (c := 58) (l := wL b I A P R o) (l' := wL b I (upA A 28 (upE (A 28) z.toNat x)) P R o) rfl (by decide) hb h1 h2 rfl
theorem wn_59 {K : Nat → Prop} : mLen (wH h0 b I A P R o) (b + 59) K ↔ K 160 := fx_mLenI (c := 59) (l := wL b I A P R o) rfl
theorem wl_59 {z : Int} {K : Int32 → Prop} (h1 : 0 ≤ z) (h2 : z < 160) : mLdI (wH h0 b I A P R o) (b + 59) (iI z) K ↔ K (iI (A 29 z.toNat)) := fx_mLdI (c := 59) (l := wL b I A P R o) rfl (by decide) h1 h2
theorem ws_59 {z x : Int} {K : mH → Prop} (hb : G.2.2.2 ≤ b) (h1 : 0 ≤ z) (h2 : z < 160) : mStI G (wH h0 b I A P R o) (b + 59) (iI z) (iI x) K ↔ K (wH h0 b I (upA A 29 (upE (A 29) z.toNat x)) P R o) := fx_mStI (c := 59) (l := wL b I A P R o) (l' := wL b I (upA A 29 (upE (A 29) z.toNat x)) P R o) rfl (by decide) hb h1 h2 rfl
theorem wn_60 {K : Nat → Prop} : mLen (wH h0 b I A P R o) (b + 60) K ↔ K 40 := fx_mLenI (c := 60) (l := wL b I A P R o) rfl
theorem wl_60 {z : Int} {K : Int32 → Prop} (h1 : 0 ≤ z) (h2 : z < 40) : mLdI (wH h0 b I A P R o) (b + 60) (iI z) K ↔ K (iI (A 30 z.toNat)) := fx_mLdI (c := 60) (l := wL b I A P R o) rfl (by decide) h1 h2
theorem ws_60 {z x : Int} {K : mH → Prop} (hb : G.2.2.2 ≤ b) (h1 : 0 ≤ z) (h2 : z < 40) : mStI G (wH h0 b I A P R o) (b + 60) (iI z) (iI x) K ↔ K (wH h0 b I (upA A 30 (upE (A 30) z.toNat x)) P R o) := fx_mStI (c := 60) (l := wL b I A P R o) (l' := wL b I (upA A 30 (upE (A 30) z.toNat x)) P R o) rfl (by decide) hb h1 h2 rfl
theorem wn_61 {K : Nat → Prop} : mLen (wH h0 b I A P R o) (b + 61) K ↔ K 4000 := fx_mLenI (c := 61) (l := wL b I A P R o) rfl
theorem wl_61 {z : Int} {K : Int32 → Prop} (h1 : 0 ≤ z) (h2 : z < 4000) : mLdI (wH h0 b I A P R o) (b + 61) (iI z) K ↔ K (iI (A 31 z.toNat)) := fx_mLdI (c := 61) (l := wL b I A P R o) rfl (by decide) h1 h2
theorem ws_61 {z x : Int} {K : mH → Prop} (hb : G.2.2.2 ≤ b) (h1 : 0 ≤ z) (h2 : z < 4000) : mStI G (wH h0 b I A P R o) (b + 61) (iI z) (iI x) K ↔ K (wH h0 b I (upA A 31 (upE (A 31) z.toNat x)) P R o) := fx_mStI (c := 61) (l := wL b I A P R o) (l' := wL b I (upA A 31 (upE (A 31) z.toNat x)) P R o) rfl (by decide) hb h1 h2 rfl
theorem wn_62 {K : Nat → Prop} : mLen (wH h0 b I A P R o) (b + 62) K ↔ K 41 := fx_mLenI (c := 62) (l := wL b I A P R o) rfl
theorem wl_62 {z : Int} {K : Int32 → Prop} (h1 : 0 ≤ z) (h2 : z < 41) : mLdI (wH h0 b I A P R o) (b + 62) (iI z) K ↔ K (iI (A 32 z.toNat)) := fx_mLdI (c := 62) (l := wL b I A P R o) rfl (by decide) h1 h2
theorem ws_62 {z x : Int} {K : mH → Prop} (hb : G.2.2.2 ≤ b) (h1 : 0 ≤ z) (h2 : z < 41) : mStI G (wH h0 b I A P R o) (b + 62) (iI z) (iI x) K ↔ K (wH h0 b I (upA A 32 (upE (A 32) z.toNat x)) P R o) := fx_mStI (c := 62) (l := wL b I A P R o) (l' := wL b I (upA A 32 (upE (A 32) z.toNat x)) P R o) rfl (by decide) hb h1 h2 rfl
theorem wn_63 {K : Nat → Prop} : mLen (wH h0 b I A P R o) (b + 63) K ↔ K 205 := fx_mLenI (c := 63) (l := wL b I A P R o) rfl
theorem wl_63 {z : Int} {K : Int32 → Prop} (h1 : 0 ≤ z) (h2 : z < 205) : mLdI (wH h0 b I A P R o) (b + 63) (iI z) K ↔ K (iI (A 33 z.toNat)) := fx_mLdI (c := 63) (l := wL b I A P R o) rfl (by decide) h1 h2
theorem ws_63 {z x : Int} {K : mH → Prop} (hb : G.2.2.2 ≤ b) (h1 : 0 ≤ z) (h2 : z < 205) : mStI G (wH h0 b I A P R o) (b + 63) (iI z) (iI x) K ↔ K (wH h0 b I (upA A 33 (upE (A 33) z.toNat x)) P R o) := fx_mStI (c := 63) (l := wL b I A P R o) (l' := wL b I (upA A 33 (upE (A 33) z.toNat x)) P R o) rfl (by decide) hb h1 h2 rfl
theorem wn_64 {K : Nat → Prop} : mLen (wH h0 b I A P R o) (b + 64) K ↔ K 205 := fx_mLenI (c := 64) (l := wL b I A P R o) rfl
theorem wl_64 {z : Int} {K : Int32 → Prop} (h1 : 0 ≤ z) (h2 : z < 205) : mLdI (wH h0 b I A P R o) (b + 64) (iI z) K ↔ K (iI (A 34 z.toNat)) := fx_mLdI (c := 64) (l := wL b I A P R o) rfl (by decide) h1 h2
theorem ws_64 {z x : Int} {K : mH → Prop} (hb : G.2.2.2 ≤ b) (h1 : 0 ≤ z) (h2 : z < 205) : mStI G (wH h0 b I A P R o) (b + 64) (iI z) (iI x) K ↔ K (wH h0 b I (upA A 34 (upE (A 34) z.toNat x)) P R o) := fx_mStI (c := 64) (l := wL b I A P R o) (l' := wL b I (upA A 34 (upE (A 34) z.toNat x)) P R o) rfl (by decide) hb h1 h2 rfl
theorem wn_65 {K : Nat → Prop} : mLen (wH h0 b I A P R o) (b + 65) K ↔ K 205 := fx_mLenI (c := 65) (l := wL b I A P R o) rfl
theorem wl_65 {z : Int} {K : Int32 → Prop} (h1 : 0 ≤ z) (h2 : z < 205) : mLdI (wH h0 b I A P R o) (b + 65) (iI z) K ↔ K (iI (A 35 z.toNat)) := fx_mLdI (c := 65) (l := wL b I A P R o) rfl (by decide) h1 h2
theorem ws_65 {z x : Int} {K : mH → Prop} (hb : G.2.2.2 ≤ b) (h1 : 0 ≤ z) (h2 : z < 205) : mStI G (wH h0 b I A P R o) (b + 65) (iI z) (iI x) K ↔ K (wH h0 b I (upA A 35 (upE (A 35) z.toNat x)) P R o) := fx_mStI (c := 65) (l := wL b I A P R o) (l' := wL b I (upA A 35 (upE (A 35) z.toNat x)) P R o) rfl (by decide) hb h1 h2 rfl
theorem wn_66 {K : Nat → Prop} : mLen (wH h0 b I A P R o) (b + 66) K ↔ K 4100 := fx_mLenI (c := 66) (l := wL b I A P R o) rfl
theorem wl_66 {z : Int} {K : Int32 → Prop} (h1 : 0 ≤ z) (h2 : z < 4100) : mLdI (wH h0 b I A P R o) (b + 66) (iI z) K ↔ K (iI (A 36 z.toNat)) := fx_mLdI (c := 66) (l := wL b I A P R o) rfl (by decide) h1 h2
theorem ws_66 {z x : Int} {K : mH → Prop} (hb : G.2.2.2 ≤ b) (h1 : 0 ≤ z) (h2 : z < 4100) : mStI G (wH h0 b I A P R o) (b + 66) (iI z) (iI x) K ↔ K (wH h0 b I (upA A 36 (upE (A 36) z.toNat x)) P R o) := fx_mStI (c := 66) (l := wL b I A P R o) (l' := wL b I (upA A 36 (upE (A 36) z.toNat x)) P R o) rfl (by decide) hb h1 h2 rfl
theorem wn_67 {K : Nat → Prop} : mLen (wH h0 b I A P R o) (b + 67) K ↔ K 20 := fx_mLenI (c := 67) (l := wL b I A P R o) rfl
theorem wl_67 {z : Int} {K : Int32 → Prop} (h1 : 0 ≤ z) (h2 : z < 20) : mLdI (wH h0 b I A P R o) (b + 67) (iI z) K ↔ K (iI (A 37 z.toNat)) := fx_mLdI (c := 67) (l := wL b I A P R o) rfl (by decide) h1 h2
theorem ws_67 {z x : Int} {K : mH → Prop} (hb : G.2.2.2 ≤ b) (h1 : 0 ≤ z) (h2 : z < 20) : mStI G (wH h0 b I A P R o) (b + 67) (iI z) (iI x) K ↔ K (wH h0 b I (upA A 37 (upE (A 37) z.toNat x)) P R o) := fx_mStI (c := 67) (l := wL b I A P R o) (l' := wL b I (upA A 37 (upE (A 37) z.toNat x)) P R o) rfl (by decide) hb h1 h2 rfl
theorem wn_68 {K : Nat → Prop} : mLen (wH h0 b I A P R o) (b + 68) K ↔ K 32 := fx_mLenI (c := 68) (l := wL b I A P R o) rfl
theorem wl_68 {z : Int} {K : Int32 → Prop} (h1 : 0 ≤ z) (h2 : z < 32) : mLdI (wH h0 b I A P R o) (b + 68) (iI z) K ↔ K (iI (A 38 z.toNat)) := fx_mLdI (c := 68) (l := wL b I A P R o) rfl (by decide) h1 h2
theorem ws_68 {z x : Int} {K : mH → Prop} (hb : G.2.2.2 ≤ b) (h1 : 0 ≤ z) (h2 : z < 32) : mStI G (wH h0 b I A P R o) (b + 68) (iI z) (iI x) K ↔ K (wH h0 b I (upA A 38 (upE (A 38) z.toNat x)) P R o) := fx_mStI (c := 68) (l := wL b I A P R o) (l' := wL b I (upA A 38 (upE (A 38) z.toNat x)) P R o) rfl (by decide) hb h1 h2 rfl
theorem wn_69 {K : Nat → Prop} : mLen (wH h0 b I A P R o) (b + 69) K ↔ K 9 := fx_mLenI (c := 69) (l := wL b I A P R o) rfl
theorem wl_69 {z : Int} {K : Int32 → Prop} (h1 : 0 ≤ z) (h2 : z < 9) : mLdI (wH h0 b I A P R o) (b + 69) (iI z) K ↔ K (iI (A 39 z.toNat)) := fx_mLdI (c := 69) (l := wL b I A P R o) rfl (by decide) h1 h2
theorem ws_69 {z x : Int} {K : mH → Prop} (hb : G.2.2.2 ≤ b) (h1 : 0 ≤ z) (h2 : z < 9) : mStI G (wH h0 b I A P R o) (b + 69) (iI z) (iI x) K ↔ K (wH h0 b I (upA A 39 (upE (A 39) z.toNat x)) P R o) := fx_mStI (c := 69) (l := wL b I A P R o) (l' := wL b I (upA A 39 (upE (A 39) z.toNat x)) P R o) rfl (by decide) hb h1 h2 rfl
theorem wn_70 {K : Nat → Prop} : mLen (wH h0 b I A P R o) (b + 70) K ↔ K 9 := fx_mLenZ (c := 70) (l := wL b I A P R o) rfl
theorem wl_70 {z : Int} {K : Int32 → Prop} (h1 : 0 ≤ z) (h2 : z < 9) : mLdZ (wH h0 b I A P R o) (b + 70) (iI z) K ↔ K (iI (A 40 z.toNat)) := fx_mLdZ (c := 70) (l := wL b I A P R o) rfl (by decide) h1 h2
theorem ws_70 {z x : Int} {K : mH → Prop} (hb : G.2.2.2 ≤ b) (h1 : 0 ≤ z) (h2 : z < 9) (hx : x = 0 ∨ x = 1) : mStZ G (wH h0 b I A P R o) (b + 70) (iI z) (iI x) K ↔ K (wH h0 b I (upA A 40 (upE (A 40) z.toNat x)) P R o) := fx_mStZ (c := 70) (l := wL b I A P R o) (l' := wL b I (upA A 40 (upE (A 40) z.toNat x)) P R o) rfl (by decide) hb h1 h2 hx rfl
theorem wn_71 {K : Nat → Prop} : mLen (wH h0 b I A P R o) (b + 71) K ↔ K 8 := fx_mLenI (c := 71) (l := wL b I A P R o) rfl
theorem wl_71 {z : Int} {K : Int32 → Prop} (h1 : 0 ≤ z) (h2 : z < 8) : mLdI (wH h0 b I A P R o) (b + 71) (iI z) K ↔ K (iI (A 41 z.toNat)) := fx_mLdI (c := 71) (l := wL b I A P R o) rfl (by decide) h1 h2
theorem ws_71 {z x : Int} {K : mH → Prop} (hb : G.2.2.2 ≤ b) (h1 : 0 ≤ z) (h2 : z < 8) : mStI G (wH h0 b I A P R o) (b + 71) (iI z) (iI x) K ↔ K (wH h0 b I (upA A 41 (upE (A 41) z.toNat x)) P R o) := fx_mStI (c := 71) (l := wL b I A P R o) (l' := wL b I (upA A 41 (upE (A 41) z.toNat x)) P R o) rfl (by decide) hb h1 h2 rfl
theorem wn_72 {K : Nat → Prop} : mLen (wH h0 b I A P R o) (b + 72) K ↔ K 8 := fx_mLenI (c := 72) (l := wL b I A P R o) rfl
theorem wl_72 {z : Int} {K : Int32 → Prop} (h1 : 0 ≤ z) (h2 : z < 8) : mLdI (wH h0 b I A P R o) (b + 72) (iI z) K ↔ K (iI (A 42 z.toNat)) := fx_mLdI (c := 72) (l := wL b I A P R o) rfl (by decide) h1 h2
theorem ws_72 {z x : Int} {K : mH → Prop} (hb : G.2.2.2 ≤ b) (h1 : 0 ≤ z) (h2 : z < 8) : mStI G (wH h0 b I A P R o) (b + 72) (iI z) (iI x) K ↔ K (wH h0 b I (upA A 42 (upE (A 42) z.toNat x)) P R o) := fx_mStI (c := 72) (l := wL b I A P R o) (l' := wL b I (upA A 42 (upE (A 42) z.toNat x)) P R o) rfl (by decide) hb h1 h2 rfl
theorem wn_73 {K : Nat → Prop} : mLen (wH h0 b I A P R o) (b + 73) K ↔ K 256 := fx_mLenI (c := 73) (l := wL b I A P R o) rfl
theorem wl_73 {z : Int} {K : Int32 → Prop} (h1 : 0 ≤ z) (h2 : z < 256) : mLdI (wH h0 b I A P R o) (b + 73) (iI z) K ↔ K (iI (A 43 z.toNat)) := fx_mLdI (c := 73) (l := wL b I A P R o) rfl (by decide) h1 h2
theorem ws_73 {z x : Int} {K : mH → Prop} (hb : G.2.2.2 ≤ b) (h1 : 0 ≤ z) (h2 : z < 256) : mStI G (wH h0 b I A P R o) (b + 73) (iI z) (iI x) K ↔ K (wH h0 b I (upA A 43 (upE (A 43) z.toNat x)) P R o) := fx_mStI (c := 73) (l := wL b I A P R o) (l' := wL b I (upA A 43 (upE (A 43) z.toNat x)) P R o) rfl (by decide) hb h1 h2 rfl
theorem wn_74 {K : Nat → Prop} : mLen (wH h0 b I A P R o) (b + 74) K ↔ K 300 := fx_mLenI (c := 74) (l := wL b I A P R o) rfl
theorem wl_74 {z : Int} {K : Int32 → Prop} (h1 : 0 ≤ z) (h2 : z < 300) : mLdI (wH h0 b I A P R o) (b + 74) (iI z) K ↔ K (iI (A 44 z.toNat)) := fx_mLdI (c := 74) (l := wL b I A P R o) rfl (by decide) h1 h2
theorem ws_74 {z x : Int} {K : mH → Prop} (hb : G.2.2.2 ≤ b) (h1 : 0 ≤ z) (h2 : z < 300) : mStI G (wH h0 b I A P R o) (b + 74) (iI z) (iI x) K ↔ K (wH h0 b I (upA A 44 (upE (A 44) z.toNat x)) P R o) := fx_mStI (c := 74) (l := wL b I A P R o) (l' := wL b I (upA A 44 (upE (A 44) z.toNat x)) P R o) rfl (by decide) hb h1 h2 rfl
theorem wn_75 {K : Nat → Prop} : mLen (wH h0 b I A P R o) (b + 75) K ↔ K 128 := fx_mLenI (c := 75) (l := wL b I A P R o) rfl
theorem wl_75 {z : Int} {K : Int32 → Prop} (h1 : 0 ≤ z) (h2 : z < 128) : mLdI (wH h0 b I A P R o) (b + 75) (iI z) K ↔ K (iI (A 45 z.toNat)) := fx_mLdI (c := 75) (l := wL b I A P R o) rfl (by decide) h1 h2
theorem ws_75 {z x : Int} {K : mH → Prop} (hb : G.2.2.2 ≤ b) (h1 : 0 ≤ z) (h2 : z < 128) : mStI G (wH h0 b I A P R o) (b + 75) (iI z) (iI x) K ↔ K (wH h0 b I (upA A 45 (upE (A 45) z.toNat x)) P R o) := fx_mStI (c := 75) (l := wL b I A P R o) (l' := wL b I (upA A 45 (upE (A 45) z.toNat x)) P R o) rfl (by decide) hb h1 h2 rfl
theorem wn_76 {K : Nat → Prop} : mLen (wH h0 b I A P R o) (b + 76) K ↔ K 128 := fx_mLenI (c := 76) (l := wL b I A P R o) rfl
theorem wl_76 {z : Int} {K : Int32 → Prop} (h1 : 0 ≤ z) (h2 : z < 128) : mLdI (wH h0 b I A P R o) (b + 76) (iI z) K ↔ K (iI (A 46 z.toNat)) := fx_mLdI (c := 76) (l := wL b I A P R o) rfl (by decide) h1 h2
theorem ws_76 {z x : Int} {K : mH → Prop} (hb : G.2.2.2 ≤ b) (h1 : 0 ≤ z) (h2 : z < 128) : mStI G (wH h0 b I A P R o) (b + 76) (iI z) (iI x) K ↔ K (wH h0 b I (upA A 46 (upE (A 46) z.toNat x)) P R o) := fx_mStI (c := 76) (l := wL b I A P R o) (l' := wL b I (upA A 46 (upE (A 46) z.toNat x)) P R o) rfl (by decide) hb h1 h2 rfl
theorem wn_77 {K : Nat → Prop} : mLen (wH h0 b I A P R o) (b + 77) K ↔ K 300 := fx_mLenI (c := 77) (l := wL b I A P R o) rfl
theorem wl_77 {z : Int} {K : Int32 → Prop} (h1 : 0 ≤ z) (h2 : z < 300) : mLdI (wH h0 b I A P R o) (b + 77) (iI z) K ↔ K (iI (A 47 z.toNat)) := fx_mLdI (c := 77) (l := wL b I A P R o) rfl (by decide) h1 h2
theorem ws_77 {z x : Int} {K : mH → Prop} (hb : G.2.2.2 ≤ b) (h1 : 0 ≤ z) (h2 : z < 300) : mStI G (wH h0 b I A P R o) (b + 77) (iI z) (iI x) K ↔ K (wH h0 b I (upA A 47 (upE (A 47) z.toNat x)) P R o) := fx_mStI (c := 77) (l := wL b I A P R o) (l' := wL b I (upA A 47 (upE (A 47) z.toNat x)) P R o) rfl (by decide) hb h1 h2 rfl
end
end MWORLD
