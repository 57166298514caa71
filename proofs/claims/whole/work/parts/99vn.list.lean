/-! ArrayList.add in the world; Program.make. -/
section MLIST
variable {G : mG} {h h0 : mH} {n k b : Nat} {Q : mR → Prop} {I : Nat → Int} {A : Nat → Nat → Int} {P : Nat → Nat} {R : Nat → Option Nat} {o : Nat → Int64}
section
variable {J : Nat → Int} {B : Nat → Nat → Int} {fa : Nat → Nat} {fb : Nat → Nat → Int} {fcap : Nat} {fg : Nat → Option Nat} {W : Nat → Nat → Nat → Nat} {V : Nat → Nat → Nat → Nat → Int} {X : Nat → Nat → Option Nat} {cap : Nat} {ng : Nat → Option Nat} {h1 : mH}
theorem wA_18 : wH h0 b I A P R o (b + 18) = some (mO 0 [.int (iI (I 17)), .ref (P 3), .int (iI (I 18))]) := fx_get (j := 18) (l := wL b I A P R o) rfl
theorem wU_18 {m c : Int} {p : Nat} : mUp (wH h0 b I A P R o) (b + 18) (mO 0 [.int (iI m), .ref p, .int (iI c)]) = wH h0 b (updI (updI I 17 m) 18 c) A (upP P 3 p) R o := fx_set (j := 18) (l := wL b I A P R o) (l' := wL b (updI (updI I 17 m) 18 c) A (upP P 3 p) R o) (e0 := mO 0 [.int (iI (I 17)), .ref (P 3), .int (iI (I 18))]) rfl rfl
theorem wA_7 : wH h0 b I A P R o (b + 7) = some (mO 0 [.int (iI (I 9)), .ref (P 2), .int (iI (I 10))]) := fx_get (j := 7) (l := wL b I A P R o) rfl
theorem wU_7 {m c : Int} {p : Nat} : mUp (wH h0 b I A P R o) (b + 7) (mO 0 [.int (iI m), .ref p, .int (iI c)]) = wH h0 b (updI (updI I 9 m) 10 c) A (upP P 2 p) R o := fx_set (j := 7) (l := wL b I A P R o) (l' := wL b (updI (updI I 9 m) 10 c) A (upP P 2 p) R o) (e0 := mO 0 [.int (iI (I 9)), .ref (P 2), .int (iI (I 10))]) rfl rfl
theorem hol_18 {a : Nat} (h : hol b a) : a ≠ b + 18 := by unfold hol at h; omega
theorem hol_7 {a : Nat} (h : hol b a) : a ≠ b + 7 := by unfold hol at h; omega
theorem upP_self (P : Nat → Nat) (i : Nat) : upP P i (P i) = P := by
  funext j
  rw [upP_at]
  split
  · rename_i q; rw [q]
  · rfl
/-- what an add leaves: the array's place, its length, what it holds, the heap's size, the slots made -/
theorem add_n {y ci lo : Nat} {fs : List Value} {c : Int} (hb : G.2.2.2 ≤ b) (hlo : 1 ≤ lo ∧ lo ≤ 10) (hg1 : (c = 0 ∧ P 3 = G.2.2.1 6 ∧ ∃ f, h0 (P 3) = some (.inl (3, 0, f))) ∨ (G.2.2.2 ≤ P 3 ∧ (c ≤ cap ∧ lo ≤ cap) ∧ h0 (P 3) = some (mA 4 cap ng))) (hcap : cap ≤ 100) (hl : hol b (P 3)) (hc : (I 18) = c) (hN : 0 ≤ c ∧ c < 40) (hy : h0 y = some (mO ci fs)) (hhy : hol b y) (hn : b + 79 ≤ n) (hyn : y < n) (hpn : P 3 < n)
    (hob : ∀ i : Nat, (i : Int) < c → ∃ q ci fs, ng i = some q ∧ q < n ∧ hol b q ∧ h0 q = some (mO ci fs)) : ∃ (p3 cap' : Nat) (ng' : Nat → Option Nat) (n' d : Nat), (∀ k Q, mX G 273 0 [.ref (b + 18), .ref y] [] (wH h0 b I A P R o) n k Q ↔ Q (.inl (some (.int (iI 1))), wH (mUp h0 p3 (mA 4 cap' ng')) b (updI (updI I 17 ((I 17) + 1)) 18 (c + 1)) A (upP P 3 p3) R o, n', k + d)) ∧
      ((p3 = P 3 ∧ n' = n ∧ h0 p3 = some (mA 4 cap ng)) ∨ (p3 = n ∧ n' = n + 1)) ∧ d ≤ 100 ∧ ((∀ i : Nat, (i : Int) < c → ng' i = ng i) ∧ ng' c.toNat = some y) ∧ ((c + 1 ≤ cap' ∧ lo ≤ cap') ∧ cap' ≤ 100) ∧ (G.2.2.2 ≤ p3 ∧ hol b p3) := by
  have ea : wH h0 b I A P R o (b + 18) = some (mO 0 [.int (iI (I 17)), .ref (P 3), .int (iI c)]) := by rw [← hc]; exact wA_18
  have ey : wH h0 b I A P R o y = some (mO ci fs) := by rw [wH_hole hhy]; exact hy
  have hnn : hol b n := Or.inr (Or.inl hn)
  rcases hg1 with ⟨c0, e6, f, hf⟩ | ⟨hp, ⟨hcc, hlc⟩, hh⟩
  · have e3 : wH h0 b I A P R o (G.2.2.1 6) = some (.inl (3, 0, f)) := by rw [← e6, wH_hole hl]; exact hf
    refine ⟨n, 10, va_up (fun _ => none) 0 (some y), n + 1, 10, ?_, Or.inr ⟨rfl, rfl⟩, by omega, ⟨fun i hi => by omega, ?_⟩, ⟨⟨by omega, hlo.2⟩, by omega⟩, ⟨by omega, hnn⟩⟩
    · intro k Q
      rw [c0, e6] at ea
      rw [r273_z ea e3 ey (hol_18 hhy) (by omega) (by omega) (by omega) (by omega) (by omega), wH_put hnn, wU_18, c0]
      exact Iff.rfl
    · rw [c0]
      exact va_up_self _ _ _
  · have e3 : wH h0 b I A P R o (P 3) = some (mA 4 cap ng) := by rw [wH_hole hl]; exact hh
    by_cases p : c < cap
    · refine ⟨P 3, cap, va_up ng c.toNat (some y), n, 0, ?_, Or.inl ⟨rfl, rfl, hh⟩, by omega, ⟨fun i hi => va_up_ne _ _ (by omega), va_up_self _ _ _⟩, ⟨⟨by omega, hlc⟩, hcap⟩, ⟨hp, hl⟩⟩
      intro k Q
      rw [r273_a ea e3 ey (hol_18 hhy) (by omega) hp hcap ⟨hN.1, p⟩, wH_put hl, wU_18]
      exact Iff.rfl
    · have ec : c = (cap : Int) := by omega
      have gb := grN_r (x := cap) (by omega)
      refine ⟨n, cap + grN cap, va_up (va_cpy ng (fun _ => none) 0 0 cap) cap (some y), n + 1, cap + grN cap, ?_, Or.inr ⟨rfl, rfl⟩, by omega, ⟨fun i hi => ?_, ?_⟩, ⟨⟨by omega, by omega⟩, by omega⟩, ⟨by omega, hnn⟩⟩
      · intro k Q
        rw [r273_g ea e3 ey (hol_18 hhy) (by omega) (by omega) ec (by omega) (by omega) (by omega) (by omega) (fun i hi => by
          obtain ⟨q, ci, fs, w1, w2, w3, w4⟩ := hob i (by omega)
          exact ⟨q, ci, fs, w1, ⟨by omega, hol_18 w3⟩, by rw [wH_hole w3]; exact w4⟩), wH_put hnn, wU_18]
      · rw [va_up_ne _ _ (by omega)]
        unfold va_cpy
        rw [if_pos (by omega)]
        congr 1
        omega
      · rw [ec, Int.toNat_natCast]
        exact va_up_self _ _ _
/-- what an add leaves: the array's place, its length, what it holds, the heap's size, the slots made -/
theorem add_f {y ci lo : Nat} {fs : List Value} {c : Int} (hb : G.2.2.2 ≤ b) (hlo : 1 ≤ lo ∧ lo ≤ 10) (hg1 : (c = 0 ∧ P 2 = G.2.2.1 6 ∧ ∃ f, h0 (P 2) = some (.inl (3, 0, f))) ∨ (G.2.2.2 ≤ P 2 ∧ (c ≤ cap ∧ lo ≤ cap) ∧ h0 (P 2) = some (mA 4 cap ng))) (hcap : cap ≤ 100) (hl : hol b (P 2)) (hc : (I 10) = c) (hN : 0 ≤ c ∧ c < 40) (hy : h0 y = some (mO ci fs)) (hhy : hol b y) (hn : b + 79 ≤ n) (hyn : y < n) (hpn : P 2 < n)
    (hob : ∀ i : Nat, (i : Int) < c → ∃ q ci fs, ng i = some q ∧ q < n ∧ hol b q ∧ h0 q = some (mO ci fs)) : ∃ (p3 cap' : Nat) (ng' : Nat → Option Nat) (n' d : Nat), (∀ k Q, mX G 273 0 [.ref (b + 7), .ref y] [] (wH h0 b I A P R o) n k Q ↔ Q (.inl (some (.int (iI 1))), wH (mUp h0 p3 (mA 4 cap' ng')) b (updI (updI I 9 ((I 9) + 1)) 10 (c + 1)) A (upP P 2 p3) R o, n', k + d)) ∧
      ((p3 = P 2 ∧ n' = n ∧ h0 p3 = some (mA 4 cap ng)) ∨ (p3 = n ∧ n' = n + 1)) ∧ d ≤ 100 ∧ ((∀ i : Nat, (i : Int) < c → ng' i = ng i) ∧ ng' c.toNat = some y) ∧ ((c + 1 ≤ cap' ∧ lo ≤ cap') ∧ cap' ≤ 100) ∧ (G.2.2.2 ≤ p3 ∧ hol b p3) := by
  have ea : wH h0 b I A P R o (b + 7) = some (mO 0 [.int (iI (I 9)), .ref (P 2), .int (iI c)]) := by rw [← hc]; exact wA_7
  have ey : wH h0 b I A P R o y = some (mO ci fs) := by rw [wH_hole hhy]; exact hy
  have hnn : hol b n := Or.inr (Or.inl hn)
  rcases hg1 with ⟨c0, e6, f, hf⟩ | ⟨hp, ⟨hcc, hlc⟩, hh⟩
  · have e3 : wH h0 b I A P R o (G.2.2.1 6) = some (.inl (3, 0, f)) := by rw [← e6, wH_hole hl]; exact hf
    refine ⟨n, 10, va_up (fun _ => none) 0 (some y), n + 1, 10, ?_, Or.inr ⟨rfl, rfl⟩, by omega, ⟨fun i hi => by omega, ?_⟩, ⟨⟨by omega, hlo.2⟩, by omega⟩, ⟨by omega, hnn⟩⟩
    · intro k Q
      rw [c0, e6] at ea
      rw [r273_z ea e3 ey (hol_7 hhy) (by omega) (by omega) (by omega) (by omega) (by omega), wH_put hnn, wU_7, c0]
      exact Iff.rfl
    · rw [c0]
      exact va_up_self _ _ _
  · have e3 : wH h0 b I A P R o (P 2) = some (mA 4 cap ng) := by rw [wH_hole hl]; exact hh
    by_cases p : c < cap
    · refine ⟨P 2, cap, va_up ng c.toNat (some y), n, 0, ?_, Or.inl ⟨rfl, rfl, hh⟩, by omega, ⟨fun i hi => va_up_ne _ _ (by omega), va_up_self _ _ _⟩, ⟨⟨by omega, hlc⟩, hcap⟩, ⟨hp, hl⟩⟩
      intro k Q
      rw [r273_a ea e3 ey (hol_7 hhy) (by omega) hp hcap ⟨hN.1, p⟩, wH_put hl, wU_7]
      exact Iff.rfl
    · have ec : c = (cap : Int) := by omega
      have gb := grN_r (x := cap) (by omega)
      refine ⟨n, cap + grN cap, va_up (va_cpy ng (fun _ => none) 0 0 cap) cap (some y), n + 1, cap + grN cap, ?_, Or.inr ⟨rfl, rfl⟩, by omega, ⟨fun i hi => ?_, ?_⟩, ⟨⟨by omega, by omega⟩, by omega⟩, ⟨by omega, hnn⟩⟩
      · intro k Q
        rw [r273_g ea e3 ey (hol_7 hhy) (by omega) (by omega) ec (by omega) (by omega) (by omega) (by omega) (fun i hi => by
          obtain ⟨q, ci, fs, w1, w2, w3, w4⟩ := hob i (by omega)
          exact ⟨q, ci, fs, w1, ⟨by omega, hol_7 w3⟩, by rw [wH_hole w3]; exact w4⟩), wH_put hnn, wU_7]
      · rw [va_up_ne _ _ (by omega)]
        unfold va_cpy
        rw [if_pos (by omega)]
        congr 1
        omega
      · rw [ec, Int.toNat_natCast]
        exact va_up_self _ _ _
end
end MLIST
