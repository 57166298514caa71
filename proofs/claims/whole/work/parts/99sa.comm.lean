/-! The class's command. -/
section MCOMM
variable {G : mG} {h h0 : mH} {n k b : Nat} {Q : mR → Prop} {I : Nat → Int} {A : Nat → Nat → Int} {P : Nat → Nat} {R : Nat → Option Nat} {o : Nat → Int64}
section
variable {J : Nat → Int} {B : Nat → Nat → Int} {fa : Nat → Nat} {fb : Nat → Nat → Int} {fcap : Nat} {fg : Nat → Option Nat} {W : Nat → Nat → Nat → Nat} {V : Nat → Nat → Nat → Nat → Int} {X : Nat → Nat → Option Nat} {cap : Nat} {ng : Nat → Option Nat} {h1 : mH}
theorem rst_in (hr : rst G h0 b I A P R J B fa fb fcap fg W V X cap ng) (hP : P 0 = 39 ∧ P 1 = 41) : rst G h0 b (updI (updI I 26 0) 1 0) A (upP (upP P 0 41) 1 39) R (c0I J) B fa fb fcap fg W V X cap ng := by
  obtain ⟨a1, a2, a3, a4, a5, a6, a7, ⟨x1, x2, x3, x4, x5, x6, x7⟩, a9, a10, a11⟩ := hr
  refine ⟨a1, a2, a3, a4, a5, a6, a7, ⟨x1, x2, x3, x4, x5, x6, by show (0 : Int) ≤ 0 ∧ (0 : Int) ≤ 300; omega⟩, ⟨⟨rfl, by show (0 : Int) ≤ 0 ∧ (0 : Int) ≤ 256; omega⟩, ?_⟩, Or.inr ⟨⟨rfl, rfl⟩, rfl, ?_⟩, a11⟩
  · intro j hj
    have hj' : (j : Int) < 0 := hj
    omega
  · intro j hj
    have hj' : (j : Int) < 0 := hj
    omega
theorem rst_in' (hr : rst G h0 b I A P R J B fa fb fcap fg W V X cap ng) (hP : P 0 = 41 ∧ P 1 = 39) : rst G h0 b (updI (updI I 25 0) 1 0) A (upP (upP P 0 39) 1 41) R (c0I J) B fa fb fcap fg W V X cap ng := by
  obtain ⟨a1, a2, a3, a4, a5, a6, a7, ⟨x1, x2, x3, x4, x5, x6, x7⟩, a9, a10, a11⟩ := hr
  refine ⟨a1, a2, a3, a4, a5, a6, a7, ⟨x1, x2, x3, x4, x5, by show (0 : Int) ≤ 0 ∧ (0 : Int) ≤ 300; omega, x7⟩, ⟨⟨rfl, by show (0 : Int) ≤ 0 ∧ (0 : Int) ≤ 256; omega⟩, ?_⟩, Or.inl ⟨⟨rfl, rfl⟩, rfl, ?_⟩, a11⟩
  · intro j hj
    have hj' : (j : Int) < 0 := hj
    omega
  · intro j hj
    have hj' : (j : Int) < 0 := hj
    omega
theorem rst_req {g : Nat → Int} (hr : rst G h0 b I A P R J B fa fb fcap fg W V X cap ng) (hg : ∀ j, 0 ≤ g j ∧ g j ≤ 255) : rst G h0 b I (upA A 1 g) P R J B fa fb fcap fg W V X cap ng := by
  obtain ⟨a1, a2, a3, a4, a5, a6, a7, ⟨x1, x2, x3, x4, x5, x6⟩, a9, a10, a11⟩ := hr
  exact ⟨a1, a2, a3, a4, a5, a6, a7, ⟨x1, x2, x3, hg, x5, x6⟩, a9, a10, a11⟩
/-- what a request that was read leaves: N, g the tape's row -/
theorem rq_in {N : Int} {g : Nat → Int} {P1 : Nat → Nat} (hr : rst G h0 b I A P1 R (c0I J) B fa fb fcap fg W V X cap ng) (ht : N = J 28 ∧ (∀ j : Nat, (j : Int) < N → g j = B 14 j)) (hg : ∀ j, 0 ≤ g j ∧ g j ≤ 255) (hN : 0 ≤ N ∧ N ≤ 300) (ha : (I 1) = 0) {M : Nat → Nat → (mR → Prop) → Prop}
    (z : ∀ n k Q, M n k Q ↔ if N < 4 then Q (.inl (some (.int (iI 0))), wH h0 b (updI (updI I 7 0) 6 (-1)) A P1 R o, n, k)
      else if N = 4 then Q (.inl (some (.int (iI 1))), wH h0 b (updI (updI (updI (updI (updI (updI I 7 0) 6 (-1)) 2 (rget N g 0)) 3 (rget N g 1)) 4 (rget N g 2)) 5 (rget N g 3)) A P1 R o, n, k)
      else if N = 5 then Q (.inl (some (.int (iI 1))), wH h0 b (updI (updI (updI (updI (updI (updI (updI I 7 0) 6 (-1)) 2 (rget N g 0)) 3 (rget N g 1)) 4 (rget N g 2)) 5 (rget N g 3)) 6 (if rget N g 4 = 0 then 256 else rget N g 4)) A P1 R o, n, k)
      else Q (.inl (some (.int (iI (bI (N = 5 + rget N g 4))))), wH h0 b (updI (updI (updI (updI (updI (updI (updI I 7 0) 6 (-1)) 2 (rget N g 0)) 3 (rget N g 1)) 4 (rget N g 2)) 5 (rget N g 3)) 7 (rget N g 4)) (upA A 1 (rcp (A 1) 0 (fun j => rget N g (5 + j)) (rget N g 4).toNat)) P1 R o, n, k)) :
    ∃ (I1 : Nat → Int) (A1 : Nat → Nat → Int), (∀ n k Q, M n k Q ↔ Q (.inl (some (.int (iI (bI (¬ bad B N))))), wH h0 b I1 A1 P1 R o, n, k)) ∧ kpM I A I1 A1 ∧ rst G h0 b I1 A1 P1 R (c0I J) B fa fb fcap fg W V X cap ng ∧ (¬ bad B N → cq I1 A1 (cmI (c0I J) B N) B ∧ I1 2 = B 14 0 ∧ I1 3 = B 14 1) := by
  have gg : ∀ j : Int, 0 ≤ j → j < N → rget N g j = B 14 j.toNat := by
    intro j h1 h2
    unfold rget
    rw [if_pos ⟨h1, h2⟩, ht.2 _ (by omega)]
  have rr := rget_rng (len := N) hg
  have x4 := hr.2.2.2.2.2.2.2.1.2.2.2.1
  have hre : (I 16) = J 38 := hr.2.2.2.2.1.2
  have hve : (I 13) = J 35 := hr.2.2.2.1.1.2.2
  have hfc : (I 10) = J 29 := hr.1.2.1
  have k1 : ∀ x y : Int, kpM I A (updI (updI I 7 x) 6 y) A := fun x y => kpM_I (kpM_I kpM_refl (by decide)) (by decide)
  by_cases p1 : N < 4
  · have hbad : bad B N := Or.inl p1
    refine ⟨_, _, ?_, k1 0 (-1), hr, fun t => absurd hbad t⟩
    intro n k Q
    rw [z n k Q, if_pos p1, bI_f (fun t => t hbad)]
  · have k2 : kpM I A (updI (updI (updI (updI (updI (updI I 7 0) 6 (-1)) 2 (rget N g 0)) 3 (rget N g 1)) 4 (rget N g 2)) 5 (rget N g 3)) A := kpM_I (kpM_I (kpM_I (kpM_I (k1 0 (-1)) (by decide)) (by decide)) (by decide)) (by decide)
    have g0 := gg 0 (by omega) (by omega)
    have g1 := gg 1 (by omega) (by omega)
    have g2 := gg 2 (by omega) (by omega)
    have g3 := gg 3 (by omega) (by omega)
    by_cases p2 : N = 4
    · have hbad : ¬ bad B N := fun t => by rcases t with t | t <;> omega
      refine ⟨_, _, ?_, k2, hr, fun _ => ⟨⟨⟨⟨g2, g3⟩, ?_, ?_⟩, ⟨?_, x4⟩, ⟨ha, hre⟩, hve, hfc⟩, g0, g1⟩⟩
      · intro n k Q
        rw [z n k Q, if_neg p1, if_pos p2, bI_t hbad]
      · show (-1 : Int) = if N = 5 then (if B 14 4 = 0 then 256 else B 14 4) else -1
        rw [if_neg (by omega)]
      · show (0 : Int) = if 5 < N then B 14 4 else 0
        rw [if_neg (by omega)]
      · intro j hj
        have hj' : (j : Int) < if 5 < N then B 14 4 else 0 := hj
        rw [if_neg (by omega)] at hj'
        omega
    · have g4 := gg 4 (by omega) (by omega)
      have g4' : rget N g 4 = B 14 4 := g4
      by_cases p3 : N = 5
      · have hbad : ¬ bad B N := fun t => by rcases t with t | t <;> omega
        refine ⟨_, _, ?_, kpM_I (x := if rget N g 4 = 0 then 256 else rget N g 4) k2 (show 6 < 27 by decide), hr, fun _ => ⟨⟨⟨⟨g2, g3⟩, ?_, ?_⟩, ⟨?_, x4⟩, ⟨ha, hre⟩, hve, hfc⟩, g0, g1⟩⟩
        · intro n k Q
          rw [z n k Q, if_neg p1, if_neg p2, if_pos p3, bI_t hbad]
        · show (if rget N g 4 = 0 then (256 : Int) else rget N g 4) = if N = 5 then (if B 14 4 = 0 then 256 else B 14 4) else -1
          rw [if_pos p3, g4']
        · show (0 : Int) = if 5 < N then B 14 4 else 0
          rw [if_neg (by omega)]
        · intro j hj
          have hj' : (j : Int) < if 5 < N then B 14 4 else 0 := hj
          rw [if_neg (by omega)] at hj'
          omega
      · have hrg : ∀ j, 0 ≤ rcp (A 1) 0 (fun j => rget N g (5 + j)) (rget N g 4).toNat j ∧ rcp (A 1) 0 (fun j => rget N g (5 + j)) (rget N g 4).toNat j ≤ 255 := by
          intro j
          rw [rcp_at]
          split
          · omega
          · exact x4 j
        have hrr := rst_req hr hrg
        refine ⟨_, _, ?_, kpM_A (x := rcp (A 1) 0 (fun j => rget N g (5 + j)) (rget N g 4).toNat) (kpM_I (x := rget N g 4) k2 (show 7 < 27 by decide)) (show 1 < 14 by decide), hrr, fun hbad => ⟨⟨⟨⟨g2, g3⟩, ?_, ?_⟩, ⟨?_, hrg⟩, ⟨ha, hre⟩, hve, hfc⟩, g0, g1⟩⟩
        · intro n k Q
          have be : bI (N = 5 + rget N g 4) = bI (¬ bad B N) := by
            by_cases w : N = 5 + rget N g 4
            · rw [bI_t w, bI_t]
              intro t
              rcases t with t | t
              · omega
              · rw [g4'] at w
                omega
            · rw [bI_f w, bI_f]
              intro t
              rw [g4'] at w
              exact t (Or.inr ⟨by omega, Or.inr w⟩)
          rw [z n k Q, if_neg p1, if_neg p2, if_neg p3, be]
        · show (-1 : Int) = if N = 5 then (if B 14 4 = 0 then 256 else B 14 4) else -1
          rw [if_neg p3]
        · show rget N g 4 = if 5 < N then B 14 4 else 0
          rw [if_pos (by omega), g4']
        · intro j hj
          have hj' : (j : Int) < if 5 < N then B 14 4 else 0 := hj
          rw [if_pos (by omega)] at hj'
          have nb : N = 5 + B 14 4 := Decidable.byContradiction (fun t => hbad (Or.inr ⟨by omega, Or.inr t⟩))
          show rcp (A 1) 0 (fun j => rget N g (5 + j)) (rget N g 4).toNat j = B 14 (5 + j)
          have gj := gg (5 + j) (by omega) (by omega)
          have gb := hg (5 + j)
          rw [rcp_at, if_pos (by omega)]
          show rget N g (5 + (j : Int)) % 256 = B 14 (5 + j)
          have e5 : (5 + (j : Int)).toNat = 5 + j := by omega
          have hh : rget N g (5 + (j : Int)) = g (5 + j) := by unfold rget; rw [if_pos (by omega), e5]
          rw [gj, e5] at hh
          rw [gj, e5, hh]
          omega
end
end MCOMM
