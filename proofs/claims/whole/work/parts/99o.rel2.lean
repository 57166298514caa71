/-! The relation: UPDATE RECORD, SELECT, the secrets. -/
section MREL2
variable {G : mG} {h h0 : mH} {n k b : Nat} {Q : mR → Prop} {I : Nat → Int} {A : Nat → Nat → Int} {P : Nat → Nat} {R : Nat → Option Nat} {o : Nat → Int64}
section
variable {J : Nat → Int} {B : Nat → Nat → Int} {fa : Nat → Nat} {fb : Nat → Nat → Int} {fcap : Nat} {fg : Nat → Option Nat} {W : Nat → Nat → Nat → Nat} {V : Nat → Nat → Nat → Nat → Int} {X : Nat → Nat → Option Nat} {cap : Nat} {ng : Nat → Option Nat} {h1 : mH}
theorem rq_byte {j : Nat} {y : Int} (hq : cq I A J B) (hj : (j : Int) < J 49) (hy : y = j) : rget (I 7) (A 1) y % 256 = B 14 (5 + j) := by
  have q := hq.2.1.1 j hj
  have g := hq.2.1.2 j
  subst hy
  unfold rget
  rw [if_pos (by rw [hq.1.2.2]; omega), show ((j : Nat) : Int).toNat = j by omega, ← q]
  omega
theorem dFl_ring {p2 x : Nat} {s : Int} {f f' : Nat → Int} (hd : dFl G h0 b p2 J B fa fb fcap fg) (hF : iFl J B) (hx : (x : Int) < J 29) (hs : 1 ≤ s ∧ s = B 18 x) (hm : 1 ≤ B 19 x) (hff : ∀ j : Nat, (j : Int) < s → f j = f' j) (hr : ∀ j, 0 ≤ f j ∧ f j ≤ 255) :
    dFl G (fW h0 (fa x) (fN B x) (cpE (cpE (fb x) (fun j => fb x j) s (fN B x - s)) f 0 s)) b p2 J (upA B 23 (cpE (shE (B 23) (B 22 x) s s (s * B 19 x)) f' (B 22 x) s)) fa (upF fb x (cpE (cpE (fb x) (fun j => fb x j) s (fN B x - s)) f 0 s)) fcap fg := by
  obtain ⟨i1, i2, i3, i4, i5⟩ := hd.2.2.1 x hx
  have k4 := (hF.2.2.1 x hx).2.2.2.1
  have eN := (fN_eq hF hx).1
  rw [← hs.2] at eN
  have hge : s ≤ s * B 19 x := by
    have := Int.mul_le_mul_of_nonneg_left hm (show 0 ≤ s by omega)
    omega
  rw [← hs.2] at k4
  refine dFl_w hd hx ?_ ?_ ?_
  · exact cpE_P (p := fun x => 0 ≤ x ∧ x ≤ 255) (cpE_P (p := fun x => 0 ≤ x ∧ x ≤ 255) i5 (fun j => i5 j)) hr
  · intro j hj
    unfold cpE shE
    by_cases q : (0 : Int) ≤ (j : Int) ∧ (j : Int) < 0 + s
    · rw [if_pos q, if_pos (by omega), hff _ (by omega)]
      congr 1
      omega
    · rw [if_neg q, if_pos (by omega), if_neg (by omega), if_pos (by omega)]
      show fb x ((j : Int) - s).toNat = _
      rw [i4 _ (by omega)]
      congr 1
      omega
  · intro i hi hne j hj
    have ox := hF.2.2.1 x hx
    have oi := hF.2.2.1 i hi
    have ni := (fN_eq hF hi).1
    have bi := oi.2.2.2.1
    unfold cpE shE
    rcases Nat.lt_or_ge i x with q | q
    · have := hF.2.2.2.1 i x q hx
      rw [if_neg (by omega), if_neg (by omega)]
    · have := hF.2.2.2.1 x i (by omega) hi
      rw [← hs.2] at this
      rw [if_neg (by omega), if_neg (by omega)]
theorem ck_19 (hb : G.2.2.2 ≤ b) (hr : rst G h0 b I A P R J B fa fb fcap fg W V X cap ng) (hM : iM J B) (hC : iCm J) (hq : cq I A J B) : cmdOk G b I A P o fa fcap fg W V X cap ng (fun n k Q => mX G 19 0 [.ref (b + 16), .ref (b + 3), mU, mU] [] (wH h0 b I A P R o) n k Q) (wcF J B) := by
  have z := fun n k Q => d19 (n := n) (k := k) (Q := Q) (o := o) hb hr.1.1 hM hC hq hr.2.2.2.2.1.1.2
  have wr : (0 ≤ wrF J B 2 3 1 ∧ wrF J B 2 3 1 ≤ 27014) ∧ ¬ wrF J B 2 3 1 / 256 = 145 := by
    unfold wrF
    repeat' split
    all_goals omega
  have rr := rget_rng (len := (I 7)) hq.2.1.2
  have c3 := hC.2.2.1
  unfold wcH wcJ at z
  unfold wcF
  by_cases p1 : J 49 = 0
  · have es : wcS J B = 26368 := by unfold wcS; rw [if_pos p1]
    simp only [es, Int.reduceEq, if_false] at z
    rw [if_pos p1]
    exact ck_f z (by decide) (by decide) hr kpM_refl
  · rw [if_neg p1]
    by_cases p2 : wrF J B 2 3 1 = 0
    · rw [if_neg (fun t => t p2)]
      have hF := hM.2.1
      have d2 := hM.2.2.1.2.1
      have fp : 0 ≤ J 37 ∧ 2 ≤ B 17 (J 37).toNat := by
        unfold wrF at p2
        split at p2
        · omega
        · split at p2
          · omega
          · omega
      obtain ⟨k1, k2, k3, k4, k5⟩ := hF.2.2.1 (J 37).toNat (by omega)
      have s2 := shp_2 k2 fp.2
      have eN := (fN_eq (x := (J 37).toNat) hF (by omega)).1
      by_cases p3 : B 17 (J 37).toNat = 3
      · rw [if_pos p3]
        by_cases p4 : J 48 = 3 ∧ J 47 = 0
        · rw [if_neg (fun t => t p4)]
          by_cases p5 : J 49 = B 18 (J 37).toNat
          · rw [if_neg (fun t => t p5)]
            have es : wcS J B = 36864 := by unfold wcS; rw [if_neg p1, if_neg (fun t => t p2), if_pos p3, if_neg (fun t => t p4), if_neg (fun t => t p5)]
            simp only [es, if_true] at z
            unfold wcI wcG at z
            simp only [eq_true p3, if_true] at z
            have hd := dFl_ring (f := fun j => rget (I 7) (A 1) j % 256) (f' := fun j => B 14 (5 + j)) (x := (J 37).toNat) (s := B 18 (J 37).toNat) hr.1.1 hF (by omega) ⟨by omega, rfl⟩ (by omega) (fun j hj => rq_byte hq (by omega) rfl) (fun j => by omega)
            rw [p5]
            exact ck_d z (rst_rec (rst_kp hr hd (kp_fW (by omega)) (fun j hj => by rw [upA_at, if_neg hj]))) (kpM_I kpM_refl (by decide))
          · rw [if_pos p5]
            have es : wcS J B = 26368 := by unfold wcS; rw [if_neg p1, if_neg (fun t => t p2), if_pos p3, if_neg (fun t => t p4), if_pos p5]
            simp only [es, Int.reduceEq, if_false] at z
            exact ck_f z (by decide) (by decide) hr kpM_refl
        · rw [if_pos p4]
          have es : wcS J B = 27270 := by unfold wcS; rw [if_neg p1, if_neg (fun t => t p2), if_pos p3, if_pos p4]
          simp only [es, Int.reduceEq, if_false] at z
          exact ck_f z (by decide) (by decide) hr kpM_refl
      · rw [if_neg p3]
        by_cases p4 : isW J
        · rw [if_neg (fun t => t p4)]
          by_cases p5 : whF J B = 0
          · rw [if_pos p5]
            have es : wcS J B = 27267 := by unfold wcS; rw [if_neg p1, if_neg (fun t => t p2), if_neg p3, if_neg (fun t => t p4), if_pos p5]
            simp only [es, Int.reduceEq, if_false] at z
            exact ck_f z (by decide) (by decide) hr kpM_refl
          · rw [if_neg p5]
            by_cases p6 : J 49 = B 18 (J 37).toNat
            · rw [if_neg (fun t => t p6)]
              have es : wcS J B = 36864 := by unfold wcS; rw [if_neg p1, if_neg (fun t => t p2), if_neg p3, if_neg (fun t => t p4), if_neg p5, if_neg (fun t => t p6)]
              simp only [es, if_true] at z
              unfold wcI wcG at z
              simp only [p3, if_false] at z
              have d3 := hM.2.2.1.2.2.1
              have wh0 := whF_rng (I := J) (A := B) hC.1 ⟨d3.1, (hM.2.2.1.2.2.2.1 fp.1).2 fp.2⟩ s2.2.1
              have wh : 1 ≤ whF J B ∧ whF J B ≤ B 19 (J 37).toNat := by omega
              have t1 : 0 ≤ B 18 (J 37).toNat * (whF J B - 1) := Int.mul_nonneg (by omega) (by omega)
              have t2 : B 18 (J 37).toNat * (whF J B - 1) + B 18 (J 37).toNat ≤ B 18 (J 37).toNat * B 19 (J 37).toNat := by
                have := Int.mul_le_mul_of_nonneg_left wh.2 (show 0 ≤ B 18 (J 37).toNat by omega)
                rw [Int.mul_sub, Int.mul_one]
                omega
              have hd := dFl_put (f := fun j => rget (I 7) (A 1) (0 + j) % 256) (f' := fun j => B 14 (5 + j)) (x := (J 37).toNat) (t := B 18 (J 37).toNat * (whF J B - 1)) (m := B 18 (J 37).toNat) hr.1.1 hF (by omega) t1 (by omega) (fun j hj => rq_byte hq (by omega) (by omega)) (fun j => by omega)
              have hr2 := rst_kp hr hd (kp_fW (by omega)) (fun j hj => by rw [upA_at, if_neg hj])
              rw [p6]
              by_cases p7 : J 48 = 4
              · simp only [eq_true p7, if_true] at z ⊢
                rw [updI_self]
                exact ck_d z hr2 kpM_refl
              · simp only [p7, if_false] at z ⊢
                exact ck_d z (rst_rec hr2) (kpM_I kpM_refl (by decide))
            · rw [if_pos p6]
              have es : wcS J B = 26368 := by unfold wcS; rw [if_neg p1, if_neg (fun t => t p2), if_neg p3, if_neg (fun t => t p4), if_neg p5, if_pos p6]
              simp only [es, Int.reduceEq, if_false] at z
              exact ck_f z (by decide) (by decide) hr kpM_refl
        · rw [if_pos p4]
          have es : wcS J B = 27270 := by unfold wcS; rw [if_neg p1, if_neg (fun t => t p2), if_neg p3, if_pos p4]
          simp only [es, Int.reduceEq, if_false] at z
          exact ck_f z (by decide) (by decide) hr kpM_refl
    · have es : wcS J B = wrF J B 2 3 1 := by unfold wcS; rw [if_neg p1, if_pos p2]
      have n1 : ¬ wrF J B 2 3 1 = 36864 := by omega
      simp only [es, n1, if_false] at z
      rw [if_pos p2]
      exact ck_f z n1 (by omega) hr kpM_refl
theorem desL_rng {f : Nat} : (desL B f).length ≤ 256 ∧ ∀ x ∈ desL B f, 0 ≤ x ∧ x ≤ 255 := by
  have md : ∀ y : Int, 0 ≤ y % 256 ∧ y % 256 ≤ 255 := fun y => by omega
  unfold desL
  split
  · refine ⟨by simp only [List.length_cons, List.length_nil]; omega, ?_⟩
    intro x hx
    simp only [List.mem_cons, List.not_mem_nil, or_false] at hx
    rcases hx with rfl | rfl | rfl | rfl | rfl | rfl | rfl | rfl | rfl | rfl | rfl | rfl | rfl | rfl | rfl | rfl | rfl
    all_goals first | exact md _ | decide
  · split
    · refine ⟨by simp only [List.length_cons, List.length_nil]; omega, ?_⟩
      intro x hx
      simp only [List.mem_cons, List.not_mem_nil, or_false] at hx
      rcases hx with rfl | rfl | rfl | rfl | rfl | rfl | rfl | rfl | rfl | rfl | rfl | rfl | rfl | rfl | rfl
      all_goals first | exact md _ | decide
    · refine ⟨by simp only [List.length_cons, List.length_nil]; omega, ?_⟩
      intro x hx
      simp only [List.mem_cons, List.not_mem_nil, or_false] at hx
      rcases hx with rfl | rfl | rfl | rfl | rfl | rfl | rfl | rfl | rfl | rfl | rfl | rfl | rfl
      all_goals first | exact md _ | decide
theorem ck_15 (hb : G.2.2.2 ≤ b) (hr : rst G h0 b I A P R J B fa fb fcap fg W V X cap ng) (hM : iM J B) (hC : iCm J) (hq : cq I A J B) : cmdOk G b I A P o fa fcap fg W V X cap ng (fun n k Q => mX G 15 0 [.ref (b + 16), .ref (b + 3), mU, mU, mU] [] (wH h0 b I A P R o) n k Q) (slF J B) := by
  have dd := hM.2.2.1.1
  have z := fun n k Q => d15 (n := n) (k := k) (Q := Q) (R := R) (o := o) hb hr.1.1 hM hC hq (by rw [hr.2.2.2.2.1.1.1]; exact if_neg (by omega))
  have q7 := hq.2.2.1.1
  have ho := hC.2.2.2.2
  unfold slF
  by_cases p1 : (J 47 = 0 ∨ J 47 = 8) ∧ (J 48 = 4 ∨ J 48 = 12)
  · rw [if_neg (fun t => t p1)]
    by_cases p2 : J 49 = 0 ∨ (J 47 = 0 ∧ ¬ J 49 = 2) ∨ (J 47 = 8 ∧ (¬ J 49 % 2 = 0 ∨ 16 < J 49))
    · rw [if_pos p2]
      have es : slS J B = 26368 := by unfold slS; rw [if_neg (fun t => t p1), if_pos p2]
      simp only [es, Int.reduceEq, if_false] at z
      exact ck_f z (by decide) (by decide) hr kpM_refl
    · rw [if_neg p2]
      by_cases p3 : foF J B < 0
      · rw [if_pos p3]
        have es : slS J B = 27266 := by unfold slS; rw [if_neg (fun t => t p1), if_neg p2, if_pos p3]
        simp only [es, Int.reduceEq, if_false] at z
        exact ck_f z (by decide) (by decide) hr kpM_refl
      · rw [if_neg p3]
        have es : slS J B = 36864 := by unfold slS; rw [if_neg (fun t => t p1), if_neg p2, if_neg p3]
        simp only [es, if_true] at z
        have hh : rst G h0 b (updI I 16 0) A P (slR R J B fa) (hnI J B (foF J B)) B fa fb fcap fg W V X cap ng := by
          obtain ⟨a1, a2, a3, a4, a5, a6, a7, a8, a9, a10, a11⟩ := hr
          refine ⟨a1, a2, a3, a4, ⟨⟨?_, ?_⟩, rfl⟩, a6, a7, a8, a9, a10, a11⟩
          · show (if B 17 (foF J B).toNat = 0 then some (fa (foF J B).toNat) else fAb fa B (foF J B).toNat) = rfV fa (if B 17 (foF J B).toNat = 0 then foF J B else B 16 (foF J B).toNat)
            split
            · exact (if_neg p3).symm
            · rfl
          · show (if B 17 (foF J B).toNat = 0 then none else some (fa (foF J B).toNat)) = rfV fa (if B 17 (foF J B).toNat = 0 then -1 else foF J B)
            split
            · exact (if_pos (by decide)).symm
            · exact (if_neg p3).symm
        by_cases p4 : J 48 = 4
        · simp only [eq_true p4, if_true] at z ⊢
          exact ck_d z (rst_ans hh q7 ho desL_rng.1 desL_rng.2) (kpM_l (kpM_I kpM_refl (by decide)) (by decide) (by decide))
        · simp only [p4, if_false] at z ⊢
          exact ck_d z hh (kpM_I kpM_refl (by decide))
  · rw [if_pos p1]
    have es : slS J B = 27270 := by unfold slS; rw [if_pos p1]
    simp only [es, Int.reduceEq, if_false] at z
    exact ck_f z (by decide) (by decide) hr kpM_refl
theorem samI_fl {f1 f2 g1 g2 : Int → Int} : ∀ (d : Nat) (c : Int), (∀ i, c ≤ i → i < c + d → f1 i = g2 i ∧ f2 i = g1 i) → samI f1 f2 d c = samI g1 g2 d c
  | 0, _, _ => rfl
  | d + 1, c, h => by
    rw [samI_s, samI_s, samI_fl d (c + 1) (fun i h1 h2 => h i (by omega) (by omega)), (h c (by omega) (by omega)).1, (h c (by omega) (by omega)).2]
    by_cases q : g2 c = g1 c
    · rw [if_pos q, if_pos q.symm]
    · rw [if_neg q, if_neg (fun t => q t.symm)]
theorem pin_eq (hr : rP I A J B) (hq : cq I A J B) (hd : 8 ≤ J 49) : samI (rget (I 7) (A 1)) (rget (I 14) (A 2)) ((I 14)).toNat 0 = pinF B := by
  obtain ⟨a1, a2, a3, a4⟩ := hr
  rw [a2.1]
  unfold pinF
  refine samI_fl 8 0 ?_
  intro i h1 h2
  have e := rq_byte (j := i.toNat) (y := i) hq (by omega) (by omega)
  have g := hq.2.1.2 i.toNat
  constructor
  · show rget (I 7) (A 1) i = B 14 (5 + i).toNat
    unfold rget at e ⊢
    rw [if_pos (by rw [hq.1.2.2]; omega)] at e ⊢
    rw [show (5 + i).toNat = 5 + i.toNat by omega, ← e]
    omega
  · show rget 8 (A 2) i = B 41 i.toNat
    unfold rget
    rw [if_pos (by omega), a3.1 _ (by omega)]
theorem key_eq (hr : rP I A J B) (hq : cq I A J B) (hd : 8 ≤ J 49) : samI (rget (I 7) (A 1)) (rget (I 15) (A 3)) ((I 15)).toNat 0 = keyF B := by
  obtain ⟨a1, a2, a3, a4⟩ := hr
  rw [a2.2]
  unfold keyF
  refine samI_fl 8 0 ?_
  intro i h1 h2
  have e := rq_byte (j := i.toNat) (y := i) hq (by omega) (by omega)
  have g := hq.2.1.2 i.toNat
  constructor
  · show rget (I 7) (A 1) i = B 14 (5 + i).toNat
    unfold rget at e ⊢
    rw [if_pos (by rw [hq.1.2.2]; omega)] at e ⊢
    rw [show (5 + i).toNat = 5 + i.toNat by omega, ← e]
    omega
  · show rget 8 (A 3) i = B 42 i.toNat
    unfold rget
    rw [if_pos (by omega), a3.2 _ (by omega)]
/-- the new PIN -/
theorem newpin {x : Int} (hr : rst G h0 b I A P R J B fa fb fcap fg W V X cap ng) (hq : cq I A J B) (hd : J 49 = 16) (hx : x = (I 12) ∨ True) (y : Int) : rst G h0 b (updI (updI (updI (updI I 12 y) 14 8) 11 3) 13 1) (upA A 2 (rcp (A 2) 0 (fun j => rget (I 7) (A 1) (8 + j)) 8)) P R (updI (updI (updI J 34 y) 35 1) 33 3) (upA B 41 (cpE (B 41) (fun j => B 14 (13 + j)) 0 8)) fa fb fcap fg W V X cap ng := by
  obtain ⟨a1, a2, a3, a4, a5, a6, a7, a8, a9, a10, a11⟩ := hr
  refine ⟨a1, a2, a3, ⟨⟨rfl, rfl, rfl⟩, ⟨rfl, a4.2.1.2⟩, ⟨?_, a4.2.2.1.2⟩, ⟨?_, a4.2.2.2.2⟩⟩, a5, a6, a7, a8, a9, a10, a11⟩
  · intro j hj
    show rcp (A 2) 0 (fun j => rget (I 7) (A 1) (8 + j)) 8 j = cpE (B 41) (fun j => B 14 (13 + j)) 0 8 j
    rw [rcp_at, if_pos hj]
    unfold cpE
    rw [if_pos (by omega)]
    have e := rq_byte (j := 8 + j) (y := 8 + (j : Int)) hq (by omega) (by omega)
    rw [e]
    congr 1
    omega
  · intro j
    show 0 ≤ rcp (A 2) 0 (fun j => rget (I 7) (A 1) (8 + j)) 8 j ∧ rcp (A 2) 0 (fun j => rget (I 7) (A 1) (8 + j)) 8 j ≤ 255
    rw [rcp_at]
    split
    · omega
    · exact a4.2.2.2.1 j
theorem ck_96 (hb : G.2.2.2 ≤ b) (hr : rst G h0 b I A P R J B fa fb fcap fg W V X cap ng) (hM : iM J B) (hC : iCm J) (hq : cq I A J B) : cmdOk G b I A P o fa fcap fg W V X cap ng (fun n k Q => mX G 96 0 [.ref (b + 11), .ref (b + 3)] [] (wH h0 b I A P R o) n k Q) (ubF J B) := by
  have hp := hr.2.2.2.1
  obtain ⟨⟨e1, e2, e3⟩, ⟨e4, e5⟩, e6, e7, e8⟩ := id hp
  obtain ⟨⟨⟨u1, u2⟩, u3, u4⟩, ⟨u5, u6⟩, u7⟩ := id hq
  obtain ⟨c1, c2, c3, c4, c5⟩ := hC
  have kt := hM.2.2.1.2.2.2.2.2.2.1
  have z := fun n k Q => d96 (G := G) (h0 := h0) (b := b) (n := n) (k := k) (Q := Q) (I := I) (A := A) (P := P) (R := R) (o := o) hb u6 e8 (by omega) (by omega) (by omega) (by omega) (by omega)
  unfold ubF
  rw [u1, u2, u4, e2] at z
  by_cases p1 : J 47 = 0 ∧ J 48 = 1
  · rw [if_neg (fun t => t p1)]
    simp only [eq_true p1, if_true] at z
    by_cases p2 : J 49 = 16
    · rw [if_neg (fun t => t p2)]
      simp only [eq_true p2, if_true] at z
      by_cases p3 : J 34 = 0
      · rw [if_pos p3]
        simp only [show ¬ 0 < J 34 by omega, if_false] at z
        exact ck_f z (by decide) (by decide) hr kpM_refl
      · rw [if_neg p3]
        simp only [show 0 < J 34 by omega, if_true] at z
        have ks := key_eq hp hq (by omega)
        rw [u4] at ks
        rw [ks] at z
        by_cases p4 : keyF B = 0
        · rw [if_pos p4]
          simp only [eq_true p4, if_true] at z
          refine ck_f (fb := fb) z (by omega) (by omega) ?_ (kpM_I kpM_refl (by decide))
          obtain ⟨a1, a2, a3, a4, a5, a6, a7, a8, a9, a10, a11⟩ := hr
          exact ⟨a1, a2, a3, ⟨⟨e1, rfl, e3⟩, a4.2⟩, a5, a6, a7, a8, a9, a10, a11⟩
        · rw [if_neg p4]
          simp only [p4, if_false] at z
          have nn := newpin (x := 0) hr hq p2 (Or.inr trivial) 10
          rw [u4] at nn
          exact ck_d z nn (kpM_A (kpM_I (kpM_I (kpM_I (kpM_I kpM_refl (by decide)) (by decide)) (by decide)) (by decide)) (by decide))
    · rw [if_pos p2]
      simp only [p2, if_false] at z
      exact ck_f z (by decide) (by decide) hr kpM_refl
  · rw [if_pos p1]
    simp only [p1, if_false] at z
    exact ck_f z (by decide) (by decide) hr kpM_refl
theorem ck_95 (hb : G.2.2.2 ≤ b) (hr : rst G h0 b I A P R J B fa fb fcap fg W V X cap ng) (hM : iM J B) (hC : iCm J) (hq : cq I A J B) : cmdOk G b I A P o fa fcap fg W V X cap ng (fun n k Q => mX G 95 0 [.ref (b + 11), .ref (b + 3), mU] [] (wH h0 b I A P R o) n k Q) (chF J B) := by
  have hp := hr.2.2.2.1
  obtain ⟨⟨e1, e2, e3⟩, ⟨e4, e5⟩, e6, e7, e8⟩ := id hp
  obtain ⟨⟨⟨u1, u2⟩, u3, u4⟩, ⟨u5, u6⟩, u7⟩ := id hq
  obtain ⟨c1, c2, c3, c4, c5⟩ := hC
  have pt := hM.2.2.1.2.2.2.2.2.1
  have z := fun n k Q => d95 (G := G) (h0 := h0) (b := b) (n := n) (k := k) (Q := Q) (I := I) (A := A) (P := P) (R := R) (o := o) hb u6 e7 (by omega) (by omega) (by omega) (by omega) (by omega)
  unfold chF
  rw [u1, u2, u4, e1] at z
  by_cases p1 : J 47 = 0 ∧ J 48 = 1
  · rw [if_neg (fun t => t p1)]
    simp only [eq_true p1, if_true] at z
    by_cases p2 : J 49 = 16
    · rw [if_neg (fun t => t p2)]
      simp only [eq_true p2, if_true] at z
      unfold bpF
      by_cases p3 : J 33 = 0
      · rw [if_pos p3]
        simp only [show ¬ 0 < J 33 by omega, if_false] at z
        exact ck_f z (by decide) (by decide) hr kpM_refl
      · rw [if_neg p3]
        simp only [show 0 < J 33 by omega, if_true] at z
        have ks := pin_eq hp hq (by omega)
        rw [u4] at ks
        rw [ks] at z
        by_cases p4 : pinF B = 0
        · rw [if_pos p4]
          simp only [eq_true p4, if_true] at z
          refine ck_f (fb := fb) z (by omega) (by omega) ?_ (kpM_I (kpM_I kpM_refl (by decide)) (by decide))
          obtain ⟨a1, a2, a3, a4, a5, a6, a7, a8, a9, a10, a11⟩ := hr
          exact ⟨a1, a2, a3, ⟨⟨rfl, e2, rfl⟩, a4.2⟩, a5, a6, a7, a8, a9, a10, a11⟩
        · rw [if_neg p4]
          simp only [p4, if_false] at z
          have nn := newpin (x := 0) hr hq p2 (Or.inr trivial) (J 34)
          rw [u4] at nn
          have ei : updI (updI (updI (updI I 12 (J 34)) 14 8) 11 3) 13 1 = updI (updI (updI (updI (updI I 11 3) 13 1) 14 8) 11 3) 13 1 := by
            rw [← e2, updI_self]
            funext j
            simp only [updI_at]
            repeat' split
            all_goals rfl
          have ej : updI J 34 (J 34) = J := updI_self J 34
          rw [ei, ej] at nn
          exact ck_d z nn (kpM_A (kpM_I (kpM_I (kpM_I (kpM_I (kpM_I kpM_refl (by decide)) (by decide)) (by decide)) (by decide)) (by decide)) (by decide))
    · rw [if_pos p2]
      simp only [p2, if_false] at z
      exact ck_f z (by decide) (by decide) hr kpM_refl
  · rw [if_pos p1]
    simp only [p1, if_false] at z
    exact ck_f z (by decide) (by decide) hr kpM_refl
theorem ck_94 (hb : G.2.2.2 ≤ b) (hr : rst G h0 b I A P R J B fa fb fcap fg W V X cap ng) (hM : iM J B) (hC : iCm J) (hq : cq I A J B) : cmdOk G b I A P o fa fcap fg W V X cap ng (fun n k Q => mX G 94 0 [.ref (b + 11), .ref (b + 3)] [] (wH h0 b I A P R o) n k Q) (vfF J B) := by
  have hp := hr.2.2.2.1
  obtain ⟨⟨e1, e2, e3⟩, ⟨e4, e5⟩, e6, e7, e8⟩ := id hp
  obtain ⟨⟨⟨u1, u2⟩, u3, u4⟩, ⟨u5, u6⟩, u7⟩ := id hq
  obtain ⟨c1, c2, c3, c4, c5⟩ := hC
  have pt := hM.2.2.1.2.2.2.2.2.1
  have pv := hM.2.2.1.2.2.2.2.1
  have z := fun n k Q => d94 (G := G) (h0 := h0) (b := b) (n := n) (k := k) (Q := Q) (I := I) (A := A) (P := P) (R := R) (o := o) hb u6 e7 (by omega) (by omega) (by omega) (by omega) (by omega) (by omega) (by omega)
  have z2 := fun n k Q => d100 (G := G) (h0 := h0) (b := b) (n := n) (k := k) (Q := Q) (I := I) (A := A) (P := P) (R := R) (o := o) hb u6 e7 (by omega) (by omega) (by omega)
  unfold vfF
  rw [u1, u2, u3, u4, e1, e3] at z
  rw [u4, e1] at z2
  by_cases p1 : J 47 = 0 ∧ J 48 = 1
  · rw [if_neg (fun t => t p1)]
    simp only [eq_true p1, if_true] at z
    by_cases p2 : J 49 = 0 ∧ J 50 < 0
    · rw [if_pos p2]
      simp only [show ¬ 0 < J 49 ∧ J 50 = -1 by omega, if_true] at z
      by_cases p3 : J 35 = 0
      · rw [if_neg (fun t => t p3)]
        simp only [eq_true p3, if_true] at z
        by_cases p4 : J 33 = 0
        · rw [if_pos p4]
          simp only [show ¬ 0 < J 33 by omega, if_false] at z
          exact ck_f z (by decide) (by decide) hr kpM_refl
        · rw [if_neg p4]
          simp only [show 0 < J 33 by omega, if_true] at z
          exact ck_f z (by omega) (by omega) hr kpM_refl
      · rw [if_pos p3]
        simp only [p3, if_false] at z
        exact ck_d z hr kpM_refl
    · rw [if_neg p2]
      simp only [show ¬ (¬ 0 < J 49 ∧ J 50 = -1) by omega, if_false] at z
      by_cases p3 : J 49 = 8
      · rw [if_neg (fun t => t p3)]
        simp only [eq_true p3, if_true, z2] at z
        unfold bpF
        by_cases p4 : J 33 = 0
        · rw [if_pos p4]
          simp only [show ¬ 0 < J 33 by omega, if_false] at z
          exact ck_f z (by decide) (by decide) hr kpM_refl
        · rw [if_neg p4]
          simp only [show 0 < J 33 by omega, if_true] at z
          have ks := pin_eq hp hq (by omega)
          rw [u4] at ks
          rw [ks] at z
          by_cases p5 : pinF B = 0
          · rw [if_pos p5]
            simp only [eq_true p5, if_true] at z
            refine ck_f (fb := fb) z (by omega) (by omega) ?_ (kpM_I (kpM_I kpM_refl (by decide)) (by decide))
            obtain ⟨a1, a2, a3, a4, a5, a6, a7, a8, a9, a10, a11⟩ := hr
            exact ⟨a1, a2, a3, ⟨⟨rfl, e2, rfl⟩, a4.2⟩, a5, a6, a7, a8, a9, a10, a11⟩
          · rw [if_neg p5]
            simp only [p5, if_false] at z
            unfold tkF
            rw [cpE_0, upA_self]
            refine ck_d (fb := fb) z ?_ (kpM_I (kpM_I kpM_refl (by decide)) (by decide))
            obtain ⟨a1, a2, a3, a4, a5, a6, a7, a8, a9, a10, a11⟩ := hr
            exact ⟨a1, a2, a3, ⟨⟨rfl, e2, rfl⟩, a4.2⟩, a5, a6, a7, a8, a9, a10, a11⟩
      · rw [if_pos p3]
        simp only [p3, if_false] at z
        exact ck_f z (by decide) (by decide) hr kpM_refl
  · rw [if_pos p1]
    simp only [p1, if_false] at z
    exact ck_f z (by decide) (by decide) hr kpM_refl
end
end MREL2
