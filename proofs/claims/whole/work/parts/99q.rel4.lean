/-! The relation: TERMINAL RESPONSE. -/
section MREL4
variable {G : mG} {h h0 : mH} {n k b : Nat} {Q : mR → Prop} {I : Nat → Int} {A : Nat → Nat → Int} {P : Nat → Nat} {R : Nat → Option Nat} {o : Nat → Int64}
section
variable {J : Nat → Int} {B : Nat → Nat → Int} {fa : Nat → Nat} {fb : Nat → Nat → Int} {fcap : Nat} {fg : Nat → Option Nat} {W : Nat → Nat → Nat → Nat} {V : Nat → Nat → Nat → Nat → Int} {X : Nat → Nat → Option Nat} {cap : Nat} {ng : Nat → Option Nat} {h1 : mH}
theorem kpM_tr {I1 I2 : Nat → Int} {A1 A2 : Nat → Nat → Int} (h : kpM I A I1 A1) (g : kpM I1 A1 I2 A2) : kpM I A I2 A2 := ⟨fun j hj => (g.1 j hj).trans (h.1 j hj), fun j hj => (g.2 j hj).trans (h.2 j hj)⟩
theorem ck_ov {I0 : Nat → Int} {A0 : Nat → Nat → Int} {A1 : Nat → Nat → Int} {B1 : Nat → Nat → Int} {w : Int} {M : Nat → Nat → (mR → Prop) → Prop} (hM : ∀ n k Q, M n k Q ↔ Q (.inl (some (.int (iI 36864))), wH h1 b (stC (updI I 20 0) (stN (updI J 41 0) B 17 (wyF J B w))) A1 P (stR (upR R 2 none) W (stN (updI J 41 0) B 17 (wyF J B w))) o, n, k)) (hr : rst G h1 b I A1 P R J B1 fa fb fcap fg W V X cap ng) (h2 : B1 43 = B 43) (h3 : B1 24 = B 24) (h4 : B1 29 = B 29) (hp : J 39 = 1) (hN : 0 ≤ J 43 ∧ J 43 ≤ 254) (hk : kpM I0 A0 I A1) : cmdOk G b I0 A0 P o fa fcap fg W V X cap ng M (ovF J B1 w) := by
  have ew : wyF J B1 w = wyF J B w := by unfold wyF; rw [h4]
  have es := stN_cg (J := updI J 41 0) (J' := updI J 41 0) rfl h2 h3 h4 17 (wyF J B w)
  have r := rst_st (x := wyF J B w) (rst_fi hr) hp hN
  rw [es] at r
  unfold ovF
  rw [ew]
  exact ck_d hM r (kpM_st (kpM_I hk (by decide)))
theorem rst_run {i : Nat} {x : Int} (h : rst G h0 b I A P R J B fa fb fcap fg W V X cap ng) (hi : ¬ i = 0) (hx : 0 ≤ x ∧ x ≤ 1) : rst G h0 b I (upA A 8 (upE (A 8) i x)) P R J (upA B 40 (upE (B 40) i x)) fa fb fcap fg W V X cap ng := by
  obtain ⟨a1, a2, a3, a4, a5, ⟨b1, b5, b7, ⟨b8, b10, b11⟩, b9⟩, a7, a8, a9, a10, a11⟩ := h
  refine ⟨a1, a2, a3, a4, a5, ⟨b1, b5, b7, ⟨?_, ?_, ?_⟩, b9⟩, a7, a8, a9, a10, a11⟩
  · intro j hj
    show upE (A 8) i x j = upE (B 40) i x j
    unfold upE
    split
    · rfl
    · exact b8 j hj
  · show upE (A 8) i x 0 = 0
    rw [upE_ne (by omega)]
    exact b10
  · exact upE_P (p := fun x => 0 ≤ x ∧ x ≤ 1) b11 hx
/-- INPUT and INFO go into the FILE -/
theorem dFl_kb {p2 : Nat} {f s m : Int} (hd : dFl G h0 b p2 J B fa fb fcap fg) (hM : iM J B) (hq : rq0 I A J B) (hf : -1 ≤ f ∧ f < J 29) (hs : 0 ≤ s) (hm : s + m ≤ J 49) : ∃ fb1, dFl G (kbH h0 I A B fa fb f s m) b p2 J (if f < 0 then B else kpA B f (5 + s) m) fa fb1 fcap fg ∧ kp J fa h0 (kbH h0 I A B fa fb f s m) := by
  unfold kbH kpA
  by_cases p : f < 0
  · rw [if_pos (Or.inl p), if_pos p]
    exact ⟨fb, hd, kp_refl⟩
  · rw [if_neg p]
    by_cases q : B 17 f.toNat = 1
    · rw [if_neg (fun t => t.elim p (fun t => t q)), if_pos q]
      have hF := hM.2.1
      obtain ⟨i1, i2, i3, i4, i5⟩ := hd.2.2.1 f.toNat (by omega)
      obtain ⟨k1, k2, k3, k4, k5⟩ := hF.2.2.1 f.toNat (by omega)
      rw [q] at k2
      have m1 := (shp_1 k2).2
      have eN := (fN_eq (x := f.toNat) hF (by omega)).1
      rw [m1, Int.mul_one] at eN
      rw [m1, Int.mul_one] at k4
      have rr := rget_rng (len := (I 7)) hq.2.2
      refine ⟨_, dFl_w hd (by omega) ?_ ?_ ?_, kp_fW (by omega)⟩
      · exact cpE_P (p := fun x => 0 ≤ x ∧ x ≤ 255) (cpE_P (p := fun x => 0 ≤ x ∧ x ≤ 255) i5 (fun j => by show (0 : Int) ≤ 255 ∧ (255 : Int) ≤ 255; omega)) (fun j => by omega)
      · intro j hj
        unfold kbG kpG
        have e0 : cpE (B 23) (fun j => if (j : Int) < m then B 14 (5 + s + j).toNat else 255) (B 22 f.toNat) (B 18 f.toNat) ((B 22 f.toNat).toNat + j) = if (j : Int) < m then B 14 (5 + s + j).toNat else 255 := by
          unfold cpE
          rw [if_pos (by omega), show ((((B 22 f.toNat).toNat + j : Nat) : Int) - B 22 f.toNat).toNat = j by omega]
        rw [e0]
        unfold cpE
        by_cases w : (j : Int) < m
        · have hm' : (if m ≤ 0 then 0 else if (fN B f.toNat : Int) < m then (fN B f.toNat : Int) else m) > j := by
            rw [if_neg (by omega)]
            split <;> omega
          rw [if_pos w, if_pos (by omega)]
          show rget (I 7) (A 1) (s + (((j : Int) - 0).toNat : Int)) % 256 = _
          rw [rq_get hq (by omega) (by omega), show (5 + (s + (((j : Int) - 0).toNat : Int))).toNat = (5 + s + j).toNat by omega]
          have := hM.2.2.2.2.2.2 (5 + s + j).toNat
          omega
        · have hm' : (if m ≤ 0 then 0 else if (fN B f.toNat : Int) < m then (fN B f.toNat : Int) else m) ≤ j := by
            split
            · omega
            · split <;> omega
          rw [if_neg w, if_neg (by omega), if_pos (by omega)]
      · intro i hi hne j hj
        have := wr_other (t := 0) (m := B 18 f.toNat) (f := kpG B (5 + s) m) hF (x := f.toNat) (by omega) hi hne (by omega) (by omega) j hj
        rw [Int.add_zero] at this
        exact this
    · rw [if_pos (Or.inr q), if_neg q]
      exact ⟨fb, hd, kp_refl⟩
theorem kpA_oth {f s m : Int} {j : Nat} (hj : j ≠ 23) : kpA B f s m j = B j := by
  unfold kpA
  split
  · rw [upA_at, if_neg hj]
  · rfl
/-- what comes behind a RESPONSE that is OK -/
theorem ck_131k {I0 : Nat → Int} {A0 : Nat → Nat → Int} {M : Nat → Nat → (mR → Prop) → Prop} (hk : kpM I0 A0 I A) (hr : rst G h0 b I A P R J B fa fb fcap fg W V X cap ng) (hM : iM J B) (hC : iCm J) (hq : rqR I A R b J B) (ht : tR K1 (J 49) A J B) (hs : ¬ J 41 = 0)
    (z : ∀ n k Q, M n k Q ↔ if aoF J B V = 36864 then Q (.inl (some (.int (iI 36864))), wH (toH h0 I A J B fa fb) b (stC (updI I 20 0) (stN (updI J 41 0) B 17 (okW J B V))) (toA A J B) P (stR (upR R 2 none) W (stN (updI J 41 0) B 17 (okW J B V))) o, n, k)
       else Q (.inl (some (.int (iI (aoF J B V)))), wH h0 b I A P R o, n, k)) : cmdOk G b I0 A0 P o fa fcap fg W V X cap ng M (fnF J B) := by
  have hp := hr.2.2.2.2.2.1.2.1.2 hs
  have hN := hM.2.2.2.2.1.2.1
  have e4 := hM.2.2.2.2.1.2.2.2.1
  have e5 := hM.2.2.2.2.1.2.2.2.2.1 hs
  have q0 : rq0 I A J B := ⟨hq.1, hq.2.1, hq.2.2.1⟩
  have h1 := hr.2.1.1.2.2.2.2 (J 42).toNat (by omega)
  have n40 : J 42 = 40 ↔ (J 42).toNat = 40 := by omega
  have xx : ((J 42).toNat : Int) = J 42 := by omega
  unfold fnF
  by_cases p1 : J 42 = 40
  · have f1 : nF B (J 42).toNat 1 = 8 := by rw [p1]; rfl
    have ea : aoF J B V = 36864 := by unfold aoF; rw [f1]; rfl
    have eh : toH h0 I A J B fa fb = h0 := by unfold toH; rw [f1]; rfl
    have et : toA A J B = A := by unfold toA; rw [f1]; rfl
    have ew : okW J B V = wyF J B 0 := by unfold okW; rw [f1]; rfl
    simp only [ea, eh, et, ew, if_true] at z
    rw [if_neg (fun t => t.1 p1), if_neg (fun t => t.1 p1), if_neg (fun t => t.1 p1), if_neg (fun t => t.1 p1)]
    exact ck_ov z hr rfl rfl rfl hp hN hk
  · have nx : ¬ (J 42).toNat = 40 := by omega
    have f1 : nF B (J 42).toNat 1 = B 24 (J 42).toNat := if_neg nx
    have f2 : nF B (J 42).toNat 2 = B 25 (J 42).toNat := if_neg nx
    have f10 : nF B (J 42).toNat 10 = B 26 (J 42).toNat := if_neg nx
    have no := hM.2.2.2.1.2.1 (J 42).toNat (by omega)
    by_cases p2 : B 24 (J 42).toNat = 2
    · rw [if_pos ⟨p1, p2⟩]
      have eh : toH h0 I A J B fa fb = h0 := by unfold toH; rw [f1, p2]; rfl
      have et : toA A J B = A := by unfold toA; rw [f1, p2]; rfl
      have ew : okW J B V = B 34 (5 * (J 42).toNat + (plF B V (J 42).toNat).toNat) := by unfold okW; rw [f1, if_pos p2]
      have i5 := hM.2.2.2.1.2.2.1 (J 42).toNat (by omega)
      by_cases p3 : B 46 16 < 0
      · have ea : aoF J B V = 27272 := by unfold aoF; rw [f1, if_pos p2, if_pos p3]
        simp only [ea, Int.reduceEq, if_false] at z
        rw [if_pos p3]
        exact ck_f z (by decide) (by decide) hr hk
      · rw [if_neg p3]
        by_cases p4 : B 46 16 = 1
        · have pi := pl_it h1 i5.1 p4
          rw [xx] at pi
          rw [if_pos p4]
          rcases pi with ⟨pi1, pi2⟩ | ⟨pi1, pi2, pi3⟩
          · have ea : aoF J B V = 27264 := by unfold aoF; rw [f1, if_pos p2, if_neg p3, if_pos pi1]
            simp only [ea, Int.reduceEq, if_false] at z
            rw [if_pos (by omega)]
            exact ck_f z (by decide) (by decide) hr hk
          · have ea : aoF J B V = 36864 := by unfold aoF; rw [f1, if_pos p2, if_neg p3, if_neg (by omega)]
            simp only [ea, eh, et, ew, if_true] at z
            rw [if_neg (by omega), pi1, show (5 * J 42 + plF B V (J 42).toNat).toNat = 5 * (J 42).toNat + (plF B V (J 42).toNat).toNat by omega]
            exact ck_d z (rst_st (rst_fi hr) hp hN) (kpM_st (kpM_I hk (by decide)))
        · have pl : plF B V (J 42).toNat = -1 := by unfold plF; rw [if_neg p4]
          have ea : aoF J B V = 27264 := by unfold aoF; rw [f1, if_pos p2, if_neg p3, if_pos pl]
          simp only [ea, Int.reduceEq, if_false] at z
          rw [if_neg p4, if_pos (by decide)]
          exact ck_f z (by decide) (by decide) hr hk
    · rw [if_neg (fun t => p2 t.2)]
      have ew : okW J B V = wyF J B 0 := by unfold okW; rw [f1, if_neg p2]
      by_cases p3 : B 24 (J 42).toNat = 1
      · have et : toA A J B = A := by unfold toA; rw [f1, p3]; rfl
        have eh : toH h0 I A J B fa fb = kbH h0 I A B fa fb (B 28 (J 42).toNat) ((A 9) 13 + 1) (B 46 13 - 1) := by unfold toH; rw [f1, if_pos p3]
        by_cases p4 : B 28 (J 42).toNat < 0
        · have ea : aoF J B V = 36864 := by unfold aoF; rw [f1, if_neg p2, if_pos p3, if_pos (Or.inl p4)]
          have ek : kbH h0 I A B fa fb (B 28 (J 42).toNat) ((A 9) 13 + 1) (B 46 13 - 1) = h0 := by unfold kbH; rw [if_pos (Or.inl p4)]
          simp only [ea, eh, ek, et, ew, if_true] at z
          rw [if_neg (by omega), if_neg (by omega), if_neg (by omega)]
          exact ck_ov z hr rfl rfl rfl hp hN hk
        · rw [if_pos ⟨p1, p3, by omega⟩]
          by_cases p5 : B 46 13 < 0
          · have ea : aoF J B V = 27272 := by unfold aoF; rw [f1, if_neg p2, if_pos p3, if_neg (fun t => t.elim p4 (fun t => t p5))]
            simp only [ea, Int.reduceEq, if_false] at z
            rw [if_pos p5]
            exact ck_f z (by decide) (by decide) hr hk
          · have ea : aoF J B V = 36864 := by unfold aoF; rw [f1, if_neg p2, if_pos p3, if_pos (Or.inr p5)]
            simp only [ea, eh, et, ew, if_true] at z
            rw [if_neg p5]
            have th := tg_has ht (t := 13) (by decide) (Or.inr (Or.inr (Or.inr (Or.inl rfl)))) p5
            obtain ⟨fb1, b1, b2⟩ := dFl_kb (f := B 28 (J 42).toNat) (s := (A 9) 13 + 1) (m := B 46 13 - 1) hr.1.1 hM q0 no.2.2.2.2.1 (by omega) (by omega)
            rw [if_neg p4, show 5 + ((A 9) 13 + 1) = B 45 13 + 1 by omega] at b1
            have r2 := rst_kp hr b1 b2 (fun j hj => kpA_oth hj)
            exact ck_ov z r2 (kpA_oth (by decide)) (kpA_oth (by decide)) (kpA_oth (by decide)) hp hN hk
      · rw [if_neg (fun t => p3 t.2.1)]
        by_cases p4 : B 24 (J 42).toNat = 6
        · have et : toA A J B = A := by unfold toA; rw [f1, p4]; rfl
          have eh : toH h0 I A J B fa fb = kbH h0 I A B fa fb (B 28 (J 42).toNat) ((A 9) 19 + 0) (B 46 19 - 0) := by unfold toH; rw [f1, if_neg p3, if_pos p4]
          by_cases p5 : B 28 (J 42).toNat < 0
          · have ea : aoF J B V = 36864 := by unfold aoF; rw [f1, if_neg p2, if_neg p3, if_pos p4, if_pos (Or.inl p5)]
            have ek : kbH h0 I A B fa fb (B 28 (J 42).toNat) ((A 9) 19 + 0) (B 46 19 - 0) = h0 := by unfold kbH; rw [if_pos (Or.inl p5)]
            simp only [ea, eh, ek, et, ew, if_true] at z
            rw [if_neg (by omega), if_neg (by omega)]
            exact ck_ov z hr rfl rfl rfl hp hN hk
          · rw [if_pos ⟨p1, p4, by omega⟩]
            by_cases p6 : B 46 19 < 0
            · have ea : aoF J B V = 27272 := by unfold aoF; rw [f1, if_neg p2, if_neg p3, if_pos p4, if_neg (fun t => t.elim p5 (fun t => t p6))]
              simp only [ea, Int.reduceEq, if_false] at z
              rw [if_pos p6]
              exact ck_f z (by decide) (by decide) hr hk
            · have ea : aoF J B V = 36864 := by unfold aoF; rw [f1, if_neg p2, if_neg p3, if_pos p4, if_pos (Or.inr p6)]
              simp only [ea, eh, et, ew, if_true] at z
              rw [if_neg p6]
              have th := tg_has ht (t := 19) (by decide) (Or.inr (Or.inr (Or.inr (Or.inr (Or.inr (Or.inl rfl)))))) p6
              obtain ⟨fb1, b1, b2⟩ := dFl_kb (f := B 28 (J 42).toNat) (s := (A 9) 19 + 0) (m := B 46 19 - 0) hr.1.1 hM q0 no.2.2.2.2.1 (by omega) (by omega)
              rw [if_neg p5, show 5 + ((A 9) 19 + 0) = B 45 19 by omega, show B 46 19 - 0 = B 46 19 by omega] at b1
              rw [show B 46 19 - 0 = B 46 19 by omega] at b2 z
              have r2 := rst_kp hr b1 b2 (fun j hj => kpA_oth hj)
              exact ck_ov z r2 (kpA_oth (by decide)) (kpA_oth (by decide)) (kpA_oth (by decide)) hp hN hk
        · rw [if_neg (fun t => p4 t.2.1)]
          have eh : toH h0 I A J B fa fb = h0 := by unfold toH; rw [f1, if_neg p3, if_neg p4]
          have ea : aoF J B V = 36864 := by unfold aoF; rw [f1, if_neg p2, if_neg p3, if_neg p4]
          by_cases p5 : B 24 (J 42).toNat = 4 ∧ (1 ≤ B 26 (J 42).toNat ∧ B 26 (J 42).toNat ≤ 8) ∧ B 25 (J 42).toNat < 2
          · have et : toA A J B = upA A 8 (upE (A 8) (B 26 (J 42).toNat).toNat (if B 25 (J 42).toNat = 0 then 1 else 0)) := by unfold toA tkA; rw [f1, f2, f10, if_pos p5.1, if_pos (by omega)]
            simp only [ea, eh, et, ew, if_true] at z
            rw [if_pos ⟨p1, p5⟩]
            exact ck_ov z (rst_run hr (by omega) (by split <;> omega)) rfl rfl rfl hp hN (kpM_A hk (by decide))
          · have et : toA A J B = A := by
              unfold toA tkA
              rw [f1, f2, f10]
              by_cases w : B 24 (J 42).toNat = 4
              · rw [if_pos w, if_neg (by omega)]
              · rw [if_neg w]
            simp only [ea, eh, et, ew, if_true] at z
            rw [if_neg (fun t => p5 t.2)]
            exact ck_ov z hr rfl rfl rfl hp hN hk
theorem rst_nx (hr : rst G h0 b I A P R J B fa fb fcap fg W V X cap ng) (hs : ¬ J 41 = 0) (hN : 0 ≤ J 43 ∧ J 43 ≤ 254) : rst G h0 b (updI (updI (updI I 22 ((I 22) + 1)) 21 (if (I 21) < 254 then (I 21) + 1 else 1)) 20 1) A P R (nxI J) B fa fb fcap fg W V X cap ng := by
  obtain ⟨a1, a2, a3, a4, a5, ⟨⟨b1, b2, b3, b4⟩, ⟨b5, b6⟩, b7, b8, b9⟩, a7, a8, a9, a10, a11⟩ := hr
  refine ⟨a1, a2, a3, a4, a5, ⟨⟨b1, rfl, ?_, ?_⟩, ⟨b5, fun _ => b6 hs⟩, ?_, b8, b9⟩, a7, a8, a9, a10, a11⟩
  · show (if (I 21) < 254 then (I 21) + 1 else 1) = if J 43 = 254 then 1 else J 43 + 1
    rw [b3]
    by_cases q : J 43 = 254
    · rw [if_pos q, if_neg (by omega)]
    · rw [if_neg q, if_pos (by omega)]
  · intro _
    show (I 22) + 1 = J 44 + 1
    rw [b4 hs]
  · unfold cuR at b7
    rw [if_neg hs] at b7
    show R 2 = if (1 : Int) = 0 then none else some (W 0 (J 42).toNat 0)
    rw [if_neg (by decide)]
    exact b7
theorem ck_131 (hb : G.2.2.2 ≤ b) (hr : rst G h0 b I A P R J B fa fb fcap fg W V X cap ng) (hM : iM J B) (hC : iCm J) (hq : cq I A J B) : cmdOk G b I A P o fa fcap fg W V X cap ng (fun n k Q => mX G 131 0 [.ref (b + 34), .ref (b + 3), mU, mU, mU, mU, mU, mU] [] (wH h0 b I A P R o) n k Q) (rpF J B) := by
  have e := hr.2.2.2.2.2.1
  have dt := hC.2.2.1
  have q0 : rq0 I A J B := ⟨⟨hq.1.2.2, dt⟩, hq.2.1.1, hq.2.1.2⟩
  have hN : 0 ≤ (I 7) ∧ (I 7) ≤ 255 := by rw [hq.1.2.2]; exact dt
  have hL := hr.2.2.2.2.2.2.2.1.1
  have z := fun n k Q => d131 (n := n) (k := k) (Q := Q) (o := o) hb q0 hL hM hC e.2.2.1 e.1.2.1 e.1.2.2.1 hr.2.2.1.1 hr.2.2.1.2.1 hr.2.1.1
  unfold rpF
  by_cases p1 : J 49 = 0
  · simp only [eq_true p1, if_true] at z ⊢
    exact ck_f z (by decide) (by decide) hr kpM_refl
  · simp only [p1, if_false] at z ⊢
    by_cases p2 : J 41 = 2
    · simp only [eq_true p2, not_true_eq_false, if_false] at z ⊢
      obtain ⟨t1, t2, t3, t4, t5, t6, t7⟩ := tlF_ok (K := K1) (a := 0) hM hC (by omega)
      have r2 := rst_tl (a := 0) (v := some (b + 4)) hr hN (by omega) t6 t7
      have ss : (tlF K1 0 J B).2.1 41 = 2 := by rw [t6 _ (by decide) (by decide)]; exact p2
      rcases rd_ok (K := K1) (R := R) (b := b) q0 hL hM hC (show (0 : Int) ≤ 0 ∧ 0 ≤ J 49 by omega) with h | ⟨h1, h2, h3⟩
      · simp only [h.2, if_true] at z ⊢
        exact ck_f z (by decide) (by decide) r2 kpM_rd
      · simp only [h1.2, Int.reduceEq, if_false] at z ⊢
        generalize (tlF K1 0 J B).2.1 = J2 at *
        generalize (tlF K1 0 J B).2.2 = B2 at *
        have ee := r2.2.2.2.2.2.1
        have hp2 := ee.2.1.2 (by omega)
        have n2 := t2.2.2.2.2.1.2.1
        have kk := kpM_rd (I := I) (A := A) (a := 0)
        generalize rdA I A 0 = A2 at *
        generalize upR R 3 (some (b + 4)) = R2 at *
        unfold rpC
        unfold arT at z
        by_cases p3 : J2 51 = 0
        · simp only [eq_true p3, not_true_eq_false, if_false] at z ⊢
          by_cases p4 : B2 46 1 < 0 ∨ B2 46 3 < 0
          · simp only [eq_true p4, if_true, Int.reduceEq, not_false_eq_true] at z ⊢
            exact ck_f z (by decide) (by decide) r2 kk
          · simp only [p4, if_false] at z ⊢
            by_cases p5 : abF J2 B2 ∧ ¬ B2 46 3 = 0
            · have p5' : B2 46 1 = 3 ∧ B2 14 (B2 45 1).toNat = J2 43 ∧ B2 14 (B2 45 1 + 1).toNat = tyA B2 (J2 42) ∧ B2 14 (B2 45 1 + 2).toNat = quF J2 B2 ∧ ¬ B2 46 3 = 0 := ⟨p5.1.1, p5.1.2.1, p5.1.2.2.1, p5.1.2.2.2, p5.2⟩
              rw [if_neg (fun t => t p5')]
              have zz : ∀ n k Q, mX G 131 0 [.ref (b + 34), .ref (b + 3), mU, mU, mU, mU, mU, mU] [] (wH h0 b I A P R o) n k Q ↔ mX G 131 56 [.ref (b + 34), .ref (b + 3), .ref (W 0 (J 42).toNat 0), .int (iI 36864), mU, mU, mU, mU] [] (wH h0 b I A2 P R2 o) n k Q := by
                intro n k Q
                rw [z n k Q, if_neg (fun t => t (by rw [if_neg (fun t => t p5)]))]
              have sn : J2 42 = J 42 := t6 _ (by decide) (by decide)
              rw [← sn] at zz
              have d3 : 0 < B2 46 3 := by omega
              have zb := fun n k Q => d131_b (n := n) (k := k) (Q := Q) (o := o) (i3 := iI 36864) hb r2.1.1 r2.2.1.1 r2.2.1.2.2 r2.2.1.2.1 t2 r2.2.2.1.1 (ee.2.1.1 hp2) (by rw [ee.1.2.2.1]; exact n2) (by omega) (ee.1.2.2.2 (by omega)) h3 r2.2.2.2.2.2.2.2.1.1 h2 d3
              have zc := fun n k Q => (zz n k Q).trans (zb n k Q)
              unfold rpB
              generalize B2 14 (B2 45 3).toNat = r at *
              by_cases p6 : r < 16
              · simp only [p6, if_true] at zc ⊢
                exact ck_131k kk r2 t2 t3 h3 h2 (by omega) zc
              · simp only [p6, if_false] at zc ⊢
                by_cases p7 : r / 16 = 2 ∧ J2 44 < 2
                · simp only [eq_true p7, if_true] at zc ⊢
                  exact ck_d zc (rst_nx r2 (by omega) n2) (kpM_I (kpM_I (kpM_I kk (by decide)) (by decide)) (by decide))
                · simp only [p7, if_false] at zc ⊢
                  exact ck_ov zc r2 rfl rfl rfl hp2 n2 kk
            · have p5' : ¬ (B2 46 1 = 3 ∧ B2 14 (B2 45 1).toNat = J2 43 ∧ B2 14 (B2 45 1 + 1).toNat = tyA B2 (J2 42) ∧ B2 14 (B2 45 1 + 2).toNat = quF J2 B2 ∧ ¬ B2 46 3 = 0) := fun t => p5 ⟨⟨t.1, t.2.1, t.2.2.1, t.2.2.2.1⟩, t.2.2.2.2⟩
              rw [if_pos p5']
              have zc : ∀ n k Q, mX G 131 0 [.ref (b + 34), .ref (b + 3), mU, mU, mU, mU, mU, mU] [] (wH h0 b I A P R o) n k Q ↔ Q (.inl (some (.int (iI 27264))), wH h0 b I A2 P R2 o, n, k) := by
                intro n k Q
                rw [z n k Q, if_pos p5, if_pos (by decide)]
              exact ck_f zc (by decide) (by decide) r2 kk
        · simp only [p3, not_false_eq_true, if_true, Int.reduceEq] at z ⊢
          exact ck_f z (by decide) (by decide) r2 kk
    · simp only [p2, not_false_eq_true, if_true] at z ⊢
      exact ck_f z (by decide) (by decide) hr kpM_refl
end
end MREL4
