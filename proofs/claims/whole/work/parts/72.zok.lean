/-! What always holds stays so, and a status is a number of two bytes: every command of the reference. -/
section MZOK
variable {G : mG} {h h0 : mH} {n k b : Nat} {Q : mR → Prop} {I : Nat → Int} {A : Nat → Nat → Int} {P : Nat → Nat} {R : Nat → Option Nat} {o : Nat → Int64}
def zOk (Z : Z3) : Prop := iM Z.2.1 Z.2.2 ∧ (0 ≤ Z.1 ∧ Z.1 ≤ 65535)
theorem iM_out {I : Nat → Int} {A : Nat → Nat → Int} {l : List Int} (hM : iM I A) (h0 : (I 46) = 0) (hl : l.length ≤ 300) (hr : ∀ x ∈ l, -2147483648 ≤ x ∧ x < 2147483648) : iM (lwI I 46 l) (lwA I A 46 44 l) := by
  obtain ⟨hA, hF, hH, hN, hS, ⟨⟨t1, t2, t3⟩, t4⟩⟩ := hM
  have z : 0 ≤ lwI I 46 l 46 ∧ lwI I 46 l 46 ≤ 300 := by rw [lwI_at, if_pos rfl]; omega
  exact ⟨lwI_RgA hA hr, hF, hH, hN, hS, ⟨⟨t1, t2, z⟩, t4⟩⟩
theorem iM_by {I : Nat → Int} {A : Nat → Nat → Int} {g : Nat → Int} (hM : iM I A) (hg : ∀ j, 0 ≤ g j ∧ g j ≤ 255) : iM I (upA A 23 g) := by
  obtain ⟨hA, ⟨f1, f2, f3, f4, f5, f6⟩, hH, hN, hS, hT⟩ := hM
  exact ⟨RgA_upA hA (fun j => by have := hg j; omega), ⟨f1, f2, f3, f4, f5, hg⟩, hH, hN, hS, hT⟩
theorem iM_pin {I : Nat → Int} {A : Nat → Nat → Int} {g : Nat → Int} (hM : iM I A) (hg : ∀ j, 0 ≤ g j ∧ g j ≤ 255) : iM I (upA A 41 g) := by
  obtain ⟨hA, hF, ⟨d1, d2, d3, d4, d5, d6, d7, d8, d9⟩, hN, hS, hT⟩ := hM
  exact ⟨RgA_upA hA (fun j => by have := hg j; omega), hF, ⟨d1, d2, d3, d4, d5, d6, d7, hg, d9⟩, hN, hS, hT⟩
theorem iM_ver {I : Nat → Int} {A : Nat → Nat → Int} {x y : Int} (hM : iM I A) (hx : 0 ≤ x ∧ x ≤ 1) (hy : 0 ≤ y ∧ y ≤ 3) : iM (updI (updI I 35 x) 33 y) A := by
  obtain ⟨hA, hF, ⟨d1, d2, d3, d4, d5, d6, d7⟩, hN, hS, hT⟩ := hM
  exact ⟨hA, hF, ⟨d1, d2, d3, d4, hx, hy, d7⟩, hN, hS, hT⟩
theorem iM_ver' {I : Nat → Int} {A : Nat → Nat → Int} {x y : Int} (hM : iM I A) (hx : 0 ≤ x ∧ x ≤ 1) (hy : 0 ≤ y ∧ y ≤ 3) : iM (updI (updI I 33 y) 35 x) A := by
  obtain ⟨hA, hF, ⟨d1, d2, d3, d4, d5, d6, d7⟩, hN, hS, hT⟩ := hM
  exact ⟨hA, hF, ⟨d1, d2, d3, d4, hx, hy, d7⟩, hN, hS, hT⟩
theorem iM_rec {I : Nat → Int} {A : Nat → Nat → Int} {r : Int} (hM : iM I A) (h1 : 0 ≤ r ∧ r ≤ 255) (h2 : 0 ≤ (I 37) → 2 ≤ (A 17) ((I 37)).toNat → r ≤ (A 19) ((I 37)).toNat) : iM (updI I 38 r) A := by
  obtain ⟨hA, hF, ⟨d1, d2, d3, d4, d5⟩, hN, hS, hT⟩ := hM
  exact ⟨hA, hF, ⟨d1, d2, h1, fun q => ⟨(d4 q).1, h2 q⟩, d5⟩, hN, hS, hT⟩
theorem iM_fb {I : Nat → Int} {A : Nat → Nat → Int} (hM : iM I A) (hs : ¬ (I 41) = 0) : iM (fbI I A) (fbA I A) := by
  have hk : bok I A := bok_of hM.2.2.2.1 hM.2.2.2.2.1 hs
  have br := bodL_rng hk
  have hR : RgA (fbA I A) := lwI_RgA hM.1 (fun x hx => by have := br x hx; omega)
  obtain ⟨hA, hF, hH, hN, hS, hT⟩ := hM
  exact ⟨hR, hF, hH, hN, hS, hT⟩
theorem dn_ok {I : Nat → Int} {A : Nat → Nat → Int} (hM : iM I A) : zOk (dnF I A) := by
  unfold dnF
  split
  · rename_i p
    have hk : bok I A := bok_of hM.2.2.2.1 hM.2.2.2.2.1 (by omega)
    have w := whL_rng (bodL_len hk).2
    exact ⟨iM_fb hM (by omega), by show 0 ≤ 37120 + whL (bodL I A) ∧ 37120 + whL (bodL I A) ≤ 65535; omega⟩
  · exact ⟨hM, by show (0 : Int) ≤ 36864 ∧ (36864 : Int) ≤ 65535; omega⟩
theorem zk {I : Nat → Int} {A : Nat → Nat → Int} {c : Int} (hM : iM I A) (hc : 0 ≤ c ∧ c ≤ 65535) : zOk (c, I, A) := ⟨hM, hc⟩
theorem rb_ok {I : Nat → Int} {A : Nat → Nat → Int} (hM : iM I A) (hC : iCm I) : zOk (rbF I A) := by
  have w := wrF_rng I A 1 1 0
  obtain ⟨c1, c2, c3, c4, c5⟩ := hC
  unfold rbF
  split
  · exact zk hM (by omega)
  · split
    · exact zk hM (by omega)
    · rename_i p2
      have w0 := wrF_0 (Decidable.not_not.mp p2)
      have sz := shp_sz (hM.2.1.2.2.1 ((I 37)).toNat (by have := hM.2.2.1.2.1; omega)).2.1
      split
      · exact zk hM (by omega)
      · split
        · exact zk hM (by omega)
        · refine dn_ok (iM_out hM c5 ?_ (txtL_rng _ _ _))
          rw [txtL_len]
          split <;> omega
theorem wb_ok {I : Nat → Int} {A : Nat → Nat → Int} (hM : iM I A) (hC : iCm I) : zOk (wbF I A) := by
  have w := wrF_rng I A 1 1 1
  unfold wbF
  split
  · exact zk hM (by omega)
  · split
    · exact zk hM (by omega)
    · split
      · exact zk hM (by omega)
      · split
        · exact zk hM (by omega)
        · exact dn_ok (iM_by hM (cpE_P (p := fun x => 0 ≤ x ∧ x ≤ 255) hM.2.1.2.2.2.2.2 (fun j => hM.2.2.2.2.2.2 _)))
theorem rr_ok {I : Nat → Int} {A : Nat → Nat → Int} (hM : iM I A) (hC : iCm I) : zOk (rrF I A) := by
  have w := wrF_rng I A 2 3 0
  obtain ⟨c1, c2, c3, c4, c5⟩ := hC
  unfold rrF
  split
  · exact zk hM (by omega)
  · split
    · exact zk hM (by omega)
    · rename_i p2
      have w0 := wrF_0 (Decidable.not_not.mp p2)
      have d2 := hM.2.2.1.2.1
      have d3 := hM.2.2.1.2.2.1
      obtain ⟨o1, o2, o3⟩ := hM.2.1.2.2.1 ((I 37)).toNat (by omega)
      obtain ⟨o6, o7⟩ := shp_2 o2 w0.2.1
      have dr := (hM.2.2.1.2.2.2.1 w0.1).2 w0.2.1
      have wr := whF_rng (I := I) (A := A) c1 ⟨d3.1, dr⟩ o7.1
      split
      · exact zk hM (by omega)
      · split
        · exact zk hM (by omega)
        · split
          · exact zk hM (by omega)
          · refine dn_ok (iM_rec (iM_out hM c5 ?_ (txtL_rng _ _ _)) ?_ ?_)
            · rw [txtL_len]; omega
            · split <;> omega
            · intro _ _
              show (if (I 48) = 4 then (I 38) else whF I A) ≤ (A 19) ((I 37)).toNat
              split <;> omega
theorem wc_ok {I : Nat → Int} {A : Nat → Nat → Int} (hM : iM I A) (hC : iCm I) : zOk (wcF I A) := by
  have w := wrF_rng I A 2 3 1
  obtain ⟨c1, c2, c3, c4, c5⟩ := hC
  have hby := hM.2.1.2.2.2.2.2
  unfold wcF
  split
  · exact zk hM (by omega)
  · split
    · exact zk hM (by omega)
    · rename_i p2
      have w0 := wrF_0 (Decidable.not_not.mp p2)
      have d2 := hM.2.2.1.2.1
      have d3 := hM.2.2.1.2.2.1
      obtain ⟨o1, o2, o3⟩ := hM.2.1.2.2.1 ((I 37)).toNat (by omega)
      obtain ⟨o6, o7⟩ := shp_2 o2 w0.2.1
      have dr := (hM.2.2.1.2.2.2.1 w0.1).2 w0.2.1
      have wr := whF_rng (I := I) (A := A) c1 ⟨d3.1, dr⟩ o7.1
      split
      · split
        · exact zk hM (by omega)
        · split
          · exact zk hM (by omega)
          · refine dn_ok (iM_rec (iM_by hM (cpE_P (p := fun x => 0 ≤ x ∧ x ≤ 255) (fun j => ?_) (fun j => hM.2.2.2.2.2.2 _))) (by omega) ?_)
            · unfold shE; split <;> exact hby _
            · intro _ _
              show (1 : Int) ≤ (A 19) ((I 37)).toNat
              omega
      · split
        · exact zk hM (by omega)
        · split
          · exact zk hM (by omega)
          · split
            · exact zk hM (by omega)
            · refine dn_ok (iM_rec (iM_by hM (cpE_P (p := fun x => 0 ≤ x ∧ x ≤ 255) hby (fun j => hM.2.2.2.2.2.2 _))) ?_ ?_)
              · split <;> omega
              · intro _ _
                show (if (I 48) = 4 then (I 38) else whF I A) ≤ (A 19) ((I 37)).toNat
                split <;> omega
theorem srL_le (p : Int → Prop) [DecidablePred p] {m : Int} (hm : m ≤ 255) : ∀ (d : Nat) (c : Int), 0 ≤ c → c + d ≤ m + 1 ∨ d = 0 → ∀ x ∈ srL p d c, x ≤ m
  | 0, _, _, _ => fun x h => by cases h
  | d + 1, c, h1, h2 => fun x h => by
    rw [srL] at h
    split at h
    · rcases List.mem_cons.mp h with q | q
      · omega
      · exact srL_le p hm d (c + 1) (by omega) (by omega) x q
    · exact srL_le p hm d (c + 1) (by omega) (by omega) x h
theorem se_ok {I : Nat → Int} {A : Nat → Nat → Int} (hM : iM I A) (hC : iCm I) : zOk (seF I A) := by
  have w := wrF_rng I A 2 3 0
  obtain ⟨c1, c2, c3, c4, c5⟩ := hC
  unfold seF
  split
  · exact zk hM (by omega)
  · split
    · exact zk hM (by omega)
    · rename_i p2
      have w0 := wrF_0 (Decidable.not_not.mp p2)
      have d2 := hM.2.2.1.2.1
      obtain ⟨o1, o2, o3⟩ := hM.2.1.2.2.1 ((I 37)).toNat (by omega)
      obtain ⟨o6, o7⟩ := shp_2 o2 w0.2.1
      split
      · exact zk hM (by omega)
      · split
        · exact zk hM (by omega)
        · rename_i p4
          have ll := srL_len (fun r => hsF I A r = 1) ((A 19) ((I 37)).toNat - (if (I 47) = 0 then 1 else (I 47)) + 1).toNat (if (I 47) = 0 then 1 else (I 47))
          have lr := srL_rng (fun r => hsF I A r = 1) ((A 19) ((I 37)).toNat - (if (I 47) = 0 then 1 else (I 47)) + 1).toNat (if (I 47) = 0 then 1 else (I 47))
          have lb : ((A 19) ((I 37)).toNat - (if (I 47) = 0 then 1 else (I 47)) + 1).toNat ≤ 256 := by split <;> omega
          have le := srL_le (fun r => hsF I A r = 1) (m := (A 19) ((I 37)).toNat) (by omega) ((A 19) ((I 37)).toNat - (if (I 47) = 0 then 1 else (I 47)) + 1).toNat (if (I 47) = 0 then 1 else (I 47)) (by split <;> omega) (by split <;> omega)
          have hd : (srF I A).headD 0 ∈ srF I A := by
            cases h : srF I A with
            | nil => exact absurd h p4
            | cons x l => exact List.mem_cons_self
          have l1 := lr _ hd
          have l2 := le _ hd
          refine dn_ok (iM_rec (iM_out hM c5 (Nat.le_trans ll (by omega)) (fun x hx => by have := lr x hx; omega)) l1 ?_)
          intro _ _
          exact l2
theorem tk_ok {I : Nat → Int} {A : Nat → Nat → Int} {N : Int} (hM : iM I A) : zOk (tkF I A N) := dn_ok (iM_ver (iM_pin hM (cpE_P (p := fun x => 0 ≤ x ∧ x ≤ 255) hM.2.2.1.2.2.2.2.2.2.2.1 (fun j => hM.2.2.2.2.2.2 _))) (by omega) (by omega))
theorem bp_ok {I : Nat → Int} {A : Nat → Nat → Int} {N : Int} (hM : iM I A) : zOk (bpF I A N) := by
  have hp := hM.2.2.1.2.2.2.2.2.1
  unfold bpF
  split
  · exact zk hM (by omega)
  · split
    · exact zk (iM_ver' hM (by omega) (by omega)) (by omega)
    · exact tk_ok hM
theorem vf_ok {I : Nat → Int} {A : Nat → Nat → Int} (hM : iM I A) : zOk (vfF I A) := by
  have hp := hM.2.2.1.2.2.2.2.2.1
  unfold vfF
  repeat' split
  all_goals first | exact zk hM (by omega) | exact dn_ok hM | exact bp_ok hM
theorem ch_ok {I : Nat → Int} {A : Nat → Nat → Int} (hM : iM I A) : zOk (chF I A) := by
  unfold chF
  repeat' split
  all_goals first | exact zk hM (by omega) | exact bp_ok hM
theorem ub_ok {I : Nat → Int} {A : Nat → Nat → Int} (hM : iM I A) : zOk (ubF I A) := by
  have hp := hM.2.2.1.2.2.2.2.2.2.1
  unfold ubF
  repeat' split
  all_goals first | exact zk hM (by omega) | exact zk (iM_key hM (by omega)) (by omega) | exact tk_ok (iM_key hM (by omega))
theorem foF_rng {I : Nat → Int} {A : Nat → Nat → Int} (hM : iM I A) : -1 ≤ foF I A ∧ foF I A < (I 29) := by
  have f1 := hM.2.1.1
  have hd := hM.2.2.1.1
  have hu : (A 16) ((I 36)).toNat < (I 29) := by
    have := (hM.2.1.2.2.1 ((I 36)).toNat (by omega)).2.2.2.2.2.2.1
    omega
  unfold foF
  split
  · exact neF_rng f1 hd hu
  · exact pth_rng (fun x y => fIn_rng f1) _ 0 0 (by omega) (by omega)
theorem desL_ok {A : Nat → Nat → Int} {f : Nat} (hA : RgA A) : (desL A f).length ≤ 17 ∧ ∀ x ∈ desL A f, -2147483648 ≤ x ∧ x < 2147483648 := by
  unfold desL
  constructor
  · repeat' split
    all_goals simp
  · intro x hx
    have g2 := hA 20 f
    have g3 := hA 15 f
    repeat' split at hx
    all_goals
      simp only [List.mem_cons, List.not_mem_nil, or_false] at hx
      omega
theorem sl_ok {I : Nat → Int} {A : Nat → Nat → Int} (hM : iM I A) (hC : iCm I) : zOk (slF I A) := by
  have fr := foF_rng hM
  have dl := desL_ok (f := (foF I A).toNat) hM.1
  unfold slF
  split
  · exact zk hM (by omega)
  · split
    · exact zk hM (by omega)
    · split
      · exact zk hM (by omega)
      · have hn := hn_iM hM (show 0 ≤ foF I A by omega) fr.2
        split
        · exact dn_ok (iM_out hn hC.2.2.2.2 (Nat.le_trans dl.1 (by decide)) dl.2)
        · exact dn_ok hn
theorem pf_ok {I : Nat → Int} {A : Nat → Nat → Int} (hM : iM I A) (hC : iCm I) : zOk (pfF I A) := by
  have h1 := iM_pf hM hC
  unfold pfF
  split
  · exact zk hM (by omega)
  · split
    · exact dn_ok h1
    · exact dn_ok (iM_start h1 (Or.inr (Or.inl rfl)))
theorem ftL_ok {l : List Int} (hl : l.length ≤ 230) : (ftL l).length ≤ 300 ∧ ∀ x ∈ ftL l, -2147483648 ≤ x ∧ x < 2147483648 := by
  unfold ftL
  constructor
  · split <;> simp only [List.length_append, List.length_cons, List.length_nil, List.length_map] <;> omega
  · intro x hx
    rcases List.mem_append.mp hx with q | q
    · rw [List.mem_singleton] at q; omega
    · rcases List.mem_append.mp q with q | q
      · split at q
        · cases q
        · rw [List.mem_singleton] at q; omega
      · rcases List.mem_append.mp q with q | q
        · rw [List.mem_singleton] at q; omega
        · obtain ⟨y, _, hy⟩ := List.mem_map.mp q
          omega
theorem ft_ok {I : Nat → Int} {A : Nat → Nat → Int} (hM : iM I A) (hC : iCm I) : zOk (ftF I A) := by
  unfold ftF
  split
  · exact zk hM (by omega)
  · split
    · exact zk hM (by omega)
    · rename_i p
      have p' : (I 41) = 1 := Decidable.not_not.mp p
      have hk : bok I A := bok_of hM.2.2.2.1 hM.2.2.2.2.1 (by omega)
      have w := whL_rng (bodL_len hk).2
      have hf := iM_fb hM (by omega)
      split
      · exact zk hf (by omega)
      · have fl := ftL_ok (bodL_len hk).2
        have h2 := iM_out hf hC.2.2.2.2 fl.1 fl.2
        have e5 := hM.2.2.2.2.1.2.2.2.2.1 (by omega)
        refine zk ?_ (by omega)
        obtain ⟨hA, hF, hH, hN, ⟨s1, s2, s3, s4, s5, s6⟩, hT⟩ := h2
        exact ⟨hA, hF, hH, hN, ⟨(by show (0 : Int) ≤ 2 ∧ (2 : Int) ≤ 2; omega), s2, s3, s4, fun _ => e5, s6⟩, hT⟩
end MZOK
