/-! The relation: TERMINAL PROFILE, FETCH; what a list of TLVs leaves. -/
section MREL3
variable {G : mG} {h h0 : mH} {n k b : Nat} {Q : mR → Prop} {I : Nat → Int} {A : Nat → Nat → Int} {P : Nat → Nat} {R : Nat → Option Nat} {o : Nat → Int64}
theorem stN_cg {J J' : Nat → Int} {B B' : Nat → Nat → Int} (h1 : J' 40 = J 40) (h2 : B' 43 = B 43) (h3 : B' 24 = B 24) (h4 : B' 29 = B 29) : ∀ (d : Nat) (x : Int), stN J' B' d x = stN J B d x
  | 0, _ => rfl
  | d + 1, x => by
    rw [stN, stN, stN_cg h1 h2 h3 h4 d, h4]
    unfold hasT tyA
    rw [h1, h2, h3]
section
variable {J : Nat → Int} {B : Nat → Nat → Int} {fa : Nat → Nat} {fb : Nat → Nat → Int} {fcap : Nat} {fg : Nat → Option Nat} {W : Nat → Nat → Nat → Nat} {V : Nat → Nat → Nat → Nat → Int} {X : Nat → Nat → Option Nat} {cap : Nat} {ng : Nat → Option Nat} {h1 : mH}
/-- a NODE is started -/
theorem rst_z {z : Int} (h : rst G h0 b I A P R J B fa fb fcap fg W V X cap ng) (hp : J 39 = 1) (hN : 0 ≤ J 43 ∧ J 43 ≤ 254) (hz : ¬ z = -1) : rst G h0 b (stC I z) A P (stR R W z) (updI (updI (updI (updI J 42 z) 44 0) 43 (if J 43 = 254 then 1 else J 43 + 1)) 41 1) B fa fb fcap fg W V X cap ng := by
  unfold stC stR
  rw [if_neg hz, if_neg hz]
  obtain ⟨a1, a2, a3, a4, a5, ⟨⟨b1, b2, b3, b4⟩, ⟨b5, b6⟩, b7, b8, b9⟩, a7, a8, a9, a10, a11⟩ := h
  refine ⟨a1, a2, a3, a4, a5, ⟨⟨b1, rfl, ?_, fun _ => rfl⟩, ⟨b5, fun _ => hp⟩, ?_, b8, b9⟩, a7, a8, a9, a10, a11⟩
  · show (if (I 21) < 254 then (I 21) + 1 else 1) = if J 43 = 254 then 1 else J 43 + 1
    rw [b3]
    by_cases q : J 43 = 254
    · rw [if_pos q, if_neg (by omega)]
    · rw [if_neg q, if_pos (by omega)]
  · show some (W 0 z.toNat 0) = if (1 : Int) = 0 then none else some (W 0 z.toNat 0)
    rw [if_neg (by decide)]
theorem rst_st {x : Int} (h : rst G h0 b I A P R J B fa fb fcap fg W V X cap ng) (hp : J 39 = 1) (hN : 0 ≤ J 43 ∧ J 43 ≤ 254) : rst G h0 b (stC I (stN J B 17 x)) A P (stR R W (stN J B 17 x)) (stI J B x) B fa fb fcap fg W V X cap ng := by
  unfold stI
  by_cases q : stN J B 17 x = -1
  · rw [if_pos q, q]
    exact h
  · rw [if_neg q]
    exact rst_z h hp hN q
/-- what was PENDING or FETCHED is over -/
theorem rst_fi (h : rst G h0 b I A P R J B fa fb fcap fg W V X cap ng) : rst G h0 b (updI I 20 0) A P (upR R 2 none) (updI J 41 0) B fa fb fcap fg W V X cap ng := by
  obtain ⟨a1, a2, a3, a4, a5, ⟨⟨b1, b2, b3, b4⟩, ⟨b5, b6⟩, b7, b8, b9⟩, a7, a8, a9, a10, a11⟩ := h
  refine ⟨a1, a2, a3, a4, a5, ⟨⟨b1, rfl, b3, fun q => absurd rfl q⟩, ⟨b5, fun q => absurd rfl q⟩, ?_, b8, b9⟩, a7, a8, a9, a10, a11⟩
  show none = if (0 : Int) = 0 then none else some (W 0 (J 42).toNat 0)
  rw [if_pos rfl]
theorem rst_op (h : rst G h0 b I A P R J B fa fb fcap fg W V X cap ng) (hq : cq I A J B) (hC : iCm J) : rst G h0 b (opI I) (opA I A) P (upR R 2 none) (pfI J) (pfA J B) fa fb fcap fg W V X cap ng := by
  have d := hC.2.2.1
  have dn := hq.1.2.2
  obtain ⟨a1, a2, a3, a4, a5, ⟨⟨b1, b2, b3, b4⟩, ⟨b5, b6⟩, b7, ⟨b8, b10, b11⟩, b9⟩, a7, a8, a9, a10, a11⟩ := h
  have rr := rget_rng (len := (I 7)) hq.2.1.2
  refine ⟨a1, a2, a3, a4, a5, ⟨⟨rfl, rfl, rfl, fun q => absurd rfl q⟩, ⟨fun _ => ⟨dn, ?_, ?_⟩, fun q => absurd rfl q⟩, ?_, ⟨?_, ?_, ?_⟩, ?_⟩, a7, a8, a9, a10, a11⟩
  · intro j hj
    have hj' : (j : Int) < J 49 := hj
    show rcp (A 6) 0 (fun j => rget (I 7) (A 1) j) ((I 7)).toNat j = cpE (B 43) (tpG B) 0 (J 49) j
    rw [rcp_at, if_pos (by omega), rq_byte (j := j) hq hj' rfl]
    unfold cpE
    rw [if_pos (by omega)]
    show B 14 (5 + j) = B 14 (5 + ((j : Int) - 0).toNat)
    rw [show ((j : Int) - 0).toNat = j by omega]
  · intro j
    show 0 ≤ rcp (A 6) 0 (fun j => rget (I 7) (A 1) j) ((I 7)).toNat j ∧ rcp (A 6) 0 (fun j => rget (I 7) (A 1) j) ((I 7)).toNat j ≤ 255
    rw [rcp_at]
    split
    · omega
    · exact b9 j
  · show none = if (0 : Int) = 0 then none else some (W 0 (J 42).toNat 0)
    rw [if_pos rfl]
  · intro j hj
    show cpE (A 8) zer 0 9 j = cpE (B 40) zer 0 9 j
    unfold cpE
    rw [if_pos (by omega), if_pos (by omega)]
  · show cpE (A 8) zer 0 9 0 = 0
    unfold cpE
    rw [if_pos (by omega)]
    rfl
  · exact cpE_P (p := fun x => 0 ≤ x ∧ x ≤ 1) b11 (fun j => by show (0 : Int) ≤ 0 ∧ (0 : Int) ≤ 1; omega)
  · intro j
    show 0 ≤ rcp (A 6) 0 (fun j => rget (I 7) (A 1) j) ((I 7)).toNat j ∧ rcp (A 6) 0 (fun j => rget (I 7) (A 1) j) ((I 7)).toNat j ≤ 255
    rw [rcp_at]
    split
    · omega
    · exact b9 j
theorem kpM_op : kpM I A (opI I) (opA I A) := kpM_A (kpM_A (kpM_I (kpM_I (kpM_I (kpM_I (kpM_I (kpM_I kpM_refl (by decide)) (by decide)) (by decide)) (by decide)) (by decide)) (by decide)) (by decide)) (by decide)
theorem ck_129 (hb : G.2.2.2 ≤ b) (hr : rst G h0 b I A P R J B fa fb fcap fg W V X cap ng) (hM : iM J B) (hC : iCm J) (hq : cq I A J B) : cmdOk G b I A P o fa fcap fg W V X cap ng (fun n k Q => mX G 129 0 [.ref (b + 34), .ref (b + 3)] [] (wH h0 b I A P R o) n k Q) (pfF J B) := by
  have z := fun n k Q => d129 (n := n) (k := k) (Q := Q) (R := R) (o := o) hb hr.2.1.1 hr.2.1.2.1 hM hC hr.2.2.1.1 hq.2.1.2 hr.2.2.2.2.2.1.2.2.2.2 hq.1.2.2 hq.2.1.1
  unfold pfC pfQ at z
  unfold pfF
  by_cases p1 : J 49 = 0
  · simp only [eq_true p1, if_true] at z ⊢
    exact ck_f z (by decide) (by decide) hr kpM_refl
  · simp only [p1, if_false] at z ⊢
    have ro := rst_op hr hq hC
    by_cases p2 : B 32 40 ≤ 0
    · simp only [eq_true p2, if_true] at z ⊢
      exact ck_d z ro kpM_op
    · simp only [p2, if_false] at z ⊢
      exact ck_d z (rst_st ro rfl (by show (0 : Int) ≤ 0 ∧ (0 : Int) ≤ 254; omega)) (kpM_st kpM_op)
theorem rX_pb {l : List Int} (h : rX I A) (hl : ∀ x ∈ l, 0 ≤ x ∧ x ≤ 255) : rX (pbI I l) (pbA I A l) := by
  obtain ⟨x1, x2, x3, x4, x5, x6⟩ := h
  exact ⟨x1, x2, putL_P (p := fun x => 0 ≤ x ∧ x ≤ 255) l _ _ x3 hl, x4, x5, x6⟩
theorem rst_pb {l : List Int} (h : rst G h0 b I A P R J B fa fb fcap fg W V X cap ng) (hl : ∀ x ∈ l, 0 ≤ x ∧ x ≤ 255) : rst G h0 b (pbI I l) (pbA I A l) P R J B fa fb fcap fg W V X cap ng := by
  obtain ⟨a1, a2, a3, a4, a5, a6, a7, a8, a9, a10, a11⟩ := h
  exact ⟨a1, a2, a3, a4, a5, a6, a7, rX_pb a8 hl, a9, a10, a11⟩
theorem kpM_pb {I1 : Nat → Int} {A1 : Nat → Nat → Int} {l : List Int} (h : kpM I A I1 A1) : kpM I A (pbI I1 l) (pbA I1 A1 l) := kpM_l (kpM_I h (by decide)) (by decide) (by decide)
theorem ftL_rng {l : List Int} (hl : l.length ≤ 230) : (ftL l).length ≤ 256 ∧ ∀ x ∈ ftL l, 0 ≤ x ∧ x ≤ 255 := by
  unfold ftL
  constructor
  · simp only [List.length_append, List.length_cons, List.length_nil, List.length_map]
    split
    · simp only [List.length_nil]; omega
    · simp only [List.length_cons, List.length_nil]; omega
  · intro x hx
    rw [List.mem_append, List.mem_append, List.mem_append] at hx
    rcases hx with hx | hx | hx | hx
    · rw [List.mem_singleton] at hx; omega
    · split at hx
      · cases hx
      · rw [List.mem_singleton] at hx; omega
    · rw [List.mem_singleton] at hx; omega
    · rw [List.mem_map] at hx
      obtain ⟨y, _, e⟩ := hx
      omega
theorem rst_fb {l : List Int} {R1 : Nat → Option Nat} {I1 : Nat → Int} {A1 : Nat → Nat → Int} (h : rst G h1 b I1 A1 P R1 J B fa fb fcap fg W V X cap ng) : rst G h1 b I1 A1 P R1 (lwI (updI J 53 0) 53 l) (lwA (updI J 53 0) B 53 47 l) fa fb fcap fg W V X cap ng := h
theorem ck_130 (hb : G.2.2.2 ≤ b) (hr : rst G h0 b I A P R J B fa fb fcap fg W V X cap ng) (hM : iM J B) (hC : iCm J) (hq : cq I A J B) : cmdOk G b I A P o fa fcap fg W V X cap ng (fun n k Q => mX G 130 0 [.ref (b + 34), .ref (b + 3), mU, mU] [] (wH h0 b I A P R o) n k Q) (ftF J B) := by
  have e := hr.2.2.2.2.2.1
  have z := fun n k Q => d130 (n := n) (k := k) (Q := Q) (o := o) hb hr.2.1.1 hM hC hr.2.2.1.1 e.2.2.1 e.1.2.2.1 hr.2.2.2.2.2.2.1.1 hq.1.2.1 e.1.2.1 hq.2.2.1.1 hr.2.2.2.2.2.2.2.1.2.2.1
  have q7 := hq.2.2.1.1
  have ho := hC.2.2.2.2
  unfold ftC at z
  unfold ftF
  by_cases p1 : J 50 < 0
  · simp only [eq_true p1, if_true] at z ⊢
    exact ck_f z (by decide) (by decide) hr kpM_refl
  · simp only [p1, if_false] at z ⊢
    by_cases p2 : J 41 = 1
    · simp only [eq_true p2, not_true_eq_false, if_false] at z ⊢
      have bk := bok_of hM.2.2.2.1 hM.2.2.2.2.1 (by omega)
      have bl := bodL_len bk
      have br := bodL_rng bk
      have wl := whL_rng bl.2
      have r1 := rst_pb hr br
      by_cases p3 : J 50 = whL (bodL J B)
      · simp only [eq_true p3, not_true_eq_false, if_false] at z ⊢
        have fr := ftL_rng bl.2
        have r2 := rst_ans (l := ftL (bodL J B)) (rst_fb (l := bodL J B) r1) q7 ho fr.1 fr.2
        have kk := kpM_l (I2 := pbI I (bodL J B)) (i := 1) (a := 0) (l := ftL (bodL J B)) (kpM_pb (l := bodL J B) (kpM_refl (I := I) (A := A))) (by decide) (by decide)
        unfold fbI fbA
        generalize bodL J B = l at *
        generalize hI : lwI (pbI I l) 1 (ftL l) = I1 at *
        generalize hA : lwA (pbI I l) (pbA I A l) 1 0 (ftL l) = A1 at *
        generalize hJ : lwI (lwI (updI J 53 0) 53 l) 46 (ftL l) = J1 at *
        generalize hB : lwA (lwI (updI J 53 0) 53 l) (lwA (updI J 53 0) B 53 47 l) 46 44 (ftL l) = B1 at *
        have js : J1 41 = 1 := by rw [← hJ]; exact p2
        refine ⟨36864, h0, _, _, R, fb, z, ?_, by omega, ?_, kpM_I kk (by decide)⟩
        · show (36864 : Int) = if (36864 : Int) = 36864 then (if (2 : Int) = 1 then _ else 36864) else 36864
          rw [if_pos rfl, if_neg (by decide)]
        · obtain ⟨a1, a2, a3, a4, a5, ⟨⟨b1, b2, b3, b4⟩, ⟨b5, b6⟩, b7, b8, b9⟩, a7, a8, a9, a10, a11⟩ := r2
          refine ⟨a1, a2, a3, a4, a5, ⟨⟨b1, rfl, b3, fun _ => b4 (by omega)⟩, ⟨b5, fun _ => b6 (by omega)⟩, ?_, b8, b9⟩, a7, a8, a9, a10, a11⟩
          unfold cuR at b7
          rw [if_neg (by omega)] at b7
          show R 2 = if (2 : Int) = 0 then none else some (W 0 (J1 42).toNat 0)
          rw [if_neg (by decide)]
          exact b7
      · simp only [p3, not_false_eq_true, if_true] at z ⊢
        exact ck_f z (by omega) (by omega) (rst_fb r1) (kpM_pb kpM_refl)
    · simp only [p2, not_false_eq_true, if_true] at z ⊢
      exact ck_f z (by decide) (by decide) hr kpM_refl
theorem clF_len {N : Int} {g : Nat → Int} (hg : ∀ j, 0 ≤ g j ∧ g j ≤ 255) : ∀ (d : Nat) (a : Int) (A : Nat → Nat → Int), (∀ j, 0 ≤ (A 10) j ∧ (A 10) j ≤ 300) → (∀ j, 0 ≤ (clF N g d a A).2 10 j ∧ (clF N g d a A).2 10 j ≤ 300)
  | 0, _, _, h => h
  | d + 1, a, A, h => by
    rw [clF]
    split
    · exact h
    · split
      · exact h
      · rename_i q
        have tr := tRng (N := N) (a := a) hg
        unfold tBad at q
        refine clF_len hg d _ _ ?_
        intro j
        rw [tOne_len]
        split
        · exact upE_P (p := fun x => 0 ≤ x ∧ x ≤ 300) h (by omega) j
        · exact h j
theorem rX_rd {a : Int} (h : rX I A) (hN : 0 ≤ (I 7) ∧ (I 7) ≤ 255) (ha : -1 ≤ a) : rX I (rdA I A a) := by
  obtain ⟨x1, x2, x3, x4, ⟨x5, x6⟩, x7⟩ := h
  have o := fun j h1 h2 h3 => rdA_oth (I := I) (A := A) (a := a) (j := j) h1 h2 h3
  refine ⟨clF_iTl x4 hN.2 255 a _ ha (iTl_0 x1), ?_, ?_, ?_, ⟨?_, ?_⟩, x7⟩
  · refine clF_len x4 255 a _ ?_
    have e : t0A A 128 10 = cpE (A 10) (fun _ => 0) 0 128 := by unfold t0A; rw [upA_at, if_neg (by decide), upA_at, if_pos rfl]
    rw [e]
    exact cpE_P (p := fun x => 0 ≤ x ∧ x ≤ 300) x2 (fun _ => by show (0 : Int) ≤ 0 ∧ (0 : Int) ≤ 300; omega)
  · rw [o _ (by decide) (by decide) (by decide)]; exact x3
  · rw [o _ (by decide) (by decide) (by decide)]; exact x4
  · rw [o _ (by decide) (by decide) (by decide)]; exact x5
  · rw [o _ (by decide) (by decide) (by decide)]; exact x6
theorem kpM_rd {a : Int} : kpM I A I (rdA I A a) := ⟨fun _ _ => rfl, fun j hj => rdA_oth (by omega) (by omega) (by omega)⟩
theorem ext3A {A1 : Nat → Nat → Int} (h : ∀ j, j ≠ 9 → j ≠ 10 → j ≠ 11 → A1 j = A j) : A1 = upA (upA (upA A 9 (A1 9)) 10 (A1 10)) 11 (A1 11) := by
  funext j
  rw [upA_at, upA_at, upA_at]
  split
  · rename_i q; rw [q]
  · split
    · rename_i q; rw [q]
    · split
      · rename_i q; rw [q]
      · rename_i q1 q2 q3
        exact h j q3 q2 q1
theorem rst_tl {a : Int} {v : Option Nat} {J1 : Nat → Int} {B1 : Nat → Nat → Int} (h : rst G h0 b I A P R J B fa fb fcap fg W V X cap ng) (hN : 0 ≤ (I 7) ∧ (I 7) ≤ 255) (ha : -1 ≤ a) (hJ : ∀ j, j ≠ 52 → j ≠ 51 → J1 j = J j) (hB : ∀ j, j ≠ 45 → j ≠ 46 → B1 j = B j) : rst G h0 b I (rdA I A a) P (upR R 3 v) J1 B1 fa fb fcap fg W V X cap ng := by
  obtain ⟨a1, a2, a3, a4, a5, a6, a7, a8, a9, a10, a11⟩ := h
  have rx := rX_rd a8 hN ha
  rw [ext3A (A := A) (A1 := rdA I A a) (fun j h1 h2 h3 => rdA_oth h1 h2 h3)] at rx ⊢
  rw [ext2I hJ, ext2A hB]
  exact ⟨a1, a2, a3, a4, a5, a6, a7, rx, a9, a10, a11⟩
end
end MREL3
