/-! THE RELATION of class and reference, in blocks. -/
section MREL
variable {G : mG} {h h0 : mH} {n k b : Nat} {Q : mR → Prop} {I : Nat → Int} {A : Nat → Nat → Int} {P : Nat → Nat} {R : Nat → Option Nat} {o : Nat → Int64}
def rF (G : mG) (h0 : mH) (b p2 : Nat) (I J : Nat → Int) (B : Nat → Nat → Int) (fa : Nat → Nat) (fb : Nat → Nat → Int) (fcap : Nat) (fg : Nat → Option Nat) : Prop := dFl G h0 b p2 J B fa fb fcap fg ∧ (I 10) = J 29 ∧ (I 8) = J 30
def rN (G : mG) (h0 : mH) (b p3 : Nat) (I J : Nat → Int) (B : Nat → Nat → Int) (fa : Nat → Nat) (W : Nat → Nat → Nat → Nat) (V : Nat → Nat → Nat → Nat → Int) (X : Nat → Nat → Option Nat) (cap : Nat) (ng : Nat → Option Nat) : Prop := dNo G h0 b p3 J B fa W V X cap ng ∧ (I 18) = J 31 ∧ dSe J fa W
def rT (G : mG) (h0 : mH) (b : Nat) : Prop := sTy G h0 b ∧ sTg G h0 b 1 K1 ∧ sTg G h0 b 2 K3 ∧ sTg G h0 b 3 K4 ∧ sTg G h0 b 4 K5 ∧ sTg G h0 b 5 K2
def rP (I : Nat → Int) (A : Nat → Nat → Int) (J : Nat → Int) (B : Nat → Nat → Int) : Prop := ((I 11) = J 33 ∧ (I 12) = J 34 ∧ (I 13) = J 35) ∧ ((I 14) = 8 ∧ (I 15) = 8) ∧ ((∀ j : Nat, j < 8 → (A 2) j = B 41 j) ∧ (∀ j : Nat, j < 8 → (A 3) j = B 42 j)) ∧ ((∀ j, 0 ≤ (A 2) j ∧ (A 2) j ≤ 255) ∧ (∀ j, 0 ≤ (A 3) j ∧ (A 3) j ≤ 255))
def rH (I : Nat → Int) (R : Nat → Option Nat) (J : Nat → Int) (fa : Nat → Nat) : Prop := (R 0 = rfV fa (J 36) ∧ R 1 = rfV fa (J 37)) ∧ (I 16) = J 38
def rE (I : Nat → Int) (A : Nat → Nat → Int) (R : Nat → Option Nat) (J : Nat → Int) (B : Nat → Nat → Int) (W : Nat → Nat → Nat → Nat) : Prop := ((I 19) = J 39 ∧ (I 20) = J 41 ∧ (I 21) = J 43 ∧ (¬ J 41 = 0 → (I 22) = J 44)) ∧ ((J 39 = 1 → pfR I A J B) ∧ (¬ J 41 = 0 → J 39 = 1)) ∧ cuR R J W ∧ ((∀ j : Nat, j < 9 → (A 8) j = B 40 j) ∧ (A 8) 0 = 0 ∧ (∀ j, 0 ≤ (A 8) j ∧ (A 8) j ≤ 1)) ∧ (∀ j, 0 ≤ (A 6) j ∧ (A 6) j ≤ 255)
def rW (A B : Nat → Nat → Int) : Prop := (∀ j : Nat, j < 32 → (A 4) j = B 38 j) ∧ (∀ j : Nat, j < 9 → (A 5) j = B 39 j)
def rX (I : Nat → Int) (A : Nat → Nat → Int) : Prop := iTl A ∧ (∀ j, 0 ≤ (A 10) j ∧ (A 10) j ≤ 300) ∧ (∀ j, 0 ≤ (A 7) j ∧ (A 7) j ≤ 255) ∧ (∀ j, 0 ≤ (A 1) j ∧ (A 1) j ≤ 255) ∧ ((∀ j, 0 ≤ (A 12) j ∧ (A 12) j ≤ 255) ∧ (∀ j, 0 ≤ (A 13) j ∧ (A 13) j ≤ 255)) ∧ ((0 ≤ (I 25) ∧ (I 25) ≤ 300) ∧ (0 ≤ (I 26) ∧ (I 26) ≤ 300))
def rA (I : Nat → Int) (A : Nat → Nat → Int) (J : Nat → Int) (B : Nat → Nat → Int) : Prop := ((I 1) = J 46 ∧ (0 ≤ J 46 ∧ J 46 ≤ 256)) ∧ (∀ j : Nat, (j : Int) < J 46 → (A 0) j = B 44 j ∧ (0 ≤ B 44 j ∧ B 44 j ≤ 255))
def rQ (I : Nat → Int) (A : Nat → Nat → Int) (P : Nat → Nat) (J : Nat → Int) (B : Nat → Nat → Int) : Prop := ((P 0 = 39 ∧ P 1 = 41) ∧ (I 25) = J 28 ∧ (∀ j : Nat, (j : Int) < J 28 → (A 12) j = B 14 j)) ∨ ((P 0 = 41 ∧ P 1 = 39) ∧ (I 26) = J 28 ∧ (∀ j : Nat, (j : Int) < J 28 → (A 13) j = B 14 j))
/-- the nodes' list: empty at first, then an array of its own -/
def rG1 (G : mG) (h0 : mH) (p3 : Nat) (J : Nat → Int) (cap : Nat) (ng : Nat → Option Nat) : Prop := (J 31 = 0 ∧ p3 = G.2.2.1 6 ∧ ∃ f, h0 p3 = some (.inl (3, 0, f))) ∨ (G.2.2.2 ≤ p3 ∧ (J 31 ≤ cap ∧ 10 ≤ cap) ∧ h0 p3 = some (mA 4 cap ng))
def scV (G : mG) (j : Nat) : Int := ((G.2.2.1 (10 + j) : Nat) : Int) - 2147483648
/-- the script that the law is given: at the place 8, its length 9, what it holds from 10 on -/
def sSc (G : mG) (h0 : mH) (b : Nat) : Prop := (hol b (G.2.2.1 8) ∧ h0 (G.2.2.1 8) = some (.inl (2, G.2.2.1 9, fun j => iI (scV G j)))) ∧ G.2.2.1 9 ≤ 3072 ∧ (∀ j, -2147483648 ≤ scV G j ∧ scV G j < 2147483648)
/-- no two of the things made lie at the same place -/
def rO (P : Nat → Nat) (J : Nat → Int) (B : Nat → Nat → Int) (fa : Nat → Nat) (W : Nat → Nat → Nat → Nat) : Prop := ∃ ow : Nat → Nat, (∀ x : Nat, (x : Int) < J 29 → ow (fa x) = 10000 + 10 * x ∧ ow (fa x + 1) = 10001 + 10 * x) ∧
  (∀ i : Nat, ((i : Int) < J 31 ∨ i = 40) → ow (W 0 i 0) = 100 * i ∧ (ow (W 1 i 0) = 100 * i + 10 ∧ ow (W 1 i 0 + 1) = 100 * i + 20 ∧ ow (W 1 i 0 + 2) = 100 * i + 30 ∧ ow (W 1 i 0 + 3) = 100 * i + 40) ∧ (ow (W 2 i 0) = 100 * i + 50 ∧ ow (W 2 i 0 + 1) = 100 * i + 51) ∧ (∀ j : Nat, (j : Int) < B 32 i → ow (W 4 i j) = 100 * i + 60 + j ∧ ow (W 4 i j + 1) = 100 * i + 70 + j)) ∧
  ow (P 2) = 20000 ∧ ow (P 3) = 20001
def rZ (G : mG) (h0 : mH) (b : Nat) (P : Nat → Nat) (J : Nat → Int) (B : Nat → Nat → Int) (fa : Nat → Nat) (W : Nat → Nat → Nat → Nat) (cap : Nat) (ng : Nat → Option Nat) : Prop := rG1 G h0 (P 3) J cap ng ∧ sSc G h0 b ∧ rO P J B fa W ∧ (∀ a, P 4 ≤ a → h0 a = none)
def rst (G : mG) (h0 : mH) (b : Nat) (I : Nat → Int) (A : Nat → Nat → Int) (P : Nat → Nat) (R : Nat → Option Nat) (J : Nat → Int) (B : Nat → Nat → Int) (fa : Nat → Nat) (fb : Nat → Nat → Int) (fcap : Nat) (fg : Nat → Option Nat) (W : Nat → Nat → Nat → Nat) (V : Nat → Nat → Nat → Nat → Int) (X : Nat → Nat → Option Nat) (cap : Nat) (ng : Nat → Option Nat) : Prop :=
  rF G h0 b (P 2) I J B fa fb fcap fg ∧ rN G h0 b (P 3) I J B fa W V X cap ng ∧ rT G h0 b ∧ rP I A J B ∧ rH I R J fa ∧ rE I A R J B W ∧ rW A B ∧ rX I A ∧ rA I A J B ∧ rQ I A P J B ∧ (I 0) = J 45 ∧ rZ G h0 b P J B fa W cap ng
theorem updI_self (g : Nat → Int) (i : Nat) : updI g i (g i) = g := by
  funext j
  rw [updI_at]
  split
  · rename_i q; rw [q]
  · rfl
/-- the reference's part of the world is as it was -/
def kpM (I : Nat → Int) (A : Nat → Nat → Int) (I1 : Nat → Int) (A1 : Nat → Nat → Int) : Prop := (∀ j, 27 ≤ j → I1 j = I j) ∧ (∀ j, 14 ≤ j → A1 j = A j)
theorem kpM_refl : kpM I A I A := ⟨fun _ _ => rfl, fun _ _ => rfl⟩
theorem kpM_I {I1 : Nat → Int} {A1 : Nat → Nat → Int} {i : Nat} {x : Int} (h : kpM I A I1 A1) (hi : i < 27) : kpM I A (updI I1 i x) A1 := ⟨fun j hj => by rw [updI_at, if_neg (by omega)]; exact h.1 j hj, h.2⟩
theorem kpM_A {I1 : Nat → Int} {A1 : Nat → Nat → Int} {i : Nat} {x : Nat → Int} (h : kpM I A I1 A1) (hi : i < 14) : kpM I A I1 (upA A1 i x) := ⟨h.1, fun j hj => by rw [upA_at, if_neg (by omega)]; exact h.2 j hj⟩
theorem kpM_l {I1 : Nat → Int} {A1 : Nat → Nat → Int} {i a : Nat} {l : List Int} {I2 : Nat → Int} (h : kpM I A I1 A1) (hi : i < 27) (ha : a < 14) : kpM I A (lwI I1 i l) (lwA I2 A1 i a l) := kpM_A (kpM_I h hi) ha
theorem kpM_st {I1 : Nat → Int} {A1 : Nat → Nat → Int} {z : Int} (h : kpM I A I1 A1) : kpM I A (stC I1 z) A1 := by
  unfold stC
  split
  · exact h
  · exact kpM_I (kpM_I (kpM_I h (by decide)) (by decide)) (by decide)
theorem itmL_cg {B B' : Nat → Nat → Int} (h1 : B' 33 = B 33) (h2 : B' 35 = B 35) (h3 : B' 36 = B 36) : ∀ (d c : Nat), itmL B' d c = itmL B d c
  | 0, _ => rfl
  | d + 1, c => by
    rw [itmL, itmL, itmL_cg h1 h2 h3 d, h1, h2, h3]
theorem bodL_cg {J J' : Nat → Int} {B B' : Nat → Nat → Int} (h1 : J' 42 = J 42) (h2 : J' 43 = J 43) (h3 : J' 32 = J 32) (hB : ∀ j, 24 ≤ j → j ≤ 38 → B' j = B j) : bodL J' B' = bodL J B := by
  have b1 := hB 24 (by decide) (by decide)
  have b2 := hB 25 (by decide) (by decide)
  have b3 := hB 26 (by decide) (by decide)
  have b4 := hB 27 (by decide) (by decide)
  have b5 := hB 30 (by decide) (by decide)
  have b6 := hB 31 (by decide) (by decide)
  have b7 := hB 32 (by decide) (by decide)
  have b8 := hB 37 (by decide) (by decide)
  have b9 := hB 38 (by decide) (by decide)
  have bi := itmL_cg (hB 33 (by decide) (by decide)) (hB 35 (by decide) (by decide)) (hB 36 (by decide) (by decide))
  unfold bodL menL nodL titL msgL timL evtL
  rw [h1, h2, h3, b1, b2, b3, b4, b5, b6, b7, b8, b9, bi, bi]
theorem bodL_dn {J : Nat → Int} {B : Nat → Nat → Int} {l : List Int} : bodL (lwI (updI J 53 0) 53 l) (lwA (updI J 53 0) B 53 47 l) = bodL J B := bodL_cg rfl rfl rfl (fun j _ h2 => by rw [lwA_at, if_neg (by omega)])
section
variable {J : Nat → Int} {B : Nat → Nat → Int} {fa : Nat → Nat} {fb : Nat → Nat → Int} {fcap : Nat} {fg : Nat → Option Nat} {W : Nat → Nat → Nat → Nat} {V : Nat → Nat → Nat → Nat → Int} {X : Nat → Nat → Option Nat} {cap : Nat} {ng : Nat → Option Nat} {h1 : mH}
/-- a command of the class does what the reference's does: z what the reference's answers and leaves -/
def cmdOk (G : mG) (b : Nat) (I : Nat → Int) (A : Nat → Nat → Int) (P : Nat → Nat) (o : Nat → Int64) (fa : Nat → Nat) (fcap : Nat) (fg : Nat → Option Nat) (W : Nat → Nat → Nat → Nat) (V : Nat → Nat → Nat → Nat → Int) (X : Nat → Nat → Option Nat) (cap : Nat) (ng : Nat → Option Nat) (M : Nat → Nat → (mR → Prop) → Prop) (z : Z3) : Prop :=
  ∃ (st : Int) (h1 : mH) (I1 : Nat → Int) (A1 : Nat → Nat → Int) (R1 : Nat → Option Nat) (fb1 : Nat → Nat → Int), (∀ n k Q, M n k Q ↔ Q (.inl (some (.int (iI st))), wH h1 b I1 A1 P R1 o, n, k)) ∧
    (z.1 = if st = 36864 then (if z.2.1 41 = 1 then 37120 + whL (bodL z.2.1 z.2.2) else 36864) else st) ∧ ((0 ≤ st ∧ st ≤ 65535) ∧ ¬ st / 256 = 145) ∧ rst G h1 b I1 A1 P R1 z.2.1 z.2.2 fa fb1 fcap fg W V X cap ng ∧ kpM I A I1 A1
theorem rst_dn {R1 : Nat → Option Nat} {I1 : Nat → Int} {A1 : Nat → Nat → Int} (h : rst G h1 b I1 A1 P R1 J B fa fb fcap fg W V X cap ng) : rst G h1 b I1 A1 P R1 (dnF J B).2.1 (dnF J B).2.2 fa fb fcap fg W V X cap ng := by
  unfold dnF
  split
  · exact h
  · exact h
theorem ck_d {R1 : Nat → Option Nat} {I1 : Nat → Int} {A1 : Nat → Nat → Int} {M : Nat → Nat → (mR → Prop) → Prop} (hM : ∀ n k Q, M n k Q ↔ Q (.inl (some (.int (iI 36864))), wH h1 b I1 A1 P R1 o, n, k)) (h : rst G h1 b I1 A1 P R1 J B fa fb fcap fg W V X cap ng) (hk : kpM I A I1 A1) : cmdOk G b I A P o fa fcap fg W V X cap ng M (dnF J B) := by
  refine ⟨36864, h1, I1, A1, R1, fb, hM, ?_, by omega, rst_dn h, hk⟩
  rw [if_pos rfl]
  unfold dnF
  by_cases p : J 41 = 1
  · rw [if_pos p]
    show 37120 + whL (bodL J B) = if J 41 = 1 then 37120 + whL (bodL (lwI (updI J 53 0) 53 (bodL J B)) (lwA (updI J 53 0) B 53 47 (bodL J B))) else 36864
    rw [if_pos p, bodL_dn]
  · rw [if_neg p]
    show (36864 : Int) = if J 41 = 1 then 37120 + whL (bodL J B) else 36864
    rw [if_neg p]
theorem ck_f {R1 : Nat → Option Nat} {I1 : Nat → Int} {A1 : Nat → Nat → Int} {M : Nat → Nat → (mR → Prop) → Prop} {st : Int} (hM : ∀ n k Q, M n k Q ↔ Q (.inl (some (.int (iI st))), wH h1 b I1 A1 P R1 o, n, k)) (hs : ¬ st = 36864) (hr : (0 ≤ st ∧ st ≤ 65535) ∧ ¬ st / 256 = 145) (h : rst G h1 b I1 A1 P R1 J B fa fb fcap fg W V X cap ng) (hk : kpM I A I1 A1) : cmdOk G b I A P o fa fcap fg W V X cap ng M (st, J, B) :=
  ⟨st, h1, I1, A1, R1, fb, hM, (if_neg hs).symm, hr, h, hk⟩
theorem putL_2 {p : Int → Prop} : ∀ (l : List Int) (g g' : Nat → Int) (t : Int) (j : Nat), 0 ≤ t → t ≤ j → (j : Int) < t + l.length → (∀ x ∈ l, p x) → putL g t l j = putL g' t l j ∧ p (putL g' t l j)
  | [], _, _, _, _, _, h2, h3, _ => by
    rw [List.length_nil] at h3; omega
  | x :: l, g, g', t, j, h1, h2, h3, h4 => by
    rw [putL, putL]
    rw [List.length_cons] at h3
    by_cases q : (j : Int) = t
    · have e : t.toNat = j := by omega
      rw [putL_lo l _ _ j (by omega), putL_lo l _ _ j (by omega), e, upE_same, upE_same]
      exact ⟨rfl, h4 x (List.mem_cons_self ..)⟩
    · exact putL_2 l _ _ _ j (by omega) (by omega) (by omega) (fun y hy => h4 y (List.mem_cons_of_mem _ hy))
theorem rA_l {l : List Int} (h1 : (I 1) = 0) (h2 : J 46 = 0) (hl : l.length ≤ 256) (hb : ∀ x ∈ l, 0 ≤ x ∧ x ≤ 255) : rA (lwI I 1 l) (lwA I A 1 0 l) (lwI J 46 l) (lwA J B 46 44 l) := by
  refine ⟨⟨?_, ?_⟩, ?_⟩
  · show (I 1) + l.length = J 46 + l.length
    rw [h1, h2]
  · show 0 ≤ J 46 + (l.length : Int) ∧ J 46 + (l.length : Int) ≤ 256
    omega
  · intro j hj
    have hj' : (j : Int) < J 46 + l.length := hj
    show putL (A 0) (I 1) l j = putL (B 44) (J 46) l j ∧ (0 ≤ putL (B 44) (J 46) l j ∧ putL (B 44) (J 46) l j ≤ 255)
    rw [h1, h2]
    exact putL_2 (p := fun x => 0 ≤ x ∧ x ≤ 255) l _ _ 0 j (by omega) (by omega) (by omega) hb
theorem rst_ans {l : List Int} (h : rst G h0 b I A P R J B fa fb fcap fg W V X cap ng) (h1 : (I 1) = 0) (h2 : J 46 = 0) (hl : l.length ≤ 256) (hb : ∀ x ∈ l, 0 ≤ x ∧ x ≤ 255) : rst G h0 b (lwI I 1 l) (lwA I A 1 0 l) P R (lwI J 46 l) (lwA J B 46 44 l) fa fb fcap fg W V X cap ng := by
  obtain ⟨a1, a2, a3, a4, a5, a6, a7, a8, a9, a10, a11⟩ := h
  exact ⟨a1, a2, a3, a4, a5, a6, a7, a8, rA_l h1 h2 hl hb, a10, a11⟩
theorem rst_rec {x : Int} (h : rst G h0 b I A P R J B fa fb fcap fg W V X cap ng) : rst G h0 b (updI I 16 x) A P R (updI J 38 x) B fa fb fcap fg W V X cap ng := by
  obtain ⟨a1, a2, a3, a4, a5, a6, a7, a8, a9, a10, a11⟩ := h
  exact ⟨a1, a2, a3, a4, ⟨a5.1, rfl⟩, a6, a7, a8, a9, a10, a11⟩
theorem rZ_kp (hf : dFl G h0 b (P 2) J B fa fb fcap fg) (hk : kp J fa h0 h1) (h : rZ G h0 b P J B fa W cap ng) : rZ G h1 b P J B fa W cap ng := by
  obtain ⟨a1, ⟨⟨a2, a3⟩, a4⟩, a5, a6⟩ := h
  refine ⟨?_, ⟨⟨a2, kp_o hf hk a3 (fun N f q => by cases q)⟩, a4⟩, a5, ?_⟩
  · rcases a1 with ⟨b1, b2, f, b3⟩ | ⟨b1, b2, b3⟩
    · exact Or.inl ⟨b1, b2, f, kp_o hf hk b3 (fun N f q => by cases q)⟩
    · exact Or.inr ⟨b1, b2, kp_o hf hk b3 (fun N f q => by cases q)⟩
  · intro a ha
    rw [hk a]
    · exact a6 a ha
    · intro x hx q
      have := (hf.2.2.1 x hx).2.2.1
      rw [← q, a6 a ha] at this
      cases this
theorem rst_kp {fb1 : Nat → Nat → Int} {B1 : Nat → Nat → Int} (h : rst G h0 b I A P R J B fa fb fcap fg W V X cap ng) (hd : dFl G h1 b (P 2) J B1 fa fb1 fcap fg) (hk : kp J fa h0 h1) (hB : ∀ j, j ≠ 23 → B1 j = B j) : rst G h1 b I A P R J B1 fa fb1 fcap fg W V X cap ng := by
  obtain ⟨a1, a2, a3, a4, a5, a6, a7, a8, a9, a10, a11⟩ := h
  have f1 := a1.1
  have n1 := dNo_by hB (dNo_kp f1 hk a2.1 a2.2.2)
  have z1 := rZ_kp f1 hk a11.2
  rw [by_ext hB] at hd n1 ⊢
  refine ⟨⟨hd, a1.2⟩, ⟨n1, a2.2⟩, ⟨sTy_kp f1 hk a3.1, sTg_kp f1 hk a3.2.1, sTg_kp f1 hk a3.2.2.1, sTg_kp f1 hk a3.2.2.2.1, sTg_kp f1 hk a3.2.2.2.2.1, sTg_kp f1 hk a3.2.2.2.2.2⟩, a4, a5, a6, a7, a8, a9, a10, a11.1, z1⟩
theorem dFl_put {p2 x : Nat} {t m : Int} {f f' : Nat → Int} (hd : dFl G h0 b p2 J B fa fb fcap fg) (hF : iFl J B) (hx : (x : Int) < J 29) (ht : 0 ≤ t) (hm : t + m ≤ fN B x) (hff : ∀ j : Nat, (j : Int) < m → f j = f' j) (hr : ∀ j, 0 ≤ f j ∧ f j ≤ 255) :
    dFl G (fW h0 (fa x) (fN B x) (cpE (fb x) f t m)) b p2 J (upA B 23 (cpE (B 23) f' (B 22 x + t) m)) fa (upF fb x (cpE (fb x) f t m)) fcap fg := by
  obtain ⟨i1, i2, i3, i4, i5⟩ := hd.2.2.1 x hx
  have k4 := (hF.2.2.1 x hx).2.2.2.1
  refine dFl_w hd hx ?_ ?_ ?_
  · exact cpE_P (p := fun x => 0 ≤ x ∧ x ≤ 255) i5 hr
  · intro j hj
    unfold cpE
    by_cases q : t ≤ (j : Int) ∧ (j : Int) < t + m
    · rw [if_pos q, if_pos (by omega), hff _ (by omega)]
      congr 1
      omega
    · rw [if_neg q, if_neg (by omega)]
      exact i4 j hj
  · intro i hi hne j hj
    exact wr_other hF hx hi hne ht hm j hj
theorem rF_of (h : rst G h0 b I A P R J B fa fb fcap fg W V X cap ng) : dFl G h0 b (P 2) J B fa fb fcap fg := h.1.1
theorem ck_16 (hb : G.2.2.2 ≤ b) (hr : rst G h0 b I A P R J B fa fb fcap fg W V X cap ng) (hM : iM J B) (hC : iCm J) (hq : cq I A J B) : cmdOk G b I A P o fa fcap fg W V X cap ng (fun n k Q => mX G 16 0 [.ref (b + 16), .ref (b + 3), mU, mU, mU] [] (wH h0 b I A P R o) n k Q) (rbF J B) := by
  have z := fun n k Q => d16 (n := n) (k := k) (Q := Q) (o := o) hb hr.1.1 hM hC hq hr.2.2.2.2.1.1.2
  have q7 := hq.2.2.1.1
  have ho := hC.2.2.2.2
  have c4 := hC.2.2.2.1
  have wr : (0 ≤ wrF J B 1 1 0 ∧ wrF J B 1 1 0 ≤ 27014) ∧ ¬ wrF J B 1 1 0 / 256 = 145 := by
    unfold wrF
    repeat' split
    all_goals omega
  unfold rbC at z
  unfold rbF
  by_cases p1 : J 50 < 0
  · simp only [eq_true p1, if_true] at z ⊢
    exact ck_f z (by decide) (by decide) hr kpM_refl
  · simp only [p1, if_false] at z ⊢
    by_cases p2 : wrF J B 1 1 0 = 0
    · simp only [p2, not_true_eq_false, if_false] at z ⊢
      by_cases p3 : B 18 (J 37).toNat ≤ J 47 * 256 + J 48
      · simp only [eq_true p3, if_true] at z ⊢
        exact ck_f z (by decide) (by decide) hr kpM_refl
      · simp only [p3, if_false] at z ⊢
        by_cases p4 : ¬ J 50 = 256 ∧ B 18 (J 37).toNat - (J 47 * 256 + J 48) < J 50
        · simp only [eq_true p4, if_true] at z ⊢
          exact ck_f z (by omega) (by omega) hr kpM_refl
        · simp only [p4, if_false] at z ⊢
          refine ck_d z (rst_ans hr q7 ho ?_ (txtL_r255 _ _ _)) (kpM_l kpM_refl (by decide) (by decide))
          rw [txtL_len]
          split <;> omega
    · simp only [p2, not_false_eq_true, if_true] at z ⊢
      exact ck_f z (by omega) (by omega) hr kpM_refl
theorem ck_17 (hb : G.2.2.2 ≤ b) (hr : rst G h0 b I A P R J B fa fb fcap fg W V X cap ng) (hM : iM J B) (hC : iCm J) (hq : cq I A J B) : cmdOk G b I A P o fa fcap fg W V X cap ng (fun n k Q => mX G 17 0 [.ref (b + 16), .ref (b + 3), mU, mU] [] (wH h0 b I A P R o) n k Q) (wbF J B) := by
  have z := fun n k Q => d17 (n := n) (k := k) (Q := Q) (o := o) hb hr.1.1 hM hC hq hr.2.2.2.2.1.1.2
  obtain ⟨c1, c2, c3, c4, c5⟩ := hC
  have wr : (0 ≤ wrF J B 1 1 1 ∧ wrF J B 1 1 1 ≤ 27014) ∧ ¬ wrF J B 1 1 1 / 256 = 145 := by
    unfold wrF
    repeat' split
    all_goals omega
  unfold wbH at z
  unfold wbF
  by_cases p1 : J 49 = 0
  · have es : wbS J B = 26368 := by unfold wbS; rw [if_pos p1]
    simp only [es, Int.reduceEq, if_false] at z
    rw [if_pos p1]
    exact ck_f z (by decide) (by decide) hr kpM_refl
  · rw [if_neg p1]
    by_cases p2 : wrF J B 1 1 1 = 0
    · rw [if_neg (fun t => t p2)]
      by_cases p3 : B 18 (J 37).toNat ≤ J 47 * 256 + J 48
      · have es : wbS J B = 27392 := by unfold wbS; rw [if_neg p1, if_neg (fun t => t p2), if_pos p3]
        simp only [es, Int.reduceEq, if_false] at z
        rw [if_pos p3]
        exact ck_f z (by decide) (by decide) hr kpM_refl
      · rw [if_neg p3]
        by_cases p4 : B 18 (J 37).toNat < J 47 * 256 + J 48 + J 49
        · have es : wbS J B = 26368 := by unfold wbS; rw [if_neg p1, if_neg (fun t => t p2), if_neg p3, if_pos p4]
          simp only [es, Int.reduceEq, if_false] at z
          rw [if_pos p4]
          exact ck_f z (by decide) (by decide) hr kpM_refl
        · have es : wbS J B = 36864 := by unfold wbS; rw [if_neg p1, if_neg (fun t => t p2), if_neg p3, if_neg p4]
          simp only [es, if_true] at z
          rw [if_neg p4]
          have hF := hM.2.1
          have d2 := hM.2.2.1.2.1
          have fp : 0 ≤ J 37 ∧ B 17 (J 37).toNat = 1 := by
            unfold wrF at p2
            split at p2
            · omega
            · split at p2
              · omega
              · omega
          have k2 := (hF.2.2.1 (J 37).toNat (by omega)).2.1
          rw [fp.2] at k2
          have m1 := (shp_1 k2).2
          have eN := (fN_eq (x := (J 37).toNat) hF (by omega)).1
          rw [m1, Int.mul_one] at eN
          have rr := rget_rng (len := (I 7)) hq.2.1.2
          have hd := dFl_put (f := fun j => rget (I 7) (A 1) (0 + j) % 256) (f' := fun j => B 14 (5 + j)) (x := (J 37).toNat) (t := J 47 * 256 + J 48) (m := J 49) hr.1.1 hF (by omega) (by omega) (by omega) (by
            intro j hj
            have q := hq.2.1.1 j hj
            show rget (I 7) (A 1) (0 + j) % 256 = B 14 (5 + j)
            have g := hq.2.1.2 j
            unfold rget
            rw [if_pos (by rw [hq.1.2.2]; omega), show (0 + (j : Int)).toNat = j by omega, ← q]
            omega) (fun j => by omega)
          exact ck_d z (rst_kp hr hd (kp_fW (by omega)) (fun j hj => by rw [upA_at, if_neg hj])) kpM_refl
    · have es : wbS J B = wrF J B 1 1 1 := by unfold wbS; rw [if_neg p1, if_pos p2]
      have n1 : ¬ wrF J B 1 1 1 = 36864 := by omega
      simp only [es, n1, if_false] at z
      rw [if_pos p2]
      exact ck_f z n1 (by omega) hr kpM_refl
theorem ck_18 (hb : G.2.2.2 ≤ b) (hr : rst G h0 b I A P R J B fa fb fcap fg W V X cap ng) (hM : iM J B) (hC : iCm J) (hq : cq I A J B) : cmdOk G b I A P o fa fcap fg W V X cap ng (fun n k Q => mX G 18 0 [.ref (b + 16), .ref (b + 3), mU, mU, mU] [] (wH h0 b I A P R o) n k Q) (rrF J B) := by
  have z := fun n k Q => d18 (n := n) (k := k) (Q := Q) (o := o) hb hr.1.1 hM hC hq hr.2.2.2.2.1.1.2
  have q7 := hq.2.2.1.1
  have ho := hC.2.2.2.2
  have wr : (0 ≤ wrF J B 2 3 0 ∧ wrF J B 2 3 0 ≤ 27014) ∧ ¬ wrF J B 2 3 0 / 256 = 145 := by
    unfold wrF
    repeat' split
    all_goals omega
  unfold rrC at z
  unfold rrF
  by_cases p1 : J 50 < 0
  · simp only [eq_true p1, if_true] at z ⊢
    exact ck_f z (by decide) (by decide) hr kpM_refl
  · simp only [p1, if_false] at z ⊢
    by_cases p2 : wrF J B 2 3 0 = 0
    · have hF := hM.2.1
      have d2 := hM.2.2.1.2.1
      have fp : 0 ≤ J 37 ∧ 2 ≤ B 17 (J 37).toNat := by
        unfold wrF at p2
        split at p2
        · omega
        · split at p2
          · omega
          · omega
      have k2 := (hF.2.2.1 (J 37).toNat (by omega)).2.1
      have s2 := shp_2 k2 fp.2
      simp only [p2, not_true_eq_false, if_false] at z ⊢
      by_cases p3 : isW J
      · simp only [eq_true p3, not_true_eq_false, if_false] at z ⊢
        by_cases p4 : whF J B = 0
        · simp only [eq_true p4, if_true] at z ⊢
          exact ck_f z (by decide) (by decide) hr kpM_refl
        · simp only [p4, if_false] at z ⊢
          by_cases p5 : ¬ J 50 = 256 ∧ ¬ J 50 = B 18 (J 37).toNat
          · simp only [eq_true p5, if_true] at z ⊢
            exact ck_f z (by omega) (by omega) hr kpM_refl
          · simp only [p5, if_false] at z ⊢
            have hr2 := rst_ans (l := txtL (B 23) (B 18 (J 37).toNat).toNat (B 22 (J 37).toNat + B 18 (J 37).toNat * (whF J B - 1)).toNat) hr q7 ho (by rw [txtL_len]; omega) (txtL_r255 _ _ _)
            have kk := kpM_l (I := I) (A := A) (I1 := I) (A1 := A) (I2 := I) (i := 1) (a := 0) (l := txtL (B 23) (B 18 (J 37).toNat).toNat (B 22 (J 37).toNat + B 18 (J 37).toNat * (whF J B - 1)).toNat) kpM_refl (by decide) (by decide)
            generalize txtL (B 23) (B 18 (J 37).toNat).toNat (B 22 (J 37).toNat + B 18 (J 37).toNat * (whF J B - 1)).toNat = l at *
            by_cases p6 : J 48 = 4
            · simp only [eq_true p6, if_true] at z ⊢
              have er : updI (lwI J 46 l) 38 (J 38) = lwI J 46 l := updI_self (lwI J 46 l) 38
              rw [er]
              exact ck_d z hr2 kk
            · simp only [p6, if_false] at z ⊢
              exact ck_d z (rst_rec hr2) (kpM_I kk (by decide))
      · simp only [p3, not_false_eq_true, if_true] at z ⊢
        exact ck_f z (by decide) (by decide) hr kpM_refl
    · simp only [p2, not_false_eq_true, if_true] at z ⊢
      exact ck_f z (by omega) (by omega) hr kpM_refl
theorem ck_20 (hb : G.2.2.2 ≤ b) (hr : rst G h0 b I A P R J B fa fb fcap fg W V X cap ng) (hM : iM J B) (hC : iCm J) (hq : cq I A J B) : cmdOk G b I A P o fa fcap fg W V X cap ng (fun n k Q => mX G 20 0 [.ref (b + 16), .ref (b + 3), mU, mU, mU] [] (wH h0 b I A P R o) n k Q) (seF J B) := by
  have z := fun n k Q => d20 (n := n) (k := k) (Q := Q) (o := o) hb hr.1.1 hM hC hq hr.2.2.2.2.1.1.2
  have q7 := hq.2.2.1.1
  have ho := hC.2.2.2.2
  have c1 := hC.1
  have wr : (0 ≤ wrF J B 2 3 0 ∧ wrF J B 2 3 0 ≤ 27014) ∧ ¬ wrF J B 2 3 0 / 256 = 145 := by
    unfold wrF
    repeat' split
    all_goals omega
  unfold seC at z
  unfold seF
  by_cases p1 : J 49 = 0
  · simp only [eq_true p1, if_true] at z ⊢
    exact ck_f z (by decide) (by decide) hr kpM_refl
  · simp only [p1, if_false] at z ⊢
    by_cases p2 : wrF J B 2 3 0 = 0
    · have hF := hM.2.1
      have d2 := hM.2.2.1.2.1
      have fp : 0 ≤ J 37 ∧ 2 ≤ B 17 (J 37).toNat := by
        unfold wrF at p2
        split at p2
        · omega
        · split at p2
          · omega
          · omega
      have k2 := (hF.2.2.1 (J 37).toNat (by omega)).2.1
      have s2 := shp_2 k2 fp.2
      simp only [p2, not_true_eq_false, if_false] at z ⊢
      by_cases p3 : J 48 = 4
      · simp only [eq_true p3, not_true_eq_false, if_false] at z ⊢
        by_cases p4 : srF J B = []
        · simp only [eq_true p4, if_true] at z ⊢
          exact ck_f z (by decide) (by decide) hr kpM_refl
        · simp only [p4, if_false] at z ⊢
          refine ck_d z (rst_rec (rst_ans hr q7 ho ?_ ?_)) (kpM_I (kpM_l kpM_refl (by decide) (by decide)) (by decide))
          · have := srL_len (fun r => hsF J B r = 1) (B 19 (J 37).toNat - (if J 47 = 0 then 1 else J 47) + 1).toNat (if J 47 = 0 then 1 else J 47)
            unfold srF
            have w : 0 ≤ (if J 47 = 0 then (1 : Int) else J 47) := by split <;> omega
            omega
          · exact srL_rng _ _ _
      · simp only [p3, not_false_eq_true, if_true] at z ⊢
        exact ck_f z (by decide) (by decide) hr kpM_refl
    · simp only [p2, not_false_eq_true, if_true] at z ⊢
      exact ck_f z (by omega) (by omega) hr kpM_refl
end
end MREL
