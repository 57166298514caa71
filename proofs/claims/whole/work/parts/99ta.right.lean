/-! The reference's commands change neither the number of files nor the rights. -/
section MRIGHT
variable {I : Nat → Int} {A : Nat → Nat → Int}
def pj (I : Nat → Int) (A : Nat → Nat → Int) : Int × (Nat → Int) × (Nat → Int) := ((I 29), (A 20), (A 21))
def pz (z : Z3) : Int × (Nat → Int) × (Nat → Int) := pj z.2.1 z.2.2
theorem pz_mk {a : Int} {b : Nat → Int} {c : Nat → Nat → Int} : pz (a, b, c) = pj b c := rfl
theorem pz_ite {c : Prop} [Decidable c] {a b : Z3} : pz (if c then a else b) = if c then pz a else pz b := by split <;> rfl
theorem pj_up {i : Nat} {v : Int} (h : ¬ 29 = i) : pj (updI I i v) A = pj I A := by
  unfold pj
  rw [updI_at, if_neg h]
theorem pj_uA {i : Nat} {v : Nat → Int} (h : ¬ 20 = i) (h2 : ¬ 21 = i) : pj I (upA A i v) = pj I A := by
  unfold pj
  rw [upA_at, if_neg h, upA_at, if_neg h2]
theorem pj_lI {i : Nat} {l : List Int} (h : ¬ 29 = i) : pj (lwI I i l) A = pj I A := pj_up h
theorem pj_lA {i a : Nat} {l : List Int} {I2 : Nat → Int} (h : ¬ 20 = a) (h2 : ¬ 21 = a) : pj I (lwA I2 A i a l) = pj I A := pj_uA h h2
theorem pj_iI {c : Prop} [Decidable c] {a b : Nat → Int} : pj (if c then a else b) A = if c then pj a A else pj b A := by split <;> rfl
theorem pj_iA {c : Prop} [Decidable c] {a b : Nat → Nat → Int} : pj I (if c then a else b) = if c then pj I a else pj I b := by split <;> rfl
theorem ite_sm {c : Prop} [Decidable c] {α : Type} {a : α} : (if c then a else a) = a := by split <;> rfl
theorem obW_r (x : Int) (I1 : Nat → Int) (A : Nat → Nat → Int) : pj I (obW I1 A x) = pj I A := by
  unfold obW
  simp (disch := decide) only [pj_iA, pj_uA, ite_sm]
theorem obA_r (e : Int) (I1 : Nat → Int) : ∀ (d : Nat) (x : Int) (A : Nat → Nat → Int), pj I (obA I1 e d x A) = pj I A
  | 0, _, _ => rfl
  | d + 1, x, A => by
    rw [obA]
    simp (disch := decide) only [pj_iA, obA_r e I1 d, obW_r, ite_sm]
theorem lsI_r (K : Int → Prop) [DecidablePred K] (t v r : Int) : pj (lsI K I t v r) A = pj I A := by
  unfold lsI
  simp (disch := decide) only [pj_iI, pj_up, ite_sm]
theorem lsA_r (K : Int → Prop) [DecidablePred K] (t s r : Int) : pj I (lsA K A t s r) = pj I A := by
  unfold lsA
  simp (disch := decide) only [pj_iA, pj_uA, ite_sm]
theorem lsF_r (K : Int → Prop) [DecidablePred K] (N : Int) (g : Nat → Int) : ∀ (d : Nat) (a : Int) (I : Nat → Int) (A : Nat → Nat → Int), pz (lsF K N g d a I A) = pj I A
  | 0, _, _, _ => rfl
  | d + 1, a, I, A => by
    rw [lsF]
    simp (disch := decide) only [pz_ite, pz_mk, lsF_r K N g d, lsI_r, lsA_r, pj_up, ite_sm]
theorem tlF_r (K : Int → Prop) [DecidablePred K] (a : Int) : pz (tlF K a I A) = pj I A := by
  unfold tlF nolA
  simp (disch := decide) only [lsF_r, pj_up, pj_uA]
theorem stI_r (x : Int) (A1 : Nat → Nat → Int) : pj (stI I A1 x) A = pj I A := by
  unfold stI
  simp (disch := decide) only [pj_iI, pj_up, ite_sm]
theorem dnF_r : pz (dnF I A) = pj I A := by
  unfold dnF
  simp (disch := decide) only [pz_ite, pz_mk, pj_lI, pj_lA, pj_up, ite_sm]
theorem hnI_r (f : Int) (A1 : Nat → Nat → Int) : pj (hnI I A1 f) A = pj I A := by
  unfold hnI
  simp (disch := decide) only [pj_up]
theorem kpA_r (f s m : Int) : pj I (kpA A f s m) = pj I A := by
  unfold kpA
  simp (disch := decide) only [pj_iA, pj_uA, ite_sm]
theorem slF_r : pz (slF I A) = pj I A := by
  unfold slF
  simp (disch := decide) only [pz_ite, pz_mk, dnF_r, pj_lI, pj_lA, hnI_r, ite_sm]
theorem rbF_r : pz (rbF I A) = pj I A := by
  unfold rbF
  simp (disch := decide) only [pz_ite, pz_mk, dnF_r, pj_lI, pj_lA, ite_sm]
theorem wbF_r : pz (wbF I A) = pj I A := by
  unfold wbF
  simp (disch := decide) only [pz_ite, pz_mk, dnF_r, pj_uA, ite_sm]
theorem rrF_r : pz (rrF I A) = pj I A := by
  unfold rrF
  simp (disch := decide) only [pz_ite, pz_mk, dnF_r, pj_lI, pj_lA, pj_up, ite_sm]
theorem wcF_r : pz (wcF I A) = pj I A := by
  unfold wcF
  simp (disch := decide) only [pz_ite, pz_mk, dnF_r, pj_up, pj_uA, ite_sm]
theorem seF_r : pz (seF I A) = pj I A := by
  unfold seF
  simp (disch := decide) only [pz_ite, pz_mk, dnF_r, pj_lI, pj_lA, pj_up, ite_sm]
theorem tkF_r (N : Int) : pz (tkF I A N) = pj I A := by
  unfold tkF
  simp (disch := decide) only [dnF_r, pj_up, pj_uA]
theorem bpF_r (N : Int) : pz (bpF I A N) = pj I A := by
  unfold bpF
  simp (disch := decide) only [pz_ite, pz_mk, tkF_r, pj_up, ite_sm]
theorem vfF_r : pz (vfF I A) = pj I A := by
  unfold vfF
  simp (disch := decide) only [pz_ite, pz_mk, dnF_r, bpF_r, ite_sm]
theorem chF_r : pz (chF I A) = pj I A := by
  unfold chF
  simp (disch := decide) only [pz_ite, pz_mk, bpF_r, ite_sm]
theorem ubF_r : pz (ubF I A) = pj I A := by
  unfold ubF
  simp (disch := decide) only [pz_ite, pz_mk, tkF_r, pj_up, ite_sm]
theorem pfI_r : pj (pfI I) A = pj I A := by
  unfold pfI
  simp (disch := decide) only [pj_up]
theorem pfA_r (I1 : Nat → Int) : pj I (pfA I1 A) = pj I A := by
  unfold pfA
  simp (disch := decide) only [pj_uA]
theorem pfF_r : pz (pfF I A) = pj I A := by
  unfold pfF
  simp (disch := decide) only [pz_ite, pz_mk, dnF_r, pj_iI, pfI_r, pfA_r, stI_r, ite_sm]
theorem ftF_r : pz (ftF I A) = pj I A := by
  unfold ftF fbI fbA
  simp (disch := decide) only [pz_ite, pz_mk, dnF_r, pj_lI, pj_lA, pj_up, ite_sm]
theorem ovF_r (w : Int) : pz (ovF I A w) = pj I A := by
  unfold ovF
  simp (disch := decide) only [dnF_r, stI_r, pj_up]
theorem fnF_r : pz (fnF I A) = pj I A := by
  unfold fnF
  simp (disch := decide) only [pz_ite, pz_mk, dnF_r, ovF_r, stI_r, kpA_r, pj_up, pj_uA, pj_iI, pj_iA, ite_sm]
theorem rpB_r (r : Int) : pz (rpB I A r) = pj I A := by
  unfold rpB nxI
  simp (disch := decide) only [pz_ite, pz_mk, dnF_r, ovF_r, fnF_r, pj_up, pj_iI, ite_sm]
theorem rpC_r : pz (rpC I A) = pj I A := by
  unfold rpC
  simp (disch := decide) only [pz_ite, pz_mk, rpB_r, ite_sm]
theorem pz_eq (z : Z3) : pj z.2.1 z.2.2 = pz z := rfl
theorem rpF_r : pz (rpF I A) = pj I A := by
  unfold rpF
  simp (disch := decide) only [pz_ite, pz_mk, rpC_r, pz_eq, tlF_r, ite_sm]
theorem orF_r (f e : Int) : pz (orF I A f e) = pj I A := by
  unfold orF
  simp (disch := decide) only [pz_ite, pz_mk, dnF_r, stI_r, obA_r, ite_sm]
theorem e4F_r (c v : Int) : pz (e4F I A c v) = pj I A := by
  unfold e4F
  simp (disch := decide) only [pz_ite, pz_mk, dnF_r, stI_r, pj_uA, ite_sm]
theorem e3F_r (c : Int) : pz (e3F I A c) = pj I A := by
  unfold e3F
  simp (disch := decide) only [pz_ite, pz_mk, orF_r, e4F_r, ite_sm]
theorem e2F_r (K : Int → Prop) [DecidablePred K] (c s : Int) : pz (e2F K I A c s) = pj I A := by
  unfold e2F
  simp (disch := decide) only [pz_ite, pz_mk, e3F_r, pz_eq, tlF_r, ite_sm]
theorem enF_r : pz (enF I A) = pj I A := by
  unfold enF e1I
  simp (disch := decide) only [pz_ite, pz_mk, e2F_r, pj_up, ite_sm]
theorem caF_r (c s : Int) : pz (caF I A c s) = pj I A := by
  unfold caF
  simp (disch := decide) only [pz_ite, pz_mk, slF_r, rbF_r, wbF_r, rrF_r, wcF_r, seF_r, vfF_r, chF_r, ubF_r, pfF_r, ftF_r, rpF_r, enF_r, ite_sm]
theorem stF_r (m : Int) : pz (stF I A m) = pj I A := by
  unfold stF cmI
  simp (disch := decide) only [pz_ite, pz_mk, caF_r, pj_up, ite_sm]
theorem comF_r : pz (comF I A) = pj I A := by
  have e : pz (cdF I A) = pj I A := by
    unfold cdF c0I
    simp (disch := decide) only [stF_r, pj_up]
  unfold comF
  generalize cdF I A = z at *
  simp (disch := decide) only [pz_ite, pz_mk, pj_up, pz_eq, e, ite_sm]
/-- of a file that isn't there yet, the rights are nothing -/
def ri (J : Nat → Int) (B : Nat → Nat → Int) : Prop := ∀ f : Nat, J 29 ≤ f → B 20 f = 0 ∧ B 21 f = 0
theorem ri_com (h : ri I A) : ri (comF I A).2.1 (comF I A).2.2 := by
  have e := comF_r (I := I) (A := A)
  unfold pz pj at e
  obtain ⟨e1, e2⟩ := Prod.mk.inj e
  obtain ⟨e2, e3⟩ := Prod.mk.inj e2
  unfold ri
  rw [e1, e2, e3]
  exact h
end MRIGHT
