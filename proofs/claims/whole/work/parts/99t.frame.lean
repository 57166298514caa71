/-! The reference's commands neither read nor write the class's part of the world. -/
section MFRAME
variable {X I : Nat → Int} {Y A : Nat → Nat → Int}
def gl (X I : Nat → Int) : Nat → Int := fun j => if j < 27 then X j else I j
def gm (Y A : Nat → Nat → Int) : Nat → Nat → Int := fun j => if j < 14 then Y j else A j
def fr (X : Nat → Int) (Y : Nat → Nat → Int) (z : Z3) : Z3 := (z.1, gl X z.2.1, gm Y z.2.2)
theorem gl_at {j : Nat} (h : 27 ≤ j) : gl X I j = I j := if_neg (by omega)
theorem gm_at {j : Nat} (h : 14 ≤ j) : gm Y A j = A j := if_neg (by omega)
theorem gl_up {i : Nat} {v : Int} (h : 27 ≤ i) : updI (gl X I) i v = gl X (updI I i v) := by
  funext j
  unfold gl
  rw [updI_at, updI_at]
  by_cases p : j = i
  · rw [if_pos p, if_neg (by omega), if_pos p]
  · rw [if_neg p, if_neg p]
theorem gm_up {i : Nat} {v : Nat → Int} (h : 14 ≤ i) : upA (gm Y A) i v = gm Y (upA A i v) := by
  funext j
  unfold gm
  rw [upA_at, upA_at]
  by_cases p : j = i
  · rw [if_pos p, if_neg (by omega), if_pos p]
  · rw [if_neg p, if_neg p]
theorem gl_lw {i : Nat} {l : List Int} (h : 27 ≤ i) : lwI (gl X I) i l = gl X (lwI I i l) := by
  unfold lwI
  rw [gl_at h, gl_up h]
theorem gm_lw {i a : Nat} {l : List Int} (h : 27 ≤ i) (ha : 14 ≤ a) : lwA (gl X I) (gm Y A) i a l = gm Y (lwA I A i a l) := by
  unfold lwA
  rw [gl_at h, gm_at ha, gm_up ha]
theorem fr_mk {a : Int} {b : Nat → Int} {c : Nat → Nat → Int} : (a, gl X b, gm Y c) = fr X Y (a, b, c) := rfl
theorem fr_ite {c : Prop} [Decidable c] {a b : Z3} : (if c then fr X Y a else fr X Y b) = fr X Y (if c then a else b) := by split <;> rfl
theorem gl_ite {c : Prop} [Decidable c] {a b : Nat → Int} : (if c then gl X a else gl X b) = gl X (if c then a else b) := by split <;> rfl
theorem gm_ite {c : Prop} [Decidable c] {a b : Nat → Nat → Int} : (if c then gm Y a else gm Y b) = gm Y (if c then a else b) := by split <;> rfl
theorem wrF_g (x y w : Int) : wrF (gl X I) (gm Y A) x y w = wrF I A x y w := rfl
theorem whF_g : whF (gl X I) (gm Y A) = whF I A := rfl
theorem fIn_g (x y : Int) : fIn (gl X I) (gm Y A) x y = fIn I A x y := rfl
theorem foF_g : foF (gl X I) (gm Y A) = foF I A := rfl
theorem srF_g : srF (gl X I) (gm Y A) = srF I A := rfl
theorem pinF_g : pinF (gm Y A) = pinF A := rfl
theorem keyF_g : keyF (gm Y A) = keyF A := rfl
theorem desL_g (f : Nat) : desL (gm Y A) f = desL A f := rfl
theorem itF_g (x y : Int) : itF (gm Y A) x y = itF A x y := rfl
theorem quF_g : quF (gl X I) (gm Y A) = quF I A := rfl
theorem tyA_g (x : Int) : tyA (gm Y A) x = tyA A x := rfl
theorem wyF_g (w : Int) : wyF (gl X I) (gm Y A) w = wyF I A w := rfl
theorem o1F_g (f e : Int) : o1F (gm Y A) f e = o1F A f e := rfl
theorem odF_g (x e : Int) : odF (gl X I) (gm Y A) x e = odF I A x e := rfl
theorem e1S_g : e1S (gl X I) (gm Y A) = e1S I A := rfl
theorem stN_g (x : Int) : stN (gl X I) (gm Y A) 17 x = stN I A 17 x := stN_cg rfl rfl rfl rfl 17 x
theorem bodL_g : bodL (gl X I) (gm Y A) = bodL I A := bodL_cg rfl rfl rfl (fun j h1 _ => gm_at (by omega))
theorem oaF_g (e : Int) : ∀ (d : Nat) (x s : Int), oaF (gl X I) (gm Y A) e d x s = oaF I A e d x s
  | 0, _, _ => rfl
  | d + 1, x, s => by
    rw [oaF, oaF, odF_g, oaF_g e d]
    rfl
theorem obW_g (x : Int) : obW (gl X I) (gm Y A) x = gm Y (obW I A x) := by
  unfold obW
  rw [gm_up (by decide), gm_at (by decide), gm_at (by decide), gm_ite]
  rfl
theorem obA_g (e : Int) : ∀ (d : Nat) (x : Int) (A : Nat → Nat → Int), obA (gl X I) e d x (gm Y A) = gm Y (obA I e d x A)
  | 0, _, _ => rfl
  | d + 1, x, A => by
    rw [obA, obA, obW_g, obA_g e d, gm_at (by decide), gm_ite]
theorem lsI_g (K : Int → Prop) [DecidablePred K] (t v r : Int) : lsI K (gl X I) t v r = gl X (lsI K I t v r) := by
  unfold lsI
  rw [gl_up (by decide), gl_up (by decide), gl_at (by decide), gl_ite]
theorem lsA_g (K : Int → Prop) [DecidablePred K] (t s r : Int) : lsA K (gm Y A) t s r = gm Y (lsA K A t s r) := by
  unfold lsA
  rw [gm_at (by decide), gm_at (by decide), gm_up (by decide), gm_up (by decide), gm_ite]
theorem lsF_g (K : Int → Prop) [DecidablePred K] (N : Int) (g : Nat → Int) : ∀ (d : Nat) (a : Int) (I : Nat → Int) (A : Nat → Nat → Int), lsF K N g d a (gl X I) (gm Y A) = fr X Y (lsF K N g d a I A)
  | 0, _, _, _ => rfl
  | d + 1, a, I, A => by
    rw [lsF, lsF, lsI_g, lsA_g, lsF_g K N g d, gl_up (by decide), fr_mk, fr_mk, fr_mk, fr_ite, fr_ite, fr_ite, fr_ite]
theorem tlF_g (K : Int → Prop) [DecidablePred K] (a : Int) : tlF K a (gl X I) (gm Y A) = fr X Y (tlF K a I A) := by
  unfold tlF nolA
  rw [gl_up (by decide), gm_up (by decide), lsF_g]
  rfl
theorem stI_g (x : Int) : stI (gl X I) (gm Y A) x = gl X (stI I A x) := by
  unfold stI
  rw [stN_g, gl_at (by decide), gl_up (by decide), gl_up (by decide), gl_up (by decide), gl_up (by decide), gl_ite]
theorem dnF_g : dnF (gl X I) (gm Y A) = fr X Y (dnF I A) := by
  unfold dnF
  rw [bodL_g, gl_up (by decide), gl_lw (by decide), gm_lw (by decide) (by decide), gl_at (by decide), fr_mk, fr_mk, fr_ite]
theorem hnI_g (f : Int) : hnI (gl X I) (gm Y A) f = gl X (hnI I A f) := by
  unfold hnI
  rw [gl_up (by decide), gl_up (by decide), gl_up (by decide)]
  rfl
theorem kpA_g (f s m : Int) : kpA (gm Y A) f s m = gm Y (kpA A f s m) := by
  unfold kpA
  rw [gm_up (by decide), gm_ite]
  rfl
theorem slF_g : slF (gl X I) (gm Y A) = fr X Y (slF I A) := by
  unfold slF
  rw [foF_g, desL_g, hnI_g, gl_lw (by decide), gm_lw (by decide) (by decide), dnF_g, dnF_g]
  simp only [fr_mk, fr_ite]
  rfl
theorem rbF_g : rbF (gl X I) (gm Y A) = fr X Y (rbF I A) := by
  unfold rbF
  rw [wrF_g]
  simp (disch := decide) only [gl_lw, gm_lw, dnF_g, fr_mk, fr_ite]
  rfl
theorem wbF_g : wbF (gl X I) (gm Y A) = fr X Y (wbF I A) := by
  unfold wbF
  rw [wrF_g]
  simp (disch := decide) only [gm_up, dnF_g, fr_mk, fr_ite]
  rfl
theorem rrF_g : rrF (gl X I) (gm Y A) = fr X Y (rrF I A) := by
  unfold rrF
  rw [wrF_g, whF_g]
  simp (disch := decide) only [gl_lw, gm_lw, gl_up, dnF_g, fr_mk, fr_ite]
  rfl
theorem wcF_g : wcF (gl X I) (gm Y A) = fr X Y (wcF I A) := by
  unfold wcF
  rw [wrF_g, whF_g]
  simp (disch := decide) only [gl_up, gm_up, dnF_g, fr_mk, fr_ite]
  rfl
theorem seF_g : seF (gl X I) (gm Y A) = fr X Y (seF I A) := by
  unfold seF
  rw [wrF_g, srF_g]
  simp (disch := decide) only [gl_lw, gm_lw, gl_up, dnF_g, fr_mk, fr_ite]
  rfl
theorem tkF_g (N : Int) : tkF (gl X I) (gm Y A) N = fr X Y (tkF I A N) := by
  unfold tkF
  simp (disch := decide) only [gl_up, gm_up, dnF_g]
  rfl
theorem bpF_g (N : Int) : bpF (gl X I) (gm Y A) N = fr X Y (bpF I A N) := by
  unfold bpF
  rw [pinF_g, tkF_g]
  simp (disch := decide) only [gl_up, fr_mk, fr_ite]
  rfl
theorem vfF_g : vfF (gl X I) (gm Y A) = fr X Y (vfF I A) := by
  unfold vfF
  rw [bpF_g, dnF_g]
  simp (disch := decide) only [fr_mk, fr_ite]
  rfl
theorem chF_g : chF (gl X I) (gm Y A) = fr X Y (chF I A) := by
  unfold chF
  rw [bpF_g]
  simp (disch := decide) only [fr_mk, fr_ite]
  rfl
theorem ubF_g : ubF (gl X I) (gm Y A) = fr X Y (ubF I A) := by
  unfold ubF
  rw [keyF_g, gl_up (by decide), gl_up (by decide), tkF_g]
  simp (disch := decide) only [fr_mk, fr_ite]
  rfl
theorem pfI_g : pfI (gl X I) = gl X (pfI I) := by
  unfold pfI
  rw [gl_up (by decide), gl_up (by decide), gl_up (by decide), gl_up (by decide)]
  rfl
theorem pfA_g : pfA (gl X I) (gm Y A) = gm Y (pfA I A) := by
  unfold pfA
  rw [gm_up (by decide), gm_up (by decide)]
  rfl
theorem pfF_g : pfF (gl X I) (gm Y A) = fr X Y (pfF I A) := by
  unfold pfF
  rw [pfI_g, pfA_g, stI_g, gl_ite, dnF_g]
  simp (disch := decide) only [fr_mk, fr_ite]
  rfl
theorem ftF_g : ftF (gl X I) (gm Y A) = fr X Y (ftF I A) := by
  unfold ftF fbI fbA
  rw [bodL_g]
  simp (disch := decide) only [gl_lw, gm_lw, gl_up, fr_mk, fr_ite]
  rfl
theorem ovF_g (w : Int) : ovF (gl X I) (gm Y A) w = fr X Y (ovF I A w) := by
  unfold ovF
  rw [wyF_g, gl_up (by decide), stI_g, dnF_g]
theorem fnF_g : fnF (gl X I) (gm Y A) = fr X Y (fnF I A) := by
  unfold fnF
  simp (disch := decide) only [itF_g, gl_up, gm_up, stI_g, kpA_g, ovF_g, dnF_g, fr_mk, fr_ite]
  rfl
theorem rpB_g (r : Int) : rpB (gl X I) (gm Y A) r = fr X Y (rpB I A r) := by
  unfold rpB nxI
  simp (disch := decide) only [fnF_g, gl_up, ovF_g, dnF_g, fr_mk, fr_ite]
  rfl
theorem rpC_g : rpC (gl X I) (gm Y A) = fr X Y (rpC I A) := by
  unfold rpC
  simp (disch := decide) only [rpB_g, tyA_g, quF_g, fr_mk, fr_ite]
  rfl
theorem rpF_g : rpF (gl X I) (gm Y A) = fr X Y (rpF I A) := by
  unfold rpF
  simp (disch := decide) only [tlF_g]
  unfold fr
  simp (disch := decide) only [rpC_g, fr_mk, fr_ite]
  rfl
theorem orF_g (f e : Int) : orF (gl X I) (gm Y A) f e = fr X Y (orF I A f e) := by
  unfold orF
  simp (disch := decide) only [o1F_g, oaF_g, obA_g, stI_g, dnF_g, fr_mk, fr_ite]
theorem e4F_g (c v : Int) : e4F (gl X I) (gm Y A) c v = fr X Y (e4F I A c v) := by
  unfold e4F
  simp (disch := decide) only [itF_g, gm_up, stI_g, dnF_g, fr_mk, fr_ite]
  rfl
theorem e3F_g (c : Int) : e3F (gl X I) (gm Y A) c = fr X Y (e3F I A c) := by
  unfold e3F
  simp (disch := decide) only [orF_g, e4F_g, fr_mk, fr_ite]
  rfl
theorem e2F_g (K : Int → Prop) [DecidablePred K] (c s : Int) : e2F K (gl X I) (gm Y A) c s = fr X Y (e2F K I A c s) := by
  unfold e2F
  simp (disch := decide) only [tlF_g]
  unfold fr
  simp (disch := decide) only [e3F_g, fr_mk, fr_ite]
theorem enF_g : enF (gl X I) (gm Y A) = fr X Y (enF I A) := by
  unfold enF e1I
  simp (disch := decide) only [gl_up, e1S_g, e2F_g, fr_mk, fr_ite]
  rfl
theorem caF_g (c s : Int) : caF (gl X I) (gm Y A) c s = fr X Y (caF I A c s) := by
  unfold caF
  simp (disch := decide) only [slF_g, rbF_g, wbF_g, rrF_g, wcF_g, seF_g, vfF_g, chF_g, ubF_g, pfF_g, ftF_g, rpF_g, enF_g, fr_mk, fr_ite]
theorem stF_g (m : Int) : stF (gl X I) (gm Y A) m = fr X Y (stF I A m) := by
  unfold stF cmI
  simp (disch := decide) only [gl_up, caF_g, fr_mk, fr_ite]
  rfl
theorem comF_g : comF (gl X I) (gm Y A) = fr X Y (comF I A) := by
  have e : cdF (gl X I) (gm Y A) = fr X Y (cdF I A) := by
    unfold cdF c0I
    rw [gl_up (by decide), gl_up (by decide), gl_up (by decide), gl_at (by decide), stF_g]
  unfold comF
  rw [e]
  generalize cdF I A = z
  unfold fr
  show (if z.1 = 36864 ∨ z.1 / 256 = 145 then (z.1, updI (gl X z.2.1) 45 (gl X z.2.1 45 + 1), gm Y z.2.2) else (z.1, gl X z.2.1, gm Y z.2.2)) = _
  rw [gl_up (by decide), gl_at (by decide)]
  by_cases p : z.1 = 36864 ∨ z.1 / 256 = 145
  · rw [if_pos p, if_pos p]
  · rw [if_neg p, if_neg p]
theorem gl_of {I1 : Nat → Int} (h : ∀ j, 27 ≤ j → I1 j = I j) : I1 = gl I1 I := by
  funext j
  unfold gl
  split
  · rfl
  · exact h j (by omega)
theorem gm_of {A1 : Nat → Nat → Int} (h : ∀ j, 14 ≤ j → A1 j = A j) : A1 = gm A1 A := by
  funext j
  unfold gm
  split
  · rfl
  · exact h j (by omega)
end MFRAME
