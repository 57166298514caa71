/-! What a run of the pure machine comes to: mX .. Q says that the run from here ends, in a result with Q. Rows to rewrite with, an instruction each. -/
theorem mRun_mono (G : mG) : ∀ (f mi pc : Nat) (L st : List Value) (h : mH) (n k : Nat) (r : mR), mRun G f mi pc L st h n k = some r → mRun G (f + 1) mi pc L st h n k = some r := by
  intro f
  induction f with
  | zero => intro mi pc L st h n k r e; cases e
  | succ f ih =>
    intro mi pc L st h n k r e
    unfold mRun at e ⊢
    cases hs : mStep G mi pc L st h n k with
    | none => rw [hs] at e; cases e
    | some z =>
      rw [hs] at e
      rcases z with ⟨pc', L', st', h', n', k'⟩ | ⟨mj, vs, r'⟩ | v | x
      · exact ih _ _ _ _ _ _ _ _ e
      · dsimp only at e ⊢
        cases hM : mTab[mj]? with
        | none => rw [hM] at e; cases e
        | some M =>
          rw [hM] at e
          dsimp only at e ⊢
          cases hr : mRun G f mj 0 (mEnt M.2.2.1 vs) [] h n k with
          | none => rw [hr] at e; cases e
          | some y =>
            rw [hr] at e
            rw [ih _ _ _ _ _ _ _ _ hr]
            rcases y with ⟨v | x, h', n', k'⟩
            · exact ih _ _ _ _ _ _ _ _ e
            · dsimp only at e ⊢
              cases hc : mCat mi pc x with
              | none => rw [hc] at e; cases e
              | some q =>
                rw [hc] at e
                dsimp only at e ⊢
                cases hl : mSt1 L q.2 .null with
                | none => rw [hl] at e; cases e
                | some L' =>
                  rw [hl] at e
                  exact ih _ _ _ _ _ _ _ _ e
      · exact e
      · exact e
theorem mRun_le (G : mG) {f f' mi pc : Nat} {L st : List Value} {h : mH} {n k : Nat} {r : mR} (hf : f ≤ f') (e : mRun G f mi pc L st h n k = some r) : mRun G f' mi pc L st h n k = some r := by
  induction hf with
  | refl => exact e
  | step _ ih => exact mRun_mono G _ _ _ _ _ _ _ _ _ ih
def mX (G : mG) (mi pc : Nat) (L st : List Value) (h : mH) (n k : Nat) (Q : mR → Prop) : Prop := ∃ f r, mRun G f mi pc L st h n k = some r ∧ Q r
/-- what is owed behind a call -/
def mK (G : mG) (mi pc : Nat) (L r : List Value) (Q : mR → Prop) : mR → Prop := fun z => match z with
  | (.inl v, h', n', k') => mX G mi (pc + 3) L (v.toList ++ r) h' n' k' Q
  | (.inr e, h', n', k') => match mCat mi pc e with
    | some (hpc, x) => match mSt1 L x .null with
      | some L' => mX G mi hpc (L'.set x mU) [] h' n' k' Q
      | none => False
    | none => False
theorem mX.mono {G : mG} {mi pc : Nat} {L st : List Value} {h : mH} {n k : Nat} {Q Q' : mR → Prop} (H : mX G mi pc L st h n k Q) (hq : ∀ r, Q r → Q' r) : mX G mi pc L st h n k Q' := by
  obtain ⟨f, r, e, q⟩ := H
  exact ⟨f, r, e, hq r q⟩
section MXN
variable {G : mG} {mi pc : Nat} {L st : List Value} {h : mH} {n k : Nat} {Q : mR → Prop}
theorem mX_next {pc' : Nat} {L' st' : List Value} {h' : mH} {n' k' : Nat} (e : mStep G mi pc L st h n k = some (.inl (pc', L', st', h', n', k'))) : mX G mi pc L st h n k Q ↔ mX G mi pc' L' st' h' n' k' Q := by
  constructor
  · rintro ⟨f, r, hr, q⟩
    cases f with
    | zero => cases hr
    | succ f =>
      unfold mRun at hr
      rw [e] at hr
      exact ⟨f, r, hr, q⟩
  · rintro ⟨f, r, hr, q⟩
    refine ⟨f + 1, r, ?_, q⟩
    unfold mRun
    rw [e]
    exact hr
theorem mX_call {mj : Nat} {vs r : List Value} {M : mM} (e : mStep G mi pc L st h n k = some (.inr (.inl (mj, vs, r)))) (hM : mTab[mj]? = some M) : mX G mi pc L st h n k Q ↔ mX G mj 0 (mEnt M.2.2.1 vs) [] h n k (mK G mi pc L r Q) := by
  constructor
  · rintro ⟨f, z, hz, q⟩
    cases f with
    | zero => cases hz
    | succ f =>
      unfold mRun at hz
      rw [e] at hz
      dsimp only at hz
      rw [hM] at hz
      dsimp only at hz
      cases hr : mRun G f mj 0 (mEnt M.2.2.1 vs) [] h n k with
      | none => rw [hr] at hz; cases hz
      | some y =>
        rw [hr] at hz
        refine ⟨f, y, hr, ?_⟩
        rcases y with ⟨v | x, h', n', k'⟩
        · exact ⟨f, z, hz, q⟩
        · dsimp only at hz
          show match mCat mi pc x with | some (hpc, x') => _ | none => False
          cases hc : mCat mi pc x with
          | none => rw [hc] at hz; cases hz
          | some p =>
            rw [hc] at hz
            dsimp only at hz ⊢
            cases hl : mSt1 L p.2 .null with
            | none => rw [hl] at hz; cases hz
            | some L' =>
              rw [hl] at hz
              exact ⟨f, z, hz, q⟩
  · rintro ⟨f, y, hr, hk⟩
    have go : ∀ (f' : Nat) (z : mR), f ≤ f' → (match (some y : Option mR) with
        | none => none
        | some (.inl v, h', n', k') => mRun G f' mi (pc + 3) L (v.toList ++ r) h' n' k'
        | some (.inr e, h', n', k') => match mCat mi pc e with
          | some (hpc, x) => match mSt1 L x .null with
            | some L' => mRun G f' mi hpc (L'.set x mU) [] h' n' k'
            | none => none
          | none => none) = some z → Q z → mX G mi pc L st h n k Q := by
      intro f' z hf hz q
      refine ⟨f' + 1, z, ?_, q⟩
      unfold mRun
      rw [e]
      dsimp only
      rw [hM]
      dsimp only
      rw [mRun_le G hf hr]
      exact hz
    rcases y with ⟨v | x, h', n', k'⟩
    · obtain ⟨f2, z, hz, q⟩ := hk
      exact go (max f f2) z (Nat.le_max_left _ _) (mRun_le G (Nat.le_max_right _ _) hz) q
    · change (match mCat mi pc x with | some (hpc, x') => (match mSt1 L x' .null with | some L' => mX G mi hpc (L'.set x' mU) [] h' n' k' Q | none => False) | none => False) at hk
      dsimp only at go
      cases hc : mCat mi pc x with
      | none => rw [hc] at hk; exact hk.elim
      | some p =>
        rw [hc] at hk go
        dsimp only at hk go
        cases hl : mSt1 L p.2 .null with
        | none => rw [hl] at hk; exact hk.elim
        | some L' =>
          rw [hl] at hk go
          obtain ⟨f2, z, hz, q⟩ := hk
          exact go (max f f2) z (Nat.le_max_left _ _) (mRun_le G (Nat.le_max_right _ _) hz) q
theorem mX_ret {v : Option Value} (e : mStep G mi pc L st h n k = some (.inr (.inr (.inl v)))) : mX G mi pc L st h n k Q ↔ Q (.inl v, h, n, k) := by
  constructor
  · rintro ⟨f, r, hr, q⟩
    cases f with
    | zero => cases hr
    | succ f =>
      unfold mRun at hr
      rw [e] at hr
      cases hr
      exact q
  · intro q
    refine ⟨1, _, ?_, q⟩
    unfold mRun
    rw [e]
theorem mX_thr {x : Nat} (e : mStep G mi pc L st h n k = some (.inr (.inr (.inr x)))) : mX G mi pc L st h n k Q ↔ Q (.inr x, h, n + 1, k + 6) := by
  constructor
  · rintro ⟨f, r, hr, q⟩
    cases f with
    | zero => cases hr
    | succ f =>
      unfold mRun at hr
      rw [e] at hr
      cases hr
      exact q
  · intro q
    refine ⟨1, _, ?_, q⟩
    unfold mRun
    rw [e]
/-- a run whose step is none goes nowhere -/
theorem mX_none (e : mStep G mi pc L st h n k = none) : mX G mi pc L st h n k Q ↔ False := by
  constructor
  · rintro ⟨f, r, hr, q⟩
    cases f with
    | zero => cases hr
    | succ f =>
      unfold mRun at hr
      rw [e] at hr
      cases hr
  · exact False.elim
end MXN
theorem mK_v {G : mG} {mi pc : Nat} {L r : List Value} {Q : mR → Prop} {v : Value} {h : mH} {n k : Nat} : mK G mi pc L r Q (.inl (some v), h, n, k) ↔ mX G mi (pc + 3) L (v :: r) h n k Q := Iff.rfl
theorem mK_0 {G : mG} {mi pc : Nat} {L r : List Value} {Q : mR → Prop} {h : mH} {n k : Nat} : mK G mi pc L r Q (.inl none, h, n, k) ↔ mX G mi (pc + 3) L r h n k Q := Iff.rfl
theorem mUp_same (h : mH) (a : Nat) (e : mE) : mUp h a e a = some e := if_pos rfl
theorem mUp_ne {h : mH} {a b : Nat} {e : mE} (hb : b ≠ a) : mUp h a e b = h b := if_neg hb
theorem mIsRef_rf (o : Option Nat) : mIsRef (va_rf o) = true := by cases o <;> rfl
theorem mRf_rf (o : Option Nat) : mRf (va_rf o) = o := by cases o <;> rfl
/-- heap reads and writes, as predicates -/
def mGet (h : mH) (a ci j : Nat) (K : Value → Prop) : Prop := match h a with
  | some (.inr (.inr (.inr (c, fs)))) => c = ci ∧ (match fs[j]? with
    | some v => K v
    | none => False)
  | _ => False
def mPut (G : mG) (h : mH) (a ci j : Nat) (v : Value) (K : mH → Prop) : Prop := match h a with
  | some (.inr (.inr (.inr (c, fs)))) => (c = ci ∧ j < fs.length ∧ G.2.2.2 ≤ a ∧ mFits ci j v = true) ∧ K (mUp h a (mO ci (fs.set j v)))
  | _ => False
def mRecv (h : mH) (a ci : Nat) : Prop := match h a with
  | some (.inr (.inr (.inr (c, _)))) => c = ci
  | _ => False
def mLen (h : mH) (a : Nat) (K : Nat → Prop) : Prop := match h a with
  | some (.inl (_, N, _)) => K N
  | some (.inr (.inl (N, _))) => K N
  | some (.inr (.inr (.inl (t, N, _)))) => (t = 3 ∨ t = 4) ∧ K N
  | _ => False
def mLdI (h : mH) (a : Nat) (i : Int32) (K : Int32 → Prop) : Prop := match h a with
  | some (.inl (t, N, g)) => ((t = 0 ∨ t = 2) ∧ ¬ i < 0 ∧ i.toNatClampNeg < N) ∧ K (g i.toNatClampNeg)
  | _ => False
def mLdZ (h : mH) (a : Nat) (i : Int32) (K : Int32 → Prop) : Prop := match h a with
  | some (.inl (t, N, g)) => (t = 1 ∧ ¬ i < 0 ∧ i.toNatClampNeg < N) ∧ K (g i.toNatClampNeg)
  | _ => False
def mLdJ (h : mH) (a : Nat) (i : Int32) (K : Int64 → Prop) : Prop := match h a with
  | some (.inr (.inl (N, g))) => (¬ i < 0 ∧ i.toNatClampNeg < N) ∧ K (g i.toNatClampNeg)
  | _ => False
def mLdA (h : mH) (a : Nat) (i : Int32) (K : Value → Prop) : Prop := match h a with
  | some (.inr (.inr (.inl (t, N, g)))) => ((t = 3 ∨ t = 4) ∧ ¬ i < 0 ∧ i.toNatClampNeg < N) ∧ K (va_rf (g i.toNatClampNeg))
  | _ => False
def mStI (G : mG) (h : mH) (a : Nat) (i x : Int32) (K : mH → Prop) : Prop := match h a with
  | some (.inl (t, N, g)) => (t = 0 ∧ G.2.2.2 ≤ a ∧ ¬ i < 0 ∧ i.toNatClampNeg < N) ∧ K (mUp h a (mI N (upd g i.toNatClampNeg x)))
  | _ => False
def mStZ (G : mG) (h : mH) (a : Nat) (i x : Int32) (K : mH → Prop) : Prop := match h a with
  | some (.inl (t, N, g)) => (t = 1 ∧ G.2.2.2 ≤ a ∧ ¬ i < 0 ∧ i.toNatClampNeg < N ∧ (x = 0 ∨ x = 1)) ∧ K (mUp h a (mZ N (upd g i.toNatClampNeg x)))
  | _ => False
def mStJ (G : mG) (h : mH) (a : Nat) (i : Int32) (x : Int64) (K : mH → Prop) : Prop := match h a with
  | some (.inr (.inl (N, g))) => (G.2.2.2 ≤ a ∧ ¬ i < 0 ∧ i.toNatClampNeg < N) ∧ K (mUp h a (mJ N (vp_updL g i.toNatClampNeg x)))
  | _ => False
def mStA (G : mG) (h : mH) (a : Nat) (i : Int32) (y : Nat) (K : mH → Prop) : Prop := match h a, h y with
  | some (.inr (.inr (.inl (t, N, g)))), some (.inr (.inr (.inr (ci, _)))) => (((t = 3 ∧ ci = 7) ∨ t = 4) ∧ G.2.2.2 ≤ a ∧ ¬ i < 0 ∧ i.toNatClampNeg < N) ∧ K (mUp h a (mA t N (va_up g i.toNatClampNeg (some y))))
  | _, _ => False
