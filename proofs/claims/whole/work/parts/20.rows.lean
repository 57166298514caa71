/-! Rows to rewrite a run with: an instruction each, in general; part 21 and on have them for each instruction of the program. -/
section MRW
variable {G : mG} {mi pc len : Nat} {M : mM} {L st : List Value} {h : mH} {n k : Nat} {Q : mR → Prop} {i : Instr}
theorem mStep_of (hm : mTab[mi]? = some M) (hd : decode M.2.1 pc = .ok (i, len)) (hl : mIL i len = true) : mStep G mi pc L st h n k = mIns i len G M mi pc L st h n k := by
  unfold mStep
  rw [hm]
  dsimp only
  rw [hd]
  dsimp only
  rw [if_pos hl]
theorem rw_next {pc' : Nat} {L' st' : List Value} {h' : mH} {n' k' : Nat} (hm : mTab[mi]? = some M) (hd : decode M.2.1 pc = .ok (i, len)) (hl : mIL i len = true) (e : mIns i len G M mi pc L st h n k = some (.inl (pc', L', st', h', n', k'))) : mX G mi pc L st h n k Q ↔ mX G mi pc' L' st' h' n' k' Q := mX_next ((mStep_of hm hd hl).trans e)
/-- a step that is none: nothing is owed by it -/
theorem rw_none (hm : mTab[mi]? = some M) (hd : decode M.2.1 pc = .ok (i, len)) (hl : mIL i len = true) (e : mIns i len G M mi pc L st h n k = none) : mX G mi pc L st h n k Q ↔ False := mX_none ((mStep_of hm hd hl).trans e)
/-- a local may be trodden upon from above: it is no long -/
def mN1 (v : Value) : Prop := v.category = 1
theorem mN1_int (x : Int32) : mN1 (.int x) ↔ True := by simp [mN1, Value.category]
theorem mN1_ref (x : Nat) : mN1 (.ref x) ↔ True := by simp [mN1, Value.category]
theorem mN1_null : mN1 .null ↔ True := by simp [mN1, Value.category]
theorem mN1_U : mN1 mU ↔ True := by simp [mN1, Value.category]
theorem mN1_rf (x : Option Nat) : mN1 (va_rf x) ↔ True := by cases x <;> simp [mN1, Value.category, va_rf]
theorem mCats_nil : mCats [] = 0 := rfl
theorem mCats_int (x : Int32) (st : List Value) : mCats (.int x :: st) = 1 + mCats st := by simp [mCats, Value.category]
theorem mCats_ref (x : Nat) (st : List Value) : mCats (.ref x :: st) = 1 + mCats st := by simp [mCats, Value.category]
theorem mCats_null (st : List Value) : mCats (.null :: st) = 1 + mCats st := by simp [mCats, Value.category]
theorem mCats_long (x : Int64) (st : List Value) : mCats (.long x :: st) = 2 + mCats st := by simp [mCats, Value.category]
theorem mCats_rf (x : Option Nat) (st : List Value) : mCats (va_rf x :: st) = 1 + mCats st := by cases x <;> simp [mCats, Value.category, va_rf]
theorem mIsRef_ref (a : Nat) : (mIsRef (.ref a) = true) ↔ True := by simp [mIsRef]
theorem mIsRef_null : (mIsRef .null = true) ↔ True := by simp [mIsRef]
theorem mIsRef_va (o : Option Nat) : (mIsRef (va_rf o) = true) ↔ True := by simp [mIsRef_rf]
theorem mRf_ref (a : Nat) : mRf (.ref a) = some a := rfl
theorem mRf_null : mRf .null = none := rfl
theorem rw_st1 {x : Nat} {v : Value} {L' r : List Value} {w : Option Value} (hm : mTab[mi]? = some M) (hd : decode M.2.1 pc = .ok (i, len)) (hl : mIL i len = true) (e : mIns i len G M mi pc L st h n k = (mSt1 L x v).bind (fun L9 => mNx (pc + len) L9 r h n k)) (hx : x < L.length) (hv : v.category = 1) (hL : L.set x v = L')
    (hw : x = 0 ∧ w = none ∨ 0 < x ∧ L[x - 1]? = w) : mX G mi pc L st h n k Q ↔ (∀ z, w = some z → mN1 z) ∧ mX G mi (pc + len) L' r h n k Q := by
  by_cases hc : ∀ z, w = some z → mN1 z
  · have hs : mSt1 L x v = some L' := by
      unfold mSt1
      rw [if_pos, hL]
      refine ⟨hx, hv, ?_⟩
      rcases hw with ⟨h0, -⟩ | ⟨h0, h1⟩
      · exact Or.inl h0
      · right
        rw [h1]
        cases w with
        | none => rfl
        | some z => exact decide_eq_true (hc z rfl)
    rw [mX_next ((mStep_of hm hd hl).trans (e.trans (by rw [hs]; rfl)))]
    exact ⟨fun q => ⟨hc, q⟩, fun q => q.2⟩
  · have hs : mSt1 L x v = none := by
      unfold mSt1
      rw [if_neg]
      rintro ⟨-, -, h9⟩
      apply hc
      intro z hz
      rcases hw with ⟨-, h0⟩ | ⟨h0, h1⟩
      · rw [h0] at hz; cases hz
      · rcases h9 with h9 | h9
        · omega
        · rw [h1, hz] at h9
          exact (of_decide_eq_true h9 : z.category = 1)
    rw [mX_none ((mStep_of hm hd hl).trans (e.trans (by rw [hs]; rfl)))]
    exact ⟨False.elim, fun q => hc q.1⟩
theorem rw_all0 {P : Value → Prop} {A : Prop} : ((∀ z, (none : Option Value) = some z → P z) ∧ A) ↔ A := ⟨fun q => q.2, fun q => ⟨fun z hz => by (cases hz), q⟩⟩
theorem rw_all1 {P : Value → Prop} {A : Prop} {w : Value} : ((∀ z, some w = some z → P z) ∧ A) ↔ P w ∧ A := ⟨fun q => ⟨q.1 w rfl, q.2⟩, fun q => ⟨fun z hz => by (cases hz; exact q.1), q.2⟩⟩
theorem rw_if {c : Prop} [Decidable c] {A B : Prop} (h1 : c → (mX G mi pc L st h n k Q ↔ A)) (h2 : ¬ c → (mX G mi pc L st h n k Q ↔ B)) : mX G mi pc L st h n k Q ↔ if c then A else B := by
  by_cases hc : c
  · rw [if_pos hc]; exact h1 hc
  · rw [if_neg hc]; exact h2 hc
theorem rw_and {c : Prop} {A : Prop} (h1 : c → (mX G mi pc L st h n k Q ↔ A)) (h2 : ¬ c → (mX G mi pc L st h n k Q ↔ False)) : mX G mi pc L st h n k Q ↔ c ∧ A := by
  by_cases hc : c
  · rw [h1 hc]; exact ⟨fun q => ⟨hc, q⟩, fun q => q.2⟩
  · rw [h2 hc]; exact ⟨False.elim, fun q => hc q.1⟩
theorem rw_iload {x : Int32} {j : Nat} (hm : mTab[mi]? = some M) (hd : decode M.2.1 pc = .ok (.iload j, 2)) (hx : L[j]? = some (.int x)) : mX G mi pc L st h n k Q ↔ mX G mi (pc + 2) L (.int x :: st) h n k Q := rw_next hm hd rfl (by dsimp only [mIns]; rw [hx]; rfl)
theorem rw_iload_n {x : Int32} {j : Fin 4} (hm : mTab[mi]? = some M) (hd : decode M.2.1 pc = .ok (.iload_n j, 1)) (hx : L[j.val]? = some (.int x)) : mX G mi pc L st h n k Q ↔ mX G mi (pc + 1) L (.int x :: st) h n k Q := rw_next hm hd rfl (by dsimp only [mIns]; rw [hx]; rfl)
theorem rw_lload {x : Int64} {j : Nat} (hm : mTab[mi]? = some M) (hd : decode M.2.1 pc = .ok (.lload j, 2)) (hx : L[j]? = some (.long x)) : mX G mi pc L st h n k Q ↔ mX G mi (pc + 2) L (.long x :: st) h n k Q := rw_next hm hd rfl (by dsimp only [mIns]; rw [hx]; rfl)
theorem rw_lload_n {x : Int64} {j : Fin 4} (hm : mTab[mi]? = some M) (hd : decode M.2.1 pc = .ok (.lload_n j, 1)) (hx : L[j.val]? = some (.long x)) : mX G mi pc L st h n k Q ↔ mX G mi (pc + 1) L (.long x :: st) h n k Q := rw_next hm hd rfl (by dsimp only [mIns]; rw [hx]; rfl)
theorem rw_aload {v : Value} {j : Nat} (hm : mTab[mi]? = some M) (hd : decode M.2.1 pc = .ok (.aload j, 2)) (hx : L[j]? = some v) : mX G mi pc L st h n k Q ↔ mIsRef v = true ∧ mX G mi (pc + 2) L (v :: st) h n k Q := by
  refine rw_and (fun hc => ?_) (fun hc => ?_)
  · refine rw_next hm hd rfl ?_
    dsimp only [mIns]
    rw [hx]
    cases v <;> first | rfl | cases hc
  · refine rw_none hm hd rfl ?_
    dsimp only [mIns]
    rw [hx]
    cases v <;> first | rfl | exact absurd rfl hc
theorem rw_aload_n {v : Value} {j : Fin 4} (hm : mTab[mi]? = some M) (hd : decode M.2.1 pc = .ok (.aload_n j, 1)) (hx : L[j.val]? = some v) : mX G mi pc L st h n k Q ↔ mIsRef v = true ∧ mX G mi (pc + 1) L (v :: st) h n k Q := by
  refine rw_and (fun hc => ?_) (fun hc => ?_)
  · refine rw_next hm hd rfl ?_
    dsimp only [mIns]
    rw [hx]
    cases v <;> first | rfl | cases hc
  · refine rw_none hm hd rfl ?_
    dsimp only [mIns]
    rw [hx]
    cases v <;> first | rfl | exact absurd rfl hc
theorem rw_istore {x : Int32} {j : Nat} {L' : List Value} {w : Option Value} (hm : mTab[mi]? = some M) (hd : decode M.2.1 pc = .ok (.istore j, 2)) (hx : j < L.length) (hL : L.set j (.int x) = L') (hw : j = 0 ∧ w = none ∨ 0 < j ∧ L[j - 1]? = w) : mX G mi pc L (.int x :: st) h n k Q ↔ (∀ z, w = some z → mN1 z) ∧ mX G mi (pc + 2) L' st h n k Q := rw_st1 hm hd rfl rfl hx rfl hL hw
theorem rw_istore_n {x : Int32} {j : Fin 4} {L' : List Value} {w : Option Value} (hm : mTab[mi]? = some M) (hd : decode M.2.1 pc = .ok (.istore_n j, 1)) (hx : j.val < L.length) (hL : L.set j.val (.int x) = L') (hw : j.val = 0 ∧ w = none ∨ 0 < j.val ∧ L[j.val - 1]? = w) : mX G mi pc L (.int x :: st) h n k Q ↔ (∀ z, w = some z → mN1 z) ∧ mX G mi (pc + 1) L' st h n k Q := rw_st1 hm hd rfl rfl hx rfl hL hw
theorem rw_astore {v : Value} {j : Nat} {L' : List Value} {w : Option Value} (hm : mTab[mi]? = some M) (hd : decode M.2.1 pc = .ok (.astore j, 2)) (hx : j < L.length) (hL : L.set j v = L') (hw : j = 0 ∧ w = none ∨ 0 < j ∧ L[j - 1]? = w) : mX G mi pc L (v :: st) h n k Q ↔ mIsRef v = true ∧ (∀ z, w = some z → mN1 z) ∧ mX G mi (pc + 2) L' st h n k Q := by
  refine rw_and (fun hc => ?_) (fun hc => ?_)
  · cases v <;> first | (cases hc; done) | exact rw_st1 hm hd rfl rfl hx rfl hL hw
  · refine rw_none hm hd rfl ?_
    cases v <;> first | rfl | exact absurd rfl hc
theorem rw_astore_n {v : Value} {j : Fin 4} {L' : List Value} {w : Option Value} (hm : mTab[mi]? = some M) (hd : decode M.2.1 pc = .ok (.astore_n j, 1)) (hx : j.val < L.length) (hL : L.set j.val v = L') (hw : j.val = 0 ∧ w = none ∨ 0 < j.val ∧ L[j.val - 1]? = w) : mX G mi pc L (v :: st) h n k Q ↔ mIsRef v = true ∧ (∀ z, w = some z → mN1 z) ∧ mX G mi (pc + 1) L' st h n k Q := by
  refine rw_and (fun hc => ?_) (fun hc => ?_)
  · cases v <;> first | (cases hc; done) | exact rw_st1 hm hd rfl rfl hx rfl hL hw
  · refine rw_none hm hd rfl ?_
    cases v <;> first | rfl | exact absurd rfl hc
theorem rw_iinc {x : Int32} {j : Nat} {d : Int} {v : Int32} {L' : List Value} {w : Option Value} (hm : mTab[mi]? = some M) (hd : decode M.2.1 pc = .ok (.iinc j d, 3)) (hg : L[j]? = some (.int x)) (hv : Int32.ofInt d = v) (hx : j < L.length) (hL : L.set j (.int (x + v)) = L') (hw : j = 0 ∧ w = none ∨ 0 < j ∧ L[j - 1]? = w) : mX G mi pc L st h n k Q ↔ (∀ z, w = some z → mN1 z) ∧ mX G mi (pc + 3) L' st h n k Q := by
  subst hv
  exact rw_st1 hm hd rfl (by dsimp only [mIns]; rw [hg]) hx rfl hL hw
theorem rw_idiv {x y : Int32} (hm : mTab[mi]? = some M) (hd : decode M.2.1 pc = .ok (.idiv, 1)) : mX G mi pc L (.int y :: .int x :: st) h n k Q ↔ ¬ y = 0 ∧ mX G mi (pc + 1) L (.int (x / y) :: st) h n k Q :=
  rw_and (fun hc => rw_next hm hd rfl (by dsimp only [mIns]; rw [if_neg hc]; rfl)) (fun hc => rw_none hm hd rfl (by dsimp only [mIns]; rw [if_pos (Decidable.of_not_not hc)]))
theorem rw_irem {x y : Int32} (hm : mTab[mi]? = some M) (hd : decode M.2.1 pc = .ok (.irem, 1)) : mX G mi pc L (.int y :: .int x :: st) h n k Q ↔ ¬ y = 0 ∧ mX G mi (pc + 1) L (.int (x - x / y * y) :: st) h n k Q :=
  rw_and (fun hc => rw_next hm hd rfl (by dsimp only [mIns]; rw [if_neg hc]; rfl)) (fun hc => rw_none hm hd rfl (by dsimp only [mIns]; rw [if_pos (Decidable.of_not_not hc)]))
theorem rw_dup {v : Value} (hm : mTab[mi]? = some M) (hd : decode M.2.1 pc = .ok (.dup, 1)) : mX G mi pc L (v :: st) h n k Q ↔ mN1 v ∧ mX G mi (pc + 1) L (v :: v :: st) h n k Q :=
  rw_and (fun (hc : v.category = 1) => rw_next hm hd rfl (by dsimp only [mIns]; rw [if_pos hc]; rfl)) (fun (hc : ¬ (v.category = 1)) => rw_none hm hd rfl (by dsimp only [mIns]; rw [if_neg hc]))
theorem rw_pop {v : Value} (hm : mTab[mi]? = some M) (hd : decode M.2.1 pc = .ok (.pop, 1)) : mX G mi pc L (v :: st) h n k Q ↔ mN1 v ∧ mX G mi (pc + 1) L st h n k Q :=
  rw_and (fun (hc : v.category = 1) => rw_next hm hd rfl (by dsimp only [mIns]; rw [if_pos hc]; rfl)) (fun (hc : ¬ (v.category = 1)) => rw_none hm hd rfl (by dsimp only [mIns]; rw [if_neg hc]))
theorem rw_dup2 {v w : Value} (hm : mTab[mi]? = some M) (hd : decode M.2.1 pc = .ok (.dup2, 1)) : mX G mi pc L (v :: w :: st) h n k Q ↔ (mN1 v ∧ mN1 w) ∧ mX G mi (pc + 1) L (v :: w :: v :: w :: st) h n k Q :=
  rw_and (fun (hc : v.category = 1 ∧ w.category = 1) => rw_next hm hd rfl (by dsimp only [mIns]; rw [if_pos hc]; rfl)) (fun (hc : ¬ (v.category = 1 ∧ w.category = 1)) => rw_none hm hd rfl (by dsimp only [mIns]; rw [if_neg hc]))
theorem rw_dup_x1 {v w : Value} (hm : mTab[mi]? = some M) (hd : decode M.2.1 pc = .ok (.dup_x1, 1)) : mX G mi pc L (v :: w :: st) h n k Q ↔ (mN1 v ∧ mN1 w) ∧ mX G mi (pc + 1) L (v :: w :: v :: st) h n k Q :=
  rw_and (fun (hc : v.category = 1 ∧ w.category = 1) => rw_next hm hd rfl (by dsimp only [mIns]; rw [if_pos hc]; rfl)) (fun (hc : ¬ (v.category = 1 ∧ w.category = 1)) => rw_none hm hd rfl (by dsimp only [mIns]; rw [if_neg hc]))
theorem mBr_t {off : Int} {tgt : Nat} (ht : (pc : Int) + off = (tgt : Int)) : mBr pc off true L st h n k = some (.inl (tgt, L, st, h, n, k)) := by
  unfold mBr
  rw [ht]
  rfl
theorem mBr_f {off : Int} {tgt : Nat} (ht : (pc : Int) + off = (tgt : Int)) : mBr pc off false L st h n k = some (.inl (pc + 3, L, st, h, n, k)) := by
  unfold mBr
  rw [ht]
  rfl
theorem mJp_t {off : Int} {tgt : Nat} (ht : (pc : Int) + off = (tgt : Int)) : mJp pc off L st h n k = some (.inl (tgt, L, st, h, n, k)) := by
  unfold mJp
  rw [ht]
  rfl
theorem rw_goto {off : Int} {tgt : Nat} (hm : mTab[mi]? = some M) (hd : decode M.2.1 pc = .ok (.goto off, 3)) (ht : (pc : Int) + off = (tgt : Int)) : mX G mi pc L st h n k Q ↔ mX G mi tgt L st h n k Q := rw_next hm hd rfl (mJp_t ht)
theorem rw_icmp_eq {x y : Int32} {off : Int} {tgt : Nat} (hm : mTab[mi]? = some M) (hd : decode M.2.1 pc = .ok (.if_icmp .eq off, 3)) (ht : (pc : Int) + off = (tgt : Int)) : mX G mi pc L (.int y :: .int x :: st) h n k Q ↔ if x = y then mX G mi tgt L st h n k Q else mX G mi (pc + 3) L st h n k Q :=
  rw_if (fun hc => rw_next hm hd rfl (by dsimp only [mIns, mCond]; rw [decide_eq_true hc]; exact mBr_t ht)) (fun hc => rw_next hm hd rfl (by dsimp only [mIns, mCond]; rw [decide_eq_false hc]; exact mBr_f ht))
theorem rw_ifc_eq {x : Int32} {off : Int} {tgt : Nat} (hm : mTab[mi]? = some M) (hd : decode M.2.1 pc = .ok (.ifCond .eq off, 3)) (ht : (pc : Int) + off = (tgt : Int)) : mX G mi pc L (.int x :: st) h n k Q ↔ if x = 0 then mX G mi tgt L st h n k Q else mX G mi (pc + 3) L st h n k Q :=
  rw_if (fun hc => rw_next hm hd rfl (by dsimp only [mIns, mCond]; rw [decide_eq_true hc]; exact mBr_t ht)) (fun hc => rw_next hm hd rfl (by dsimp only [mIns, mCond]; rw [decide_eq_false hc]; exact mBr_f ht))
theorem rw_icmp_ne {x y : Int32} {off : Int} {tgt : Nat} (hm : mTab[mi]? = some M) (hd : decode M.2.1 pc = .ok (.if_icmp .ne off, 3)) (ht : (pc : Int) + off = (tgt : Int)) : mX G mi pc L (.int y :: .int x :: st) h n k Q ↔ if ¬ x = y then mX G mi tgt L st h n k Q else mX G mi (pc + 3) L st h n k Q :=
  rw_if (fun hc => rw_next hm hd rfl (by dsimp only [mIns, mCond]; rw [decide_eq_true hc]; exact mBr_t ht)) (fun hc => rw_next hm hd rfl (by dsimp only [mIns, mCond]; rw [decide_eq_false hc]; exact mBr_f ht))
theorem rw_ifc_ne {x : Int32} {off : Int} {tgt : Nat} (hm : mTab[mi]? = some M) (hd : decode M.2.1 pc = .ok (.ifCond .ne off, 3)) (ht : (pc : Int) + off = (tgt : Int)) : mX G mi pc L (.int x :: st) h n k Q ↔ if ¬ x = 0 then mX G mi tgt L st h n k Q else mX G mi (pc + 3) L st h n k Q :=
  rw_if (fun hc => rw_next hm hd rfl (by dsimp only [mIns, mCond]; rw [decide_eq_true hc]; exact mBr_t ht)) (fun hc => rw_next hm hd rfl (by dsimp only [mIns, mCond]; rw [decide_eq_false hc]; exact mBr_f ht))
theorem rw_icmp_lt {x y : Int32} {off : Int} {tgt : Nat} (hm : mTab[mi]? = some M) (hd : decode M.2.1 pc = .ok (.if_icmp .lt off, 3)) (ht : (pc : Int) + off = (tgt : Int)) : mX G mi pc L (.int y :: .int x :: st) h n k Q ↔ if x < y then mX G mi tgt L st h n k Q else mX G mi (pc + 3) L st h n k Q :=
  rw_if (fun hc => rw_next hm hd rfl (by dsimp only [mIns, mCond]; rw [decide_eq_true hc]; exact mBr_t ht)) (fun hc => rw_next hm hd rfl (by dsimp only [mIns, mCond]; rw [decide_eq_false hc]; exact mBr_f ht))
theorem rw_ifc_lt {x : Int32} {off : Int} {tgt : Nat} (hm : mTab[mi]? = some M) (hd : decode M.2.1 pc = .ok (.ifCond .lt off, 3)) (ht : (pc : Int) + off = (tgt : Int)) : mX G mi pc L (.int x :: st) h n k Q ↔ if x < 0 then mX G mi tgt L st h n k Q else mX G mi (pc + 3) L st h n k Q :=
  rw_if (fun hc => rw_next hm hd rfl (by dsimp only [mIns, mCond]; rw [decide_eq_true hc]; exact mBr_t ht)) (fun hc => rw_next hm hd rfl (by dsimp only [mIns, mCond]; rw [decide_eq_false hc]; exact mBr_f ht))
theorem rw_icmp_ge {x y : Int32} {off : Int} {tgt : Nat} (hm : mTab[mi]? = some M) (hd : decode M.2.1 pc = .ok (.if_icmp .ge off, 3)) (ht : (pc : Int) + off = (tgt : Int)) : mX G mi pc L (.int y :: .int x :: st) h n k Q ↔ if y ≤ x then mX G mi tgt L st h n k Q else mX G mi (pc + 3) L st h n k Q :=
  rw_if (fun hc => rw_next hm hd rfl (by dsimp only [mIns, mCond]; rw [decide_eq_true hc]; exact mBr_t ht)) (fun hc => rw_next hm hd rfl (by dsimp only [mIns, mCond]; rw [decide_eq_false hc]; exact mBr_f ht))
theorem rw_ifc_ge {x : Int32} {off : Int} {tgt : Nat} (hm : mTab[mi]? = some M) (hd : decode M.2.1 pc = .ok (.ifCond .ge off, 3)) (ht : (pc : Int) + off = (tgt : Int)) : mX G mi pc L (.int x :: st) h n k Q ↔ if 0 ≤ x then mX G mi tgt L st h n k Q else mX G mi (pc + 3) L st h n k Q :=
  rw_if (fun hc => rw_next hm hd rfl (by dsimp only [mIns, mCond]; rw [decide_eq_true hc]; exact mBr_t ht)) (fun hc => rw_next hm hd rfl (by dsimp only [mIns, mCond]; rw [decide_eq_false hc]; exact mBr_f ht))
theorem rw_icmp_gt {x y : Int32} {off : Int} {tgt : Nat} (hm : mTab[mi]? = some M) (hd : decode M.2.1 pc = .ok (.if_icmp .gt off, 3)) (ht : (pc : Int) + off = (tgt : Int)) : mX G mi pc L (.int y :: .int x :: st) h n k Q ↔ if y < x then mX G mi tgt L st h n k Q else mX G mi (pc + 3) L st h n k Q :=
  rw_if (fun hc => rw_next hm hd rfl (by dsimp only [mIns, mCond]; rw [decide_eq_true hc]; exact mBr_t ht)) (fun hc => rw_next hm hd rfl (by dsimp only [mIns, mCond]; rw [decide_eq_false hc]; exact mBr_f ht))
theorem rw_ifc_gt {x : Int32} {off : Int} {tgt : Nat} (hm : mTab[mi]? = some M) (hd : decode M.2.1 pc = .ok (.ifCond .gt off, 3)) (ht : (pc : Int) + off = (tgt : Int)) : mX G mi pc L (.int x :: st) h n k Q ↔ if 0 < x then mX G mi tgt L st h n k Q else mX G mi (pc + 3) L st h n k Q :=
  rw_if (fun hc => rw_next hm hd rfl (by dsimp only [mIns, mCond]; rw [decide_eq_true hc]; exact mBr_t ht)) (fun hc => rw_next hm hd rfl (by dsimp only [mIns, mCond]; rw [decide_eq_false hc]; exact mBr_f ht))
theorem rw_icmp_le {x y : Int32} {off : Int} {tgt : Nat} (hm : mTab[mi]? = some M) (hd : decode M.2.1 pc = .ok (.if_icmp .le off, 3)) (ht : (pc : Int) + off = (tgt : Int)) : mX G mi pc L (.int y :: .int x :: st) h n k Q ↔ if x ≤ y then mX G mi tgt L st h n k Q else mX G mi (pc + 3) L st h n k Q :=
  rw_if (fun hc => rw_next hm hd rfl (by dsimp only [mIns, mCond]; rw [decide_eq_true hc]; exact mBr_t ht)) (fun hc => rw_next hm hd rfl (by dsimp only [mIns, mCond]; rw [decide_eq_false hc]; exact mBr_f ht))
theorem rw_ifc_le {x : Int32} {off : Int} {tgt : Nat} (hm : mTab[mi]? = some M) (hd : decode M.2.1 pc = .ok (.ifCond .le off, 3)) (ht : (pc : Int) + off = (tgt : Int)) : mX G mi pc L (.int x :: st) h n k Q ↔ if x ≤ 0 then mX G mi tgt L st h n k Q else mX G mi (pc + 3) L st h n k Q :=
  rw_if (fun hc => rw_next hm hd rfl (by dsimp only [mIns, mCond]; rw [decide_eq_true hc]; exact mBr_t ht)) (fun hc => rw_next hm hd rfl (by dsimp only [mIns, mCond]; rw [decide_eq_false hc]; exact mBr_f ht))
theorem rw_acmp_eq {v w : Value} {off : Int} {tgt : Nat} (hm : mTab[mi]? = some M) (hd : decode M.2.1 pc = .ok (.if_acmp .eq off, 3)) (ht : (pc : Int) + off = (tgt : Int)) : mX G mi pc L (w :: v :: st) h n k Q ↔ (mIsRef w = true ∧ mIsRef v = true) ∧ if mRf v = mRf w then mX G mi tgt L st h n k Q else mX G mi (pc + 3) L st h n k Q :=
  rw_and (fun hr => rw_if (fun hc => rw_next hm hd rfl (by dsimp only [mIns, mACond]; rw [if_pos hr, decide_eq_true hc]; exact mBr_t ht)) (fun hc => rw_next hm hd rfl (by dsimp only [mIns, mACond]; rw [if_pos hr, decide_eq_false hc]; exact mBr_f ht))) (fun hr => rw_none hm hd rfl (by dsimp only [mIns]; rw [if_neg hr]))
theorem rw_acmp_ne {v w : Value} {off : Int} {tgt : Nat} (hm : mTab[mi]? = some M) (hd : decode M.2.1 pc = .ok (.if_acmp .ne off, 3)) (ht : (pc : Int) + off = (tgt : Int)) : mX G mi pc L (w :: v :: st) h n k Q ↔ (mIsRef w = true ∧ mIsRef v = true) ∧ if ¬ mRf v = mRf w then mX G mi tgt L st h n k Q else mX G mi (pc + 3) L st h n k Q :=
  rw_and (fun hr => rw_if (fun hc => rw_next hm hd rfl (by dsimp only [mIns, mACond]; rw [if_pos hr, decide_eq_true hc]; exact mBr_t ht)) (fun hc => rw_next hm hd rfl (by dsimp only [mIns, mACond]; rw [if_pos hr, decide_eq_false hc]; exact mBr_f ht))) (fun hr => rw_none hm hd rfl (by dsimp only [mIns]; rw [if_neg hr]))
theorem rw_ifnull {v : Value} {off : Int} {tgt : Nat} (hm : mTab[mi]? = some M) (hd : decode M.2.1 pc = .ok (.ifnull off, 3)) (ht : (pc : Int) + off = (tgt : Int)) : mX G mi pc L (v :: st) h n k Q ↔ mIsRef v = true ∧ if mRf v = none then mX G mi tgt L st h n k Q else mX G mi (pc + 3) L st h n k Q := by
  refine rw_and (fun hr => ?_) (fun hr => rw_none hm hd rfl (by cases v <;> first | rfl | exact absurd rfl hr))
  cases v <;> first
    | (cases hr; done)
    | exact rw_next hm hd rfl (mJp_t ht)
    | exact rw_next hm hd rfl rfl
theorem rw_ifnonnull {v : Value} {off : Int} {tgt : Nat} (hm : mTab[mi]? = some M) (hd : decode M.2.1 pc = .ok (.ifnonnull off, 3)) (ht : (pc : Int) + off = (tgt : Int)) : mX G mi pc L (v :: st) h n k Q ↔ mIsRef v = true ∧ if mRf v = none then mX G mi (pc + 3) L st h n k Q else mX G mi tgt L st h n k Q := by
  refine rw_and (fun hr => ?_) (fun hr => rw_none hm hd rfl (by cases v <;> first | rfl | exact absurd rfl hr))
  cases v <;> first
    | (cases hr; done)
    | exact rw_next hm hd rfl rfl
    | exact rw_next hm hd rfl (mJp_t ht)
theorem rw_table {x : Int32} {d lo hi : Int} {offs : Array Int} {off : Int} {tgt : Nat} (hm : mTab[mi]? = some M) (hd : decode M.2.1 pc = .ok (.tableswitch d lo hi offs, len)) (h1 : ¬ (x.toInt < lo ∨ hi < x.toInt)) (ho : offs[(x.toInt - lo).toNat]? = some off) (ht : (pc : Int) + off = (tgt : Int)) : mX G mi pc L (.int x :: st) h n k Q ↔ mX G mi tgt L st h n k Q :=
  rw_next hm hd rfl (by dsimp only [mIns]; rw [if_neg h1, ho]; exact mJp_t ht)
theorem rw_tableD {x : Int32} {d lo hi : Int} {offs : Array Int} {tgt : Nat} (hm : mTab[mi]? = some M) (hd : decode M.2.1 pc = .ok (.tableswitch d lo hi offs, len)) (h1 : x.toInt < lo ∨ hi < x.toInt) (ht : (pc : Int) + d = (tgt : Int)) : mX G mi pc L (.int x :: st) h n k Q ↔ mX G mi tgt L st h n k Q :=
  rw_next hm hd rfl (by dsimp only [mIns]; rw [if_pos h1]; exact mJp_t ht)
theorem rw_lookup {x : Int32} {d : Int} {ps : Array (Int × Int)} {off : Int} {tgt : Nat} (hm : mTab[mi]? = some M) (hd : decode M.2.1 pc = .ok (.lookupswitch d ps, len)) (hp : (ps.toList.zip (ps.toList.drop 1)).all (fun (a, next) => a.1 < next.1) = true) (ho : Op.lookupswitch.offset ps.toList d x.toInt = off) (ht : (pc : Int) + off = (tgt : Int)) : mX G mi pc L (.int x :: st) h n k Q ↔ mX G mi tgt L st h n k Q :=
  rw_next hm hd rfl (by dsimp only [mIns]; rw [if_pos hp, ho]; exact mJp_t ht)
theorem rw_get {x ci j a : Nat} (hm : mTab[mi]? = some M) (hd : decode M.2.1 pc = .ok (.getfield x, 3)) (hf : fT M.2.2.2.2.1 x = some (ci, j)) : mX G mi pc L (.ref a :: st) h n k Q ↔ mGet h a ci j (fun v => mX G mi (pc + 3) L (v :: st) h n k Q) := by
  unfold mGet
  split
  · rename_i c9 fs hh
    by_cases hc : c9 = ci
    · cases hv : fs[j]? with
      | none =>
        rw [rw_none hm hd rfl (by dsimp only [mIns]; rw [hf]; dsimp only; rw [hh]; dsimp only; rw [if_pos hc, hv])]
        exact ⟨False.elim, fun q => q.2⟩
      | some v =>
        rw [rw_next hm hd rfl (by dsimp only [mIns]; rw [hf]; dsimp only; rw [hh]; dsimp only; rw [if_pos hc, hv]; rfl)]
        exact ⟨fun q => ⟨hc, q⟩, fun q => q.2⟩
    · rw [rw_none hm hd rfl (by dsimp only [mIns]; rw [hf]; dsimp only; rw [hh]; dsimp only; rw [if_neg hc])]
      exact ⟨False.elim, fun q => hc q.1⟩
  · rename_i hh
    refine rw_none hm hd rfl ?_
    dsimp only [mIns]
    rw [hf]
    dsimp only
    split
    · rename_i c9 fs hh9
      exact absurd hh9 (hh c9 fs)
    · rfl
theorem rw_put {x ci j a : Nat} {v : Value} (hm : mTab[mi]? = some M) (hd : decode M.2.1 pc = .ok (.putfield x, 3)) (hf : fT M.2.2.2.2.1 x = some (ci, j)) (hp : mPutOk M ci j = true) : mX G mi pc L (v :: .ref a :: st) h n k Q ↔ mPut G h a ci j v (fun h' => mX G mi (pc + 3) L st h' n k Q) := by
  unfold mPut
  split
  · rename_i c9 fs hh
    refine rw_and (fun hc => ?_) (fun hc => ?_)
    · exact rw_next hm hd rfl (by dsimp only [mIns]; rw [hf]; dsimp only; rw [hh]; dsimp only; rw [if_pos ⟨hc.1, hc.2.1, hc.2.2.1, hc.2.2.2, hp⟩]; rfl)
    · exact rw_none hm hd rfl (by dsimp only [mIns]; rw [hf]; dsimp only; rw [hh]; dsimp only; rw [if_neg (fun q => hc ⟨q.1, q.2.1, q.2.2.1, q.2.2.2.1⟩)])
  · rename_i hh
    refine rw_none hm hd rfl ?_
    dsimp only [mIns]
    rw [hf]
    dsimp only
    split
    · rename_i c9 fs hh9
      exact absurd hh9 (hh c9 fs)
    · rfl
theorem rw_gets {x j : Nat} (hm : mTab[mi]? = some M) (hd : decode M.2.1 pc = .ok (.getstatic x, 3)) (hf : sT M.2.2.2.2.1 x = some j) : mX G mi pc L st h n k Q ↔ mX G mi (pc + 3) L (.ref (G.2.2.1 j) :: st) h n k Q := rw_next hm hd rfl (by dsimp only [mIns]; rw [hf]; rfl)
theorem rw_ldc {x : Nat} {v : Int32} (hm : mTab[mi]? = some M) (hd : decode M.2.1 pc = .ok (.ldc x, 2)) (hf : kT M.2.2.2.2.1 x = some v) : mX G mi pc L st h n k Q ↔ mX G mi (pc + 2) L (.int v :: st) h n k Q := rw_next hm hd rfl (by dsimp only [mIns]; rw [hf]; rfl)
theorem rw_ldc_w {x : Nat} {v : Int32} (hm : mTab[mi]? = some M) (hd : decode M.2.1 pc = .ok (.ldc_w x, 3)) (hf : kT M.2.2.2.2.1 x = some v) : mX G mi pc L st h n k Q ↔ mX G mi (pc + 3) L (.int v :: st) h n k Q := rw_next hm hd rfl (by dsimp only [mIns]; rw [hf]; rfl)
theorem rw_ldc2 {x : Nat} {v : Int64} (hm : mTab[mi]? = some M) (hd : decode M.2.1 pc = .ok (.ldc2_w x, 3)) (hf : jT M.2.2.2.2.1 x = some v) : mX G mi pc L st h n k Q ↔ mX G mi (pc + 3) L (.long v :: st) h n k Q := rw_next hm hd rfl (by dsimp only [mIns]; rw [hf]; rfl)
theorem rw_ldcM {x : Nat} (hm : mTab[mi]? = some M) (hd : decode M.2.1 pc = .ok (.ldc x, 2)) (hf : kT M.2.2.2.2.1 x = none) (hc : M.2.2.2.2.1 = mcArrays ∧ x = mirIx) : mX G mi pc L st h n k Q ↔ mX G mi (pc + 2) L (.ref (G.2.2.1 7) :: st) h n k Q := rw_next hm hd rfl (by dsimp only [mIns]; rw [hf]; dsimp only; rw [if_pos hc]; rfl)
theorem rw_alen {a : Nat} (hm : mTab[mi]? = some M) (hd : decode M.2.1 pc = .ok (.arraylength, 1)) : mX G mi pc L (.ref a :: st) h n k Q ↔ mLen h a (fun N => mX G mi (pc + 1) L (.int (nI N) :: st) h n k Q) := by
  unfold mLen
  split
  · rename_i hh
    exact rw_next hm hd rfl (by dsimp only [mIns]; rw [hh]; rfl)
  · rename_i hh
    exact rw_next hm hd rfl (by dsimp only [mIns]; rw [hh]; rfl)
  · rename_i t N g hh
    exact rw_and (fun hc => rw_next hm hd rfl (by dsimp only [mIns]; rw [hh]; dsimp only; rw [if_pos hc]; rfl)) (fun hc => rw_none hm hd rfl (by dsimp only [mIns]; rw [hh]; dsimp only; rw [if_neg hc]))
  · rename_i h1 h2 h3
    refine rw_none hm hd rfl ?_
    dsimp only [mIns]
    split
    · rename_i hh; exact absurd hh (h1 _ _ _)
    · rename_i hh; exact absurd hh (h2 _ _)
    · rename_i hh; exact absurd hh (h3 _ _ _)
    · rfl
theorem rw_iald {a : Nat} {i : Int32} (hm : mTab[mi]? = some M) (hd : decode M.2.1 pc = .ok (.iaload, 1)) : mX G mi pc L (.int i :: .ref a :: st) h n k Q ↔ mLdI h a i (fun x => mX G mi (pc + 1) L (.int x :: st) h n k Q) := by
  unfold mLdI
  split
  · rename_i hh
    exact rw_and (fun hc => rw_next hm hd rfl (by dsimp only [mIns]; rw [hh]; dsimp only; rw [if_pos hc]; rfl)) (fun hc => rw_none hm hd rfl (by dsimp only [mIns]; rw [hh]; dsimp only; rw [if_neg hc]))
  · rename_i h1
    refine rw_none hm hd rfl ?_
    dsimp only [mIns]
    split
    · rename_i hh; exact absurd hh (h1 _ _ _)
    · rfl
theorem rw_bald {a : Nat} {i : Int32} (hm : mTab[mi]? = some M) (hd : decode M.2.1 pc = .ok (.baload, 1)) : mX G mi pc L (.int i :: .ref a :: st) h n k Q ↔ mLdZ h a i (fun x => mX G mi (pc + 1) L (.int x :: st) h n k Q) := by
  unfold mLdZ
  split
  · rename_i hh
    exact rw_and (fun hc => rw_next hm hd rfl (by dsimp only [mIns]; rw [hh]; dsimp only; rw [if_pos hc]; rfl)) (fun hc => rw_none hm hd rfl (by dsimp only [mIns]; rw [hh]; dsimp only; rw [if_neg hc]))
  · rename_i h1
    refine rw_none hm hd rfl ?_
    dsimp only [mIns]
    split
    · rename_i hh; exact absurd hh (h1 _ _ _)
    · rfl
theorem rw_lald {a : Nat} {i : Int32} (hm : mTab[mi]? = some M) (hd : decode M.2.1 pc = .ok (.laload, 1)) : mX G mi pc L (.int i :: .ref a :: st) h n k Q ↔ mLdJ h a i (fun x => mX G mi (pc + 1) L (.long x :: st) h n k Q) := by
  unfold mLdJ
  split
  · rename_i hh
    exact rw_and (fun hc => rw_next hm hd rfl (by dsimp only [mIns]; rw [hh]; dsimp only; rw [if_pos hc]; rfl)) (fun hc => rw_none hm hd rfl (by dsimp only [mIns]; rw [hh]; dsimp only; rw [if_neg hc]))
  · rename_i h1
    refine rw_none hm hd rfl ?_
    dsimp only [mIns]
    split
    · rename_i hh; exact absurd hh (h1 _ _)
    · rfl
theorem rw_aald {a : Nat} {i : Int32} (hm : mTab[mi]? = some M) (hd : decode M.2.1 pc = .ok (.aaload, 1)) : mX G mi pc L (.int i :: .ref a :: st) h n k Q ↔ mLdA h a i (fun x => mX G mi (pc + 1) L (x :: st) h n k Q) := by
  unfold mLdA
  split
  · rename_i hh
    exact rw_and (fun hc => rw_next hm hd rfl (by dsimp only [mIns]; rw [hh]; dsimp only; rw [if_pos hc]; rfl)) (fun hc => rw_none hm hd rfl (by dsimp only [mIns]; rw [hh]; dsimp only; rw [if_neg hc]))
  · rename_i h1
    refine rw_none hm hd rfl ?_
    dsimp only [mIns]
    split
    · rename_i hh; exact absurd hh (h1 _ _ _)
    · rfl
theorem rw_iast {a : Nat} {i : Int32} {x : Int32} (hm : mTab[mi]? = some M) (hd : decode M.2.1 pc = .ok (.iastore, 1)) : mX G mi pc L (.int x :: .int i :: .ref a :: st) h n k Q ↔ mStI G h a i x (fun h' => mX G mi (pc + 1) L st h' n k Q) := by
  unfold mStI
  split
  · rename_i hh
    exact rw_and (fun hc => rw_next hm hd rfl (by dsimp only [mIns]; rw [hh]; dsimp only; rw [if_pos hc]; rfl)) (fun hc => rw_none hm hd rfl (by dsimp only [mIns]; rw [hh]; dsimp only; rw [if_neg hc]))
  · rename_i h1
    refine rw_none hm hd rfl ?_
    dsimp only [mIns]
    split
    · rename_i hh; exact absurd hh (h1 _ _ _)
    · rfl
theorem rw_bast {a : Nat} {i : Int32} {x : Int32} (hm : mTab[mi]? = some M) (hd : decode M.2.1 pc = .ok (.bastore, 1)) : mX G mi pc L (.int x :: .int i :: .ref a :: st) h n k Q ↔ mStZ G h a i x (fun h' => mX G mi (pc + 1) L st h' n k Q) := by
  unfold mStZ
  split
  · rename_i hh
    exact rw_and (fun hc => rw_next hm hd rfl (by dsimp only [mIns]; rw [hh]; dsimp only; rw [if_pos hc]; rfl)) (fun hc => rw_none hm hd rfl (by dsimp only [mIns]; rw [hh]; dsimp only; rw [if_neg hc]))
  · rename_i h1
    refine rw_none hm hd rfl ?_
    dsimp only [mIns]
    split
    · rename_i hh; exact absurd hh (h1 _ _ _)
    · rfl
theorem rw_last {a : Nat} {i : Int32} {x : Int64} (hm : mTab[mi]? = some M) (hd : decode M.2.1 pc = .ok (.lastore, 1)) : mX G mi pc L (.long x :: .int i :: .ref a :: st) h n k Q ↔ mStJ G h a i x (fun h' => mX G mi (pc + 1) L st h' n k Q) := by
  unfold mStJ
  split
  · rename_i hh
    exact rw_and (fun hc => rw_next hm hd rfl (by dsimp only [mIns]; rw [hh]; dsimp only; rw [if_pos hc]; rfl)) (fun hc => rw_none hm hd rfl (by dsimp only [mIns]; rw [hh]; dsimp only; rw [if_neg hc]))
  · rename_i h1
    refine rw_none hm hd rfl ?_
    dsimp only [mIns]
    split
    · rename_i hh; exact absurd hh (h1 _ _)
    · rfl
theorem rw_aast {a y : Nat} {i : Int32} (hm : mTab[mi]? = some M) (hd : decode M.2.1 pc = .ok (.aastore, 1)) : mX G mi pc L (.ref y :: .int i :: .ref a :: st) h n k Q ↔ mStA G h a i y (fun h' => mX G mi (pc + 1) L st h' n k Q) := by
  unfold mStA
  split
  · rename_i hh hy
    exact rw_and (fun hc => rw_next hm hd rfl (by dsimp only [mIns]; rw [hh, hy]; dsimp only; rw [if_pos hc]; rfl)) (fun hc => rw_none hm hd rfl (by dsimp only [mIns]; rw [hh, hy]; dsimp only; rw [if_neg hc]))
  · rename_i h1
    refine rw_none hm hd rfl ?_
    dsimp only [mIns]
    split
    · rename_i hh hy; exact (h1 _ _ _ _ _ hh hy).elim
    · rfl
theorem rw_newa_int {N : Int32} (hm : mTab[mi]? = some M) (hd : decode M.2.1 pc = .ok (.newarray .int, 2)) : mX G mi pc L (.int N :: st) h n k Q ↔ (¬ N < 0 ∧ N.toNatClampNeg ≤ 10000) ∧ mX G mi (pc + 2) L (.ref n :: st) (mUp h n (mI N.toNatClampNeg (fun _ => 0))) (n + 1) (k + N.toNatClampNeg) Q :=
  rw_and (fun hc => rw_next hm hd rfl (by dsimp only [mIns]; rw [if_pos hc]; rfl)) (fun hc => rw_none hm hd rfl (by dsimp only [mIns]; rw [if_neg hc]))
theorem rw_newa_boolean {N : Int32} (hm : mTab[mi]? = some M) (hd : decode M.2.1 pc = .ok (.newarray .boolean, 2)) : mX G mi pc L (.int N :: st) h n k Q ↔ (¬ N < 0 ∧ N.toNatClampNeg ≤ 10000) ∧ mX G mi (pc + 2) L (.ref n :: st) (mUp h n (mZ N.toNatClampNeg (fun _ => 0))) (n + 1) (k + N.toNatClampNeg) Q :=
  rw_and (fun hc => rw_next hm hd rfl (by dsimp only [mIns]; rw [if_pos hc]; rfl)) (fun hc => rw_none hm hd rfl (by dsimp only [mIns]; rw [if_neg hc]))
theorem rw_newa_long {N : Int32} (hm : mTab[mi]? = some M) (hd : decode M.2.1 pc = .ok (.newarray .long, 2)) : mX G mi pc L (.int N :: st) h n k Q ↔ (¬ N < 0 ∧ N.toNatClampNeg ≤ 10000) ∧ mX G mi (pc + 2) L (.ref n :: st) (mUp h n (mJ N.toNatClampNeg (fun _ => 0))) (n + 1) (k + N.toNatClampNeg) Q :=
  rw_and (fun hc => rw_next hm hd rfl (by dsimp only [mIns]; rw [if_pos hc]; rfl)) (fun hc => rw_none hm hd rfl (by dsimp only [mIns]; rw [if_neg hc]))
theorem rw_anew {x t : Nat} {N : Int32} (hm : mTab[mi]? = some M) (hd : decode M.2.1 pc = .ok (.anewarray x, 3)) (hf : aT M.2.2.2.2.1 x = some t) : mX G mi pc L (.int N :: st) h n k Q ↔ (¬ N < 0 ∧ N.toNatClampNeg ≤ 10000) ∧ mX G mi (pc + 3) L (.ref n :: st) (mUp h n (mA t N.toNatClampNeg (fun _ => none))) (n + 1) (k + N.toNatClampNeg) Q :=
  rw_and (fun hc => rw_next hm hd rfl (by dsimp only [mIns]; rw [hf]; dsimp only; rw [if_pos hc]; rfl)) (fun hc => rw_none hm hd rfl (by dsimp only [mIns]; rw [hf]; dsimp only; rw [if_neg hc]))
theorem rw_new {x ci : Nat} {fs : List Value} (hm : mTab[mi]? = some M) (hd : decode M.2.1 pc = .ok (.new x, 3)) (hf : cT M.2.2.2.2.1 x = some ci) (hfs : mDef ci = fs) : mX G mi pc L st h n k Q ↔ mX G mi (pc + 3) L (.ref n :: st) (mUp h n (mO ci fs)) (n + 1) (k + fs.length) Q := by
  subst hfs
  exact rw_next hm hd rfl (by dsimp only [mIns]; rw [hf]; rfl)
theorem rw_thr {x e : Nat} (hm : mTab[mi]? = some M) (hd : decode M.2.1 pc = .ok (.new x, 3)) (hf : cT M.2.2.2.2.1 x = none) (hx : xT mi pc = some e) (hr : mRoomX mi = true) : mX G mi pc L st h n k Q ↔ mCats st ≤ 8 ∧ Q (.inr e, h, n + 1, k + 6) :=
  rw_and (fun hc => mX_thr ((mStep_of hm hd rfl).trans (by dsimp only [mIns]; rw [hf]; dsimp only; rw [hx]; dsimp only; rw [if_pos ⟨hc, hr⟩]))) (fun hc => rw_none hm hd rfl (by dsimp only [mIns]; rw [hf]; dsimp only; rw [hx]; dsimp only; rw [if_neg (fun q => hc q.1)]))
theorem rw_cast {x ci a : Nat} (hm : mTab[mi]? = some M) (hd : decode M.2.1 pc = .ok (.checkcast x, 3)) (hf : cT M.2.2.2.2.1 x = some ci) : mX G mi pc L (.ref a :: st) h n k Q ↔ mRecv h a ci ∧ mX G mi (pc + 3) L (.ref a :: st) h n k Q := by
  unfold mRecv
  split
  · rename_i hh
    exact rw_and (fun hc => rw_next hm hd rfl (by dsimp only [mIns]; rw [hf]; dsimp only; rw [hh]; dsimp only; rw [if_pos hc]; rfl)) (fun hc => rw_none hm hd rfl (by dsimp only [mIns]; rw [hf]; dsimp only; rw [hh]; dsimp only; rw [if_neg hc]))
  · rename_i h1
    rw [rw_none hm hd rfl (by
      dsimp only [mIns]
      rw [hf]
      dsimp only
      split
      · rename_i hh; exact absurd hh (h1 _ _)
      · rfl)]
    exact ⟨False.elim, fun q => q.1⟩
theorem rw_castN {x ci : Nat} (hm : mTab[mi]? = some M) (hd : decode M.2.1 pc = .ok (.checkcast x, 3)) (hf : cT M.2.2.2.2.1 x = some ci) : mX G mi pc L (.null :: st) h n k Q ↔ mX G mi (pc + 3) L (.null :: st) h n k Q := rw_next hm hd rfl (by dsimp only [mIns]; rw [hf]; rfl)
/-- calls: the values in their order, the rest of the stack -/
theorem rw_virt {x mj a : Nat} {Mj : mM} {vs S E : List Value} (hm : mTab[mi]? = some M) (hd : decode M.2.1 pc = .ok (.invokevirtual x, 3)) (hf : mT M.2.2.2.2.1 x = some mj) (h1 : ¬ mj = 1001) (hMj : mTab[mj]? = some Mj) (hr : mRoom mi mj = true) (hS : S = vs.reverse ++ .ref a :: st) (hl : vs.length + 1 = mAr mj) (hfit : mFitL mj (.ref a :: vs) = true) (hE : mEnt Mj.2.2.1 (.ref a :: vs) = E) :
    mX G mi pc L S h n k Q ↔ (mRecv h a (mRc mj) ∧ mCats st ≤ 8) ∧ mX G mj 0 E [] h n k (mK G mi pc L st Q) := by
  have hln : (vs.reverse ++ [Value.ref a]).length = mAr mj := by simp [hl]
  have ht : S.take (mAr mj) = vs.reverse ++ [.ref a] := by rw [hS, ← hln, show vs.reverse ++ Value.ref a :: st = (vs.reverse ++ [Value.ref a]) ++ st by simp, List.take_left']; rfl
  have hdr : S.drop (mAr mj) = st := by rw [hS, ← hln, show vs.reverse ++ Value.ref a :: st = (vs.reverse ++ [Value.ref a]) ++ st by simp, List.drop_left']; rfl
  have hrev : (S.take (mAr mj)).reverse = .ref a :: vs := by rw [ht]; simp
  refine rw_and (fun hc => ?_) (fun hc => ?_)
  · obtain ⟨hrec, hcat⟩ := hc
    unfold mRecv at hrec
    split at hrec
    · rename_i ci fs hh
      rw [mX_call (mj := mj) (vs := .ref a :: vs) (r := st) ((mStep_of hm hd rfl).trans (by
        dsimp only [mIns]
        rw [hf]
        dsimp only
        rw [if_neg h1, hdr, hrev, if_pos ⟨hcat, hr⟩]
        dsimp only
        rw [hh]
        dsimp only
        rw [if_pos ⟨hrec, by rw [List.length_cons]; exact hl, hfit⟩])) hMj, hE]
    · exact hrec.elim
  · refine rw_none hm hd rfl ?_
    dsimp only [mIns]
    rw [hf]
    dsimp only
    rw [if_neg h1, hdr, hrev]
    split
    · rename_i hc2
      dsimp only
      split
      · rename_i ci fs hh
        rw [if_neg (fun q => hc ⟨by unfold mRecv; rw [hh]; exact q.1, hc2.1⟩)]
      · rfl
    · rfl
theorem rw_spec {x mj a : Nat} {Mj : mM} {vs S E : List Value} (hm : mTab[mi]? = some M) (hd : decode M.2.1 pc = .ok (.invokespecial x, 3)) (hf : mT M.2.2.2.2.1 x = some mj) (h1 : ¬ mj = 1002) (hrc : mRc mj = 98) (hMj : mTab[mj]? = some Mj) (hr : mRoom mi mj = true) (hS : S = vs.reverse ++ .ref a :: st) (hl : vs.length + 1 = mAr mj) (hfit : mFitL mj (.ref a :: vs) = true) (hE : mEnt Mj.2.2.1 (.ref a :: vs) = E) :
    mX G mi pc L S h n k Q ↔ mCats st ≤ 8 ∧ mX G mj 0 E [] h n k (mK G mi pc L st Q) := by
  have hln : (vs.reverse ++ [Value.ref a]).length = mAr mj := by simp [hl]
  have ht : S.take (mAr mj) = vs.reverse ++ [.ref a] := by rw [hS, ← hln, show vs.reverse ++ Value.ref a :: st = (vs.reverse ++ [Value.ref a]) ++ st by simp, List.take_left']; rfl
  have hdr : S.drop (mAr mj) = st := by rw [hS, ← hln, show vs.reverse ++ Value.ref a :: st = (vs.reverse ++ [Value.ref a]) ++ st by simp, List.drop_left']; rfl
  have hrev : (S.take (mAr mj)).reverse = .ref a :: vs := by rw [ht]; simp
  refine rw_and (fun hc => ?_) (fun hc => ?_)
  · rw [mX_call (mj := mj) (vs := .ref a :: vs) (r := st) ((mStep_of hm hd rfl).trans (by
      dsimp only [mIns]
      rw [hf]
      dsimp only
      rw [if_neg h1, hdr, hrev, if_pos ⟨hc, hrc, hr⟩]
      dsimp only
      rw [if_pos ⟨by rw [List.length_cons]; exact hl, hfit⟩])) hMj, hE]
  · refine rw_none hm hd rfl ?_
    dsimp only [mIns]
    rw [hf]
    dsimp only
    rw [if_neg h1, hdr, if_neg (fun q => hc q.1)]
theorem rw_stat {x mj : Nat} {Mj : mM} {vs S E : List Value} (hm : mTab[mi]? = some M) (hd : decode M.2.1 pc = .ok (.invokestatic x, 3)) (hf : mT M.2.2.2.2.1 x = some mj) (h1 : ¬ mj = 1000 ∧ ¬ mj = 1003 ∧ ¬ mj = 1004) (hrc : mRc mj = 99) (hMj : mTab[mj]? = some Mj) (hr : mRoom mi mj = true) (hS : S = vs.reverse ++ st) (hl : vs.length = mAr mj) (hfit : mFitL mj vs = true) (hE : mEnt Mj.2.2.1 vs = E) :
    mX G mi pc L S h n k Q ↔ mCats st ≤ 8 ∧ mX G mj 0 E [] h n k (mK G mi pc L st Q) := by
  have hln : vs.reverse.length = mAr mj := by simp [hl]
  have ht : S.take (mAr mj) = vs.reverse := by rw [hS, ← hln, List.take_left']; rfl
  have hdr : S.drop (mAr mj) = st := by rw [hS, ← hln, List.drop_left']; rfl
  have hrev : (S.take (mAr mj)).reverse = vs := by rw [ht]; simp
  refine rw_and (fun hc => ?_) (fun hc => ?_)
  · rw [mX_call (mj := mj) (vs := vs) (r := st) ((mStep_of hm hd rfl).trans (by
      dsimp only [mIns]
      rw [hf]
      dsimp only
      rw [if_neg h1.1, if_neg h1.2.1, if_neg h1.2.2, hdr, hrev, if_pos ⟨hc, hrc, hr, hl, hfit⟩])) hMj, hE]
  · refine rw_none hm hd rfl ?_
    dsimp only [mIns]
    rw [hf]
    dsimp only
    rw [if_neg h1.1, if_neg h1.2.1, if_neg h1.2.2, hdr, if_neg (fun q => hc q.1)]
theorem rw_obj {x a : Nat} (hm : mTab[mi]? = some M) (hd : decode M.2.1 pc = .ok (.invokespecial x, 3)) (hf : mT M.2.2.2.2.1 x = some 1002) (hr : mRoomN mi = true) : mX G mi pc L (.ref a :: st) h n k Q ↔ mCats st ≤ 8 ∧ mX G mi (pc + 3) L st h n k Q :=
  rw_and (fun hc => rw_next hm hd rfl (by dsimp only [mIns]; rw [hf]; dsimp only; rw [if_pos rfl, if_pos ⟨hc, hr⟩]; rfl)) (fun hc => rw_none hm hd rfl (by dsimp only [mIns]; rw [hf]; dsimp only; rw [if_pos rfl, if_neg (fun q => hc q.1)]))
theorem rw_max {x : Nat} {u v : Int32} (hm : mTab[mi]? = some M) (hd : decode M.2.1 pc = .ok (.invokestatic x, 3)) (hf : mT M.2.2.2.2.1 x = some 1003) (hr : mRoomN mi = true) : mX G mi pc L (.int v :: .int u :: st) h n k Q ↔ mCats st ≤ 8 ∧ mX G mi (pc + 3) L (.int (if u < v then v else u) :: st) h n k Q :=
  rw_and (fun hc => rw_next hm hd rfl (by dsimp only [mIns]; rw [hf]; dsimp only; rw [if_neg (by decide), if_pos rfl, if_pos ⟨hc, hr⟩]; rfl)) (fun hc => rw_none hm hd rfl (by dsimp only [mIns]; rw [hf]; dsimp only; rw [if_neg (by decide), if_pos rfl, if_neg (fun q => hc q.1)]))
theorem rw_min {x : Nat} {u v : Int32} (hm : mTab[mi]? = some M) (hd : decode M.2.1 pc = .ok (.invokestatic x, 3)) (hf : mT M.2.2.2.2.1 x = some 1004) (hr : mRoomN mi = true) : mX G mi pc L (.int v :: .int u :: st) h n k Q ↔ mCats st ≤ 8 ∧ mX G mi (pc + 3) L (.int (if v < u then v else u) :: st) h n k Q :=
  rw_and (fun hc => rw_next hm hd rfl (by dsimp only [mIns]; rw [hf]; dsimp only; rw [if_neg (by decide), if_neg (by decide), if_pos rfl, if_pos ⟨hc, hr⟩]; rfl)) (fun hc => rw_none hm hd rfl (by dsimp only [mIns]; rw [hf]; dsimp only; rw [if_neg (by decide), if_neg (by decide), if_pos rfl, if_neg (fun q => hc q.1)]))
theorem rw_getC {x a N : Nat} {g : Nat → Option Nat} (hm : mTab[mi]? = some M) (hd : decode M.2.1 pc = .ok (.invokevirtual x, 3)) (hf : mT M.2.2.2.2.1 x = some 1001) (hr : mRoomN mi = true) (hh : h a = some (mA 4 N g)) (hc : mCats st ≤ 8) : mX G mi pc L (.ref a :: st) h n k Q ↔ mX G mi (pc + 3) L (.ref (G.2.2.1 7) :: st) h n k Q :=
  rw_next hm hd rfl (by dsimp only [mIns]; rw [hf]; dsimp only; rw [if_pos rfl, hh]; dsimp only; rw [if_pos ⟨rfl, hc, hr⟩]; rfl)
theorem rw_copyI {x a0 a m0 m1 : Nat} {sp dp N : Int32} {f g : Nat → Int32} (hm : mTab[mi]? = some M) (hd : decode M.2.1 pc = .ok (.invokestatic x, 3)) (hf : mT M.2.2.2.2.1 x = some 1000) (hr : mRoomN mi = true) (h0 : h a0 = some (mI m0 f)) (h1 : h a = some (mI m1 g)) (hc : ¬ sp < 0 ∧ ¬ dp < 0 ∧ ¬ N < 0 ∧ G.2.2.2 ≤ a ∧ mCats st ≤ 8) (hb : sp.toNatClampNeg + N.toNatClampNeg ≤ m0 ∧ dp.toNatClampNeg + N.toNatClampNeg ≤ m1) :
    mX G mi pc L (.int N :: .int dp :: .ref a :: .int sp :: .ref a0 :: st) h n k Q ↔ mX G mi (pc + 3) L st (mUp h a (mI m1 (va_cpy f g sp.toNatClampNeg dp.toNatClampNeg N.toNatClampNeg))) n k Q :=
  rw_next hm hd rfl (by dsimp only [mIns]; rw [hf]; dsimp only; rw [if_pos rfl, if_pos ⟨hc.1, hc.2.1, hc.2.2.1, hc.2.2.2.1, hc.2.2.2.2, hr⟩, h0, h1]; dsimp only; rw [if_pos ⟨rfl, rfl, hb.1, hb.2⟩]; rfl)
theorem rw_copyA {x a0 a m0 m1 : Nat} {sp dp N : Int32} {f g : Nat → Option Nat} (hm : mTab[mi]? = some M) (hd : decode M.2.1 pc = .ok (.invokestatic x, 3)) (hf : mT M.2.2.2.2.1 x = some 1000) (hr : mRoomN mi = true) (h0 : h a0 = some (mA 4 m0 f)) (h1 : h a = some (mA 4 m1 g)) (hc : ¬ sp < 0 ∧ ¬ dp < 0 ∧ ¬ N < 0 ∧ G.2.2.2 ≤ a ∧ mCats st ≤ 8) (hb : sp.toNatClampNeg + N.toNatClampNeg ≤ m0 ∧ dp.toNatClampNeg + N.toNatClampNeg ≤ m1) (ho : (List.range N.toNatClampNeg).all (fun i => mObj h (f (sp.toNatClampNeg + i))) = true) :
    mX G mi pc L (.int N :: .int dp :: .ref a :: .int sp :: .ref a0 :: st) h n k Q ↔ mX G mi (pc + 3) L st (mUp h a (mA 4 m1 (va_cpy f g sp.toNatClampNeg dp.toNatClampNeg N.toNatClampNeg))) n k Q :=
  rw_next hm hd rfl (by dsimp only [mIns]; rw [hf]; dsimp only; rw [if_pos rfl, if_pos ⟨hc.1, hc.2.1, hc.2.2.1, hc.2.2.2.1, hc.2.2.2.2, hr⟩, h0, h1]; dsimp only; rw [if_pos ⟨rfl, rfl, hb.1, hb.2, ho⟩]; rfl)
theorem rw_vret (hm : mTab[mi]? = some M) (hd : decode M.2.1 pc = .ok (.return_, 1)) (hr : M.2.2.2.1 = none) : mX G mi pc L [] h n k Q ↔ Q (.inl none, h, n, k) := mX_ret ((mStep_of hm hd rfl).trans (by dsimp only [mIns]; rw [if_pos ⟨hr, rfl⟩]))
theorem rw_iret {v : Int32} (hm : mTab[mi]? = some M) (hd : decode M.2.1 pc = .ok (.ireturn, 1)) (hr : M.2.2.2.1 = some .int) : mX G mi pc L [.int v] h n k Q ↔ Q (.inl (some (.int v)), h, n, k) := mX_ret ((mStep_of hm hd rfl).trans (by dsimp only [mIns]; rw [hr]))
theorem rw_zret {v : Int32} (hm : mTab[mi]? = some M) (hd : decode M.2.1 pc = .ok (.ireturn, 1)) (hr : M.2.2.2.1 = some .boolean) : mX G mi pc L [.int v] h n k Q ↔ (v = 0 ∨ v = 1) ∧ Q (.inl (some (.int v)), h, n, k) :=
  rw_and (fun hc => mX_ret ((mStep_of hm hd rfl).trans (by dsimp only [mIns]; rw [hr]; dsimp only; rw [if_pos hc]))) (fun hc => rw_none hm hd rfl (by dsimp only [mIns]; rw [hr]; dsimp only; rw [if_neg hc]))
theorem rw_lret {v : Int64} (hm : mTab[mi]? = some M) (hd : decode M.2.1 pc = .ok (.lreturn, 1)) (hr : M.2.2.2.1 = some .long) : mX G mi pc L [.long v] h n k Q ↔ Q (.inl (some (.long v)), h, n, k) := mX_ret ((mStep_of hm hd rfl).trans (by dsimp only [mIns]; rw [hr]))
theorem rw_aret {v : Value} {nm : String} (hm : mTab[mi]? = some M) (hd : decode M.2.1 pc = .ok (.areturn, 1)) (hr : M.2.2.2.1 = some (.object nm)) : mX G mi pc L [v] h n k Q ↔ mIsRef v = true ∧ Q (.inl (some v), h, n, k) := by
  refine rw_and (fun hc => ?_) (fun hc => ?_)
  · cases v <;> first | (cases hc; done) | exact mX_ret ((mStep_of hm hd rfl).trans (by dsimp only [mIns]; rw [hr]))
  · refine rw_none hm hd rfl ?_
    dsimp only [mIns]
    rw [hr]
    cases v <;> first | rfl | exact absurd rfl hc
theorem rw_aretA {v : Value} {ty : FieldType} (hm : mTab[mi]? = some M) (hd : decode M.2.1 pc = .ok (.areturn, 1)) (hr : M.2.2.2.1 = some (.array ty)) : mX G mi pc L [v] h n k Q ↔ mIsRef v = true ∧ Q (.inl (some v), h, n, k) := by
  refine rw_and (fun hc => ?_) (fun hc => ?_)
  · cases v <;> first | (cases hc; done) | exact mX_ret ((mStep_of hm hd rfl).trans (by dsimp only [mIns]; rw [hr]))
  · refine rw_none hm hd rfl ?_
    dsimp only [mIns]
    rw [hr]
    cases v <;> first | rfl | exact absurd rfl hc
end MRW
