/-! The machine of the Statement goes as the pure one: a step each. -/
/-- where the walk of method M stands: the machine, its tables, the room that M's calls need -/
def mCx (G : mG) (l : Launch) (M : mM) (mi : Nat) (p : Program) (R : Room) (s : State) (m : MethodId) (meth : Method) (c : Code) : Prop :=
  p.tables.exec = Jvm.exec ∧ c.code = M.2.1 ∧ meth.sig.returnType = M.2.2.2.1 ∧ c.maxLocals = M.2.2.1 ∧ s.vm.findClass M.1.cls = some m.cls ∧ meth.locks = false ∧ meth.name = M.1.name ∧ mKn G s ∧
  c.exceptionTable.toList = M.2.2.2.2.2.map (fun q => (⟨q.1, q.2.1, q.2.2.1, q.2.2.2⟩ : ExceptionTableEntry)) ∧ (mNeed mi).1 ≤ R.frames ∧ (mNeed mi).2 ≤ R.locals ∧ l.stackTraces = false
/-- the machine comes, from where the pure one stands, to a state with Q -/
def mWt (G : mG) (nL : Nat) (p : Program) (l : Launch) (e : Env) (R : Room) (s : State) (m : MethodId) (args : Array Value) (below : List Frame) (meth : Method) (c : Code) (n0 k0 : Nat) (Q : State → Prop) (pc : Nat) (L st : List Value) (h : mH) (n k : Nat) : Prop :=
  ∀ (H : Heap) (locs : List Loc) (ls : Array Slot), mRep G s h n H → mLv ls nL L → va_S (mBA G) s.heap H locs → W p l e R s m args below meth c H locs (n - n0) (k - k0) Q (F0 m pc ls st)
section MSS
variable {G : mG} {p : Program} {l : Launch} {e : Env} {R : Room} {s : State} {m : MethodId} {args : Array Value} {below : List Frame} {meth : Method} {c : Code} {n0 k0 : Nat} {Q : State → Prop} {M : mM} {mi pc len : Nat} {L st : List Value} {h : mH} {n k : Nat} {pc' : Nat} {L' st' : List Value} {h' : mH} {n' k' : Nat}

theorem ms_iconst {x : Int} (C : mCx G l M mi p R s m meth c) (hd : decode M.2.1 pc = .ok (.iconst x, len)) (hlen : mIL (.iconst x) len = true) (E : mIns (.iconst x) len G M mi pc L st h n k = some (.inl (pc', L', st', h', n', k'))) (K : mWt G M.2.2.1 p l e R s m args below meth c n0 k0 Q pc' L' st' h' n' k') : mWt G M.2.2.1 p l e R s m args below meth c n0 k0 Q pc L st h n k := by
  obtain ⟨hx, hb, hr, hml, hown, hlocks, hnm, hKn, htab, hRf, hRl, htr⟩ := C
  have hlen : len = 1 := by simpa [mIL] using hlen
  subst hlen
  dsimp only [mIns, mNx] at E
  cases E
  intro H locs ls hR hL hS
  exact lv_iconst hx hb hd rfl (K H locs ls hR hL hS)
theorem ms_bipush {x : Int} (C : mCx G l M mi p R s m meth c) (hd : decode M.2.1 pc = .ok (.bipush x, len)) (hlen : mIL (.bipush x) len = true) (E : mIns (.bipush x) len G M mi pc L st h n k = some (.inl (pc', L', st', h', n', k'))) (K : mWt G M.2.2.1 p l e R s m args below meth c n0 k0 Q pc' L' st' h' n' k') : mWt G M.2.2.1 p l e R s m args below meth c n0 k0 Q pc L st h n k := by
  obtain ⟨hx, hb, hr, hml, hown, hlocks, hnm, hKn, htab, hRf, hRl, htr⟩ := C
  have hlen : len = 2 := by simpa [mIL] using hlen
  subst hlen
  dsimp only [mIns, mNx] at E
  cases E
  intro H locs ls hR hL hS
  exact lv_bipush hx hb hd rfl (K H locs ls hR hL hS)
theorem ms_sipush {x : Int} (C : mCx G l M mi p R s m meth c) (hd : decode M.2.1 pc = .ok (.sipush x, len)) (hlen : mIL (.sipush x) len = true) (E : mIns (.sipush x) len G M mi pc L st h n k = some (.inl (pc', L', st', h', n', k'))) (K : mWt G M.2.2.1 p l e R s m args below meth c n0 k0 Q pc' L' st' h' n' k') : mWt G M.2.2.1 p l e R s m args below meth c n0 k0 Q pc L st h n k := by
  obtain ⟨hx, hb, hr, hml, hown, hlocks, hnm, hKn, htab, hRf, hRl, htr⟩ := C
  have hlen : len = 3 := by simpa [mIL] using hlen
  subst hlen
  dsimp only [mIns, mNx] at E
  cases E
  intro H locs ls hR hL hS
  exact lv_sipush hx hb hd rfl (K H locs ls hR hL hS)
theorem ms_lconst {x : Fin 2} (C : mCx G l M mi p R s m meth c) (hd : decode M.2.1 pc = .ok (.lconst x, len)) (hlen : mIL (.lconst x) len = true) (E : mIns (.lconst x) len G M mi pc L st h n k = some (.inl (pc', L', st', h', n', k'))) (K : mWt G M.2.2.1 p l e R s m args below meth c n0 k0 Q pc' L' st' h' n' k') : mWt G M.2.2.1 p l e R s m args below meth c n0 k0 Q pc L st h n k := by
  obtain ⟨hx, hb, hr, hml, hown, hlocks, hnm, hKn, htab, hRf, hRl, htr⟩ := C
  have hlen : len = 1 := by simpa [mIL] using hlen
  subst hlen
  dsimp only [mIns, mNx] at E
  cases E
  intro H locs ls hR hL hS
  exact lv_lconst hx hb hd rfl (K H locs ls hR hL hS)
theorem ms_aconst_null (C : mCx G l M mi p R s m meth c) (hd : decode M.2.1 pc = .ok (.aconst_null, len)) (hlen : mIL (.aconst_null) len = true) (E : mIns (.aconst_null) len G M mi pc L st h n k = some (.inl (pc', L', st', h', n', k'))) (K : mWt G M.2.2.1 p l e R s m args below meth c n0 k0 Q pc' L' st' h' n' k') : mWt G M.2.2.1 p l e R s m args below meth c n0 k0 Q pc L st h n k := by
  obtain ⟨hx, hb, hr, hml, hown, hlocks, hnm, hKn, htab, hRf, hRl, htr⟩ := C
  have hlen : len = 1 := by simpa [mIL] using hlen
  subst hlen
  dsimp only [mIns, mNx] at E
  cases E
  intro H locs ls hR hL hS
  exact lv_null hx hb hd (K H locs ls hR hL hS)
theorem ms_iadd (C : mCx G l M mi p R s m meth c) (hd : decode M.2.1 pc = .ok (.iadd, len)) (hlen : mIL (.iadd) len = true) (E : mIns (.iadd) len G M mi pc L st h n k = some (.inl (pc', L', st', h', n', k'))) (K : mWt G M.2.2.1 p l e R s m args below meth c n0 k0 Q pc' L' st' h' n' k') : mWt G M.2.2.1 p l e R s m args below meth c n0 k0 Q pc L st h n k := by
  obtain ⟨hx, hb, hr, hml, hown, hlocks, hnm, hKn, htab, hRf, hRl, htr⟩ := C
  have hlen : len = 1 := by simpa [mIL] using hlen
  subst hlen
  dsimp only [mIns, mNx] at E
  split at E
  · cases E
    intro H locs ls hR hL hS
    exact lv_iadd hx hb hd (K H locs ls hR hL hS)
  · cases E
theorem ms_isub (C : mCx G l M mi p R s m meth c) (hd : decode M.2.1 pc = .ok (.isub, len)) (hlen : mIL (.isub) len = true) (E : mIns (.isub) len G M mi pc L st h n k = some (.inl (pc', L', st', h', n', k'))) (K : mWt G M.2.2.1 p l e R s m args below meth c n0 k0 Q pc' L' st' h' n' k') : mWt G M.2.2.1 p l e R s m args below meth c n0 k0 Q pc L st h n k := by
  obtain ⟨hx, hb, hr, hml, hown, hlocks, hnm, hKn, htab, hRf, hRl, htr⟩ := C
  have hlen : len = 1 := by simpa [mIL] using hlen
  subst hlen
  dsimp only [mIns, mNx] at E
  split at E
  · cases E
    intro H locs ls hR hL hS
    exact lv_isub hx hb hd (K H locs ls hR hL hS)
  · cases E
theorem ms_imul (C : mCx G l M mi p R s m meth c) (hd : decode M.2.1 pc = .ok (.imul, len)) (hlen : mIL (.imul) len = true) (E : mIns (.imul) len G M mi pc L st h n k = some (.inl (pc', L', st', h', n', k'))) (K : mWt G M.2.2.1 p l e R s m args below meth c n0 k0 Q pc' L' st' h' n' k') : mWt G M.2.2.1 p l e R s m args below meth c n0 k0 Q pc L st h n k := by
  obtain ⟨hx, hb, hr, hml, hown, hlocks, hnm, hKn, htab, hRf, hRl, htr⟩ := C
  have hlen : len = 1 := by simpa [mIL] using hlen
  subst hlen
  dsimp only [mIns, mNx] at E
  split at E
  · cases E
    intro H locs ls hR hL hS
    exact lv_imul hx hb hd (K H locs ls hR hL hS)
  · cases E
theorem ms_iand (C : mCx G l M mi p R s m meth c) (hd : decode M.2.1 pc = .ok (.iand, len)) (hlen : mIL (.iand) len = true) (E : mIns (.iand) len G M mi pc L st h n k = some (.inl (pc', L', st', h', n', k'))) (K : mWt G M.2.2.1 p l e R s m args below meth c n0 k0 Q pc' L' st' h' n' k') : mWt G M.2.2.1 p l e R s m args below meth c n0 k0 Q pc L st h n k := by
  obtain ⟨hx, hb, hr, hml, hown, hlocks, hnm, hKn, htab, hRf, hRl, htr⟩ := C
  have hlen : len = 1 := by simpa [mIL] using hlen
  subst hlen
  dsimp only [mIns, mNx] at E
  split at E
  · cases E
    intro H locs ls hR hL hS
    exact lv_iand hx hb hd (K H locs ls hR hL hS)
  · cases E
theorem ms_ior (C : mCx G l M mi p R s m meth c) (hd : decode M.2.1 pc = .ok (.ior, len)) (hlen : mIL (.ior) len = true) (E : mIns (.ior) len G M mi pc L st h n k = some (.inl (pc', L', st', h', n', k'))) (K : mWt G M.2.2.1 p l e R s m args below meth c n0 k0 Q pc' L' st' h' n' k') : mWt G M.2.2.1 p l e R s m args below meth c n0 k0 Q pc L st h n k := by
  obtain ⟨hx, hb, hr, hml, hown, hlocks, hnm, hKn, htab, hRf, hRl, htr⟩ := C
  have hlen : len = 1 := by simpa [mIL] using hlen
  subst hlen
  dsimp only [mIns, mNx] at E
  split at E
  · cases E
    intro H locs ls hR hL hS
    exact lv_ior hx hb hd (K H locs ls hR hL hS)
  · cases E
theorem ms_ishl (C : mCx G l M mi p R s m meth c) (hd : decode M.2.1 pc = .ok (.ishl, len)) (hlen : mIL (.ishl) len = true) (E : mIns (.ishl) len G M mi pc L st h n k = some (.inl (pc', L', st', h', n', k'))) (K : mWt G M.2.2.1 p l e R s m args below meth c n0 k0 Q pc' L' st' h' n' k') : mWt G M.2.2.1 p l e R s m args below meth c n0 k0 Q pc L st h n k := by
  obtain ⟨hx, hb, hr, hml, hown, hlocks, hnm, hKn, htab, hRf, hRl, htr⟩ := C
  have hlen : len = 1 := by simpa [mIL] using hlen
  subst hlen
  dsimp only [mIns, mNx] at E
  split at E
  · cases E
    intro H locs ls hR hL hS
    exact lv_ishl hx hb hd (K H locs ls hR hL hS)
  · cases E
theorem ms_ishr (C : mCx G l M mi p R s m meth c) (hd : decode M.2.1 pc = .ok (.ishr, len)) (hlen : mIL (.ishr) len = true) (E : mIns (.ishr) len G M mi pc L st h n k = some (.inl (pc', L', st', h', n', k'))) (K : mWt G M.2.2.1 p l e R s m args below meth c n0 k0 Q pc' L' st' h' n' k') : mWt G M.2.2.1 p l e R s m args below meth c n0 k0 Q pc L st h n k := by
  obtain ⟨hx, hb, hr, hml, hown, hlocks, hnm, hKn, htab, hRf, hRl, htr⟩ := C
  have hlen : len = 1 := by simpa [mIL] using hlen
  subst hlen
  dsimp only [mIns, mNx] at E
  split at E
  · cases E
    intro H locs ls hR hL hS
    exact lv_ishr hx hb hd (K H locs ls hR hL hS)
  · cases E
theorem ms_ladd (C : mCx G l M mi p R s m meth c) (hd : decode M.2.1 pc = .ok (.ladd, len)) (hlen : mIL (.ladd) len = true) (E : mIns (.ladd) len G M mi pc L st h n k = some (.inl (pc', L', st', h', n', k'))) (K : mWt G M.2.2.1 p l e R s m args below meth c n0 k0 Q pc' L' st' h' n' k') : mWt G M.2.2.1 p l e R s m args below meth c n0 k0 Q pc L st h n k := by
  obtain ⟨hx, hb, hr, hml, hown, hlocks, hnm, hKn, htab, hRf, hRl, htr⟩ := C
  have hlen : len = 1 := by simpa [mIL] using hlen
  subst hlen
  dsimp only [mIns, mNx] at E
  split at E
  · cases E
    intro H locs ls hR hL hS
    exact lv_ladd hx hb hd (K H locs ls hR hL hS)
  · cases E
theorem ms_land (C : mCx G l M mi p R s m meth c) (hd : decode M.2.1 pc = .ok (.land, len)) (hlen : mIL (.land) len = true) (E : mIns (.land) len G M mi pc L st h n k = some (.inl (pc', L', st', h', n', k'))) (K : mWt G M.2.2.1 p l e R s m args below meth c n0 k0 Q pc' L' st' h' n' k') : mWt G M.2.2.1 p l e R s m args below meth c n0 k0 Q pc L st h n k := by
  obtain ⟨hx, hb, hr, hml, hown, hlocks, hnm, hKn, htab, hRf, hRl, htr⟩ := C
  have hlen : len = 1 := by simpa [mIL] using hlen
  subst hlen
  dsimp only [mIns, mNx] at E
  split at E
  · cases E
    intro H locs ls hR hL hS
    exact lv_land hx hb hd (K H locs ls hR hL hS)
  · cases E
theorem ms_lor (C : mCx G l M mi p R s m meth c) (hd : decode M.2.1 pc = .ok (.lor, len)) (hlen : mIL (.lor) len = true) (E : mIns (.lor) len G M mi pc L st h n k = some (.inl (pc', L', st', h', n', k'))) (K : mWt G M.2.2.1 p l e R s m args below meth c n0 k0 Q pc' L' st' h' n' k') : mWt G M.2.2.1 p l e R s m args below meth c n0 k0 Q pc L st h n k := by
  obtain ⟨hx, hb, hr, hml, hown, hlocks, hnm, hKn, htab, hRf, hRl, htr⟩ := C
  have hlen : len = 1 := by simpa [mIL] using hlen
  subst hlen
  dsimp only [mIns, mNx] at E
  split at E
  · cases E
    intro H locs ls hR hL hS
    exact lv_lor hx hb hd (K H locs ls hR hL hS)
  · cases E
theorem ms_lshl (C : mCx G l M mi p R s m meth c) (hd : decode M.2.1 pc = .ok (.lshl, len)) (hlen : mIL (.lshl) len = true) (E : mIns (.lshl) len G M mi pc L st h n k = some (.inl (pc', L', st', h', n', k'))) (K : mWt G M.2.2.1 p l e R s m args below meth c n0 k0 Q pc' L' st' h' n' k') : mWt G M.2.2.1 p l e R s m args below meth c n0 k0 Q pc L st h n k := by
  obtain ⟨hx, hb, hr, hml, hown, hlocks, hnm, hKn, htab, hRf, hRl, htr⟩ := C
  have hlen : len = 1 := by simpa [mIL] using hlen
  subst hlen
  dsimp only [mIns, mNx] at E
  split at E
  · cases E
    intro H locs ls hR hL hS
    exact lv_lshl hx hb hd rfl (K H locs ls hR hL hS)
  · cases E
theorem ms_lshr (C : mCx G l M mi p R s m meth c) (hd : decode M.2.1 pc = .ok (.lshr, len)) (hlen : mIL (.lshr) len = true) (E : mIns (.lshr) len G M mi pc L st h n k = some (.inl (pc', L', st', h', n', k'))) (K : mWt G M.2.2.1 p l e R s m args below meth c n0 k0 Q pc' L' st' h' n' k') : mWt G M.2.2.1 p l e R s m args below meth c n0 k0 Q pc L st h n k := by
  obtain ⟨hx, hb, hr, hml, hown, hlocks, hnm, hKn, htab, hRf, hRl, htr⟩ := C
  have hlen : len = 1 := by simpa [mIL] using hlen
  subst hlen
  dsimp only [mIns, mNx] at E
  split at E
  · cases E
    intro H locs ls hR hL hS
    exact lv_lshr hx hb hd rfl (K H locs ls hR hL hS)
  · cases E
theorem ms_i2l (C : mCx G l M mi p R s m meth c) (hd : decode M.2.1 pc = .ok (.i2l, len)) (hlen : mIL (.i2l) len = true) (E : mIns (.i2l) len G M mi pc L st h n k = some (.inl (pc', L', st', h', n', k'))) (K : mWt G M.2.2.1 p l e R s m args below meth c n0 k0 Q pc' L' st' h' n' k') : mWt G M.2.2.1 p l e R s m args below meth c n0 k0 Q pc L st h n k := by
  obtain ⟨hx, hb, hr, hml, hown, hlocks, hnm, hKn, htab, hRf, hRl, htr⟩ := C
  have hlen : len = 1 := by simpa [mIL] using hlen
  subst hlen
  dsimp only [mIns, mNx] at E
  split at E
  · cases E
    intro H locs ls hR hL hS
    exact lv_i2l hx hb hd rfl (K H locs ls hR hL hS)
  · cases E
theorem ms_lcmp (C : mCx G l M mi p R s m meth c) (hd : decode M.2.1 pc = .ok (.lcmp, len)) (hlen : mIL (.lcmp) len = true) (E : mIns (.lcmp) len G M mi pc L st h n k = some (.inl (pc', L', st', h', n', k'))) (K : mWt G M.2.2.1 p l e R s m args below meth c n0 k0 Q pc' L' st' h' n' k') : mWt G M.2.2.1 p l e R s m args below meth c n0 k0 Q pc L st h n k := by
  obtain ⟨hx, hb, hr, hml, hown, hlocks, hnm, hKn, htab, hRf, hRl, htr⟩ := C
  have hlen : len = 1 := by simpa [mIL] using hlen
  subst hlen
  dsimp only [mIns, mNx] at E
  split at E
  · cases E
    intro H locs ls hR hL hS
    exact W.lcmp hx hb hd (K H locs ls hR hL hS)
  · cases E
theorem ms_idiv (C : mCx G l M mi p R s m meth c) (hd : decode M.2.1 pc = .ok (.idiv, len)) (hlen : mIL (.idiv) len = true) (E : mIns (.idiv) len G M mi pc L st h n k = some (.inl (pc', L', st', h', n', k'))) (K : mWt G M.2.2.1 p l e R s m args below meth c n0 k0 Q pc' L' st' h' n' k') : mWt G M.2.2.1 p l e R s m args below meth c n0 k0 Q pc L st h n k := by
  obtain ⟨hx, hb, hr, hml, hown, hlocks, hnm, hKn, htab, hRf, hRl, htr⟩ := C
  have hlen : len = 1 := by simpa [mIL] using hlen
  subst hlen
  dsimp only [mIns, mNx] at E
  split at E
  · split at E
    · cases E
    · rename_i hy
      cases E
      intro H locs ls hR hL hS
      exact lv_idiv hx hb hd hy (K H locs ls hR hL hS)
  · cases E
theorem ms_irem (C : mCx G l M mi p R s m meth c) (hd : decode M.2.1 pc = .ok (.irem, len)) (hlen : mIL (.irem) len = true) (E : mIns (.irem) len G M mi pc L st h n k = some (.inl (pc', L', st', h', n', k'))) (K : mWt G M.2.2.1 p l e R s m args below meth c n0 k0 Q pc' L' st' h' n' k') : mWt G M.2.2.1 p l e R s m args below meth c n0 k0 Q pc L st h n k := by
  obtain ⟨hx, hb, hr, hml, hown, hlocks, hnm, hKn, htab, hRf, hRl, htr⟩ := C
  have hlen : len = 1 := by simpa [mIL] using hlen
  subst hlen
  dsimp only [mIns, mNx] at E
  split at E
  · split at E
    · cases E
    · rename_i hy
      cases E
      intro H locs ls hR hL hS
      exact lv_irem hx hb hd hy (K H locs ls hR hL hS)
  · cases E
theorem ms_dup (C : mCx G l M mi p R s m meth c) (hd : decode M.2.1 pc = .ok (.dup, len)) (hlen : mIL (.dup) len = true) (E : mIns (.dup) len G M mi pc L st h n k = some (.inl (pc', L', st', h', n', k'))) (K : mWt G M.2.2.1 p l e R s m args below meth c n0 k0 Q pc' L' st' h' n' k') : mWt G M.2.2.1 p l e R s m args below meth c n0 k0 Q pc L st h n k := by
  obtain ⟨hx, hb, hr, hml, hown, hlocks, hnm, hKn, htab, hRf, hRl, htr⟩ := C
  have hlen : len = 1 := by simpa [mIL] using hlen
  subst hlen
  dsimp only [mIns, mNx] at E
  split at E
  · split at E
    · rename_i hc
      cases E
      intro H locs ls hR hL hS
      exact lv_dup hx hb hd hc (K H locs ls hR hL hS)
    · cases E
  · cases E
theorem ms_pop (C : mCx G l M mi p R s m meth c) (hd : decode M.2.1 pc = .ok (.pop, len)) (hlen : mIL (.pop) len = true) (E : mIns (.pop) len G M mi pc L st h n k = some (.inl (pc', L', st', h', n', k'))) (K : mWt G M.2.2.1 p l e R s m args below meth c n0 k0 Q pc' L' st' h' n' k') : mWt G M.2.2.1 p l e R s m args below meth c n0 k0 Q pc L st h n k := by
  obtain ⟨hx, hb, hr, hml, hown, hlocks, hnm, hKn, htab, hRf, hRl, htr⟩ := C
  have hlen : len = 1 := by simpa [mIL] using hlen
  subst hlen
  dsimp only [mIns, mNx] at E
  split at E
  · split at E
    · rename_i hc
      cases E
      intro H locs ls hR hL hS
      exact lv_pop hx hb hd hc (K H locs ls hR hL hS)
    · cases E
  · cases E
theorem ms_dup2 (C : mCx G l M mi p R s m meth c) (hd : decode M.2.1 pc = .ok (.dup2, len)) (hlen : mIL (.dup2) len = true) (E : mIns (.dup2) len G M mi pc L st h n k = some (.inl (pc', L', st', h', n', k'))) (K : mWt G M.2.2.1 p l e R s m args below meth c n0 k0 Q pc' L' st' h' n' k') : mWt G M.2.2.1 p l e R s m args below meth c n0 k0 Q pc L st h n k := by
  obtain ⟨hx, hb, hr, hml, hown, hlocks, hnm, hKn, htab, hRf, hRl, htr⟩ := C
  have hlen : len = 1 := by simpa [mIL] using hlen
  subst hlen
  dsimp only [mIns, mNx] at E
  split at E
  · split at E
    · rename_i hc
      cases E
      intro H locs ls hR hL hS
      exact lv_dup2_11 hx hb hd hc.1 hc.2 (K H locs ls hR hL hS)
    · cases E
  · cases E
theorem ms_dup_x1 (C : mCx G l M mi p R s m meth c) (hd : decode M.2.1 pc = .ok (.dup_x1, len)) (hlen : mIL (.dup_x1) len = true) (E : mIns (.dup_x1) len G M mi pc L st h n k = some (.inl (pc', L', st', h', n', k'))) (K : mWt G M.2.2.1 p l e R s m args below meth c n0 k0 Q pc' L' st' h' n' k') : mWt G M.2.2.1 p l e R s m args below meth c n0 k0 Q pc L st h n k := by
  obtain ⟨hx, hb, hr, hml, hown, hlocks, hnm, hKn, htab, hRf, hRl, htr⟩ := C
  have hlen : len = 1 := by simpa [mIL] using hlen
  subst hlen
  dsimp only [mIns, mNx] at E
  split at E
  · split at E
    · rename_i hc
      cases E
      intro H locs ls hR hL hS
      exact lv_dup_x1 hx hb hd hc.1 hc.2 (K H locs ls hR hL hS)
    · cases E
  · cases E
theorem ms_iload {x : Nat} (C : mCx G l M mi p R s m meth c) (hd : decode M.2.1 pc = .ok (.iload x, len)) (hlen : mIL (.iload x) len = true) (E : mIns (.iload x) len G M mi pc L st h n k = some (.inl (pc', L', st', h', n', k'))) (K : mWt G M.2.2.1 p l e R s m args below meth c n0 k0 Q pc' L' st' h' n' k') : mWt G M.2.2.1 p l e R s m args below meth c n0 k0 Q pc L st h n k := by
  obtain ⟨hx, hb, hr, hml, hown, hlocks, hnm, hKn, htab, hRf, hRl, htr⟩ := C
  have hlen : len = 2 := by simpa [mIL] using hlen
  subst hlen
  dsimp only [mIns, mNx] at E
  split at E
  · rename_i hv
    cases E
    intro H locs ls hR hL hS
    exact lv_iload hx hb hd (hL.at hv (by intro q; cases q)) (K H locs ls hR hL hS)
  · cases E
theorem ms_lload {x : Nat} (C : mCx G l M mi p R s m meth c) (hd : decode M.2.1 pc = .ok (.lload x, len)) (hlen : mIL (.lload x) len = true) (E : mIns (.lload x) len G M mi pc L st h n k = some (.inl (pc', L', st', h', n', k'))) (K : mWt G M.2.2.1 p l e R s m args below meth c n0 k0 Q pc' L' st' h' n' k') : mWt G M.2.2.1 p l e R s m args below meth c n0 k0 Q pc L st h n k := by
  obtain ⟨hx, hb, hr, hml, hown, hlocks, hnm, hKn, htab, hRf, hRl, htr⟩ := C
  have hlen : len = 2 := by simpa [mIL] using hlen
  subst hlen
  dsimp only [mIns, mNx] at E
  split at E
  · rename_i hv
    cases E
    intro H locs ls hR hL hS
    exact lv_lload hx hb hd (hL.at hv (by intro q; cases q)) (K H locs ls hR hL hS)
  · cases E
theorem ms_aload {x : Nat} (C : mCx G l M mi p R s m meth c) (hd : decode M.2.1 pc = .ok (.aload x, len)) (hlen : mIL (.aload x) len = true) (E : mIns (.aload x) len G M mi pc L st h n k = some (.inl (pc', L', st', h', n', k'))) (K : mWt G M.2.2.1 p l e R s m args below meth c n0 k0 Q pc' L' st' h' n' k') : mWt G M.2.2.1 p l e R s m args below meth c n0 k0 Q pc L st h n k := by
  obtain ⟨hx, hb, hr, hml, hown, hlocks, hnm, hKn, htab, hRf, hRl, htr⟩ := C
  have hlen : len = 2 := by simpa [mIL] using hlen
  subst hlen
  dsimp only [mIns, mNx] at E
  split at E
  · rename_i hv
    cases E
    intro H locs ls hR hL hS
    exact lv_aload hx hb hd (hL.at hv (by intro q; cases q)) (K H locs ls hR hL hS)
  · rename_i hv
    cases E
    intro H locs ls hR hL hS
    exact lv_aloadN hx hb hd (hL.at hv (by intro q; cases q)) (K H locs ls hR hL hS)
  · cases E
theorem ms_iload_n {x : Fin 4} (C : mCx G l M mi p R s m meth c) (hd : decode M.2.1 pc = .ok (.iload_n x, len)) (hlen : mIL (.iload_n x) len = true) (E : mIns (.iload_n x) len G M mi pc L st h n k = some (.inl (pc', L', st', h', n', k'))) (K : mWt G M.2.2.1 p l e R s m args below meth c n0 k0 Q pc' L' st' h' n' k') : mWt G M.2.2.1 p l e R s m args below meth c n0 k0 Q pc L st h n k := by
  obtain ⟨hx, hb, hr, hml, hown, hlocks, hnm, hKn, htab, hRf, hRl, htr⟩ := C
  have hlen : len = 1 := by simpa [mIL] using hlen
  subst hlen
  dsimp only [mIns, mNx] at E
  split at E
  · rename_i hv
    cases E
    intro H locs ls hR hL hS
    exact lv_iload_n hx hb hd rfl (hL.at hv (by intro q; cases q)) (K H locs ls hR hL hS)
  · cases E
theorem ms_lload_n {x : Fin 4} (C : mCx G l M mi p R s m meth c) (hd : decode M.2.1 pc = .ok (.lload_n x, len)) (hlen : mIL (.lload_n x) len = true) (E : mIns (.lload_n x) len G M mi pc L st h n k = some (.inl (pc', L', st', h', n', k'))) (K : mWt G M.2.2.1 p l e R s m args below meth c n0 k0 Q pc' L' st' h' n' k') : mWt G M.2.2.1 p l e R s m args below meth c n0 k0 Q pc L st h n k := by
  obtain ⟨hx, hb, hr, hml, hown, hlocks, hnm, hKn, htab, hRf, hRl, htr⟩ := C
  have hlen : len = 1 := by simpa [mIL] using hlen
  subst hlen
  dsimp only [mIns, mNx] at E
  split at E
  · rename_i hv
    cases E
    intro H locs ls hR hL hS
    exact lv_lload_n hx hb hd rfl (hL.at hv (by intro q; cases q)) (K H locs ls hR hL hS)
  · cases E
theorem ms_aload_n {x : Fin 4} (C : mCx G l M mi p R s m meth c) (hd : decode M.2.1 pc = .ok (.aload_n x, len)) (hlen : mIL (.aload_n x) len = true) (E : mIns (.aload_n x) len G M mi pc L st h n k = some (.inl (pc', L', st', h', n', k'))) (K : mWt G M.2.2.1 p l e R s m args below meth c n0 k0 Q pc' L' st' h' n' k') : mWt G M.2.2.1 p l e R s m args below meth c n0 k0 Q pc L st h n k := by
  obtain ⟨hx, hb, hr, hml, hown, hlocks, hnm, hKn, htab, hRf, hRl, htr⟩ := C
  have hlen : len = 1 := by simpa [mIL] using hlen
  subst hlen
  dsimp only [mIns, mNx] at E
  split at E
  · rename_i hv
    cases E
    intro H locs ls hR hL hS
    exact lv_aload_n hx hb hd rfl (hL.at hv (by intro q; cases q)) (K H locs ls hR hL hS)
  · rename_i hv
    cases E
    intro H locs ls hR hL hS
    exact lv_aload_nN hx hb hd rfl (hL.at hv (by intro q; cases q)) (K H locs ls hR hL hS)
  · cases E
theorem ms_istore_n {x : Fin 4} (C : mCx G l M mi p R s m meth c) (hd : decode M.2.1 pc = .ok (.istore_n x, len)) (hlen : mIL (.istore_n x) len = true) (E : mIns (.istore_n x) len G M mi pc L st h n k = some (.inl (pc', L', st', h', n', k'))) (K : mWt G M.2.2.1 p l e R s m args below meth c n0 k0 Q pc' L' st' h' n' k') : mWt G M.2.2.1 p l e R s m args below meth c n0 k0 Q pc L st h n k := by
  obtain ⟨hx, hb, hr, hml, hown, hlocks, hnm, hKn, htab, hRf, hRl, htr⟩ := C
  have hlen : len = 1 := by simpa [mIL] using hlen
  subst hlen
  dsimp only [mIns, mNx] at E
  split at E
  · obtain ⟨L1, e1, e2⟩ := Option.bind_eq_some_iff.mp E
    cases e2
    intro H locs ls hR hL hS
    exact lv_istore_n hx hb hd rfl hL.1 (by rw [← hL.2]; exact mSt1_lt e1) rfl (fun ls2 h2 => K H locs ls2 hR (hL.set1 e1 h2) hS)
  · cases E
theorem ms_istore {x : Nat} (C : mCx G l M mi p R s m meth c) (hd : decode M.2.1 pc = .ok (.istore x, len)) (hlen : mIL (.istore x) len = true) (E : mIns (.istore x) len G M mi pc L st h n k = some (.inl (pc', L', st', h', n', k'))) (K : mWt G M.2.2.1 p l e R s m args below meth c n0 k0 Q pc' L' st' h' n' k') : mWt G M.2.2.1 p l e R s m args below meth c n0 k0 Q pc L st h n k := by
  obtain ⟨hx, hb, hr, hml, hown, hlocks, hnm, hKn, htab, hRf, hRl, htr⟩ := C
  have hlen : len = 2 := by simpa [mIL] using hlen
  subst hlen
  dsimp only [mIns, mNx] at E
  split at E
  · obtain ⟨L1, e1, e2⟩ := Option.bind_eq_some_iff.mp E
    cases e2
    intro H locs ls hR hL hS
    exact lv_istore hx hb hd hL.1 (by rw [← hL.2]; exact mSt1_lt e1) rfl (fun ls2 h2 => K H locs ls2 hR (hL.set1 e1 h2) hS)
  · cases E
theorem ms_lstore {x : Nat} (C : mCx G l M mi p R s m meth c) (hd : decode M.2.1 pc = .ok (.lstore x, len)) (hlen : mIL (.lstore x) len = true) (E : mIns (.lstore x) len G M mi pc L st h n k = some (.inl (pc', L', st', h', n', k'))) (K : mWt G M.2.2.1 p l e R s m args below meth c n0 k0 Q pc' L' st' h' n' k') : mWt G M.2.2.1 p l e R s m args below meth c n0 k0 Q pc L st h n k := by
  obtain ⟨hx, hb, hr, hml, hown, hlocks, hnm, hKn, htab, hRf, hRl, htr⟩ := C
  have hlen : len = 2 := by simpa [mIL] using hlen
  subst hlen
  dsimp only [mIns, mNx] at E
  split at E
  · obtain ⟨L1, e1, e2⟩ := Option.bind_eq_some_iff.mp E
    cases e2
    intro H locs ls hR hL hS
    exact lv_lstore hx hb hd hL.1 (by rw [← hL.2]; exact mSt2_lt e1) rfl (fun ls2 h2 => K H locs ls2 hR (hL.set2 e1 h2) hS)
  · cases E
theorem ms_astore {x : Nat} (C : mCx G l M mi p R s m meth c) (hd : decode M.2.1 pc = .ok (.astore x, len)) (hlen : mIL (.astore x) len = true) (E : mIns (.astore x) len G M mi pc L st h n k = some (.inl (pc', L', st', h', n', k'))) (K : mWt G M.2.2.1 p l e R s m args below meth c n0 k0 Q pc' L' st' h' n' k') : mWt G M.2.2.1 p l e R s m args below meth c n0 k0 Q pc L st h n k := by
  obtain ⟨hx, hb, hr, hml, hown, hlocks, hnm, hKn, htab, hRf, hRl, htr⟩ := C
  have hlen : len = 2 := by simpa [mIL] using hlen
  subst hlen
  dsimp only [mIns, mNx] at E
  split at E
  · obtain ⟨L1, e1, e2⟩ := Option.bind_eq_some_iff.mp E
    cases e2
    intro H locs ls hR hL hS
    exact lv_astore hx hb hd hL.1 (by rw [← hL.2]; exact mSt1_lt e1) rfl (fun ls2 h2 => K H locs ls2 hR (hL.set1 e1 h2) hS)
  · obtain ⟨L1, e1, e2⟩ := Option.bind_eq_some_iff.mp E
    cases e2
    intro H locs ls hR hL hS
    exact lv_astoreN hx hb hd hL.1 (by rw [← hL.2]; exact mSt1_lt e1) rfl (fun ls2 h2 => K H locs ls2 hR (hL.set1 e1 h2) hS)
  · cases E
theorem ms_astore_n {x : Fin 4} (C : mCx G l M mi p R s m meth c) (hd : decode M.2.1 pc = .ok (.astore_n x, len)) (hlen : mIL (.astore_n x) len = true) (E : mIns (.astore_n x) len G M mi pc L st h n k = some (.inl (pc', L', st', h', n', k'))) (K : mWt G M.2.2.1 p l e R s m args below meth c n0 k0 Q pc' L' st' h' n' k') : mWt G M.2.2.1 p l e R s m args below meth c n0 k0 Q pc L st h n k := by
  obtain ⟨hx, hb, hr, hml, hown, hlocks, hnm, hKn, htab, hRf, hRl, htr⟩ := C
  have hlen : len = 1 := by simpa [mIL] using hlen
  subst hlen
  dsimp only [mIns, mNx] at E
  split at E
  · obtain ⟨L1, e1, e2⟩ := Option.bind_eq_some_iff.mp E
    cases e2
    intro H locs ls hR hL hS
    exact lv_astore_n hx hb hd rfl hL.1 (by rw [← hL.2]; exact mSt1_lt e1) rfl (fun ls2 h2 => K H locs ls2 hR (hL.set1 e1 h2) hS)
  · obtain ⟨L1, e1, e2⟩ := Option.bind_eq_some_iff.mp E
    cases e2
    intro H locs ls hR hL hS
    exact lv_astore_nN hx hb hd rfl hL.1 (by rw [← hL.2]; exact mSt1_lt e1) rfl (fun ls2 h2 => K H locs ls2 hR (hL.set1 e1 h2) hS)
  · cases E
theorem ms_iinc {x : Nat} {d : Int} (C : mCx G l M mi p R s m meth c) (hd : decode M.2.1 pc = .ok (.iinc x d, len)) (hlen : mIL (.iinc x d) len = true) (E : mIns (.iinc x d) len G M mi pc L st h n k = some (.inl (pc', L', st', h', n', k'))) (K : mWt G M.2.2.1 p l e R s m args below meth c n0 k0 Q pc' L' st' h' n' k') : mWt G M.2.2.1 p l e R s m args below meth c n0 k0 Q pc L st h n k := by
  obtain ⟨hx, hb, hr, hml, hown, hlocks, hnm, hKn, htab, hRf, hRl, htr⟩ := C
  have hlen : len = 3 := by simpa [mIL] using hlen
  subst hlen
  dsimp only [mIns, mNx] at E
  split at E
  · rename_i hv
    obtain ⟨L1, e1, e2⟩ := Option.bind_eq_some_iff.mp E
    cases e2
    intro H locs ls hR hL hS
    obtain ⟨j, hj⟩ := List.getElem?_of_mem (mAs_mem.mpr ⟨hv, by intro q; cases q⟩)
    exact lv_iinc hx hb hd hL.1 hj rfl (by rw [← hL.2]; exact mSt1_lt e1) rfl (fun ls2 h2 => K H locs ls2 hR (hL.set1 e1 h2) hS)
  · cases E
theorem mJp_eq {off : Int} (E : mJp pc off L st h n k = some (.inl (pc', L', st', h', n', k'))) : (pc : Int) + off = (pc' : Int) ∧ L' = L ∧ st' = st ∧ h' = h ∧ n' = n ∧ k' = k := by
  unfold mJp at E
  split at E
  · rename_i h0
    cases E
    exact ⟨(Int.toNat_of_nonneg h0).symm, rfl, rfl, rfl, rfl, rfl⟩
  · cases E
theorem mNx_eq {q : Nat} (E : mNx q L st h n k = some (.inl (pc', L', st', h', n', k'))) : pc' = q ∧ L' = L ∧ st' = st ∧ h' = h ∧ n' = n ∧ k' = k := by
  unfold mNx at E
  cases E
  exact ⟨rfl, rfl, rfl, rfl, rfl, rfl⟩
theorem ms_goto {off : Int} (C : mCx G l M mi p R s m meth c) (hd : decode M.2.1 pc = .ok (.goto off, len)) (hlen : mIL (.goto off) len = true) (E : mIns (.goto off) len G M mi pc L st h n k = some (.inl (pc', L', st', h', n', k'))) (K : mWt G M.2.2.1 p l e R s m args below meth c n0 k0 Q pc' L' st' h' n' k') : mWt G M.2.2.1 p l e R s m args below meth c n0 k0 Q pc L st h n k := by
  obtain ⟨hx, hb, hr, hml, hown, hlocks, hnm, hKn, htab, hRf, hRl, htr⟩ := C
  have hlen : len = 3 := by simpa [mIL] using hlen
  subst hlen
  dsimp only [mIns, mNx] at E
  obtain ⟨ht, rfl, rfl, rfl, rfl, rfl⟩ := mJp_eq E
  intro H locs ls hR hL hS
  exact lv_goto hx hb hd ht (K H locs ls hR hL hS)
theorem mBr_eq {off : Int} {b : Bool} (E : mBr pc off b L st h n k = some (.inl (pc', L', st', h', n', k'))) : ∃ tgt : Nat, (pc : Int) + off = (tgt : Int) ∧ L' = L ∧ st' = st ∧ h' = h ∧ n' = n ∧ k' = k ∧ ((b = true ∧ pc' = tgt) ∨ (b = false ∧ pc' = pc + 3)) := by
  unfold mBr at E
  split at E
  · rename_i h0
    obtain ⟨tgt, ht⟩ := Int.eq_ofNat_of_zero_le h0
    rw [ht] at E
    cases b with
    | true =>
      cases E
      exact ⟨tgt, ht, rfl, rfl, rfl, rfl, rfl, Or.inl ⟨rfl, rfl⟩⟩
    | false =>
      cases E
      exact ⟨tgt, ht, rfl, rfl, rfl, rfl, rfl, Or.inr ⟨rfl, rfl⟩⟩
  · cases E
theorem ms_if_icmp {op : Jvm.ClassFile.Cond} {off : Int} (C : mCx G l M mi p R s m meth c) (hd : decode M.2.1 pc = .ok (.if_icmp op off, len)) (hlen : mIL (.if_icmp op off) len = true) (E : mIns (.if_icmp op off) len G M mi pc L st h n k = some (.inl (pc', L', st', h', n', k'))) (K : mWt G M.2.2.1 p l e R s m args below meth c n0 k0 Q pc' L' st' h' n' k') : mWt G M.2.2.1 p l e R s m args below meth c n0 k0 Q pc L st h n k := by
  obtain ⟨hx, hb, hr, hml, hown, hlocks, hnm, hKn, htab, hRf, hRl, htr⟩ := C
  have hlen : len = 3 := by simpa [mIL] using hlen
  subst hlen
  dsimp only [mIns, mNx] at E
  split at E
  · obtain ⟨tgt, ht, rfl, rfl, rfl, rfl, rfl, hb9⟩ := mBr_eq E
    intro H locs ls hR hL hS
    cases op <;> (
    simp only [mCond, decide_eq_true_eq, decide_eq_false_iff_not] at hb9
    first
      | exact lv_icmp_eq hx hb hd ht (fun z => by rcases hb9 with ⟨_, rfl⟩ | ⟨z2, _⟩ <;> first | exact K H locs ls hR hL hS | exact absurd z z2 | exact absurd z2 z) (fun z => by rcases hb9 with ⟨z2, _⟩ | ⟨_, rfl⟩ <;> first | exact absurd z2 z | exact absurd z z2 | exact K H locs ls hR hL hS)
      | exact lv_icmp_ne hx hb hd ht (fun z => by rcases hb9 with ⟨_, rfl⟩ | ⟨z2, _⟩ <;> first | exact K H locs ls hR hL hS | exact absurd z z2 | exact absurd z2 z) (fun z => by rcases hb9 with ⟨z2, _⟩ | ⟨_, rfl⟩ <;> first | exact absurd z2 z | exact absurd z z2 | exact K H locs ls hR hL hS)
      | exact lv_icmp_lt hx hb hd ht (fun z => by rcases hb9 with ⟨_, rfl⟩ | ⟨z2, _⟩ <;> first | exact K H locs ls hR hL hS | exact absurd z z2 | exact absurd z2 z) (fun z => by rcases hb9 with ⟨z2, _⟩ | ⟨_, rfl⟩ <;> first | exact absurd z2 z | exact absurd z z2 | exact K H locs ls hR hL hS)
      | exact lv_icmp_ge hx hb hd ht (fun z => by rcases hb9 with ⟨_, rfl⟩ | ⟨z2, _⟩ <;> first | exact K H locs ls hR hL hS | exact absurd z z2 | exact absurd z2 z) (fun z => by rcases hb9 with ⟨z2, _⟩ | ⟨_, rfl⟩ <;> first | exact absurd z2 z | exact absurd z z2 | exact K H locs ls hR hL hS)
      | exact lv_icmp_gt hx hb hd ht (fun z => by rcases hb9 with ⟨_, rfl⟩ | ⟨z2, _⟩ <;> first | exact K H locs ls hR hL hS | exact absurd z z2 | exact absurd z2 z) (fun z => by rcases hb9 with ⟨z2, _⟩ | ⟨_, rfl⟩ <;> first | exact absurd z2 z | exact absurd z z2 | exact K H locs ls hR hL hS)
      | exact lv_icmp_le hx hb hd ht (fun z => by rcases hb9 with ⟨_, rfl⟩ | ⟨z2, _⟩ <;> first | exact K H locs ls hR hL hS | exact absurd z z2 | exact absurd z2 z) (fun z => by rcases hb9 with ⟨z2, _⟩ | ⟨_, rfl⟩ <;> first | exact absurd z2 z | exact absurd z z2 | exact K H locs ls hR hL hS))
  · cases E
theorem ms_ifCond {op : Jvm.ClassFile.Cond} {off : Int} (C : mCx G l M mi p R s m meth c) (hd : decode M.2.1 pc = .ok (.ifCond op off, len)) (hlen : mIL (.ifCond op off) len = true) (E : mIns (.ifCond op off) len G M mi pc L st h n k = some (.inl (pc', L', st', h', n', k'))) (K : mWt G M.2.2.1 p l e R s m args below meth c n0 k0 Q pc' L' st' h' n' k') : mWt G M.2.2.1 p l e R s m args below meth c n0 k0 Q pc L st h n k := by
  obtain ⟨hx, hb, hr, hml, hown, hlocks, hnm, hKn, htab, hRf, hRl, htr⟩ := C
  have hlen : len = 3 := by simpa [mIL] using hlen
  subst hlen
  dsimp only [mIns, mNx] at E
  split at E
  · obtain ⟨tgt, ht, rfl, rfl, rfl, rfl, rfl, hb9⟩ := mBr_eq E
    intro H locs ls hR hL hS
    cases op <;> (
    simp only [mCond, decide_eq_true_eq, decide_eq_false_iff_not] at hb9
    first
      | exact lv_if_eq hx hb hd ht (fun z => by rcases hb9 with ⟨_, rfl⟩ | ⟨z2, _⟩ <;> first | exact K H locs ls hR hL hS | exact absurd z z2 | exact absurd z2 z) (fun z => by rcases hb9 with ⟨z2, _⟩ | ⟨_, rfl⟩ <;> first | exact absurd z2 z | exact absurd z z2 | exact K H locs ls hR hL hS)
      | exact lv_if_ne hx hb hd ht (fun z => by rcases hb9 with ⟨_, rfl⟩ | ⟨z2, _⟩ <;> first | exact K H locs ls hR hL hS | exact absurd z z2 | exact absurd z2 z) (fun z => by rcases hb9 with ⟨z2, _⟩ | ⟨_, rfl⟩ <;> first | exact absurd z2 z | exact absurd z z2 | exact K H locs ls hR hL hS)
      | exact lv_if_lt hx hb hd ht (fun z => by rcases hb9 with ⟨_, rfl⟩ | ⟨z2, _⟩ <;> first | exact K H locs ls hR hL hS | exact absurd z z2 | exact absurd z2 z) (fun z => by rcases hb9 with ⟨z2, _⟩ | ⟨_, rfl⟩ <;> first | exact absurd z2 z | exact absurd z z2 | exact K H locs ls hR hL hS)
      | exact lv_if_ge hx hb hd ht (fun z => by rcases hb9 with ⟨_, rfl⟩ | ⟨z2, _⟩ <;> first | exact K H locs ls hR hL hS | exact absurd z z2 | exact absurd z2 z) (fun z => by rcases hb9 with ⟨z2, _⟩ | ⟨_, rfl⟩ <;> first | exact absurd z2 z | exact absurd z z2 | exact K H locs ls hR hL hS)
      | exact lv_if_gt hx hb hd ht (fun z => by rcases hb9 with ⟨_, rfl⟩ | ⟨z2, _⟩ <;> first | exact K H locs ls hR hL hS | exact absurd z z2 | exact absurd z2 z) (fun z => by rcases hb9 with ⟨z2, _⟩ | ⟨_, rfl⟩ <;> first | exact absurd z2 z | exact absurd z z2 | exact K H locs ls hR hL hS)
      | exact lv_if_le hx hb hd ht (fun z => by rcases hb9 with ⟨_, rfl⟩ | ⟨z2, _⟩ <;> first | exact K H locs ls hR hL hS | exact absurd z z2 | exact absurd z2 z) (fun z => by rcases hb9 with ⟨z2, _⟩ | ⟨_, rfl⟩ <;> first | exact absurd z2 z | exact absurd z z2 | exact K H locs ls hR hL hS))
  · cases E
theorem mRf_va {v : Value} (h : mIsRef v = true) : v = va_rf (mRf v) := by
  cases v <;> first | rfl | cases h
theorem ms_if_acmp {op : Jvm.ClassFile.ACond} {off : Int} (C : mCx G l M mi p R s m meth c) (hd : decode M.2.1 pc = .ok (.if_acmp op off, len)) (hlen : mIL (.if_acmp op off) len = true) (E : mIns (.if_acmp op off) len G M mi pc L st h n k = some (.inl (pc', L', st', h', n', k'))) (K : mWt G M.2.2.1 p l e R s m args below meth c n0 k0 Q pc' L' st' h' n' k') : mWt G M.2.2.1 p l e R s m args below meth c n0 k0 Q pc L st h n k := by
  obtain ⟨hx, hb, hr, hml, hown, hlocks, hnm, hKn, htab, hRf, hRl, htr⟩ := C
  have hlen : len = 3 := by simpa [mIL] using hlen
  subst hlen
  dsimp only [mIns, mNx] at E
  split at E
  · split at E
    · rename_i w v r hrf
      obtain ⟨tgt, ht, rfl, rfl, rfl, rfl, rfl, hb9⟩ := mBr_eq E
      intro H locs ls hR hL hS
      rw [mRf_va hrf.1, mRf_va hrf.2]
      cases op <;> (
      simp only [mACond, decide_eq_true_eq, decide_eq_false_iff_not] at hb9
      first
        | exact lv_acmp_eq hx hb hd ht (fun z => by rcases hb9 with ⟨_, rfl⟩ | ⟨z2, _⟩ <;> first | exact K H locs ls hR hL hS | exact absurd z z2 | exact absurd z2 z) (fun z => by rcases hb9 with ⟨z2, _⟩ | ⟨_, rfl⟩ <;> first | exact absurd z2 z | exact absurd z z2 | exact K H locs ls hR hL hS)
        | exact lv_acmp_ne hx hb hd ht (fun z => by rcases hb9 with ⟨_, rfl⟩ | ⟨z2, _⟩ <;> first | exact K H locs ls hR hL hS | exact absurd z z2 | exact absurd z2 z) (fun z => by rcases hb9 with ⟨z2, _⟩ | ⟨_, rfl⟩ <;> first | exact absurd z2 z | exact absurd z z2 | exact K H locs ls hR hL hS))
    · cases E
  · cases E
theorem ms_ifnull {off : Int} (C : mCx G l M mi p R s m meth c) (hd : decode M.2.1 pc = .ok (.ifnull off, len)) (hlen : mIL (.ifnull off) len = true) (E : mIns (.ifnull off) len G M mi pc L st h n k = some (.inl (pc', L', st', h', n', k'))) (K : mWt G M.2.2.1 p l e R s m args below meth c n0 k0 Q pc' L' st' h' n' k') : mWt G M.2.2.1 p l e R s m args below meth c n0 k0 Q pc L st h n k := by
  obtain ⟨hx, hb, hr, hml, hown, hlocks, hnm, hKn, htab, hRf, hRl, htr⟩ := C
  have hlen : len = 3 := by simpa [mIL] using hlen
  subst hlen
  dsimp only [mIns, mNx] at E
  split at E
  · obtain ⟨ht, rfl, rfl, rfl, rfl, rfl⟩ := mJp_eq E
    intro H locs ls hR hL hS
    exact lv_ifnullN hx hb hd ht (K H locs ls hR hL hS)
  · cases E
    intro H locs ls hR hL hS
    exact lv_ifnull hx hb hd (K H locs ls hR hL hS)
  · cases E
theorem ms_ifnonnull {off : Int} (C : mCx G l M mi p R s m meth c) (hd : decode M.2.1 pc = .ok (.ifnonnull off, len)) (hlen : mIL (.ifnonnull off) len = true) (E : mIns (.ifnonnull off) len G M mi pc L st h n k = some (.inl (pc', L', st', h', n', k'))) (K : mWt G M.2.2.1 p l e R s m args below meth c n0 k0 Q pc' L' st' h' n' k') : mWt G M.2.2.1 p l e R s m args below meth c n0 k0 Q pc L st h n k := by
  obtain ⟨hx, hb, hr, hml, hown, hlocks, hnm, hKn, htab, hRf, hRl, htr⟩ := C
  have hlen : len = 3 := by simpa [mIL] using hlen
  subst hlen
  dsimp only [mIns, mNx] at E
  split at E
  · cases E
    intro H locs ls hR hL hS
    exact lv_ifnonnullN hx hb hd (K H locs ls hR hL hS)
  · obtain ⟨ht, rfl, rfl, rfl, rfl, rfl⟩ := mJp_eq E
    intro H locs ls hR hL hS
    exact lv_ifnonnull hx hb hd ht (K H locs ls hR hL hS)
  · cases E
theorem ms_tableswitch {d lo hi : Int} {offs : Array Int} (C : mCx G l M mi p R s m meth c) (hd : decode M.2.1 pc = .ok (.tableswitch d lo hi offs, len)) (hlen : mIL (.tableswitch d lo hi offs) len = true) (E : mIns (.tableswitch d lo hi offs) len G M mi pc L st h n k = some (.inl (pc', L', st', h', n', k'))) (K : mWt G M.2.2.1 p l e R s m args below meth c n0 k0 Q pc' L' st' h' n' k') : mWt G M.2.2.1 p l e R s m args below meth c n0 k0 Q pc L st h n k := by
  obtain ⟨hx, hb, hr, hml, hown, hlocks, hnm, hKn, htab, hRf, hRl, htr⟩ := C
  dsimp only [mIns, mNx] at E
  split at E
  · split at E
    · rename_i hc
      obtain ⟨ht, rfl, rfl, rfl, rfl, rfl⟩ := mJp_eq E
      intro H locs ls hR hL hS
      exact lv_tableOut hx hb hd hc ht (K H locs ls hR hL hS)
    · rename_i hc
      split at E
      · rename_i off ho
        obtain ⟨ht, rfl, rfl, rfl, rfl, rfl⟩ := mJp_eq E
        intro H locs ls hR hL hS
        exact lv_tableIn hx hb hd (fun z => hc (Or.inl z)) (fun z => hc (Or.inr z)) ho ht (K H locs ls hR hL hS)
      · cases E
  · cases E
theorem ms_lookupswitch {d : Int} {ps : Array (Int × Int)} (C : mCx G l M mi p R s m meth c) (hd : decode M.2.1 pc = .ok (.lookupswitch d ps, len)) (hlen : mIL (.lookupswitch d ps) len = true) (E : mIns (.lookupswitch d ps) len G M mi pc L st h n k = some (.inl (pc', L', st', h', n', k'))) (K : mWt G M.2.2.1 p l e R s m args below meth c n0 k0 Q pc' L' st' h' n' k') : mWt G M.2.2.1 p l e R s m args below meth c n0 k0 Q pc L st h n k := by
  obtain ⟨hx, hb, hr, hml, hown, hlocks, hnm, hKn, htab, hRf, hRl, htr⟩ := C
  dsimp only [mIns, mNx] at E
  split at E
  · split at E
    · rename_i hc
      obtain ⟨ht, rfl, rfl, rfl, rfl, rfl⟩ := mJp_eq E
      intro H locs ls hR hL hS
      exact lv_lookup hx hb hd hc rfl ht (K H locs ls hR hL hS)
    · cases E
  · cases E
end MSS
