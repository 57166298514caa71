/-! The induction. -/
theorem mCat_spec {mi pc q hpc x : Nat} {M : mM} (hM : mTab[mi]? = some M) (h : mCat mi pc q = some (hpc, x)) : ∃ (E : String) (pre : List (Nat × Nat × Nat × Nat)) (y : Nat × Nat × Nat × Nat) (suf : List (Nat × Nat × Nat × Nat)), mExc[q]? = some E ∧ M.2.2.2.2.2 = pre ++ y :: suf ∧
    covers (mEn y) pc = true ∧ y.2.2.2 ≠ 0 ∧ Cond.classLink M.1.cls y.2.2.2 E ∈ lw_tbl ∧ Cond.castable E E ∈ lw_tbl ∧
    ((decode M.2.1 y.2.2.1 = .ok (.astore x, 2) ∧ hpc = y.2.2.1 + 2) ∨ (∃ k : Fin 4, k.val = x ∧ decode M.2.1 y.2.2.1 = .ok (.astore_n k, 1) ∧ hpc = y.2.2.1 + 1)) ∧
    (∀ z ∈ pre, z.2.2.2 ≠ 0 ∧ ∃ nm, (E, nm) ∈ mNcs ∧ Cond.classLink M.1.cls z.2.2.2 nm ∈ lw_tbl) := by
  have lm : ∀ {l : List ((Nat × Nat × Nat) × (Nat × Nat))} {k : Nat × Nat × Nat} {v : Nat × Nat}, l.lookup k = some v → (k, v) ∈ l := by
    intro l k v hk
    induction l with
    | nil => cases hk
    | cons a t ih =>
      obtain ⟨a1, a2⟩ := a
      rw [List.lookup_cons] at hk
      split at hk
      · rename_i hb
        have := eq_of_beq hb
        cases hk
        subst this
        exact List.mem_cons_self
      · exact List.mem_cons_of_mem _ (ih hk)
  obtain ⟨r, hr⟩ := zip_all (by decide +kernel) mCat_ok (lm h)
  unfold mCatOk at hr
  dsimp only at hr
  rw [hM] at hr
  split at hr
  · rename_i M' E e1 e2
    cases e1
    split at hr
    · rename_i y hy
      simp only [Bool.and_eq_true, beq_iff_eq, decide_eq_true_eq] at hr
      obtain ⟨⟨⟨⟨⟨⟨w1, w2⟩, w3⟩, w4⟩, w5⟩, w6⟩, w7⟩ := hr
      have hlt : r.1 < M.2.2.2.2.2.length := (List.getElem?_eq_some_iff.mp hy).1
      refine ⟨E, M.2.2.2.2.2.take r.1, y, M.2.2.2.2.2.drop (r.1 + 1), e2, ?_, by simpa [covers] using w1, w2, mInL (beq_iff_eq.mpr w3), mInL (beq_iff_eq.mpr w4), ?_, ?_⟩
      · have hg := (List.getElem?_eq_some_iff.mp hy).2
        rw [← hg, List.getElem_cons_drop, List.take_append_drop]
      · rw [Bool.or_eq_true] at w5
        rcases w5 with w5 | w5
        · simp only [Bool.and_eq_true, decide_eq_true_eq] at w5
          exact Or.inl w5
        · simp only [Bool.and_eq_true, decide_eq_true_eq] at w5
          refine Or.inr ⟨Fin.ofNat 4 x, ?_, w5.1.2, w5.2⟩
          simp [Fin.ofNat, Nat.mod_eq_of_lt w5.1.1]
      · intro z hz
        obtain ⟨u, hu⟩ := zip_all (by rw [w6]; exact Nat.le_refl _) w7 hz
        simp only [Bool.and_eq_true, beq_iff_eq, decide_eq_true_eq] at hu
        exact ⟨hu.1.1, u.2, List.contains_iff_mem.mp hu.1.2, mInL (beq_iff_eq.mpr hu.2)⟩
    · cases hr
  · cases hr
theorem mSt1_any {L L' : List Value} {x : Nat} {v : Value} (e : mSt1 L x .null = some L') (hv : v.category = 1) : mSt1 L x v = some (L.set x v) ∧ L' = L.set x .null := by
  unfold mSt1 at e ⊢
  split at e
  · rename_i hc
    cases e
    exact ⟨if_pos ⟨hc.1, hv, hc.2.2⟩, rfl⟩
  · cases e
/-- what the induction says of a run -/
def mSd (G : mG) (l : Launch) (mi pc : Nat) (L st : List Value) (h : mH) (n k : Nat) (r : Option Value ⊕ Nat) (h1 : mH) (n1 k1 : Nat) : Prop :=
  n ≤ n1 ∧ k ≤ k1 ∧ ∀ (M : mM), mTab[mi]? = some M → ∀ (p : Program) (e : Env) (R : Room) (s : State) (m : MethodId) (args : Array Value) (below : List Frame) (meth : Method) (c : Code) (n0 k0 : Nat),
    mCx G l M mi p R s m meth c → n0 ≤ n → k0 ≤ k → n1 - n0 ≤ R.cells → k1 - k0 ≤ R.slots →
    mWt G M.2.2.1 p l e R s m args below meth c n0 k0 (vx_MQ below (mQ9 G r h1 n1) (mX9 G r h1 n1) args s (n1 - n0) (k1 - k0) (mBA G)) pc L st h n k
/-- a method's contract out of its run -/
theorem mMet {G : mG} {l : Launch} (htr : l.stackTraces = false) {mj : Nat} {Mj : mM} (hMj : mTab[mj]? = some Mj) (hl : Mj.1 ≠ yL_law) {vs : List Value} (hfl : (mSpread vs).length ≤ Mj.2.2.1) {h h1 : mH} {n k n1 k1 : Nat} {r : Option Value ⊕ Nat}
    (S : mSd G l mj 0 (mEnt Mj.2.2.1 vs) [] h n k r h1 n1 k1) : vx_Met l Mj.1 [mCw Mj] (mRm mj (n1 - n) (k1 - k)) (mP9 G vs h n) (mQ9 G r h1 n1) (mX9 G r h1 n1) (n1 - n) (k1 - k) (mBA G) := by
  obtain ⟨d1, d2, d3, d4⟩ := mCd_spec hMj hl
  obtain ⟨s1, s2, s3⟩ := S
  have fin9 : ∀ (p : Program) (e : Env) (s : State) (m : MethodId) (args : Array Value) (below : List Frame) (meth : Method) (c : Code), mCx G l Mj mj p (mRm mj (n1 - n) (k1 - k)) s m meth c → mP9 G vs h n args s →
      W p l e (mRm mj (n1 - n) (k1 - k)) s m args below meth c s.heap [] 0 0 (vx_MQ below (mQ9 G r h1 n1) (mX9 G r h1 n1) args s (n1 - n) (k1 - k) (mBA G)) (entryFrame m args Mj.2.2.1) := by
    intro p e s m args below meth c C hP
    obtain ⟨rfl, hKn, hR⟩ := hP
    rw [lg_entry_eq]
    have := s3 Mj hMj p e (mRm mj (n1 - n) (k1 - k)) s m vs.toArray below meth c n k C (Nat.le_refl _) (Nat.le_refl _) (Nat.le_refl _) (Nat.le_refl _) s.heap [] _ hR (mLv_entry hfl) va_S.rf
    rw [Nat.sub_self, Nat.sub_self] at this
    exact this
  by_cases he : Mj.2.2.2.2.2 = []
  · have e9 : mCw Mj = Cond.code Mj.1 Mj.2.1 Mj.2.2.1 Mj.2.2.2.1 := by unfold mCw; rw [he]; rfl
    refine vx_ofW (cc := Mj.2.1) (maxL := Mj.2.2.1) (ret := Mj.2.2.2.1) (ws' := []) d4 (by rw [e9]) ?_
    intro p e s m args below meth c s₁ B hml htb hP
    refine fin9 p e s m args below meth c ⟨B.exec, B.bytes, B.returns, hml, findClass_of_methodNamed B.named, B.notSynchronized, (name_of_methodNamed B.named B.method).1, hP.2.1, ?_, Nat.le_refl _, Nat.le_refl _, htr⟩ hP
    rw [he]
    cases ht : c.exceptionTable.toList with
    | nil => rfl
    | cons a t => exact (htb a (by rw [ht]; exact List.mem_cons_self)).elim
  · have e9 : mCw Mj = Cond.codeWith Mj.1 Mj.2.1 Mj.2.2.1 Mj.2.2.2.1 Mj.2.2.2.2.2 := by
      unfold mCw
      rw [if_neg (by intro z; exact he (List.isEmpty_iff.mp z))]
    refine vx_ofWH (cc := Mj.2.1) (maxL := Mj.2.2.1) (ret := Mj.2.2.2.1) (hh := Mj.2.2.2.2.2) (ws' := []) d4 (by rw [e9]) ?_
    intro p e s m args below meth c s₁ B hml hP
    refine fin9 p e s m args below meth c ⟨B.exec, B.bytes, B.returns, hml, findClass_of_methodNamed B.named, B.notSynchronized, (name_of_methodNamed B.named B.method).1, hP.2.1, ?_, Nat.le_refl _, Nat.le_refl _, htr⟩ hP
    have hw : (Cond.codeWith Mj.1 Mj.2.1 Mj.2.2.1 Mj.2.2.2.1 Mj.2.2.2.2.2).before args s = true := by rw [← e9]; exact hP.2.1.word d1 (by rw [e9]; rfl)
    obtain ⟨m9, meth9, c9, hn9, g1, g2, -, -, g6, -⟩ := Cond.codeWith_spec hw
    cases Option.some.inj (hn9.symm.trans B.named)
    cases Option.some.inj (g1.symm.trans B.method)
    cases Option.some.inj (g2.symm.trans (Stand.of_body B).code)
    rw [← g6, List.map_map]
    exact (List.map_id' _).symm
/-- a call's values fit the callee's locals; nobody calls the law -/
theorem mCall_fit {G : mG} {mi pc len mj : Nat} {i : Instr} {M Mj : mM} {L st vs rs : List Value} {h : mH} {n k : Nat} (hM : mTab[mi]? = some M) (E : mIns i len G M mi pc L st h n k = some (.inr (.inl (mj, vs, rs)))) (hMj : mTab[mj]? = some Mj) : (mSpread vs).length ≤ Mj.2.2.1 ∧ Mj.1 ≠ yL_law := by
  have hown9 := mTab_own hM
  have hjl := mTab_lt hMj
  have key : mFitL mj vs = true ∧ ∃ x, mT M.2.2.2.2.1 x = some mj := by
    have hend := mIns_end E
    cases i with
    | invokevirtual x =>
      dsimp only [mIns, mNx] at E
      split at E
      · rename_i mj' hmj
        split at E
        · exfalso
          revert E
          (repeat' split) <;> (intro E; cases E)
        · split at E
          · split at E
            · split at E
              · split at E
                · rename_i hc2
                  cases E
                  exact ⟨hc2.2.2, x, hmj⟩
                · cases E
              · cases E
            · cases E
          · cases E
      · cases E
    | invokespecial x =>
      dsimp only [mIns, mNx] at E
      split at E
      · rename_i mj' hmj
        split at E
        · exfalso
          revert E
          (repeat' split) <;> (intro E; cases E)
        · split at E
          · split at E
            · split at E
              · rename_i hc2
                cases E
                exact ⟨hc2.2, x, hmj⟩
              · cases E
            · cases E
          · cases E
      · cases E
    | invokestatic x =>
      dsimp only [mIns, mNx] at E
      split at E
      · rename_i mj' hmj
        split at E
        · exfalso
          revert E
          (repeat' split) <;> (intro E; cases E)
        · split at E
          · exfalso
            revert E
            (repeat' split) <;> (intro E; cases E)
          · split at E
            · exfalso
              revert E
              (repeat' split) <;> (intro E; cases E)
            · split at E
              · rename_i hc
                cases E
                exact ⟨hc.2.2.2.2, x, hmj⟩
              · cases E
      · cases E
    | new x =>
      exfalso
      revert E
      dsimp only [mIns, mNx]
      (repeat' split) <;> (intro E; cases E)
    | return_ => exact absurd E (by dsimp only [mIns]; split <;> (intro q; cases q))
    | ireturn => exact absurd E (by dsimp only [mIns]; (repeat' split) <;> (intro q; cases q))
    | lreturn => exact absurd E (by dsimp only [mIns]; (repeat' split) <;> (intro q; cases q))
    | areturn => exact absurd E (by dsimp only [mIns]; (repeat' split) <;> (intro q; cases q))
    | _ => cases hend
  obtain ⟨h1, x, hx⟩ := key
  unfold mFitL at h1
  rw [hMj] at h1
  obtain ⟨Mj', hMj', hlaw, -⟩ := (mT_spec hx hown9).2 hjl
  cases hMj.symm.trans hMj'
  exact ⟨of_decide_eq_true h1, hlaw⟩
theorem mSound (G : mG) (l : Launch) (htr : l.stackTraces = false) : ∀ (f mi pc : Nat) (L st : List Value) (h : mH) (n k : Nat) (r : Option Value ⊕ Nat) (h1 : mH) (n1 k1 : Nat), mRun G f mi pc L st h n k = some (r, h1, n1, k1) → mSd G l mi pc L st h n k r h1 n1 k1 := by
  intro f
  induction f with
  | zero => intro mi pc L st h n k r h1 n1 k1 E; cases E
  | succ f ih =>
    intro mi pc L st h n k r h1 n1 k1 E
    unfold mRun at E
    cases hs : mStep G mi pc L st h n k with
    | none => rw [hs] at E; cases E
    | some z =>
      rw [hs] at E
      unfold mStep at hs
      cases hM : mTab[mi]? with
      | none => rw [hM] at hs; cases hs
      | some M =>
        rw [hM] at hs
        dsimp only at hs
        cases hd : decode M.2.1 pc with
        | error _ => rw [hd] at hs; cases hs
        | ok il =>
          obtain ⟨i, len⟩ := il
          rw [hd] at hs
          dsimp only at hs
          split at hs
          · rename_i hlen
            rcases z with ⟨pc', L', st', h', n', k'⟩ | ⟨mj, vs, rs⟩ | v | x
            · obtain ⟨s1, s2, s3⟩ := ih _ _ _ _ _ _ _ _ _ _ _ E
              obtain ⟨g1, g2⟩ := mIns_grow hs
              refine ⟨Nat.le_trans g1 s1, Nat.le_trans g2 s2, ?_⟩
              intro M' hM' p e R s m args below meth c n0 k0 C hn0 hk0 hc hsl
              cases hM.symm.trans hM'
              exact ms_all hM C hd hlen hs hn0 hk0 (by omega) (by omega) (s3 M hM p e R s m args below meth c n0 k0 C (by omega) (by omega) hc hsl)
            · dsimp only at E
              cases hMj : mTab[mj]? with
              | none => rw [hMj] at E; cases E
              | some Mj =>
                rw [hMj] at E
                dsimp only at E
                cases hr : mRun G f mj 0 (mEnt Mj.2.2.1 vs) [] h n k with
                | none => rw [hr] at E; cases E
                | some y =>
                  rw [hr] at E
                  obtain ⟨res, h2, n2, k2⟩ := y
                  have S2 := ih _ _ _ _ _ _ _ _ _ _ _ hr
                  have hS1 := S2.1
                  have hS2 := S2.2.1
                  have hcall : ∀ (p : Program) (e : Env) (R : Room) (s : State) (m : MethodId) (args : Array Value) (below : List Frame) (meth : Method) (c : Code) (cells slots : Nat), mCx G l M mi p R s m meth c → cells + (n2 - n) ≤ R.cells → slots + (k2 - k) ≤ R.slots →
                      ∀ (H : Heap) (locs : List Loc) (ls : Array Slot), mRep G s h n H → mLv ls M.2.2.1 L → va_S (mBA G) s.heap H locs →
                      vx_Run p l e R s m args below meth c H locs cells slots (n2 - n) (k2 - k) (F0 m pc ls st) rs (mQ9 G res h2 n2 vs.toArray) (mX9 G res h2 n2) (mBA G) := by
                    intro p e R s m args below meth c cells slots C hc hsl H locs ls hR hL hS
                    have hfit := mCall_fit hM hs hMj
                    exact ms_call hM C hd hlen hs hMj (mMet htr hMj hfit.2 hfit.1 S2) hR hL hS ⟨hc, hsl⟩
                  have keepS : ∀ {s st₀ t T' : State} {H : Heap} {locs L9 : List Loc}, st₀.heap = H → T'.heap = t.heap → va_F (mBA G) st₀ t → va_S (mBA G) s.heap H locs → (∀ q ∈ L9, mBA G q.base) → va_S (mBA G) s.heap T'.heap (locs ++ L9) := by
                    intro s st₀ t T' H locs L9 e0 e1 hF hS hL9
                    obtain ⟨f1, f2⟩ := hF
                    rw [e0] at f1 f2
                    rw [e1]
                    refine ⟨Nat.le_trans hS.1 f1, fun q q1 q2 => (f2 q (Nat.lt_of_lt_of_le q1 hS.1) q2).trans (hS.2.1 q q1 q2), fun q hq => ?_⟩
                    rcases List.mem_append.mp hq with h9 | h9
                    · exact hS.2.2 q h9
                    · exact hL9 q h9
                  rcases res with v | x
                  · dsimp only at E
                    obtain ⟨s1, s2, s3⟩ := ih _ _ _ _ _ _ _ _ _ _ _ E
                    refine ⟨by omega, by omega, ?_⟩
                    intro M' hM' p e R s m args below meth c n0 k0 C hn0 hk0 hc hsl
                    cases hM.symm.trans hM'
                    have hgo := s3 M hM p e R s m args below meth c n0 k0 C (by omega) (by omega) hc hsl
                    intro H locs ls hR hL hS T hT X
                    have e9 : n - n0 + (n2 - n) = n2 - n0 := by omega
                    have e10 : k - k0 + (k2 - k) = k2 - k0 := by omega
                    rcases hcall p e R s m args below meth c (n - n0) (k - k0) C (by omega) (by omega) H locs ls hR hL hS T hT X with ⟨v', st₀, t, T', L9, q1, q2, q3, q4, q5, q6, q7⟩ | ⟨q, st₀, t, T', L9, EE, ce, q1, q2, q3, q4, q5, q6, -⟩
                    · obtain ⟨⟨v9, g1, g2⟩, g3, g4⟩ := q6
                      cases g1
                      cases g2
                      rw [e9, e10] at q2
                      have hal : t.vm.Alike s.vm := by rw [← q5]; exact q2.warmed.alike.symm
                      obtain ⟨t2, a1, b1⟩ := hgo T'.heap (locs ++ L9) ls (by rw [q4]; exact g3.moved hal) hL (keepS q1 q4 g4 hS q3) T' rfl q2
                      exact ⟨t2, q7 t2 a1, b1⟩
                    · obtain ⟨⟨x9, g1, -⟩, -⟩ := q6
                      cases g1
                  · dsimp only at E
                    cases hcat : mCat mi pc x with
                    | none => rw [hcat] at E; cases E
                    | some hx9 =>
                      obtain ⟨hpc, xl⟩ := hx9
                      rw [hcat] at E
                      dsimp only at E
                      cases hst9 : mSt1 L xl .null with
                      | none => rw [hst9] at E; cases E
                      | some L' =>
                        rw [hst9] at E
                        dsimp only at E
                        obtain ⟨s1, s2, s3⟩ := ih _ _ _ _ _ _ _ _ _ _ _ E
                        refine ⟨by omega, by omega, ?_⟩
                        intro M' hM' p e R s m args below meth c n0 k0 C hn0 hk0 hc hsl
                        cases hM.symm.trans hM'
                        have hgo := s3 M hM p e R s m args below meth c n0 k0 C (by omega) (by omega) hc hsl
                        intro H locs ls hR hL hS T hT X
                        have e9 : n - n0 + (n2 - n) = n2 - n0 := by omega
                        have e10 : k - k0 + (k2 - k) = k2 - k0 := by omega
                        rcases hcall p e R s m args below meth c (n - n0) (k - k0) C (by omega) (by omega) H locs ls hR hL hS T hT X with ⟨v', st₀, t, T', L9, q1, q2, q3, q4, q5, q6, q7⟩ | ⟨q, st₀, t, T', L9, EE, ce, q1, q2, q3, q4, q5, q6, q7, q8, q9, q10⟩
                        · obtain ⟨⟨v9, g1, -⟩, -⟩ := q6
                          cases g1
                        · obtain ⟨⟨x9, g1, g2⟩, g3, g4⟩ := q6
                          cases g1
                          rw [e9, e10] at q2
                          have hal : t.vm.Alike s.vm := by rw [← q5]; exact q2.warmed.alike.symm
                          obtain ⟨hx, hb, hr0, hml, hown, hlocks, hnm, hKn, htab, hRf, hRl, -⟩ := id C
                          obtain ⟨E', pre, y, suf, w1, w2, w3, w4, w5, w6, w7, w8⟩ := mCat_spec hM hcat
                          cases Option.some.inj (w1.symm.trans g2)
                          have hsplit : c.exceptionTable.toList = pre.map mEn ++ mEn y :: suf.map mEn := by
                            rw [htab, w2, List.map_append, List.map_cons]
                            rfl
                          obtain ⟨hst1, hL'⟩ := mSt1_any (v := .ref q) hst9 rfl
                          subst hL'
                          have hset : (L.set xl .null).set xl mU = (L.set xl (.ref q)).set xl mU := by rw [List.set_set, List.set_set]
                          rw [hset] at hgo
                          have hW9 : W p l e R s m args below meth c T'.heap (locs ++ L9) (n2 - n0) (k2 - k0) (vx_MQ below (mQ9 G r h1 n1) (mX9 G r h1 n1) args s (n1 - n0) (k1 - k0) (mBA G)) (F0 m (mEn y).handlerPc ls [.ref q]) := by
                            rcases w7 with ⟨w7, rfl⟩ | ⟨k9, rfl, w7, rfl⟩
                            · exact lv_astore hx hb w7 hL.1 (by rw [← hL.2]; exact mSt1_lt hst1) rfl (fun ls2 g9 => hgo T'.heap (locs ++ L9) ls2 (by rw [q4]; exact g3.moved hal) ((hL.set1 hst1 g9).drop xl) (keepS q1 q4 g4 hS q3))
                            · exact lv_astore_n hx hb w7 rfl hL.1 (by rw [← hL.2]; exact mSt1_lt hst1) rfl (fun ls2 g9 => hgo T'.heap (locs ++ L9) ls2 (by rw [q4]; exact g3.moved hal) ((hL.set1 hst1 g9).drop k9.val) (keepS q1 q4 g4 hS q3))
                          have hcatch := vx_catch (ls := ls) (rest := rs) (pc := pc) (E := EE) (ce := ce) (q := q) (name := EE) hown (pre.map mEn) (mEn y) (suf.map mEn) hsplit
                            (fun z hz => by
                              obtain ⟨z0, hz0, rfl⟩ := List.mem_map.mp hz
                              obtain ⟨u1, nm, u2, u3⟩ := w8 z0 hz0
                              exact Or.inr ⟨u1, nm, hKn.word u3 rfl, hKn.2.2.2.2.2.2.2.2.2 _ u2⟩) w3 w4 (hKn.word w5 rfl) (hKn.word w6 rfl) (by rw [q4]; exact q7) q8 q9 hW9
                          obtain ⟨t2, a1, b1⟩ := hcatch T' rfl q2
                          exact ⟨t2, q10.trans a1, b1⟩
            · cases E
              refine ⟨Nat.le_refl _, Nat.le_refl _, ?_⟩
              intro M' hM' p e R s m args below meth c n0 k0 C hn0 hk0 hc hsl
              cases hM.symm.trans hM'
              have hi : i = .return_ ∨ i = .ireturn ∨ i = .lreturn ∨ i = .areturn := by
                have he := mIns_end hs
                cases i <;> first
                  | (cases he; done)
                  | (simp; done)
                  | (exfalso; revert hs; dsimp only [mIns, mNx]; (repeat' split) <;> (intro q; cases q))
              exact ms_ret C hd hlen hs hi
            · cases E
              refine ⟨by omega, by omega, ?_⟩
              intro M' hM' p e R s m args below meth c n0 k0 C hn0 hk0 hc hsl
              cases hM.symm.trans hM'
              have hi : ∃ x9, i = .new x9 := by
                have he := mIns_end hs
                cases i <;> first
                  | (cases he; done)
                  | exact ⟨_, rfl⟩
                  | (exfalso; revert hs; dsimp only [mIns, mNx]; (repeat' split) <;> (intro q; cases q))
              obtain ⟨x9, rfl⟩ := hi
              exact ms_thr hM C hd hs hn0 hk0 hc hsl
          · cases hs
