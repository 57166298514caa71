/-! THE MACHINE OF THE STATEMENT GOES AS THE PURE ONE: the theorem. -/
theorem mSpread_len : ∀ vs : List Value, (mSpread vs).length = (lg_sl vs).length
  | [] => rfl
  | v :: t => by
    unfold mSpread lg_sl
    have ih := mSpread_len t
    unfold lg_sl at ih
    rw [List.flatMap_cons, List.length_append]
    split <;> simp [ih] <;> omega
theorem mSpread_at : ∀ (vs : List Value) (i j : Nat) (w : Value), (mSpread vs)[j]? = some w → w ≠ mU → (i + j, w) ∈ lv_args i vs
  | [], i, j, w, h, _ => by simp [mSpread] at h
  | v :: t, i, j, w, h, hw => by
    unfold mSpread at h
    unfold lv_args
    by_cases hc : v.category = 2
    · rw [if_pos hc] at h ⊢
      match j, h with
      | 0, h => cases h; exact List.mem_cons_self
      | 1, h => cases h; exact absurd rfl hw
      | j + 2, h =>
        have := mSpread_at t (i + 2) j w h hw
        rw [show i + (j + 2) = i + 2 + j by omega]
        exact List.mem_cons_of_mem _ this
    · rw [if_neg hc] at h ⊢
      match j, h with
      | 0, h => cases h; exact List.mem_cons_self
      | j + 1, h =>
        have := mSpread_at t (i + 1) j w h hw
        rw [show i + (j + 1) = i + 1 + j by omega]
        exact List.mem_cons_of_mem _ this
theorem mLv_entry {vs : List Value} {nL : Nat} (h : (mSpread vs).length ≤ nL) : mLv ((lg_sl vs ++ List.replicate (nL - (lg_sl vs).length) Slot.unset).toArray) nL (mEnt nL vs) := by
  have he := lv_entry vs (n := nL) (by rw [← mSpread_len]; exact h)
  refine ⟨⟨he.1, he.2.1, fun q hq => ?_⟩, by unfold mEnt; simp; omega⟩
  obtain ⟨j, w⟩ := q
  obtain ⟨h1, h2⟩ := mAs_mem.mp hq
  refine he.2.2 (j, w) ?_
  unfold mEnt at h1
  by_cases hj : j < (mSpread vs).length
  · rw [List.getElem?_append_left hj] at h1
    have := mSpread_at vs 0 j w h1 h2
    rwa [Nat.zero_add] at this
  · rw [List.getElem?_append_right (by omega), List.getElem?_replicate] at h1
    split at h1
    · cases h1; exact absurd rfl h2
    · cases h1
theorem mLv.drop {ls : Array Slot} {nL : Nat} {L : List Value} (h : mLv ls nL L) (x : Nat) : mLv ls nL (L.set x mU) := by
  refine ⟨⟨h.1.1, h.1.2.1, fun q hq => ?_⟩, by rw [List.length_set]; exact h.2⟩
  obtain ⟨j, w⟩ := q
  obtain ⟨h1, h2⟩ := mAs_mem.mp hq
  rw [List.getElem?_set] at h1
  split at h1
  · split at h1
    · cases h1; exact absurd rfl h2
    · cases h1
  · exact h.1.2.2 (j, w) (mAs_mem.mpr ⟨h1, h2⟩)
/-- what a method's end says -/
def mQ9 (G : mG) (r : Option Value ⊕ Nat) (h : mH) (n : Nat) : Array Value → State → Outcome → State → Prop := fun _ st o t => (∃ v, r = .inl v ∧ o = .returned v) ∧ mRep G t h n t.heap ∧ va_F (mBA G) st t
def mX9 (G : mG) (r : Option Value ⊕ Nat) (h : mH) (n : Nat) : String → State → State → Prop := fun E st t => (∃ x, r = .inr x ∧ mExc[x]? = some E) ∧ mRep G t h n t.heap ∧ va_F (mBA G) st t
def mP9 (G : mG) (vs : List Value) (h : mH) (n : Nat) : Array Value → State → Prop := fun a U => a = vs.toArray ∧ mKn G U ∧ mRep G U h n U.heap
theorem mP9_blind {G : mG} {vs : List Value} {h : mH} {n : Nat} : FrameBlind (mP9 G vs h n) := by
  intro a U g mk q
  obtain ⟨q1, q2, q3⟩ := q
  exact ⟨q1, q2.go (U := U.calling g mk a) (State.WarmedH.refl U) (Nat.le_refl _) (fun _ _ _ => rfl), q3.moved (U := U.calling g mk a) (Vm.Alike.refl U.vm)⟩
section MMM
variable {G : mG} {l : Launch} {p : Program} {e : Env} {R : Room} {s : State} {m : MethodId} {args : Array Value} {below : List Frame} {meth : Method} {c : Code} {n0 k0 : Nat} {M : mM} {mi pc len : Nat} {L st : List Value} {h : mH} {n k : Nat}
/-- a return -/
theorem ms_ret {i : Instr} {v : Option Value} (C : mCx G l M mi p R s m meth c) (hd : decode M.2.1 pc = .ok (i, len)) (hlen : mIL i len = true) (E : mIns i len G M mi pc L st h n k = some (.inr (.inr (.inl v)))) (hi : i = .return_ ∨ i = .ireturn ∨ i = .lreturn ∨ i = .areturn) :
    mWt G M.2.2.1 p l e R s m args below meth c n0 k0 (vx_MQ below (mQ9 G (.inl v) h n) (mX9 G (.inl v) h n) args s (n - n0) (k - k0) (mBA G)) pc L st h n k := by
  obtain ⟨hx, hb, hr, hml, hown, hlocks, hnm, hKn, htab, hRf, hRl, htr⟩ := C
  have post : ∀ {H : Heap} {locs : List Loc}, mRep G s h n H → va_S (mBA G) s.heap H locs → ∀ t : State, t.heap = H → s.WarmedH t.vm → mQ9 G (.inl v) h n args s (.returned v) t := by
    intro H locs hR hS t ht hW
    exact ⟨⟨v, rfl, rfl⟩, by rw [ht]; exact hR.moved hW.alike, hS.F ht⟩
  rcases hi with rfl | rfl | rfl | rfl
  · have hlen : len = 1 := by simpa [mIL] using hlen
    subst hlen
    dsimp only [mIns] at E
    split at E
    · rename_i hc
      obtain ⟨hc1, rfl⟩ := hc
      cases E
      intro H locs ls hR hL hS
      exact vx_ret (W.vret hx hb (hr.trans hc1) (post hR hS) hS.2.2 hd hlocks)
    · cases E
  · have hlen : len = 1 := by simpa [mIL] using hlen
    subst hlen
    dsimp only [mIns] at E
    split at E
    · rename_i v9 hrt
      cases E
      intro H locs ls hR hL hS
      exact vx_ret (W.iret hx hb (hr.trans hrt) (post hR hS) hS.2.2 hd hlocks)
    · rename_i v9 hrt
      split at E
      · rename_i hv
        cases E
        intro H locs ls hR hL hS
        exact vx_ret (W.zret hx hb (hr.trans hrt) (by rcases hv with rfl | rfl <;> decide) (post hR hS) hS.2.2 hd hlocks)
      · cases E
    · cases E
  · have hlen : len = 1 := by simpa [mIL] using hlen
    subst hlen
    dsimp only [mIns] at E
    split at E
    · rename_i v9 hrt
      cases E
      intro H locs ls hR hL hS
      exact vx_ret (W.lret hx hb (hr.trans hrt) (post hR hS) hS.2.2 hd hlocks)
    · cases E
  · have hlen : len = 1 := by simpa [mIL] using hlen
    subst hlen
    dsimp only [mIns] at E
    split at E
    · rename_i nm v9 hrt
      cases E
      intro H locs ls hR hL hS
      exact vx_ret (W.aret hx hb (hr.trans hrt) (Or.inl ⟨_, rfl⟩) (Or.inr ⟨_, rfl⟩) (post hR hS) hS.2.2 hd hlocks)
    · rename_i nm v9 hrt
      cases E
      intro H locs ls hR hL hS
      exact vx_ret (W.aret hx hb (hr.trans hrt) (Or.inr ⟨_, rfl⟩) (Or.inr ⟨_, rfl⟩) (post hR hS) hS.2.2 hd hlocks)
    · rename_i nm hrt
      cases E
      intro H locs ls hR hL hS
      exact vx_ret (W.aret hx hb (hr.trans hrt) (Or.inl ⟨_, rfl⟩) (Or.inl rfl) (post hR hS) hS.2.2 hd hlocks)
    · rename_i nm hrt
      cases E
      intro H locs ls hR hL hS
      exact vx_ret (W.aret hx hb (hr.trans hrt) (Or.inr ⟨_, rfl⟩) (Or.inl rfl) (post hR hS) hS.2.2 hd hlocks)
    · cases E
/-- a throw -/
theorem ms_thr {x q : Nat} (hM : mTab[mi]? = some M) (C : mCx G l M mi p R s m meth c) (hd : decode M.2.1 pc = .ok (.new x, len)) (E : mIns (.new x) len G M mi pc L st h n k = some (.inr (.inr (.inr q)))) (hn0 : n0 ≤ n) (hk0 : k0 ≤ k) (hcells : n + 1 - n0 ≤ R.cells) (hslots : k + 6 - k0 ≤ R.slots) :
    mWt G M.2.2.1 p l e R s m args below meth c n0 k0 (vx_MQ below (mQ9 G (.inr q) h (n + 1)) (mX9 G (.inr q) h (n + 1)) args s (n + 1 - n0) (k + 6 - k0) (mBA G)) pc L st h n k := by
  obtain ⟨hx, hb, hr, hml, hown, hlocks, hnm, hKn, htab, hRf, hRl, htr⟩ := C
  dsimp only [mIns, mNx] at E
  split at E
  · cases E
  · split at E
    · rename_i x9 hx9
      split at E
      · rename_i hc
        obtain ⟨hcat, hroom⟩ := hc
        cases E
        intro H locs ls hR hL hS
        have hroom := of_decide_eq_true hroom
        unfold mCats at hcat
        obtain ⟨rr, hrr⟩ := zip_all (by decide +kernel) xT_ok (lookup_mem hx9)
        unfold mXok at hrr
        dsimp only at hrr
        rw [hM] at hrr
        split at hrr
        · rename_i M' E' ic' e1 e2 e3
          cases e1
          simp only [Bool.and_eq_true, beq_iff_eq, decide_eq_true_eq] at hrr
          obtain ⟨⟨⟨⟨⟨⟨⟨⟨⟨w1, w2⟩, w3⟩, w4⟩, w5⟩, w6⟩, w7⟩, w8⟩, w9⟩, w10⟩ := hrr
          have hemp : ∀ z ∈ c.exceptionTable.toList, ∀ pc9, covers z pc9 = false := by
            intro z hz
            rw [htab, List.isEmpty_iff.mp w3] at hz
            cases hz
          obtain ⟨sa, hsa⟩ := hKn.2.2.2.2.2.2.1 _ (List.contains_iff_mem.mp w7)
          rw [w2] at hown
          have hx0 : ∀ t : State, s.vm.Alike t.vm → t.heap.size = H.size + 1 → (∀ z : Nat, z < H.size → t.heap[z]? = H[z]?) → mX9 G (.inr q) h (n + 1) E' s t := by
            intro t hal hsz hsame
            refine ⟨⟨q, rfl, e2⟩, ⟨by rw [hsz, hR.1], fun a9 e9 h9 => ?_⟩, ⟨by rw [hsz]; exact Nat.le_trans hS.1 (Nat.le_succ _), fun z h1 h2 => ?_⟩⟩
            · exact ((hR.2 a9 e9 h9).kept (hsame a9 (hR.2 a9 e9 h9).lt)).moved hal
            · rw [hsame z (Nat.lt_of_lt_of_le h1 hS.1)]
              exact hS.2.1 z h1 h2
          have c1 : n - n0 + 1 ≤ R.cells := by omega
          have c2 : k - k0 + 6 ≤ R.slots := by omega
          have c3 : n - n0 + 1 ≤ n + 1 - n0 := by omega
          have c4 : k - k0 + 6 ≤ k + 6 - k0 := by omega
          by_cases h3 : q = 3
          · rw [h3] at w1 e2 e3
            cases e2
            cases e3
            simp only [decide_true] at w1
            rw [if_pos w1] at w6
            simp only [Bool.and_eq_true, decide_eq_true_eq] at w6
            exact mx_throwG hx hb htr hown mNs_0 mNs_1 mNs_2 mNs_5 w10 (by decide +kernel) (by decide +kernel) (hKn.word (mInL (beq_iff_eq.mpr w8)) rfl) (hKn.word (mInL (beq_iff_eq.mpr w9)) rfl) hsa
              (fun w hw => hKn.word ((mXwA mXw_3) w hw).1 ((mXwA mXw_3) w hw).2.1)
              (fun w hw => by
                rcases List.mem_cons.mp hw with rfl | hw
                · rfl
                · rcases List.mem_cons.mp hw with rfl | hw
                  · rfl
                  · exact ((mXwA mXw_3) w hw).2.2)
              hKn.2.2.2.2.1 hKn.2.2.2.2.2.1 hS (hL.1.1.trans hml.symm) w4 w5 w6.1.1 w6.1.2 w6.2 (fun z hz => hemp z hz _) (by show 1 + 4 < _; omega) (by show _ + (13 * (1 + 2) + 43) ≤ _; omega) c1 c2 hlocks hx0 hS.2.2 c3 c4
          · simp only [h3, decide_false] at w1
            rw [if_neg (by rw [w1]; decide)] at w6
            simp only [Bool.and_eq_true, decide_eq_true_eq] at w6
            exact mx_throwS hx hb htr hown w10 (by decide +kernel : ∀ n ∈ mXnm, Bundle.fit n = true) (hKn.word (mInL (beq_iff_eq.mpr w8)) rfl) (hKn.word (mInL (beq_iff_eq.mpr w9)) rfl) hsa
              (fun w hw => hKn.word ((mXw h3 e2 e3) w hw).1 ((mXw h3 e2 e3) w hw).2.1)
              (fun w hw => by
                rcases List.mem_cons.mp hw with rfl | hw
                · rfl
                · rcases List.mem_cons.mp hw with rfl | hw
                  · rfl
                  · exact ((mXw h3 e2 e3) w hw).2.2)
              hKn.2.2.2.2.1 hKn.2.2.2.2.2.1 hS (hL.1.1.trans hml.symm) w4 w5 w6.1.1 w6.1.2 w6.2 (fun z hz => hemp z hz _) (by show 2 + 3 < _; omega) (by show _ + (13 * (2 + 1) + 43) ≤ _; omega) c1 c2 hlocks hx0 hS.2.2 c3 c4
        · cases hrr
      · cases E
    · cases E
end MMM
