/-! Steps on the heap. -/
section MSH
variable {G : mG} {p : Program} {l : Launch} {e : Env} {R : Room} {s : State} {m : MethodId} {args : Array Value} {below : List Frame} {meth : Method} {c : Code} {n0 k0 : Nat} {Q : State → Prop} {M : mM} {mi pc len : Nat} {L st : List Value} {h : mH} {n k : Nat} {pc' : Nat} {L' st' : List Value} {h' : mH} {n' k' : Nat}
theorem fT_spec {c9 x ci j : Nat} {own : String} (h : fT c9 x = some (ci, j)) (ho : mOwn[c9]? = some own) : ∃ (C : String) (T : u_T) (N : Nat), vwCl[ci]? = some (C, T, N) ∧ j < N ∧
    (Cond.fieldLink own x (T j).1 (T j).2.1 (T j).2.2.1 ∈ lw_tbl ∨ (Cond.fieldLink own x C (T j).2.1 (T j).2.2.1 ∈ lw_tbl ∧ Cond.sameField C (T j).1 (T j).2.1 (T j).2.2.1 ∈ lw_tbl) ∨ Cond.fieldLinkNest own x (T j).1 (T j).2.1 (T j).2.2.1 "ChipCard" ∈ lw_tbl) := by
  obtain ⟨r, hr⟩ := zip_all (by decide +kernel) fT_ok (lookup_mem h)
  unfold mFok at hr
  dsimp only at hr
  rw [ho] at hr
  split at hr
  · rename_i own' C T N e1 e2
    cases e1
    rw [Bool.and_eq_true] at hr
    refine ⟨C, T, N, e2, of_decide_eq_true hr.1, ?_⟩
    have h2 := hr.2
    split at h2
    · exact Or.inl (mIn h2)
    · rw [Bool.and_eq_true] at h2
      exact Or.inr (Or.inl ⟨mIn h2.1, mIn h2.2⟩)
    · exact Or.inr (Or.inr (mIn h2))
  · cases hr
theorem kT_spec {c9 x : Nat} {v : Int32} {own : String} (h : kT c9 x = some v) (ho : mOwn[c9]? = some own) : Cond.constant own x v ∈ lw_tbl := by
  obtain ⟨r, hr⟩ := zip_all (by decide +kernel) kT_ok (lookup_mem h)
  unfold mKok at hr
  dsimp only at hr
  rw [ho] at hr
  exact mIn hr
theorem jT_spec {c9 x : Nat} {v : Int64} {own : String} (h : jT c9 x = some v) (ho : mOwn[c9]? = some own) : Cond.constantLong own x v ∈ lw_tbl := by
  obtain ⟨r, hr⟩ := zip_all (by decide +kernel) jT_ok (lookup_mem h)
  unfold mJok at hr
  dsimp only at hr
  rw [ho] at hr
  exact mIn hr
theorem cT_spec {c9 x ci : Nat} {own : String} (h : cT c9 x = some ci) (ho : mOwn[c9]? = some own) : ∃ (C : String) (T : u_T) (N : Nat), vwCl[ci]? = some (C, T, N) ∧ Cond.classLink own x C ∈ lw_tbl ∧ Cond.instantiable C N ∈ lw_tbl ∧ Cond.initialized C ∈ lw_tbl := by
  obtain ⟨r, hr⟩ := zip_all (by decide +kernel) cT_ok (lookup_mem h)
  unfold mCok at hr
  dsimp only at hr
  rw [ho] at hr
  split at hr
  · rename_i own' C T N e1 e2
    cases e1
    rw [Bool.and_eq_true, Bool.and_eq_true] at hr
    exact ⟨C, T, N, e2, mIn hr.1.1, mIn hr.1.2, mIn hr.2⟩
  · cases hr
theorem aT_spec {c9 x t : Nat} {own : String} (h : aT c9 x = some t) (ho : mOwn[c9]? = some own) : (t = 3 ∧ Cond.classLink own x "ChipCard$Row" ∈ lw_tbl) ∨ (t = 4 ∧ Cond.classLink own x "java/lang/Object" ∈ lw_tbl) := by
  obtain ⟨r, hr⟩ := zip_all (by decide +kernel) aT_ok (lookup_mem h)
  unfold mAok at hr
  dsimp only at hr
  rw [ho] at hr
  dsimp only at hr
  rw [Bool.or_eq_true, Bool.and_eq_true, Bool.and_eq_true] at hr
  rcases hr with h1 | h1
  · exact Or.inl ⟨of_decide_eq_true h1.1, mIn h1.2⟩
  · exact Or.inr ⟨of_decide_eq_true h1.1, mIn h1.2⟩
theorem sT_spec {c9 x j : Nat} {own : String} (h : sT c9 x = some j) (ho : mOwn[c9]? = some own) : ∃ z ∈ mSta, z.1 = j ∧ (Cond.fieldLink own x z.2.1 z.2.2.1 z.2.2.2 ∈ lw_tbl ∨ Cond.fieldLinkNest own x z.2.1 z.2.2.1 z.2.2.2 "ChipCard" ∈ lw_tbl) := by
  obtain ⟨r, hr⟩ := zip_all (by decide +kernel) sT_ok (lookup_mem h)
  unfold mSok at hr
  dsimp only at hr
  rw [ho] at hr
  split at hr
  · rename_i own' z e1 e2
    cases e1
    rw [Bool.and_eq_true] at hr
    refine ⟨z, List.mem_of_getElem? e2, of_decide_eq_true hr.1, ?_⟩
    have h2 := hr.2
    split at h2
    · exact Or.inl (mIn h2)
    · exact Or.inr (mIn h2)
  · cases hr
theorem mArr0 : Cond.arrayClass .int ∈ lw_tbl := mIn (i := 51) (by decide +kernel)
theorem mArr1 : Cond.arrayClass .boolean ∈ lw_tbl := mIn (i := 464) (by decide +kernel)
theorem mArr2 : Cond.arrayClass .long ∈ lw_tbl := mIn (i := 1968) (by decide +kernel)
theorem mMir : Cond.classLink "java/util/Arrays" mirIx "[Ljava/lang/Object;" ∈ lw_tbl := mIn (i := 230) (by decide +kernel)
theorem vp_in_of' {i : Int32} {N : Nat} (h0 : ¬ i < 0) (h1 : i.toNatClampNeg < N) : vp_in i N := fun z => z.elim h0 (fun q => absurd h1 (Nat.not_lt.mpr q))
theorem va_S.put' {A : Nat → Prop} {H0 H H1 : Heap} {locs : List Loc} {a k : Nat} (h : va_S A H0 H locs) (z : H1.size = H.size) (oq : ∀ q : Nat, q ≠ a → H1[q]? = H[q]?) (ha : A a) : va_S A H0 H1 (locs ++ [⟨a, k⟩]) := h.put z oq ha
theorem va_S.new' {A : Nat → Prop} {H0 H H1 : Heap} {locs : List Loc} (h : va_S A H0 H locs) (z : H1.size = H.size + 1) (oq : ∀ q : Nat, q < H.size → H1[q]? = H[q]?) : va_S A H0 H1 locs :=
  ⟨Nat.le_trans h.1 (by omega), fun q h1 h2 => (oq q (Nat.lt_of_lt_of_le h1 h.1)).trans (h.2.1 q h1 h2), h.2.2⟩
/-- every described object is some Object -/
theorem mAny {ci y : Nat} {fs : List Value} {H : Heap} (hKn : mKn G s) (ha : mAt G s (mO ci fs) y H) : va_Any "java/lang/Object" s H y := by
  have ha' : va_at G.1 vwCl (y, .inr (ci, fs)) H := ha
  obtain ⟨r, hr, -⟩ := id ha'
  refine va_rAny hKn.2.1 (mOne ha') (q0 := 0) rfl hr (fun comp c0 h1 h2 => ?_)
  have hw := hKn.word (A := #[]) (mCast_ok r (List.mem_of_getElem? hr)) rfl
  obtain ⟨c3, c4, hc3, hc4, hasg⟩ := Cond.castable_spec hw
  cases Option.some.inj (hc3.symm.trans h2)
  cases Option.some.inj (hc4.symm.trans h1)
  exact hasg

theorem ms_ldc {x : Nat} (hM : mTab[mi]? = some M) (C : mCx G l M mi p R s m meth c) (hd : decode M.2.1 pc = .ok (.ldc x, len)) (hlen : mIL (.ldc x) len = true) (E : mIns (.ldc x) len G M mi pc L st h n k = some (.inl (pc', L', st', h', n', k'))) (K : mWt G M.2.2.1 p l e R s m args below meth c n0 k0 Q pc' L' st' h' n' k') : mWt G M.2.2.1 p l e R s m args below meth c n0 k0 Q pc L st h n k := by
  obtain ⟨hx, hb, hr, hml, hown, hlocks, hnm, hKn, htab, hRf, hRl, htr⟩ := C
  have hlen : len = 2 := by simpa [mIL] using hlen
  subst hlen
  dsimp only [mIns, mNx] at E
  have hown9 := mTab_own hM
  split at E
  · rename_i v hv
    cases E
    intro H locs ls hR hL hS
    exact lv_ldc hx hb hown (hKn.word (kT_spec hv hown9) rfl) hd (K H locs ls hR hL hS)
  · split at E
    · rename_i hc
      cases E
      intro H locs ls hR hL hS
      have he : M.1.cls = "java/util/Arrays" := by
        rw [hc.1] at hown9
        exact (Option.some.inj hown9).symm
      rw [he] at hown
      rw [hc.2] at hd
      exact va_ldcM hx hb hown (hKn.word mMir rfl) hKn.2.2.2.2.2.2.2.1 hd (K H locs ls hR hL hS)
    · cases E
theorem ms_ldc_w {x : Nat} (hM : mTab[mi]? = some M) (C : mCx G l M mi p R s m meth c) (hd : decode M.2.1 pc = .ok (.ldc_w x, len)) (hlen : mIL (.ldc_w x) len = true) (E : mIns (.ldc_w x) len G M mi pc L st h n k = some (.inl (pc', L', st', h', n', k'))) (K : mWt G M.2.2.1 p l e R s m args below meth c n0 k0 Q pc' L' st' h' n' k') : mWt G M.2.2.1 p l e R s m args below meth c n0 k0 Q pc L st h n k := by
  obtain ⟨hx, hb, hr, hml, hown, hlocks, hnm, hKn, htab, hRf, hRl, htr⟩ := C
  have hlen : len = 3 := by simpa [mIL] using hlen
  subst hlen
  dsimp only [mIns, mNx] at E
  have hown9 := mTab_own hM
  split at E
  · rename_i v hv
    cases E
    intro H locs ls hR hL hS
    exact lv_ldcw hx hb hown (hKn.word (kT_spec hv hown9) rfl) hd (K H locs ls hR hL hS)
  · cases E
theorem ms_ldc2_w {x : Nat} (hM : mTab[mi]? = some M) (C : mCx G l M mi p R s m meth c) (hd : decode M.2.1 pc = .ok (.ldc2_w x, len)) (hlen : mIL (.ldc2_w x) len = true) (E : mIns (.ldc2_w x) len G M mi pc L st h n k = some (.inl (pc', L', st', h', n', k'))) (K : mWt G M.2.2.1 p l e R s m args below meth c n0 k0 Q pc' L' st' h' n' k') : mWt G M.2.2.1 p l e R s m args below meth c n0 k0 Q pc L st h n k := by
  obtain ⟨hx, hb, hr, hml, hown, hlocks, hnm, hKn, htab, hRf, hRl, htr⟩ := C
  have hlen : len = 3 := by simpa [mIL] using hlen
  subst hlen
  dsimp only [mIns, mNx] at E
  have hown9 := mTab_own hM
  split at E
  · rename_i v hv
    cases E
    intro H locs ls hR hL hS
    exact lv_ldc2 hx hb hown (hKn.word (jT_spec hv hown9) rfl) hd (K H locs ls hR hL hS)
  · cases E
theorem ms_getfield {x : Nat} (hM : mTab[mi]? = some M) (C : mCx G l M mi p R s m meth c) (hd : decode M.2.1 pc = .ok (.getfield x, len)) (hlen : mIL (.getfield x) len = true) (E : mIns (.getfield x) len G M mi pc L st h n k = some (.inl (pc', L', st', h', n', k'))) (K : mWt G M.2.2.1 p l e R s m args below meth c n0 k0 Q pc' L' st' h' n' k') : mWt G M.2.2.1 p l e R s m args below meth c n0 k0 Q pc L st h n k := by
  obtain ⟨hx, hb, hr, hml, hown, hlocks, hnm, hKn, htab, hRf, hRl, htr⟩ := C
  have hlen : len = 3 := by simpa [mIL] using hlen
  subst hlen
  dsimp only [mIns, mNx] at E
  have hown9 := mTab_own hM
  split at E
  · rename_i ci j a r hf
    split at E
    · rename_i ci' fs hh
      split at E
      · rename_i hci
        split at E
        · rename_i v hv
          cases E
          intro H locs ls hR hL hS
          subst hci
          have hat : va_at G.1 vwCl (a, .inr (ci', fs)) H := hR.2 a _ hh
          obtain ⟨C, T, N, hcl, hj, hw⟩ := fT_spec hf hown9
          have hts : ∀ w ∈ u_ws C T N, w.before args s = true := fun w hw => hKn.word (mU_ok (C, T, N) (List.mem_of_getElem? hcl) w hw).1 (mU_ok (C, T, N) (List.mem_of_getElem? hcl) w hw).2
          rcases hw with hw | ⟨hw, hw2⟩ | hw
          · exact va_get (D := G.1) hx hb hts (fun _ z => z) hown hKn.2.1 (mOne hat) 0 rfl hcl j hj (hKn.word hw rfl) (fun _ z => z) hv hd (K H locs ls hR hL hS)
          · exact va_get (D := G.1) hx hb hts (fun _ z => z) hown hKn.2.1 (mOne hat) 0 rfl hcl j hj (hKn.word hw rfl) (u_same (hKn.word (A := #[]) hw2 rfl)) hv hd (K H locs ls hR hL hS)
          · exact va_getN (D := G.1) hx hb hts (fun _ z => z) hown hKn.2.1 (mOne hat) 0 rfl hcl j hj (hKn.word hw rfl) (fun _ z => z) hv hd (K H locs ls hR hL hS)
        · cases E
      · cases E
    · cases E
  · cases E
theorem ms_putfield {x : Nat} (hM : mTab[mi]? = some M) (C : mCx G l M mi p R s m meth c) (hd : decode M.2.1 pc = .ok (.putfield x, len)) (hlen : mIL (.putfield x) len = true) (E : mIns (.putfield x) len G M mi pc L st h n k = some (.inl (pc', L', st', h', n', k'))) (K : mWt G M.2.2.1 p l e R s m args below meth c n0 k0 Q pc' L' st' h' n' k') : mWt G M.2.2.1 p l e R s m args below meth c n0 k0 Q pc L st h n k := by
  obtain ⟨hx, hb, hr, hml, hown, hlocks, hnm, hKn, htab, hRf, hRl, htr⟩ := C
  have hlen : len = 3 := by simpa [mIL] using hlen
  subst hlen
  dsimp only [mIns, mNx] at E
  have hown9 := mTab_own hM
  split at E
  · rename_i ci j v a r hf
    split at E
    · rename_i ci' fs hh
      split at E
      · rename_i hc9
        obtain ⟨hci, hjl, hba, hfit, hput⟩ := hc9
        cases E
        intro H locs ls hR hL hS
        subst hci
        have hat : va_at G.1 vwCl (a, .inr (ci', fs)) H := hR.2 a _ hh
        obtain ⟨C, T, N, hcl, hj, hw⟩ := fT_spec hf hown9
        have hts : ∀ w ∈ u_ws C T N, w.before args s = true := fun w hw => hKn.word (mU_ok (C, T, N) (List.mem_of_getElem? hcl) w hw).1 (mU_ok (C, T, N) (List.mem_of_getElem? hcl) w hw).2
        obtain ⟨ty, hok⟩ := mCl_ok hcl
        obtain ⟨hn, hft⟩ := mFits_ok hok hj hfit
        obtain ⟨hty, hnm9, hfk, -, -⟩ := hok
        obtain ⟨-, -, -, hfin, hdcl⟩ := hfk j hj
        have hap := va_apart (own := M.1.cls) hts (fun _ z => z) ty hty hnm9 hKn.2.1 hcl
        obtain ⟨rr, h1, cell, q1, q2, q3, q4⟩ := id hat
        have hrr : rr = (C, T, N) := Option.some.inj (h1.symm.trans hcl)
        subst hrr
        obtain ⟨hSl, hfc, kC, hkC, hkind⟩ := hKn.2.1.1 ci' _ hcl
        obtain ⟨cf, kf, fi, f, hi, hsl⟩ := hSl j hj
        have hst := (u_facts hfc hkC (u_lays hts (fun _ z => z) hj) hi).1
        have hlay := hts _ (u_in_lay hj)
        unfold u_lay at hlay
        have fin9 : ∀ H1 : Heap, H1[a]? = some (cell.setSlot f.slot v) → H1.size = H.size → (∀ q, q ≠ a → H1[q]? = H[q]?) → W p l e R s m args below meth c H1 (locs ++ [⟨a, f.slot⟩]) (n - n0) (k - k0) Q (F0 m (pc + 3) ls st') := by
          intro H1 e1 z1 o1
          refine K H1 _ ls (hR.put z1 o1 ?_) hL (hS.put' z1 o1 hba)
          rw [hsl] at e1
          exact ⟨_, hcl, t_OB.to (V := updV (vp_V fs) j v) ⟨_, e1, q2, q3, t_set q4 hap hj v⟩ (fun i _ => vp_updV_set hjl v i)⟩
        cases hfb : (T j).2.2.2 with
        | false =>
          rw [if_neg (by rw [hfb]; decide)] at hlay
          have h6 := u_store hfc hkC hkind hlay hi (hty j hj) hn hft
          have hlt : f.slot < cell.slots.size := by rw [hsl]; exact k2_hasslot (q4 j hj)
          rcases hw with hw | ⟨hw, hw2⟩ | hw
          · exact W.putK hx hb (f := f) ⟨hown, hKn.word hw rfl, ⟨_, _, _, hi⟩, hst⟩ (by rw [q2]; exact h6) q1 q3 hlt rfl rfl hd fin9
          · exact W.putK hx hb (f := f) ⟨hown, hKn.word hw rfl, ⟨_, _, _, u_same (hKn.word (A := #[]) hw2 rfl) _ hi⟩, hst⟩ (by rw [q2]; exact h6) q1 q3 hlt rfl rfl hd fin9
          · exact va_WputK hx hb (f := f) hown (hKn.word hw rfl) hi hst (by rw [q2]; exact h6) q1 q3 hlt rfl rfl hd fin9
        | true =>
          rw [if_pos hfb] at hlay
          unfold mPutOk at hput
          rw [← hfin, hfb] at hput
          simp only [Bool.not_true, Bool.false_or, Bool.and_eq_true, beq_iff_eq] at hput
          rw [← hdcl] at hput
          have hcf : m.cls = cf := by
            obtain ⟨_, _, c', _, _, _, -, -, hf', -, -, -, hown2, -⟩ := Cond.laysFinal_spec hlay
            have e1 : c' = cf := by have := hi.symm.trans hf'; simp at this; exact this.1.symm
            rw [← hput.2] at hown2
            rw [← e1]; exact Option.some.inj (hown.symm.trans hown2)
          have h6 := u_fits hfc hkC hkind (Or.inr hlay) hi (hty j hj) hn hft
          have hlt : f.slot < cell.slots.size := by rw [hsl]; exact k2_hasslot (q4 j hj)
          rcases hw with hw | ⟨hw, hw2⟩ | hw
          · exact W.putFinK hx hb hown (hKn.word hw rfl) hi hst hcf (hnm.trans hput.1) (by rw [q2]; exact h6) q1 q3 hlt rfl rfl hd fin9
          · exact W.putFinK hx hb hown (hKn.word hw rfl) (u_same (hKn.word (A := #[]) hw2 rfl) _ hi) hst hcf (hnm.trans hput.1) (by rw [q2]; exact h6) q1 q3 hlt rfl rfl hd fin9
          · refine va_Wputf hx hb hown (hKn.word hw rfl) hi hst (Or.inr ⟨hcf, hnm.trans hput.1⟩) q1 (by rw [q3]; exact fun z => by cases z) hlt h6.1 (by rw [q2, q3]; exact h6.2) rfl rfl hd ?_
            have ha : a < H.size := (Array.getElem?_eq_some_iff.mp q1).1
            exact fin9 (H.setIfInBounds a (cell.setSlot f.slot v)) (by simp [Array.getElem?_setIfInBounds, ha]) (by simp) (fun q hq => by simp [Array.getElem?_setIfInBounds, Ne.symm hq])
      · cases E
    · cases E
  · cases E
theorem ms_getstatic {x : Nat} (hM : mTab[mi]? = some M) (C : mCx G l M mi p R s m meth c) (hd : decode M.2.1 pc = .ok (.getstatic x, len)) (hlen : mIL (.getstatic x) len = true) (E : mIns (.getstatic x) len G M mi pc L st h n k = some (.inl (pc', L', st', h', n', k'))) (K : mWt G M.2.2.1 p l e R s m args below meth c n0 k0 Q pc' L' st' h' n' k') : mWt G M.2.2.1 p l e R s m args below meth c n0 k0 Q pc L st h n k := by
  obtain ⟨hx, hb, hr, hml, hown, hlocks, hnm, hKn, htab, hRf, hRl, htr⟩ := C
  have hlen : len = 3 := by simpa [mIL] using hlen
  subst hlen
  dsimp only [mIns, mNx] at E
  have hown9 := mTab_own hM
  split at E
  · rename_i j hj
    cases E
    intro H locs ls hR hL hS
    obtain ⟨z, hz, hz1, hw⟩ := sT_spec hj hown9
    have hZ := hKn.2.2.2.1 z hz
    rw [hz1] at hZ
    rcases hw with hw | hw
    · exact va_gets hx hb hZ hS hown (hKn.word hw rfl) (fun _ q => q) hd (K H locs ls hR hL hS)
    · exact va_getsN hx hb hZ hS hown (hKn.word hw rfl) (fun _ q => q) hd (K H locs ls hR hL hS)
  · cases E
theorem ms_arraylength (hM : mTab[mi]? = some M) (C : mCx G l M mi p R s m meth c) (hd : decode M.2.1 pc = .ok (.arraylength, len)) (hlen : mIL (.arraylength) len = true) (E : mIns (.arraylength) len G M mi pc L st h n k = some (.inl (pc', L', st', h', n', k'))) (K : mWt G M.2.2.1 p l e R s m args below meth c n0 k0 Q pc' L' st' h' n' k') : mWt G M.2.2.1 p l e R s m args below meth c n0 k0 Q pc L st h n k := by
  obtain ⟨hx, hb, hr, hml, hown, hlocks, hnm, hKn, htab, hRf, hRl, htr⟩ := C
  have hlen : len = 1 := by simpa [mIL] using hlen
  subst hlen
  dsimp only [mIns, mNx] at E
  split at E
  · rename_i a r
    split at E
    · rename_i t N g hh
      cases E
      intro H locs ls hR hL hS
      have hat := hR.2 a _ hh
      unfold mAt at hat
      dsimp only at hat
      split at hat
      · exact W.alen (n := Int32.ofNat N) hx hb hat ((hKn.2.1.2 0 _ rfl).1 N (fun j => .int (g j))) (by rw [arrV_size] <;> rfl) rfl rfl hd (K H locs ls hR hL hS)
      · split at hat
        · exact W.alen (n := Int32.ofNat N) hx hb hat ((hKn.2.1.2 1 _ rfl).1 N (fun j => .int (g j))) (by rw [arrV_size] <;> rfl) rfl rfl hd (K H locs ls hR hL hS)
        · split at hat
          · obtain ⟨cc9, q1, q2, -, q3, -⟩ := hat
            exact W.alen (n := Int32.ofNat N) hx hb q1 q2 (by rw [q3] <;> rfl) rfl rfl hd (K H locs ls hR hL hS)
          · obtain ⟨cc9, ty, q1, q2, q3⟩ := hat
            exact W.alen (n := Int32.ofNat N) hx hb q1 q2 (by rw [q3] <;> rfl) rfl rfl hd (K H locs ls hR hL hS)
    · rename_i N g hh
      cases E
      intro H locs ls hR hL hS
      have hat : H[a]? = some (arrV (G.2.1 2) N (fun j => .long (g j))) := hR.2 a _ hh
      exact W.alen (n := Int32.ofNat N) hx hb hat ((hKn.2.1.2 2 _ rfl).1 N (fun j => .long (g j))) (by rw [arrV_size] <;> rfl) rfl rfl hd (K H locs ls hR hL hS)
    · rename_i t N g hh
      split at E
      · rename_i ht
        cases E
        intro H locs ls hR hL hS
        have hat : H[a]? = some (arrV (G.2.1 t) N (fun j => va_rf (g j))) := hR.2 a _ hh
        rcases ht with rfl | rfl
        · exact W.alen (n := Int32.ofNat N) hx hb hat ((hKn.2.1.2 3 _ rfl).1 N (fun j => va_rf (g j))) (by rw [arrV_size] <;> rfl) rfl rfl hd (K H locs ls hR hL hS)
        · exact W.alen (n := Int32.ofNat N) hx hb hat ((hKn.2.1.2 4 _ rfl).1 N (fun j => va_rf (g j))) (by rw [arrV_size] <;> rfl) rfl rfl hd (K H locs ls hR hL hS)
      · cases E
    · cases E
  · cases E
theorem ms_iaload (hM : mTab[mi]? = some M) (C : mCx G l M mi p R s m meth c) (hd : decode M.2.1 pc = .ok (.iaload, len)) (hlen : mIL (.iaload) len = true) (E : mIns (.iaload) len G M mi pc L st h n k = some (.inl (pc', L', st', h', n', k'))) (K : mWt G M.2.2.1 p l e R s m args below meth c n0 k0 Q pc' L' st' h' n' k') : mWt G M.2.2.1 p l e R s m args below meth c n0 k0 Q pc L st h n k := by
  obtain ⟨hx, hb, hr, hml, hown, hlocks, hnm, hKn, htab, hRf, hRl, htr⟩ := C
  have hlen : len = 1 := by simpa [mIL] using hlen
  subst hlen
  dsimp only [mIns, mNx] at E
  split at E
  · rename_i i a r
    split at E
    · rename_i t N g hh
      split at E
      · rename_i hc
        obtain ⟨ht, h0, h1⟩ := hc
        cases E
        intro H locs ls hR hL hS
        have hat := hR.2 a _ hh
        unfold mAt at hat
        dsimp only at hat
        rcases ht with rfl | rfl
        · rw [if_pos rfl] at hat
          exact W.iald (v := .int (g i.toNatClampNeg)) hx hb hat ((hKn.2.1.2 0 _ rfl).1 N (fun j => .int (g j))) (fun q => by cases q) (by rw [arrV_size]; exact vp_in_of' h0 h1) (by rw [arrV_read _ _ h1]) rfl rfl hd (K H locs ls hR hL hS)
        · rw [if_neg (by decide), if_neg (by decide), if_pos rfl] at hat
          obtain ⟨cc9, q1, q2, q3, q4, q5⟩ := hat
          exact W.iald (v := .int (g i.toNatClampNeg)) hx hb q1 q2 q3 (by rw [q4]; exact vp_in_of' h0 h1) (q5 _ h1) rfl rfl hd (K H locs ls hR hL hS)
      · cases E
    · cases E
  · cases E
theorem ms_baload (hM : mTab[mi]? = some M) (C : mCx G l M mi p R s m meth c) (hd : decode M.2.1 pc = .ok (.baload, len)) (hlen : mIL (.baload) len = true) (E : mIns (.baload) len G M mi pc L st h n k = some (.inl (pc', L', st', h', n', k'))) (K : mWt G M.2.2.1 p l e R s m args below meth c n0 k0 Q pc' L' st' h' n' k') : mWt G M.2.2.1 p l e R s m args below meth c n0 k0 Q pc L st h n k := by
  obtain ⟨hx, hb, hr, hml, hown, hlocks, hnm, hKn, htab, hRf, hRl, htr⟩ := C
  have hlen : len = 1 := by simpa [mIL] using hlen
  subst hlen
  dsimp only [mIns, mNx] at E
  split at E
  · rename_i i a r
    split at E
    · rename_i t N g hh
      split at E
      · rename_i hc
        obtain ⟨rfl, h0, h1⟩ := hc
        cases E
        intro H locs ls hR hL hS
        have hat := hR.2 a _ hh
        unfold mAt at hat
        dsimp only at hat
        rw [if_neg (by decide), if_pos rfl] at hat
        exact W.zald (v := .int (g i.toNatClampNeg)) hx hb hat ((hKn.2.1.2 1 _ rfl).1 N (fun j => .int (g j))) (fun q => by cases q) (by rw [arrV_size]; exact vp_in_of' h0 h1) (by rw [arrV_read _ _ h1]) rfl rfl hd (K H locs ls hR hL hS)
      · cases E
    · cases E
  · cases E
theorem ms_laload (hM : mTab[mi]? = some M) (C : mCx G l M mi p R s m meth c) (hd : decode M.2.1 pc = .ok (.laload, len)) (hlen : mIL (.laload) len = true) (E : mIns (.laload) len G M mi pc L st h n k = some (.inl (pc', L', st', h', n', k'))) (K : mWt G M.2.2.1 p l e R s m args below meth c n0 k0 Q pc' L' st' h' n' k') : mWt G M.2.2.1 p l e R s m args below meth c n0 k0 Q pc L st h n k := by
  obtain ⟨hx, hb, hr, hml, hown, hlocks, hnm, hKn, htab, hRf, hRl, htr⟩ := C
  have hlen : len = 1 := by simpa [mIL] using hlen
  subst hlen
  dsimp only [mIns, mNx] at E
  split at E
  · rename_i i a r
    split at E
    · rename_i N g hh
      split at E
      · rename_i hc
        obtain ⟨h0, h1⟩ := hc
        cases E
        intro H locs ls hR hL hS
        have hat : H[a]? = some (arrV (G.2.1 2) N (fun j => .long (g j))) := hR.2 a _ hh
        exact W.lald (v := .long (g i.toNatClampNeg)) hx hb hat ((hKn.2.1.2 2 _ rfl).1 N (fun j => .long (g j))) (fun q => by cases q) (by rw [arrV_size]; exact vp_in_of' h0 h1) (by rw [arrV_read _ _ h1]) rfl rfl hd (K H locs ls hR hL hS)
      · cases E
    · cases E
  · cases E
theorem ms_aaload (hM : mTab[mi]? = some M) (C : mCx G l M mi p R s m meth c) (hd : decode M.2.1 pc = .ok (.aaload, len)) (hlen : mIL (.aaload) len = true) (E : mIns (.aaload) len G M mi pc L st h n k = some (.inl (pc', L', st', h', n', k'))) (K : mWt G M.2.2.1 p l e R s m args below meth c n0 k0 Q pc' L' st' h' n' k') : mWt G M.2.2.1 p l e R s m args below meth c n0 k0 Q pc L st h n k := by
  obtain ⟨hx, hb, hr, hml, hown, hlocks, hnm, hKn, htab, hRf, hRl, htr⟩ := C
  have hlen : len = 1 := by simpa [mIL] using hlen
  subst hlen
  dsimp only [mIns, mNx] at E
  split at E
  · rename_i i a r
    split at E
    · rename_i t N g hh
      split at E
      · rename_i hc
        obtain ⟨ht, h0, h1⟩ := hc
        cases E
        intro H locs ls hR hL hS
        have hat : H[a]? = some (arrV (G.2.1 t) N (fun j => va_rf (g j))) := hR.2 a _ hh
        rcases ht with rfl | rfl
        · exact W.aald (v := va_rf (g i.toNatClampNeg)) (ty := .object "ChipCard$Row") hx hb hat ((hKn.2.1.2 3 _ rfl).1 N (fun j => va_rf (g j))) rfl (fun q => by cases q) (by rw [arrV_size]; exact vp_in_of' h0 h1) (by rw [arrV_read _ _ h1]) rfl rfl hd (K H locs ls hR hL hS)
        · exact W.aald (v := va_rf (g i.toNatClampNeg)) (ty := .object "java/lang/Object") hx hb hat ((hKn.2.1.2 4 _ rfl).1 N (fun j => va_rf (g j))) rfl (fun q => by cases q) (by rw [arrV_size]; exact vp_in_of' h0 h1) (by rw [arrV_read _ _ h1]) rfl rfl hd (K H locs ls hR hL hS)
      · cases E
    · cases E
  · cases E
theorem ms_iastore (hM : mTab[mi]? = some M) (C : mCx G l M mi p R s m meth c) (hd : decode M.2.1 pc = .ok (.iastore, len)) (hlen : mIL (.iastore) len = true) (E : mIns (.iastore) len G M mi pc L st h n k = some (.inl (pc', L', st', h', n', k'))) (K : mWt G M.2.2.1 p l e R s m args below meth c n0 k0 Q pc' L' st' h' n' k') : mWt G M.2.2.1 p l e R s m args below meth c n0 k0 Q pc L st h n k := by
  obtain ⟨hx, hb, hr, hml, hown, hlocks, hnm, hKn, htab, hRf, hRl, htr⟩ := C
  have hlen : len = 1 := by simpa [mIL] using hlen
  subst hlen
  dsimp only [mIns, mNx] at E
  split at E
  · rename_i x i a r
    split at E
    · rename_i t N g hh
      split at E
      · rename_i hc
        obtain ⟨rfl, hba, h0, h1⟩ := hc
        cases E
        intro H locs ls hR hL hS
        have hat := hR.2 a _ hh
        unfold mAt at hat
        dsimp only at hat
        rw [if_pos rfl] at hat
        refine W.iast hx hb hat ((hKn.2.1.2 0 _ rfl).1 N (fun j => .int (g j))) (fun q => by cases q) (by rw [arrV_size]; exact vp_in_of' h0 h1) rfl rfl hd fun H1 e1 z oq => ?_
        refine K H1 _ ls (hR.put z oq ?_) hL (hS.put' z oq hba)
        unfold mAt
        dsimp only
        rw [if_pos rfl, e1, arrV_store]
        congr 2
        funext q
        by_cases hq : q = i.toNatClampNeg
        · subst hq
          simp [updV, upd]
        · simp [updV, upd, hq]
      · cases E
    · cases E
  · cases E
theorem ms_bastore (hM : mTab[mi]? = some M) (C : mCx G l M mi p R s m meth c) (hd : decode M.2.1 pc = .ok (.bastore, len)) (hlen : mIL (.bastore) len = true) (E : mIns (.bastore) len G M mi pc L st h n k = some (.inl (pc', L', st', h', n', k'))) (K : mWt G M.2.2.1 p l e R s m args below meth c n0 k0 Q pc' L' st' h' n' k') : mWt G M.2.2.1 p l e R s m args below meth c n0 k0 Q pc L st h n k := by
  obtain ⟨hx, hb, hr, hml, hown, hlocks, hnm, hKn, htab, hRf, hRl, htr⟩ := C
  have hlen : len = 1 := by simpa [mIL] using hlen
  subst hlen
  dsimp only [mIns, mNx] at E
  split at E
  · rename_i x i a r
    split at E
    · rename_i t N g hh
      split at E
      · rename_i hc
        obtain ⟨rfl, hba, h0, h1, hx01⟩ := hc
        cases E
        intro H locs ls hR hL hS
        have hat := hR.2 a _ hh
        unfold mAt at hat
        dsimp only at hat
        rw [if_neg (by decide), if_pos rfl] at hat
        have hnar : narrow .boolean (.int x) = .int x := by rcases hx01 with rfl | rfl <;> decide
        refine W.zast hx hb hat ((hKn.2.1.2 1 _ rfl).1 N (fun j => .int (g j))) (fun q => by cases q) (by rw [arrV_size]; exact vp_in_of' h0 h1) rfl rfl hd fun H1 e1 z oq => ?_
        refine K H1 _ ls (hR.put z oq ?_) hL (hS.put' z oq hba)
        unfold mAt
        dsimp only
        rw [if_neg (by decide), if_pos rfl, e1, hnar, arrV_store]
        congr 2
        funext q
        by_cases hq : q = i.toNatClampNeg
        · subst hq
          simp [updV, upd]
        · simp [updV, upd, hq]
      · cases E
    · cases E
  · cases E
theorem ms_lastore (hM : mTab[mi]? = some M) (C : mCx G l M mi p R s m meth c) (hd : decode M.2.1 pc = .ok (.lastore, len)) (hlen : mIL (.lastore) len = true) (E : mIns (.lastore) len G M mi pc L st h n k = some (.inl (pc', L', st', h', n', k'))) (K : mWt G M.2.2.1 p l e R s m args below meth c n0 k0 Q pc' L' st' h' n' k') : mWt G M.2.2.1 p l e R s m args below meth c n0 k0 Q pc L st h n k := by
  obtain ⟨hx, hb, hr, hml, hown, hlocks, hnm, hKn, htab, hRf, hRl, htr⟩ := C
  have hlen : len = 1 := by simpa [mIL] using hlen
  subst hlen
  dsimp only [mIns, mNx] at E
  split at E
  · rename_i x i a r
    split at E
    · rename_i N g hh
      split at E
      · rename_i hc
        obtain ⟨hba, h0, h1⟩ := hc
        cases E
        intro H locs ls hR hL hS
        have hat : H[a]? = some (arrV (G.2.1 2) N (fun j => .long (g j))) := hR.2 a _ hh
        refine W.last hx hb hat ((hKn.2.1.2 2 _ rfl).1 N (fun j => .long (g j))) (fun q => by cases q) (by rw [arrV_size]; exact vp_in_of' h0 h1) rfl rfl hd fun H1 e1 z oq => ?_
        refine K H1 _ ls (hR.put z oq ?_) hL (hS.put' z oq hba)
        show H1[a]? = some (arrV (G.2.1 2) N (fun j => .long (vp_updL g i.toNatClampNeg x j)))
        rw [e1, arrV_store]
        congr 2
        funext q
        by_cases hq : q = i.toNatClampNeg
        · subst hq
          simp [updV, vp_updL]
        · simp [updV, vp_updL, hq]
      · cases E
    · cases E
  · cases E
theorem ms_aastore (hM : mTab[mi]? = some M) (C : mCx G l M mi p R s m meth c) (hd : decode M.2.1 pc = .ok (.aastore, len)) (hlen : mIL (.aastore) len = true) (E : mIns (.aastore) len G M mi pc L st h n k = some (.inl (pc', L', st', h', n', k'))) (K : mWt G M.2.2.1 p l e R s m args below meth c n0 k0 Q pc' L' st' h' n' k') : mWt G M.2.2.1 p l e R s m args below meth c n0 k0 Q pc L st h n k := by
  obtain ⟨hx, hb, hr, hml, hown, hlocks, hnm, hKn, htab, hRf, hRl, htr⟩ := C
  have hlen : len = 1 := by simpa [mIL] using hlen
  subst hlen
  dsimp only [mIns, mNx] at E
  split at E
  · rename_i y i a r
    split at E
    · rename_i t N g ci fs hh hy
      split at E
      · rename_i hc
        obtain ⟨ht, hba, h0, h1⟩ := hc
        cases E
        intro H locs ls hR hL hS
        have hat : H[a]? = some (arrV (G.2.1 t) N (fun j => va_rf (g j))) := hR.2 a _ hh
        have hyt : mAt G s (mO ci fs) y H := hR.2 y _ hy
        have fin9 : ∀ H1 : Heap, H1[a]? = some ((arrV (G.2.1 t) N (fun j => va_rf (g j))).setSlot i.toNatClampNeg (.ref y)) → H1.size = H.size → (∀ q, q ≠ a → H1[q]? = H[q]?) → W p l e R s m args below meth c H1 (locs ++ [⟨a, i.toNatClampNeg⟩]) (n - n0) (k - k0) Q (F0 m (pc + 1) ls st') := by
          intro H1 e1 z oq
          refine K H1 _ ls (hR.put z oq ?_) hL (hS.put' z oq hba)
          show H1[a]? = some (arrV (G.2.1 t) N (fun j => va_rf (va_up g i.toNatClampNeg (some y) j)))
          rw [e1, arrV_store]
          congr 2
          funext q
          by_cases hq : q = i.toNatClampNeg
          · subst hq
            simp [updV, va_up, va_rf]
          · simp [updV, va_up, hq]
        rcases ht with ⟨rfl, rfl⟩ | rfl
        · have hyt' : va_at G.1 vwCl (y, .inr (7, fs)) H := hyt
          obtain ⟨r', hr', cellV, g1, g2, g3, -⟩ := hyt'
          have hcl : vwCl[7]? = some (RX6, TX6, 2) := rfl
          have hcls := (hKn.2.1.1 7 _ hcl).2
          obtain ⟨kA, comp, k1, k2, k3, -⟩ := (hKn.2.1.2 3 _ rfl).2
          have hcomp : comp = G.1.1 7 := Option.some.inj (k3.symm.trans hcls.1)
          subst hcomp
          obtain ⟨kC, hkC, -⟩ := hcls.2
          exact W.aast hx hb hat (fun q h => by cases h) (fun h => by cases h) k1 k2 rfl hkC ⟨h0, by rw [arrV_size]; exact h1⟩ g1 (fun q h => by rw [g3] at h; cases h) (by rw [g2]; exact hkC) (by rw [g2]; exact va_assign hcls) rfl rfl hd fin9
        · obtain ⟨cellV, g1, g3, ⟨kC, hkC⟩, hasg⟩ := mAny hKn hyt
          obtain ⟨kA, comp, k1, k2, k3, -⟩ := (hKn.2.1.2 4 _ rfl).2
          obtain ⟨kE, hkE, -⟩ := Vm.findClass_spec k3
          exact W.aast hx hb hat (fun q h => by cases h) (fun h => by cases h) k1 k2 rfl hkE ⟨h0, by rw [arrV_size]; exact h1⟩ g1 (fun q h => by rw [h] at g3; cases g3) hkC (hasg _ k3) rfl rfl hd fin9
      · cases E
    · cases E
  · cases E
theorem ms_newarr {ty : ArrayType} {t : Nat} {N : Int32} {r : List Value} {ee : mE} (C : mCx G l M mi p R s m meth c) (hd : decode M.2.1 pc = .ok (.newarray ty, 2)) (h0 : ¬ N < 0) (h1 : N.toNatClampNeg ≤ 10000) (hw : Cond.arrayClass (newarray.typeOf ty) ∈ lw_tbl) (hcb : componentBytes (newarray.typeOf ty) ≤ 8)
    (ht : s.vm.findClass ("[" ++ (newarray.typeOf ty).toString) = some (G.2.1 t)) (he : ∀ H1 : Heap, H1[n]? = some (arrV (G.2.1 t) N.toNatClampNeg (fun _ => defaultValue (newarray.typeOf ty))) → mAt G s ee n H1) (hn0 : n0 ≤ n) (hk0 : k0 ≤ k) (hcells : n + 1 - n0 ≤ R.cells) (hslots : k + N.toNatClampNeg - k0 ≤ R.slots)
    (K : mWt G M.2.2.1 p l e R s m args below meth c n0 k0 Q (pc + 2) L (.ref n :: r) (mUp h n ee) (n + 1) (k + N.toNatClampNeg)) : mWt G M.2.2.1 p l e R s m args below meth c n0 k0 Q pc L (.int N :: r) h n k := by
  obtain ⟨hx, hb, hr, hml, hown, hlocks, hnm, hKn, htab, hRf, hRl, htr⟩ := C
  intro H locs ls hR hL hS
  have hm : N.toNatClampNeg * componentBytes (newarray.typeOf ty) ≤ 536870912 := Nat.le_trans (Nat.mul_le_mul h1 hcb) (by decide)
  refine va_newaK hx hb (hKn.word hw rfl) rfl hd rfl h0 rfl hm (by omega) (by omega) hR.1 fun H1 cA e1 z1 o1 hAr hNm => ?_
  have hcA : cA = G.2.1 t := Option.some.inj (hNm.symm.trans ht)
  subst hcA
  exact W.cs (by omega) (by omega) (K H1 locs ls (hR.new z1 o1 (he H1 e1)) hL (hS.new' (by rw [z1, hR.1]) (fun q hq => o1 q (by rw [← hR.1]; exact hq))))
theorem ms_newarray {ty : ArrayType} (hM : mTab[mi]? = some M) (C : mCx G l M mi p R s m meth c) (hd : decode M.2.1 pc = .ok (.newarray ty, len)) (hlen : mIL (.newarray ty) len = true) (E : mIns (.newarray ty) len G M mi pc L st h n k = some (.inl (pc', L', st', h', n', k'))) (hn0 : n0 ≤ n) (hk0 : k0 ≤ k) (hcells : n' - n0 ≤ R.cells) (hslots : k' - k0 ≤ R.slots) (K : mWt G M.2.2.1 p l e R s m args below meth c n0 k0 Q pc' L' st' h' n' k') : mWt G M.2.2.1 p l e R s m args below meth c n0 k0 Q pc L st h n k := by
  have hKn := C.2.2.2.2.2.2.2.1
  have hlen : len = 2 := by simpa [mIL] using hlen
  subst hlen
  dsimp only [mIns, mNx] at E
  split at E
  · rename_i N r
    split at E
    · rename_i hc
      obtain ⟨h0, h1⟩ := hc
      split at E
      · cases E
        exact ms_newarr (t := 0) C hd h0 h1 mArr0 (by decide) (hKn.2.1.2 0 _ rfl).2 (fun H1 e1 => by unfold mAt; dsimp only; rw [if_pos rfl]; exact e1) hn0 hk0 hcells hslots K
      · cases E
        exact ms_newarr (t := 1) C hd h0 h1 mArr1 (by decide) (hKn.2.1.2 1 _ rfl).2 (fun H1 e1 => by unfold mAt; dsimp only; rw [if_neg (by decide), if_pos rfl]; exact e1) hn0 hk0 hcells hslots K
      · cases E
        exact ms_newarr (t := 2) (ee := mJ N.toNatClampNeg (fun _ => 0)) C hd h0 h1 mArr2 (by decide) (hKn.2.1.2 2 _ rfl).2 (fun H1 e1 => e1) hn0 hk0 hcells hslots K
      · cases E
    · cases E
  · cases E
theorem ms_anewarray {x : Nat} (hM : mTab[mi]? = some M) (C : mCx G l M mi p R s m meth c) (hd : decode M.2.1 pc = .ok (.anewarray x, len)) (hlen : mIL (.anewarray x) len = true) (E : mIns (.anewarray x) len G M mi pc L st h n k = some (.inl (pc', L', st', h', n', k'))) (hn0 : n0 ≤ n) (hk0 : k0 ≤ k) (hcells : n' - n0 ≤ R.cells) (hslots : k' - k0 ≤ R.slots) (K : mWt G M.2.2.1 p l e R s m args below meth c n0 k0 Q pc' L' st' h' n' k') : mWt G M.2.2.1 p l e R s m args below meth c n0 k0 Q pc L st h n k := by
  obtain ⟨hx, hb, hr, hml, hown, hlocks, hnm, hKn, htab, hRf, hRl, htr⟩ := C
  have hlen : len = 3 := by simpa [mIL] using hlen
  subst hlen
  dsimp only [mIns, mNx] at E
  have hown9 := mTab_own hM
  split at E
  · rename_i t N r ht
    split at E
    · rename_i hc
      obtain ⟨h0, h1⟩ := hc
      cases E
      intro H locs ls hR hL hS
      have go : ∀ (C : String) (t0 : Nat), (mTys G)[t0]? = some (G.2.1 t, .object C) → Cond.classLink M.1.cls x C ∈ lw_tbl → va_AO C s → W p l e R s m args below meth c H locs (n - n0) (k - k0) Q (F0 m pc ls (.int N :: r)) := by
        intro C t0 ht0 hw hao
        refine W.anew hx hb hown (hKn.word hw rfl) (va_AO.use hao) rfl hd rfl h0 (by omega) (by omega) (by omega) fun cA kA comp f1 f2 f3 f4 => ?_
        have hcA : cA = G.2.1 t := by
          obtain ⟨_, _, _, _, _, h9⟩ := (hKn.2.1.2 t0 _ ht0).2
          exact Option.some.inj (f1.symm.trans h9)
        subst hcA
        rw [hR.1]
        generalize hH1 : H.push ({ cls := G.2.1 t, slots := Array.replicate N.toNatClampNeg .null, vm := .none } : Cell) = H1
        have z1 : H1.size = H.size + 1 := by rw [← hH1, Array.size_push]
        have e1 : H1[H.size]? = some (arrV (G.2.1 t) N.toNatClampNeg (fun _ => .null)) := by rw [← hH1, Array.getElem?_push_size, ← arrV_new]
        have o1 : ∀ q : Nat, q < H.size → H1[q]? = H[q]? := fun q hq => by rw [← hH1, Array.getElem?_push, if_neg (Nat.ne_of_lt hq)]
        refine W.cs (by omega) (by omega) (K H1 locs ls (hR.new (by rw [z1, hR.1]) (fun q hq => o1 q (by rw [hR.1]; exact hq)) ?_) hL (hS.new' z1 o1))
        show H1[n]? = some (arrV (G.2.1 t) N.toNatClampNeg (fun j => va_rf none))
        rw [← hR.1]
        exact e1
      rcases aT_spec ht hown9 with ⟨rfl, hw⟩ | ⟨rfl, hw⟩
      · exact go _ 3 rfl hw hKn.2.2.2.2.2.2.2.2.1.1
      · exact go _ 4 rfl hw hKn.2.2.2.2.2.2.2.2.1.2
    · cases E
  · cases E
theorem ms_new {x : Nat} (hM : mTab[mi]? = some M) (C : mCx G l M mi p R s m meth c) (hd : decode M.2.1 pc = .ok (.new x, len)) (hlen : mIL (.new x) len = true) (E : mIns (.new x) len G M mi pc L st h n k = some (.inl (pc', L', st', h', n', k'))) (hn0 : n0 ≤ n) (hk0 : k0 ≤ k) (hcells : n' - n0 ≤ R.cells) (hslots : k' - k0 ≤ R.slots) (K : mWt G M.2.2.1 p l e R s m args below meth c n0 k0 Q pc' L' st' h' n' k') : mWt G M.2.2.1 p l e R s m args below meth c n0 k0 Q pc L st h n k := by
  obtain ⟨hx, hb, hr, hml, hown, hlocks, hnm, hKn, htab, hRf, hRl, htr⟩ := C
  have hlen : len = 3 := by simpa [mIL] using hlen
  subst hlen
  dsimp only [mIns, mNx] at E
  have hown9 := mTab_own hM
  split at E
  · rename_i ci hci
    cases E
    intro H locs ls hR hL hS
    obtain ⟨C, T, N, hcl, hw1, hw2, hw3⟩ := cT_spec hci hown9
    obtain ⟨ty, hty, hnm9, hfk, hlen9, hdef⟩ := mCl_ok hcl
    have hts : ∀ w ∈ u_ws C T N, w.before args s = true := fun w hw => hKn.word (mU_ok (C, T, N) (List.mem_of_getElem? hcl) w hw).1 (mU_ok (C, T, N) (List.mem_of_getElem? hcl) w hw).2
    have hKn0 := hKn.2.1.1 ci _ hcl
    have hlen9 : (mDef ci).length = N := hlen9
    rw [hlen9] at K hslots
    refine W.newcK hx hb hown (hKn.word hw1 rfl) (hKn.word hw2 rfl) (hKn.word hw3 rfl) rfl hd (by omega) (by omega) hKn0.2.1 hR.1 fun H1 kC hkC e1 z1 o1 => ?_
    refine W.cs (by omega) (by omega) (K H1 locs ls (hR.new z1 o1 ?_) hL (hS.new' (by rw [z1, hR.1]) (fun q hq => o1 q (by rw [← hR.1]; exact hq))))
    exact ⟨_, hcl, (u_born ty hts (fun _ z => z) hKn0 hkC e1 hty).to hdef⟩
  · split at E
    · split at E <;> cases E
    · cases E
theorem ms_checkcast {x : Nat} (hM : mTab[mi]? = some M) (C : mCx G l M mi p R s m meth c) (hd : decode M.2.1 pc = .ok (.checkcast x, len)) (hlen : mIL (.checkcast x) len = true) (E : mIns (.checkcast x) len G M mi pc L st h n k = some (.inl (pc', L', st', h', n', k'))) (K : mWt G M.2.2.1 p l e R s m args below meth c n0 k0 Q pc' L' st' h' n' k') : mWt G M.2.2.1 p l e R s m args below meth c n0 k0 Q pc L st h n k := by
  obtain ⟨hx, hb, hr, hml, hown, hlocks, hnm, hKn, htab, hRf, hRl, htr⟩ := C
  have hlen : len = 3 := by simpa [mIL] using hlen
  subst hlen
  dsimp only [mIns, mNx] at E
  have hown9 := mTab_own hM
  split at E
  · rename_i ci a r hci
    split at E
    · rename_i ci' fs hh
      split at E
      · rename_i hc
        subst hc
        cases E
        intro H locs ls hR hL hS
        obtain ⟨C, T, N, hcl, hw1, hw2, hw3⟩ := cT_spec hci hown9
        have hat : va_at G.1 vwCl (a, .inr (ci', fs)) H := hR.2 a _ hh
        exact va_castS hx hb hown (hKn.word hw1 rfl) (hKn.2.1.1 ci' _ hcl).2 (va_recv hKn.2.1 (mOne hat) hcl (q0 := 0) rfl) hd (K H locs ls hR hL hS)
      · cases E
    · cases E
  · rename_i ci r hci
    cases E
    intro H locs ls hR hL hS
    obtain ⟨C, T, N, hcl, hw1, hw2, hw3⟩ := cT_spec hci hown9
    exact lv_castN hx hb hd (K H locs ls hR hL hS)
  · cases E
end MSH
