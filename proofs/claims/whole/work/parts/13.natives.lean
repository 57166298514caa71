/-! Natives: getClass, arraycopy, Object's constructor, Math.max, Math.min. -/
theorem mw_1 : Cond.declares mGetC ∈ lw_tbl := mInL (i := 2107) (by decide +kernel)
theorem mw_2 : Cond.selects "[Ljava/lang/Object;" mGetC mGetC ∈ lw_tbl := mInL (i := 2106) (by decide +kernel)
theorem mw_3 : Cond.instanceMethod mGetC ∈ lw_tbl := mInL (i := 321) (by decide +kernel)
theorem mw_4 : Cond.native mGetC ∈ lw_tbl := mInL (i := 341) (by decide +kernel)
theorem mw_5 : Cond.native arraycopyName ∈ lw_tbl := mInL (i := 353) (by decide +kernel)
theorem mw_6 : Cond.static arraycopyName ∈ lw_tbl := mInL (i := 352) (by decide +kernel)
theorem mw_7 : Cond.initialized "java/lang/System" ∈ lw_tbl := mInL (i := 127) (by decide +kernel)
theorem mw_8 : Cond.instanceMethod Lib.objectInit ∈ lw_tbl := mInL (i := 151) (by decide +kernel)
theorem mw_9 : Cond.code Lib.objectInit ⟨#[0xb1]⟩ 1 none ∈ lw_tbl := mInL (i := 152) (by decide +kernel)
theorem mw_10 : Cond.static Lib.Math.max.name ∈ lw_tbl := mInL (i := 311) (by decide +kernel)
theorem mw_11 : Cond.static Lib.Math.min.name ∈ lw_tbl := mInL (i := 349) (by decide +kernel)
theorem mw_12 : Cond.code Lib.Math.max.name Lib.Math.max.code 2 (some .int) ∈ lw_tbl := mInL (i := 312) (by decide +kernel)
theorem mw_13 : Cond.code Lib.Math.min.name Lib.Math.min.code 2 (some .int) ∈ lw_tbl := mInL (i := 350) (by decide +kernel)
theorem mw_14 : Cond.initialized "java/lang/Math" ∈ lw_tbl := mInL (i := 126) (by decide +kernel)
theorem mw_15 : nativeFrameWords "java/lang/System" "arraycopy" 5 + 11 ≤ 60 := by decide +kernel
theorem mw_16 : "[" ++ (FieldType.object "java/lang/Object").toString = "[Ljava/lang/Object;" := by decide +kernel
section MNA
variable {G : mG} {p : Program} {l : Launch} {e : Env} {R : Room} {s : State} {m : MethodId} {args : Array Value} {below : List Frame} {meth : Method} {c : Code} {n0 k0 : Nat} {Q : State → Prop} {M : mM} {mi pc len : Nat} {L st : List Value} {h : mH} {n k : Nat} {pc' : Nat} {L' st' : List Value} {h' : mH} {n' k' : Nat}
theorem mRoomN_ok {mi : Nat} {R : Room} (h : mRoomN mi = true) (h1 : (mNeed mi).1 ≤ R.frames) (h2 : (mNeed mi).2 ≤ R.locals) : 1 ≤ R.frames ∧ 68 ≤ R.locals := by
  have := of_decide_eq_true h
  omega
theorem ms_virtN {x : Nat} (hM : mTab[mi]? = some M) (C : mCx G l M mi p R s m meth c) (hd : decode M.2.1 pc = .ok (.invokevirtual x, len)) (hlen : mIL (.invokevirtual x) len = true) (E : mIns (.invokevirtual x) len G M mi pc L st h n k = some (.inl (pc', L', st', h', n', k'))) (hcells : n' - n0 ≤ R.cells) (hslots : k' - k0 ≤ R.slots) (K : mWt G M.2.2.1 p l e R s m args below meth c n0 k0 Q pc' L' st' h' n' k') : mWt G M.2.2.1 p l e R s m args below meth c n0 k0 Q pc L st h n k := by
  obtain ⟨hx, hb, hr, hml, hown, hlocks, hnm, hKn, htab, hRf, hRl, htr⟩ := C
  have hlen : len = 3 := by simpa [mIL] using hlen
  subst hlen
  dsimp only [mIns, mNx] at E
  have hown9 := mTab_own hM
  split at E
  · rename_i mj hmj
    split at E
    · rename_i hj
      split at E
      · rename_i a r
        split at E
        · rename_i t N g hh
          split at E
          · rename_i hc
            obtain ⟨rfl, hcat, hroom⟩ := hc
            cases E
            intro H locs ls hR hL hS
            obtain ⟨r1, r2⟩ := mRoomN_ok hroom hRf hRl
            have hat : H[a]? = some (arrV (G.2.1 4) N (fun j => va_rf (g j))) := hR.2 a _ hh
            obtain ⟨kA, comp, -, -, -, h4⟩ := (hKn.2.1.2 4 _ rfl).2
            rw [mw_16] at h4
            have hl := (mT_spec hmj hown9).1 (by omega)
            rw [hj] at hl
            unfold mCats at hcat
            exact va_getC hx hb (hml.trans hL.1.1.symm) hown (hKn.word hl rfl) (hKn.word mw_1 rfl) (hKn.word mw_2 rfl) (hKn.word mw_3 rfl) (hKn.word mw_4 rfl) hKn.2.2.2.2.2.2.2.1 ⟨_, hat, rfl, h4⟩ r1 (by omega) hd (K H locs ls hR hL hS)
          · cases E
        · cases E
      · cases E
    · split at E
      · split at E
        · split at E
          · split at E <;> cases E
          · cases E
        · cases E
      · cases E
  · cases E
theorem ms_specN {x : Nat} (hM : mTab[mi]? = some M) (C : mCx G l M mi p R s m meth c) (hd : decode M.2.1 pc = .ok (.invokespecial x, len)) (hlen : mIL (.invokespecial x) len = true) (E : mIns (.invokespecial x) len G M mi pc L st h n k = some (.inl (pc', L', st', h', n', k'))) (hcells : n' - n0 ≤ R.cells) (hslots : k' - k0 ≤ R.slots) (K : mWt G M.2.2.1 p l e R s m args below meth c n0 k0 Q pc' L' st' h' n' k') : mWt G M.2.2.1 p l e R s m args below meth c n0 k0 Q pc L st h n k := by
  obtain ⟨hx, hb, hr, hml, hown, hlocks, hnm, hKn, htab, hRf, hRl, htr⟩ := C
  have hlen : len = 3 := by simpa [mIL] using hlen
  subst hlen
  dsimp only [mIns, mNx] at E
  have hown9 := mTab_own hM
  split at E
  · rename_i mj hmj
    split at E
    · rename_i hj
      split at E
      · rename_i a r
        split at E
        · rename_i hc
          obtain ⟨hcat, hroom⟩ := hc
          cases E
          intro H locs ls hR hL hS
          obtain ⟨r1, r2⟩ := mRoomN_ok hroom hRf hRl
          have hl := (mT_spec hmj hown9).1 (by omega)
          rw [hj] at hl
          unfold mCats at hcat
          exact W.objInit hx hb hown (hKn.word hl rfl) (hKn.word mw_8 rfl) (hKn.word mw_9 rfl) rfl (hL.1.1.trans hml.symm) rfl hd r1 (by show 2 * 0 + _ + 12 ≤ _; omega) (K H locs ls hR hL hS)
        · cases E
      · cases E
    · split at E
      · split at E
        · split at E <;> cases E
        · cases E
      · cases E
  · cases E
theorem mNn (z : Int32) (hz : ¬ z < 0) : z.toInt = (z.toNatClampNeg : Int) := by
  have hz0 : (0 : Int) ≤ z.toInt := by
    have := Int32.not_lt.mp hz
    simpa using Int32.le_iff_toInt_le.mp this
  show z.toInt = ((z.toInt.toNat : Nat) : Int)
  omega
theorem mx_copyI {H : Heap} {locs : List Loc} {cells slots : Nat} {ls : Array Slot} {x : Nat} {sp dp N : Int32} {a0 a n0' n1' : Nat} {f g : Nat → Int32} {r : List Value} (C : mCx G l M mi p R s m meth c) (hlk : Cond.methodLink M.1.cls x arraycopyName ∈ lw_tbl) (hd : decode M.2.1 pc = .ok (.invokestatic x, 3)) (hls : ls.size = M.2.2.1) (hroom : mRoomN mi = true) (hcat : mCats r ≤ 8)
    (hc0 : H[a0]? = some (arrV (G.2.1 0) n0' (fun j => .int (f j)))) (hc1 : H[a]? = some (arrV (G.2.1 0) n1' (fun j => .int (g j)))) (h1 : ¬ sp < 0) (h2 : ¬ dp < 0) (h3 : ¬ N < 0) (h4 : sp.toNatClampNeg + N.toNatClampNeg ≤ n0') (h5 : dp.toNatClampNeg + N.toNatClampNeg ≤ n1')
    (K : ∀ (H1 : Heap) (L9 : List Loc), (∀ q ∈ L9, q.base = a) → H1[a]? = some (arrV (G.2.1 0) n1' (fun j => .int (va_cpy f g sp.toNatClampNeg dp.toNatClampNeg N.toNatClampNeg j))) → H1.size = H.size → (∀ q, q ≠ a → H1[q]? = H[q]?) → W p l e R s m args below meth c H1 (locs ++ L9) cells slots Q (F0 m (pc + 3) ls r)) :
    W p l e R s m args below meth c H locs cells slots Q (F0 m pc ls (.int N :: .int dp :: .ref a :: .int sp :: .ref a0 :: r)) := by
  obtain ⟨hx, hb, hr, hml, hown, hlocks, hnm, hKn, htab, hRf, hRl, htr⟩ := C
  obtain ⟨r1, r2⟩ := mRoomN_ok hroom hRf hRl
  have hw := mw_15
  unfold mCats at hcat
  intro T hT X
  obtain ⟨-, k1, hk1, cm1, hkk1⟩ := (hKn.2.1.2 0 _ rfl).1 n0' (fun j => .int (f j))
  obtain ⟨vm', X', step⟩ := X.arraycopy hx hown (hKn.word hlk rfl) (hKn.word mw_5 rfl) (hKn.word mw_6 rfl) (hKn.word mw_7 rfl) (src := a0) (dst := a) (cs := arrV (G.2.1 0) n0' (fun j => .int (f j))) (cd := arrV (G.2.1 0) n1' (fun j => .int (g j))) (srcPos := sp) (destPos := dp) (n := N) (by rw [hT]; exact hc0) (by rw [hT]; exact hc1)
    (fun _ h => by cases h) (fun _ h => by cases h) (fun h => by cases h) (fun h => by cases h) hk1 hk1 hkk1 hkk1 (by simp [refKind]) h1 h2 h3
    (by rw [mNn sp h1, mNn N h3, arrV_size]; omega)
    (by rw [mNn dp h2, mNn N h3, arrV_size]; omega)
    (fun vm₁ _ i hi => by
      have e9 : (arrV (G.2.1 0) n0' (fun j => .int (f j))).slots.getD (sp.toNatClampNeg + i) .null = .int (f (sp.toNatClampNeg + i)) := by
        rw [Array.getD_eq_getD_getElem?, arrV_read _ _ (by omega)]
        rfl
      rw [e9]
      exact ⟨rfl, trivial⟩)
    (g := F0 m pc ls (.int N :: .int dp :: .ref a :: .int sp :: .ref a0 :: r)) rfl (hls.trans hml.symm) (rest := r) rfl (by rw [hb]; exact hd) r1 (by show 2 * 0 + _ + _ ≤ _; omega)
  have e1 : copied (arrV (G.2.1 0) n0' (fun j => .int (f j))) (arrV (G.2.1 0) n1' (fun j => .int (g j))) sp dp N = arrV (G.2.1 0) n1' (fun j => .int (va_cpy f g sp.toNatClampNeg dp.toNatClampNeg N.toNatClampNeg j)) := va_copied (fun z => .int z) _ _ f g h4
  rw [e1] at X' step
  have hl : a < H.size := (Array.getElem?_eq_some_iff.mp hc1).1
  obtain ⟨t, a1, b1⟩ := K (H.setIfInBounds a (arrV (G.2.1 0) n1' (fun j => .int (va_cpy f g sp.toNatClampNeg dp.toNatClampNeg N.toNatClampNeg j)))) _ (fun q hq => by obtain ⟨z, -, hz⟩ := List.mem_map.mp hq; rw [← hz]) (by simp [Array.getElem?_setIfInBounds, hl]) (by simp) (fun q hq => by simp [Array.getElem?_setIfInBounds, Ne.symm hq]) _ (by rw [← hT]; rfl) X'
  exact ⟨t, step t a1, b1⟩
theorem mx_copyA {H : Heap} {locs : List Loc} {cells slots : Nat} {ls : Array Slot} {x : Nat} {sp dp N : Int32} {a0 a n0' n1' : Nat} {f g : Nat → Option Nat} {r : List Value} (C : mCx G l M mi p R s m meth c) (hlk : Cond.methodLink M.1.cls x arraycopyName ∈ lw_tbl) (hd : decode M.2.1 pc = .ok (.invokestatic x, 3)) (hls : ls.size = M.2.2.1) (hroom : mRoomN mi = true) (hcat : mCats r ≤ 8)
    (hc0 : H[a0]? = some (arrV (G.2.1 4) n0' (fun j => va_rf (f j)))) (hc1 : H[a]? = some (arrV (G.2.1 4) n1' (fun j => va_rf (g j)))) (h1 : ¬ sp < 0) (h2 : ¬ dp < 0) (h3 : ¬ N < 0) (h4 : sp.toNatClampNeg + N.toNatClampNeg ≤ n0') (h5 : dp.toNatClampNeg + N.toNatClampNeg ≤ n1')
    (hel : ∀ i : Nat, i < N.toNatClampNeg → ∀ y : Nat, f (sp.toNatClampNeg + i) = some y → va_Any "java/lang/Object" s H y)
    (K : ∀ (H1 : Heap) (L9 : List Loc), (∀ q ∈ L9, q.base = a) → H1[a]? = some (arrV (G.2.1 4) n1' (fun j => va_rf (va_cpy f g sp.toNatClampNeg dp.toNatClampNeg N.toNatClampNeg j))) → H1.size = H.size → (∀ q, q ≠ a → H1[q]? = H[q]?) → W p l e R s m args below meth c H1 (locs ++ L9) cells slots Q (F0 m (pc + 3) ls r)) :
    W p l e R s m args below meth c H locs cells slots Q (F0 m pc ls (.int N :: .int dp :: .ref a :: .int sp :: .ref a0 :: r)) := by
  obtain ⟨hx, hb, hr, hml, hown, hlocks, hnm, hKn, htab, hRf, hRl, htr⟩ := C
  obtain ⟨r1, r2⟩ := mRoomN_ok hroom hRf hRl
  have hw := mw_15
  unfold mCats at hcat
  intro T hT X
  obtain ⟨-, k1, hk1, cm1, hkk1⟩ := (hKn.2.1.2 4 _ rfl).1 n0' (fun j => va_rf (f j))
  obtain ⟨vm', X', step⟩ := X.arraycopy hx hown (hKn.word hlk rfl) (hKn.word mw_5 rfl) (hKn.word mw_6 rfl) (hKn.word mw_7 rfl) (src := a0) (dst := a) (cs := arrV (G.2.1 4) n0' (fun j => va_rf (f j))) (cd := arrV (G.2.1 4) n1' (fun j => va_rf (g j))) (srcPos := sp) (destPos := dp) (n := N) (by rw [hT]; exact hc0) (by rw [hT]; exact hc1)
    (fun _ h => by cases h) (fun _ h => by cases h) (fun h => by cases h) (fun h => by cases h) hk1 hk1 hkk1 hkk1 rfl h1 h2 h3
    (by rw [mNn sp h1, mNn N h3, arrV_size]; omega)
    (by rw [mNn dp h2, mNn N h3, arrV_size]; omega)
    (fun vm₁ hal i hi => by
      have e9 : (arrV (G.2.1 4) n0' (fun j => va_rf (f j))).slots.getD (sp.toNatClampNeg + i) .null = va_rf (f (sp.toNatClampNeg + i)) := by
        rw [Array.getD_eq_getD_getElem?, arrV_read _ _ (by omega)]
        rfl
      rw [e9]
      cases hy : f (sp.toNatClampNeg + i) with
      | none => exact ⟨rfl, trivial⟩
      | some y =>
        obtain ⟨cellV, g1, g2, ⟨kC, hkC⟩, hasg⟩ := hel i hi y hy
        obtain ⟨kA, comp, r1, r2, r3, -⟩ := (hKn.2.1.2 4 _ rfl).2
        cases hk1.symm.trans r1
        cases hkk1.symm.trans r2
        obtain ⟨kE, hkE, -⟩ := Vm.findClass_spec r3
        obtain ⟨kC', hkC', -⟩ := hal.2.2 _ _ hkC
        obtain ⟨kE', hkE', -⟩ := hal.2.2 _ _ hkE
        refine ⟨rfl, cellV, (show T.heap[y]? = some cellV by rw [hT]; exact g1), (fun q h => by rw [h] at g2; cases g2), ⟨kC', hkC'⟩, ?_, ?_⟩
        · exact ⟨kE', hkE'⟩
        · show vm₁.assignable _ _ = true
          rw [hal.assignable]
          exact hasg _ r3)
    (g := F0 m pc ls (.int N :: .int dp :: .ref a :: .int sp :: .ref a0 :: r)) rfl (hls.trans hml.symm) (rest := r) rfl (by rw [hb]; exact hd) r1 (by show 2 * 0 + _ + _ ≤ _; omega)
  have e1 : copied (arrV (G.2.1 4) n0' (fun j => va_rf (f j))) (arrV (G.2.1 4) n1' (fun j => va_rf (g j))) sp dp N = arrV (G.2.1 4) n1' (fun j => va_rf (va_cpy f g sp.toNatClampNeg dp.toNatClampNeg N.toNatClampNeg j)) := va_copied (fun z => va_rf z) _ _ f g h4
  rw [e1] at X' step
  have hl : a < H.size := (Array.getElem?_eq_some_iff.mp hc1).1
  obtain ⟨t, a1, b1⟩ := K (H.setIfInBounds a (arrV (G.2.1 4) n1' (fun j => va_rf (va_cpy f g sp.toNatClampNeg dp.toNatClampNeg N.toNatClampNeg j)))) _ (fun q hq => by obtain ⟨z, -, hz⟩ := List.mem_map.mp hq; rw [← hz]) (by simp [Array.getElem?_setIfInBounds, hl]) (by simp) (fun q hq => by simp [Array.getElem?_setIfInBounds, Ne.symm hq]) _ (by rw [← hT]; rfl) X'
  exact ⟨t, step t a1, b1⟩
theorem va_S.puts {A : Nat → Prop} {H0 H H1 : Heap} {locs L9 : List Loc} {a : Nat} (h : va_S A H0 H locs) (z : H1.size = H.size) (oq : ∀ q : Nat, q ≠ a → H1[q]? = H[q]?) (ha : A a) (hL : ∀ q ∈ L9, q.base = a) : va_S A H0 H1 (locs ++ L9) := by
  refine ⟨by rw [z]; exact h.1, fun q h1 h2 => ?_, fun q hq => ?_⟩
  · rw [oq q (fun e => h2 (by rw [e]; exact ha))]
    exact h.2.1 q h1 h2
  · rcases List.mem_append.mp hq with h1 | h1
    · exact h.2.2 q h1
    · rw [hL q h1]
      exact ha
theorem ms_statN {x : Nat} (hM : mTab[mi]? = some M) (C : mCx G l M mi p R s m meth c) (hd : decode M.2.1 pc = .ok (.invokestatic x, len)) (hlen : mIL (.invokestatic x) len = true) (E : mIns (.invokestatic x) len G M mi pc L st h n k = some (.inl (pc', L', st', h', n', k'))) (hcells : n' - n0 ≤ R.cells) (hslots : k' - k0 ≤ R.slots) (K : mWt G M.2.2.1 p l e R s m args below meth c n0 k0 Q pc' L' st' h' n' k') : mWt G M.2.2.1 p l e R s m args below meth c n0 k0 Q pc L st h n k := by
  obtain ⟨hx, hb, hr, hml, hown, hlocks, hnm, hKn, htab, hRf, hRl, htr⟩ := id C
  have hlen : len = 3 := by simpa [mIL] using hlen
  subst hlen
  dsimp only [mIns, mNx] at E
  have hown9 := mTab_own hM
  split at E
  · rename_i mj hmj
    split at E
    · rename_i hj
      have hl := (mT_spec hmj hown9).1 (by omega)
      rw [hj] at hl
      split at E
      · rename_i N dp a sp a0 r
        split at E
        · rename_i hc
          obtain ⟨h1, h2, h3, hba, hcat, hroom⟩ := hc
          split at E
          · rename_i t0 m0 f t1 m1 g hh0 hh1
            split at E
            · rename_i hc2
              obtain ⟨rfl, rfl, h4, h5⟩ := hc2
              cases E
              intro H locs ls hR hL hS
              have hat0 := hR.2 a0 _ hh0
              have hat1 := hR.2 a _ hh1
              unfold mAt at hat0 hat1
              dsimp only at hat0 hat1
              rw [if_pos rfl] at hat0 hat1
              refine mx_copyI C hl hd hL.1.1 hroom hcat hat0 hat1 h1 h2 h3 h4 h5 (fun H1 L9 hL9 e1 z1 o1 => K H1 _ ls (hR.put z1 o1 ?_) hL (hS.puts z1 o1 hba hL9))
              unfold mAt
              dsimp only
              rw [if_pos rfl]
              exact e1
            · cases E
          · rename_i t0 m0 f t1 m1 g hh0 hh1
            split at E
            · rename_i hc2
              obtain ⟨rfl, rfl, h4, h5, hob⟩ := hc2
              cases E
              intro H locs ls hR hL hS
              refine mx_copyA C hl hd hL.1.1 hroom hcat (hR.2 a0 _ hh0) (hR.2 a _ hh1) h1 h2 h3 h4 h5 (fun i hi y hy => ?_) (fun H1 L9 hL9 e1 z1 o1 => K H1 _ ls (hR.put z1 o1 e1) hL (hS.puts z1 o1 hba hL9))
              have hz := List.all_eq_true.mp hob i (List.mem_range.mpr hi)
              unfold mObj at hz
              rw [hy] at hz
              dsimp only at hz
              split at hz
              · rename_i q hq
                obtain ⟨ci, fs⟩ := q
                exact mAny hKn (hR.2 y _ hq)
              · cases hz
            · cases E
          · cases E
        · cases E
      · cases E
    · split at E
      · rename_i hj
        have hl := (mT_spec hmj hown9).1 (by omega)
        rw [hj] at hl
        split at E
        · rename_i y x r
          split at E
          · rename_i hc
            obtain ⟨hcat, hroom⟩ := hc
            cases E
            intro H locs ls hR hL hS
            obtain ⟨r1, r2⟩ := mRoomN_ok hroom hRf hRl
            unfold mCats at hcat
            exact va_mmax hx hb (hml.trans hL.1.1.symm) hown (hKn.word hl rfl) (hKn.word mw_10 rfl) (hKn.word mw_14 rfl) (hKn.word mw_12 rfl) r1 (by omega) hcells hslots hd (K H locs ls hR hL hS)
          · cases E
        · cases E
      · split at E
        · rename_i hj
          have hl := (mT_spec hmj hown9).1 (by omega)
          rw [hj] at hl
          split at E
          · rename_i y x r
            split at E
            · rename_i hc
              obtain ⟨hcat, hroom⟩ := hc
              cases E
              intro H locs ls hR hL hS
              obtain ⟨r1, r2⟩ := mRoomN_ok hroom hRf hRl
              unfold mCats at hcat
              exact va_mmin hx hb (hml.trans hL.1.1.symm) hown (hKn.word hl rfl) (hKn.word mw_11 rfl) (hKn.word mw_14 rfl) (hKn.word mw_13 rfl) r1 (by omega) hcells hslots hd (K H locs ls hR hL hS)
            · cases E
          · cases E
        · split at E <;> cases E
  · cases E
end MNA
