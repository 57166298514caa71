/-! THE CLAIM: the law over the machine of the Statement. -/
def R_law : String := "ChipCardLaw"
def lw_P (b : Addr) (xs : List Int32) (args : Array Value) (s : State) : Prop := args = #[.ref b] ∧ s.IntsAt b xs ∧ xs.length ≤ 3072 ∧ (Jvm.Cond.and given_1 narrow_1).before args s = true
def lw_Q (_ : Array Value) (s : State) (o : Outcome) (t : State) : Prop := o = .returned (some (.int 1)) ∧ Framed s o t [] 601024 7293034
def lw_Z (below : List Frame) (a : Array Value) (s : State) : State → Prop := fun t => ∃ o, t.status = .running ∧ Ended t below o ∧ lw_Q a s o t
/-- what holds at the law's entry: the machine, the code, the tables' words (any of lw_tbl by 'hts w (by decide +kernel)'), the script of L ints xs at the cell b, what the Statement gives of the start (any of its parts by flat_of_before) -/
def lw_At (p : Program) (s : State) (m : MethodId) (meth : Method) (c : Code) (b L : Nat) (xs : Nat → Int32) : Prop :=
  p.tables.exec = Jvm.exec ∧ c.code = code ∧ meth.sig.returnType = ret ∧ c.maxLocals = 7 ∧ s.vm.findClass R_law = some m.cls ∧ (∀ w ∈ lw_tbl, w.before #[Value.ref b] s = true) ∧ va_X b L xs s s.heap ∧ b < s.heap.size ∧ meth.locks = false ∧ (Jvm.Cond.and given_1 narrow_1).before #[Value.ref b] s = true
theorem k_inst : ∀ q ∈ vwCl, Cond.instantiable q.1 q.2.2 ∈ lw_tbl := by decide +kernel
theorem k_str : ∀ q ∈ mStr, Cond.stringRef q.1 q.2.1 q.2.2 ∈ lw_tbl := by decide +kernel
theorem k_exa : ∀ q ∈ mStr, Cond.exactly (.string q.1 q.2.1) "java/lang/String" ∈ flatC (Jvm.Cond.and given_1 narrow_1) := by decide +kernel
theorem k_ncs : ∀ q ∈ mNcs, Cond.not (.castable q.1 q.2) ∈ flatC (Jvm.Cond.and given_1 narrow_1) := by decide +kernel
theorem k_lay : ∀ q ∈ mSta, Cond.laysStatic q.2.1 q.2.2.1 q.2.2.2 ∈ lw_tbl ∧ Cond.initialized q.2.1 ∈ lw_tbl := by decide +kernel
theorem k_arr : Cond.arrayClass .int ∈ lw_tbl ∧ Cond.arrayClass .boolean ∈ lw_tbl ∧ Cond.arrayClass .long ∈ lw_tbl ∧ Cond.arrayOver (.object "ChipCard$Row") ∈ lw_tbl ∧ Cond.arrayOver (.object "java/lang/Object") ∈ lw_tbl := by decide +kernel
theorem k_thr : (Cond.laysStatic Bundle.tN "UNASSIGNED_STACK" Bundle.steD ∈ lw_tbl ∧ Cond.laysStatic Bundle.tN "SUPPRESSED_SENTINEL" Bundle.listD ∈ lw_tbl) ∧ Cond.initialized Bundle.tN ∈ lw_tbl := by decide +kernel
theorem k_isr : (Cond.isRef (.static Bundle.tN "UNASSIGNED_STACK" Bundle.steD) ∈ flatC (Jvm.Cond.and given_1 narrow_1) ∧ Cond.isRef (.static Bundle.tN "SUPPRESSED_SENTINEL" Bundle.listD) ∈ flatC (Jvm.Cond.and given_1 narrow_1)) ∧ Cond.isRef (.mirror "[Ljava/lang/Object;") ∈ flatC (Jvm.Cond.and given_1 narrow_1) := by decide +kernel
theorem k_def : Cond.arrayOf (.static "java/util/ArrayList" "DEFAULTCAPACITY_EMPTY_ELEMENTDATA" "[Ljava/lang/Object;") (.object "java/lang/Object") ∈ flatC (Jvm.Cond.and given_1 narrow_1) ∧ Cond.eq (.length (.static "java/util/ArrayList" "DEFAULTCAPACITY_EMPTY_ELEMENTDATA" "[Ljava/lang/Object;")) (.int (Int32.ofNat 0)) ∈ flatC (Jvm.Cond.and given_1 narrow_1) := by decide +kernel
theorem arr_of {args : Array Value} {s : State} {ty : FieldType} (hty : ∀ C, ty ≠ .object C) (h : (Cond.arrayClass ty).before args s = true) : ∃ cA : ClassId, ArrOfT s cA ty ∧ va_RA s cA ty := by
  obtain ⟨c, k, comp, h1, h2, h3⟩ := Cond.arrayClass_spec h
  refine ⟨c, fun n z => ⟨fun k h => (by cases h), k, h2, comp, h3⟩, ?_⟩
  cases ty <;> first | exact absurd rfl (hty _) | exact h1
theorem arr_ofO {args : Array Value} {s : State} {C : String} (h : (Cond.arrayOver (.object C)).before args s = true) : ∃ cA : ClassId, ArrOfT s cA (.object C) ∧ va_RA s cA (.object C) := by
  obtain ⟨comp, c, k, h1, h2, h3, h4, h5⟩ := Cond.arrayOver_spec h
  exact ⟨c, fun n z => ⟨fun k h => (by cases h), k, h3, comp, h4⟩, ⟨k, comp, h3, h4, h1, h5⟩⟩
theorem kn_of {s : State} {b L : Nat} {xs : Nat → Int32} (hts : ∀ w ∈ lw_tbl, w.before #[Value.ref b] s = true) (hgv : (Jvm.Cond.and given_1 narrow_1).before #[Value.ref b] s = true) : ∃ (G : mG), mKn G s ∧ G.2.2.2 = s.heap.size ∧ (G.2.2.1 8 = b ∧ G.2.2.1 9 = L ∧ ∀ j, G.2.2.1 (10 + j) = (sv s b j + 2147483648).toNat) ∧
    (sA s (G.2.2.1 0) 9 (fun j => iI (([33, 35, 36, 19, 39, 1, 38, 5, 37] : List Int).getD j 0)) ∧ sA s (G.2.2.1 1) 8 (fun j => iI (([1, 2, 3, 13, 16, 19, 36, 37] : List Int).getD j 0)) ∧ sA s (G.2.2.1 2) 3 (fun j => iI (([2, 16, 21] : List Int).getD j 0)) ∧ sA s (G.2.2.1 3) 2 (fun j => iI (([2, 25] : List Int).getD j 0)) ∧ sA s (G.2.2.1 4) 3 (fun j => iI (([2, 36, 37] : List Int).getD j 0)) ∧ sA s (G.2.2.1 5) 3 (fun j => iI (([2, 6, 11] : List Int).getD j 0))) ∧ (∃ c : Cell, s.heap[G.2.2.1 6]? = some c ∧ s.isArrayOf c (.object "java/lang/Object") ∧ c.slots.size = 0) := by
  have hs := flat_of_before _ hgv
  have hA : ∀ a : Nat, a < s.heap.size → ¬ (fun q : Nat => s.heap.size ≤ q) a := fun a h q => absurd q (Nat.not_le.mpr h)
  obtain ⟨t0, e0, c0⟩ := sta_of (vals := [33, 35, 36, 19, 39, 1, 38, 5, 37]) (C := "ChipCard") (n := "TYPES") (d := "[I") (by decide) hgv (by decide +kernel)
  obtain ⟨t1, e1, c1⟩ := sta_of (vals := [1, 2, 3, 13, 16, 19, 36, 37]) (C := "ChipCard") (n := "RESPONSE_TAGS") (d := "[I") (by decide) hgv (by decide +kernel)
  obtain ⟨t2, e2, c2⟩ := sta_of (vals := [2, 16, 21]) (C := "ChipCard") (n := "MENU_TAGS") (d := "[I") (by decide) hgv (by decide +kernel)
  obtain ⟨t3, e3, c3⟩ := sta_of (vals := [2, 25]) (C := "ChipCard") (n := "EVENT_TAGS") (d := "[I") (by decide) hgv (by decide +kernel)
  obtain ⟨t4, e4, c4⟩ := sta_of (vals := [2, 36, 37]) (C := "ChipCard") (n := "TIMER_TAGS") (d := "[I") (by decide) hgv (by decide +kernel)
  obtain ⟨t5, e5, c5⟩ := sta_of (vals := [2, 6, 11]) (C := "ChipCard") (n := "MESSAGE_TAGS") (d := "[I") (by decide) hgv (by decide +kernel)
  have l6 := va_eqt (hs _ k_def.2)
  obtain ⟨t6, x6, g1, g2, g3⟩ := len_ex (N := 0) (by decide) l6
  obtain ⟨g4, -, -, -⟩ := State.arrayAt?_spec g2
  obtain ⟨g5, -⟩ := Cond.arrayOf_spec (hs _ k_def.1) g1 g4
  obtain ⟨mi, hmi⟩ := va_Mi.of (hs _ k_isr.2)
  have key : ∀ q ∈ vwCl, ∃ (cC : ClassId) (iS : Nat → Nat), u_Kn s q.1 q.2.1 q.2.2 cC iS := fun q hq => u_known hts (fun w hw => (mU_ok q hq w hw).1) (hts _ (k_inst q hq))
  have key' : ∀ k : Nat, ∃ (cC : ClassId) (iS : Nat → Nat), ∀ q, vwCl[k]? = some q → u_Kn s q.1 q.2.1 q.2.2 cC iS := by
    intro k
    cases h : vwCl[k]? with
    | none => exact ⟨0, fun _ => 0, fun q hq => by cases hq⟩
    | some q =>
      obtain ⟨c1, i1, h1⟩ := key q (List.mem_of_getElem? h)
      exact ⟨c1, i1, fun q' hq => by cases hq; exact h1⟩
  obtain ⟨aI, hI⟩ := arr_of (fun _ h => by cases h) (hts _ k_arr.1)
  obtain ⟨aZ, hZ⟩ := arr_of (fun _ h => by cases h) (hts _ k_arr.2.1)
  obtain ⟨aJ, hJ⟩ := arr_of (fun _ h => by cases h) (hts _ k_arr.2.2.1)
  obtain ⟨aR, hR⟩ := arr_ofO (hts _ k_arr.2.2.2.1)
  obtain ⟨aO, hO⟩ := arr_ofO (hts _ k_arr.2.2.2.2)
  refine ⟨((fun k => (key' k).choose, fun k => (key' k).choose_spec.choose), (fun k => if k = 0 then aI else if k = 1 then aZ else if k = 2 then aJ else if k = 3 then aR else aO), (fun k => if k = 0 then t0 else if k = 1 then t1 else if k = 2 then t2 else if k = 3 then t3 else if k = 4 then t4 else if k = 5 then t5 else if k = 6 then t6 else if k = 7 then mi else if k = 8 then b else if k = 9 then L else (sv s b (k - 10) + 2147483648).toNat), s.heap.size), ?_, rfl, ⟨rfl, rfl, ?_⟩, ⟨c0, c1, c2, c3, c4, c5⟩, ⟨x6, g4, g5, g3⟩⟩
  · refine ⟨fun w hw hg => mGood_at (State.WarmedH.refl s) hg (hts w hw), ⟨fun k q hq => (key' k).choose_spec.choose_spec q hq, ?_⟩, Nat.le_refl _, ?_, vx_Zqof (hts _ k_thr.1.1) (hts _ k_thr.2) (hs _ k_isr.1.1) hA, vx_Zqof (hts _ k_thr.1.2) (hts _ k_thr.2) (hs _ k_isr.1.2) hA, ?_, hmi, ⟨va_AO.of (hts _ k_arr.2.2.2.1), va_AO.of (hts _ k_arr.2.2.2.2)⟩, fun q hq => va_Nc.of (hs _ (k_ncs q hq))⟩
    · intro k q hq
      match k, hq with
      | 0, hq => cases hq; exact hI
      | 1, hq => cases hq; exact hZ
      | 2, hq => cases hq; exact hJ
      | 3, hq => cases hq; exact hR
      | 4, hq => cases hq; exact hO
      | k + 5, hq => simp [mTys] at hq
    · have z : ∀ q ∈ mSta, ∀ v, (Term.static q.2.1 q.2.2.1 q.2.2.2).eval #[Value.ref b] s none [] s = some v → va_Z q.2.1 q.2.2.1 q.2.2.2 v (fun q : Nat => s.heap.size ≤ q) s s.heap := fun q hq v hv => va_Zof (hts _ (k_lay q hq).1) (hts _ (k_lay q hq).2) hv hA
      intro q hq
      refine z q hq _ ?_
      unfold mSta at hq
      simp only [List.mem_cons, List.not_mem_nil, or_false] at hq
      rcases hq with rfl | rfl | rfl | rfl | rfl | rfl | rfl
      · exact e0
      · exact e1
      · exact e2
      · exact e3
      · exact e4
      · exact e5
      · exact g1
    · intro q hq
      obtain ⟨a, c, cell, k, w1, -⟩ := Cond.exactly_spec (hs _ (k_exa q hq))
      exact ⟨a, vk_R.of (hts _ (k_str q hq)) w1⟩
  · intro j
    show (if 10 + j = 0 then t0 else if 10 + j = 1 then t1 else if 10 + j = 2 then t2 else if 10 + j = 3 then t3 else if 10 + j = 4 then t4 else if 10 + j = 5 then t5 else if 10 + j = 6 then t6 else if 10 + j = 7 then mi else if 10 + j = 8 then b else if 10 + j = 9 then L else (sv s b (10 + j - 10) + 2147483648).toNat) = _
    rw [if_neg (by omega), if_neg (by omega), if_neg (by omega), if_neg (by omega), if_neg (by omega), if_neg (by omega), if_neg (by omega), if_neg (by omega), if_neg (by omega), if_neg (by omega), Nat.add_sub_cancel_left]
theorem isA_ne {s : State} {c : Cell} {C : String} (h1 : s.isArrayOf c .int) (h2 : s.isArrayOf c (.object C)) : False := by
  obtain ⟨-, k1, q1, comp1, w1⟩ := h1
  obtain ⟨-, k2, q2, comp2, w2⟩ := h2
  cases Option.some.inj (q1.symm.trans q2)
  rw [w1] at w2
  cases w2
theorem sbn_nil {s t : State} {L : List Loc} {k n k' n' : Nat} (h : s.sameButNew t L k n) (hL : ∀ q ∈ L, s.heap.size ≤ q.base) (hk : k ≤ k') (hn : n ≤ n') : s.sameButNew t [] k' n' := by
  obtain ⟨h1, h2, h3, h4, h5, h6⟩ := h
  refine ⟨h1, h2, by omega, h4, by omega, ?_⟩
  intro a c hc
  obtain ⟨c', w1, w2, w3, w4⟩ := h6 a c hc
  have ha : a < s.heap.size := (Array.getElem?_eq_some_iff.mp hc).1
  refine ⟨c', w1, w2, w3, fun i _ => w4 i (fun hm => ?_)⟩
  have w9 : s.heap.size ≤ a := hL _ hm
  exact absurd w9 (Nat.not_le.mpr ha)
theorem whole_start {p : Program} {e : Env} {s : State} {m : MethodId} {below : List Frame} {meth : Method} {c : Code} (l : Launch) (htr : l.stackTraces = false) {b L : Nat} {xs : Nat → Int32} (hnm : meth.name = x.name) (hext : c.exceptionTable.toList = []) (hL : L ≤ 3072) (C0 : lw_At p s m meth c b L xs) : W p l e room_1 s m #[Value.ref b] below meth c s.heap [] 0 0 (lw_Z below #[Value.ref b] s) (entryFrame m ([Value.ref b] : List Value).toArray 7) := by
  obtain ⟨hx, hb, hr, hml, hown, hts, hX, hbl, hlocks, hgv⟩ := C0
  obtain ⟨G, hK, gS, ⟨g8, g9, g10⟩, ⟨a0, a1, a2, a3, a4, a5⟩, c6, q6, r6, z6⟩ := kn_of (L := L) (xs := xs) hts hgv
  have aB : sA s b L xs := hX
  have lt : ∀ {a N : Nat} {f : Nat → Int32}, sA s a N f → a < s.heap.size := fun h => by
    obtain ⟨c, h1, -⟩ := h
    exact (Array.getElem?_eq_some_iff.mp h1).1
  have l6 : G.2.2.1 6 < s.heap.size := (Array.getElem?_eq_some_iff.mp q6).1
  have n6 : ∀ {a N : Nat} {f : Nat → Int32}, sA s a N f → ¬ G.2.2.1 6 = a := fun h e => by
    obtain ⟨c, h1, h2, -⟩ := h
    rw [← e, q6] at h1
    cases h1
    exact isA_ne h2 r6
  have hin : ∀ a, (a = b ∨ a = G.2.2.1 0 ∨ a = G.2.2.1 1 ∨ a = G.2.2.1 2 ∨ a = G.2.2.1 3 ∨ a = G.2.2.1 4 ∨ a = G.2.2.1 5) → ∃ N f, sA s a N f := by
    rintro a (rfl | rfl | rfl | rfl | rfl | rfl | rfl)
    · exact ⟨_, _, aB⟩
    · exact ⟨_, _, a0⟩
    · exact ⟨_, _, a1⟩
    · exact ⟨_, _, a2⟩
    · exact ⟨_, _, a3⟩
    · exact ⟨_, _, a4⟩
    · exact ⟨_, _, a5⟩
  have hit : ∀ a, (a = b ∨ a = G.2.2.1 0 ∨ a = G.2.2.1 1 ∨ a = G.2.2.1 2 ∨ a = G.2.2.1 3 ∨ a = G.2.2.1 4 ∨ a = G.2.2.1 5) → H0 s b G.2.2.1 a = some (.inl (2, sz s a, fun j => iI (sv s a j))) := fun a h => if_pos h
  have hd6 : H0 s b G.2.2.1 (G.2.2.1 6) = some (.inl (3, 0, fun _ => 0)) := by
    unfold H0
    rw [if_neg, if_pos rfl]
    intro h
    obtain ⟨N, f, q⟩ := hin _ h
    exact n6 q rfl
  have hz : ∀ a, s.heap.size ≤ a → H0 s b G.2.2.1 a = none := by
    intro a ha
    unfold H0
    rw [if_neg, if_neg]
    · intro e
      omega
    · intro h
      obtain ⟨N, f, q⟩ := hin _ h
      have := lt q
      omega
  have hRep : mRep G s (H0 s b G.2.2.1) s.heap.size s.heap := by
    refine ⟨rfl, fun a e0 he => ?_⟩
    unfold H0 at he
    split at he
    · rename_i h
      cases he
      obtain ⟨N, f, q⟩ := hin _ h
      exact sA_at q
    · split at he
      · rename_i h
        cases he
        subst h
        exact ⟨c6, _, q6, r6, z6⟩
      · cases he
  have esc : ∀ j, scV G j = sv s b j := by
    intro j
    have := sv_rng s b j
    unfold scV
    rw [g10]
    omega
  have hsc : sSc G (H0 s b G.2.2.1) s.heap.size := by
    refine ⟨⟨Or.inl (by rw [g8]; exact hbl), ?_⟩, by rw [g9]; exact hL, fun j => by rw [esc]; exact sv_rng s b j⟩
    rw [g8, hit b (Or.inl rfl), sA_sz aB, g9]
    simp only [esc]
  have hrT : rT G (H0 s b G.2.2.1) s.heap.size := by
    refine ⟨⟨fun j => iI (sv s (G.2.2.1 0) j), Or.inl (lt a0), ?_, ?_⟩, tg_of (vals := [1, 2, 3, 13, 16, 19, 36, 37]) rfl (lt a1) (hit _ (by simp)) a1 (by decide) (by decide) (by intro t; simp only [List.mem_cons, List.not_mem_nil, or_false]), tg_of (vals := [2, 16, 21]) rfl (lt a2) (hit _ (by simp)) a2 (by decide) (by decide) (by intro t; simp only [List.mem_cons, List.not_mem_nil, or_false]), tg_of (vals := [2, 25]) rfl (lt a3) (hit _ (by simp)) a3 (by decide) (by decide) (by intro t; simp only [List.mem_cons, List.not_mem_nil, or_false]), tg_of (vals := [2, 36, 37]) rfl (lt a4) (hit _ (by simp)) a4 (by decide) (by decide) (by intro t; simp only [List.mem_cons, List.not_mem_nil, or_false]), tg_of (vals := [2, 6, 11]) rfl (lt a5) (hit _ (by simp)) a5 (by decide) (by decide) (by intro t; simp only [List.mem_cons, List.not_mem_nil, or_false])⟩
    · rw [hit _ (by simp), sA_sz a0]
    · have k : ∀ j, j < 9 → iI (sv s (G.2.2.1 0) j) = iI (([33, 35, 36, 19, 39, 1, 38, 5, 37] : List Int).getD j 0) := fun j hj => by rw [sA_sv a0 hj, iI_self]
      exact ⟨k 0 (by omega), k 1 (by omega), k 2 (by omega), k 3 (by omega), k 4 (by omega), k 5 (by omega), k 6 (by omega), k 7 (by omega), k 8 (by omega)⟩
  have hlaw := law_all (G := G) (b := s.heap.size) (k := 0) (H := H0 s b G.2.2.1) (f := fun _ => 0) (Q := fun r => ∃ h' n' k', r = (.inl (some (.int (iI 1))), h', n', k') ∧ n' ≤ s.heap.size + 9000 ∧ k' ≤ 5000000) (by rw [gS]; exact Nat.le_refl _) hz hd6 hrT hsc (fun h' n' k' w1 w2 => ⟨h', n', k', rfl, w1, by omega⟩)
  obtain ⟨fu, r, hrun, h1, n1, k1, rfl, b1, b2⟩ := hlaw
  rw [g8] at hrun
  obtain ⟨d1, d2, d3⟩ := mSound G l htr _ _ _ _ _ _ _ _ _ _ _ _ hrun
  have C : mCx G l (yL_law, cL_law, 7, (some .boolean), 20, []) 287 p room_1 s m meth c := ⟨hx, hb, hr, hml, hown, hlocks, hnm, hK, hext, by decide +kernel, by decide +kernel, htr⟩
  have fin := d3 _ hm287 p e room_1 s m #[Value.ref b] below meth c s.heap.size 0 C (Nat.le_refl _) (Nat.le_refl _) (by show n1 - s.heap.size ≤ 601024; omega) (by show k1 - 0 ≤ 7293034; omega) s.heap [] _ hRep (mLv_entry (vs := [Value.ref b]) (nL := 7) (Nat.le_of_ble_eq_true rfl)) va_S.rf
  rw [Nat.sub_self, Nat.sub_self] at fin
  rw [lg_entry_eq]
  intro T hT X
  obtain ⟨t, st1, o, w1, w2, w3⟩ := fin T hT X
  refine ⟨t, st1, o, w1, w2, ?_⟩
  rcases w3 with ⟨⟨⟨v, v1, v2⟩, -⟩, Ls, ⟨-, f2, f3⟩, f4⟩ | ⟨q, -, E, ce, L9, ⟨⟨x9, v1, -⟩, -⟩, -⟩
  · cases v1
    subst v2
    exact ⟨rfl, ⟨_, rfl⟩, f2, sbn_nil f3 (fun q hq => by have := f4 q hq; rw [← gS]; exact this) (by omega) (by omega)⟩
  · cases v1
set_option maxHeartbeats 4000000 in
theorem lw_walk (l : Launch) (htr : l.stackTraces = false) (b : Addr) (xs : List Int32) : MetFree l x (headSpec (Jvm.Cond.code x code maxLocals ret :: tables_1) room_1) (lw_P b xs) (fun _ _ _ _ _ => True) lw_Q := by
  refine MetFree.of_bodyS (code := code) (maxLocals := maxLocals) (ret := ret) (by decide) ?_ ?_
  · intro args s m h hn
    obtain ⟨meth, c, h1, h2, h3, h4, h5, h6, -, -⟩ := Cond.code_spec hn (atoms_spec (ws := Jvm.Cond.code x code maxLocals ret :: tables_1) h _ List.mem_cons_self)
    exact ⟨meth, c, h1, h2, h3, h4, h5, h6⟩
  · intro p e s m args below meth c s₁ B hml0 hP _
    obtain ⟨rfl, hx, hbd, hgv⟩ := hP
    obtain ⟨scr, harrAt, hlist, hof, hsmall⟩ := hx
    obtain ⟨hcb, hkn, -, -⟩ := State.arrayAt?_spec harrAt
    have hown : s.vm.findClass R_law = some m.cls := findClass_of_methodNamed B.named
    have hts0 : ∀ c ∈ (Jvm.Cond.code x code maxLocals ret :: tables_1), c.before #[Value.ref b] s = true := atoms_spec (ws := Jvm.Cond.code x code maxLocals ret :: tables_1) B.pre
    have hts : ∀ w ∈ lw_tbl, w.before #[Value.ref b] s = true := k2_hts_sels lw_privs (fun w hw => hts0 w (List.mem_cons_of_mem _ hw)) lw_privs_ok
    have hml : c.maxLocals = 7 := B.maxLocals_eq (hts0 _ List.mem_cons_self)
    have X₀ : Stand p l e room_1 s m #[Value.ref b] below meth c s₁ [] 0 0 := Stand.of_body B
    have hext : c.exceptionTable.toList = [] := by
      obtain ⟨meth9, c9, g1, g2, -, -, -, -, g7, -⟩ := Cond.code_spec B.named (hts0 _ List.mem_cons_self)
      cases Option.some.inj (g1.symm.trans B.method)
      cases Option.some.inj (g2.symm.trans X₀.code)
      simpa using g7
    have hh0 : s₁.heap = s.heap := by rw [B.state]; rfl
    have hsz : scr.slots.size = xs.length := by rw [← Array.length_toList, hlist, List.length_map]
    have hval : ∀ j : Nat, j < xs.length → scr.slots[j]? = some (.int (xs.getD j 0)) := fun j hj => by
      rw [← Array.getElem?_toList, hlist]
      simp [hj]
    have hbl : b < s.heap.size := (Array.getElem?_eq_some_iff.mp hcb).1
    have hX : va_X b xs.length (fun j => xs.getD j 0) s s.heap := ⟨scr, hcb, hof, hkn, hsz, hval⟩
    have K : W p l e room_1 s m #[Value.ref b] below meth c s₁.heap [] 0 0 (lw_Z below #[Value.ref b] s) (entryFrame m ([Value.ref b] : List Value).toArray 7) := by
      rw [hh0]
      exact whole_start l htr (name_of_methodNamed B.named B.method).1 hext hbd ⟨B.exec, B.bytes, B.returns, hml, hown, hts, hX, hbl, B.notSynchronized, hgv⟩
    obtain ⟨t, a1, o, b1, b2, b3⟩ := K s₁ rfl X₀
    exact ⟨t, o, a1, b1, b2, b3⟩
theorem lw_pre_spec {args : Array Value} {s : State} (h : (Jvm.Cond.and given_1 narrow_1).before args s = true) (hr : rest_1_c.before args s = true) : ∃ (b : Addr) (xs : List Int32), lw_P b xs args s := by
  have hs := flat_of_before _ h
  have hq := flat_of_before _ hr
  have hc : (Cond.count 1).before args s = true := hs _ (by decide +kernel)
  have harr : (Cond.arrayOf (.arg 0) .int).before args s = true := hs _ (by decide +kernel)
  have hle : (Cond.le (.length (.arg 0)) (.int 3072)).before args s = true := hs _ (by decide +kernel)
  have hlen : (Cond.isInt (.length (.arg 0))).before args s = true := hq _ (by decide +kernel)
  have hall : (Cond.all (.arg 0) (.isInt (.elem (.arg 0) (.index 0)))).before args s = true := hq _ (by decide +kernel)
  obtain ⟨b, xs, hb, hx⟩ := State.ints_of_pre rfl harr hlen hall
  have hsm : xs.length < 2 ^ 31 := hx.choose_spec.2.2.2
  have hev : (Term.length (.arg 0)).eval args s none [] s = some (.int xs.length.toInt32) := hx.length_eval hb
  have hv := Cond.le_ints hev (show (Term.int 3072).eval args s none [] s = some (.int 3072) from rfl)
  have hd : xs.length.toInt32 ≤ 3072 := by
    simpa [Cond.before, Cond.holds, hv] using hle
  have hN : xs.length ≤ 3072 := (Int32.ofNat_le_ofNat hsm (by decide)).mp (show Int32.ofNat xs.length ≤ Int32.ofNat 3072 from hd)
  exact ⟨b, xs, Cond.one_arg hc (show args[0]? = some (.ref b) from hb), hx, hN, h⟩
theorem lw_comes (l : Launch) (htr : l.stackTraces = false) : Comes l x (Jvm.Cond.code x code maxLocals ret :: tables_1) room_1 (fun tb e args s => Calls_1 tb e args s ∧ rest_1 tb e args s ∧ Pre_1 tb e args s)
    (fun _ _ args s o t => lw_Q args s o t) := by
  intro p e ha hc hk s m args below hf hfit hheap happ hpre
  obtain ⟨b, xs, hP⟩ := lw_pre_spec hpre.2.2 hpre.2.1
  obtain ⟨k, o, h1, h2, h3, hQ⟩ := lw_walk l htr b xs p e ha hc hk s m args below hf ((Spec.applies_iff_loose hf).mp happ).1 hP trivial
  exact ⟨k, o, h1, h2, h3, hQ⟩
theorem lw_frame {s t : State} {o : Outcome} {args : Array Value} (h : Framed s o t [] 601024 7293034) :
    Framed s o t (fieldLocs frame_1_writes args s ++ arrayLocs frame_1_arrays args s ++ staticLocs frame_1_statics s) 601024 7293034 := h
theorem lw_limb (L : Cond) (hL : ∀ (args : Array Value) (s t : State), L.after args s (.returned (some (.int 1))) t = true) :
    ArmFor flags0 classFile x code maxLocals ret World_1 tables_1 room_1 Calls_1 rest_1 Pre_1
      (fun tb e a s o t => postC L tb e a s o t ∧ Framed s o t (fieldLocs frame_1_writes a s ++ arrayLocs frame_1_arrays a s ++ staticLocs frame_1_statics s) 601024 7293034) := by
  intro l hfl _ _ p e ha hc hk s m args below hf hfit hheap happ hpre
  have htr : l.stackTraces = false := by unfold Launch.stackTraces; rw [hfl]; decide +kernel
  obtain ⟨k, o, h1, h2, h3, rfl, hF⟩ := lw_comes l htr p e ha hc hk s m args below hf hfit hheap happ hpre
  exact ⟨k, _, h1, h2, h3, hL args s _, lw_frame hF⟩
theorem i_vc : Claimed_1_1 ∧ Claimed_1_2 := ⟨lw_limb limb_1_1 (fun args s t => by simp [limb_1_1, Cond.after, Cond.holds, Cond.value]), lw_limb limb_1_2 (fun args s t => Cond.after_iff.mpr (by
  first | (rw [show limb_1_2 = Cond.eq .result (.int 1) from rfl, Cond.eq_ints (x := 1) (y := 1) rfl rfl]; simp; done) | (simp [limb_1_2, Cond.value, Term.eval]; done)))⟩
