/-! What the pure machine's values say of the machine of the Statement, and what is known of its tables in every method. -/
def mNest (w : Cond) : Bool := match w with
  | .fieldLinkNest .. => true
  | .methodLinkNest .. => true
  | .castable .. => true
  | .declares .. => true
  | _ => false
def mGood (w : Cond) : Bool := goodWord w || mNest w
theorem mGood_at {w : Cond} {args a' : Array Value} {s U : State} (hW : s.WarmedH U.vm) (hg : mGood w = true) (h : w.before args s = true) : w.before a' U = true := by
  unfold mGood at hg
  rcases Bool.or_eq_true _ _ ▸ hg with h1 | h1
  · exact word_at hW (good_of_word h1) h
  · cases w <;> first | (simp [mNest] at h1; done) | exact va_Nw.use rfl (va_Nw.warmF hW (va_Nw.of rfl h)) | exact va_Nw.use rfl (va_Nw.warmM hW (va_Nw.of rfl h)) | exact va_Nw.use rfl (va_Nw.warmC hW (va_Nw.of rfl h)) | exact va_Nw.use rfl (va_Nw.warmD hW (va_Nw.of rfl h))
def mTys (G : mG) : List (ClassId × FieldType) := [(G.2.1 0, .int), (G.2.1 1, .boolean), (G.2.1 2, .long), (G.2.1 3, .object "ChipCard$Row"), (G.2.1 4, .object "java/lang/Object")]
/-- what is not the law's own: cells below the start -/
abbrev mBA (G : mG) : Nat → Prop := fun q => G.2.2.2 ≤ q
def mAt (G : mG) (s : State) (e : mE) (a : Nat) (H : Heap) : Prop := match e with
  | .inl (t, n, g) => if t = 0 then H[a]? = some (arrV (G.2.1 0) n (fun j => .int (g j)))
      else if t = 1 then H[a]? = some (arrV (G.2.1 1) n (fun j => .int (g j)))
      else if t = 2 then ∃ c, H[a]? = some c ∧ s.isArrayOf c .int ∧ c.vm ≠ .unknown ∧ c.slots.size = n ∧ ∀ j : Nat, j < n → c.slots[j]? = some (.int (g j))
      else ∃ c ty, H[a]? = some c ∧ s.isArrayOf c ty ∧ c.slots.size = n
  | .inr (.inl (n, g)) => H[a]? = some (arrV (G.2.1 2) n (fun j => .long (g j)))
  | .inr (.inr (.inl (t, n, g))) => H[a]? = some (arrV (G.2.1 t) n (fun j => va_rf (g j)))
  | .inr (.inr (.inr (ci, fs))) => va_at G.1 vwCl (a, .inr (ci, fs)) H
theorem mAt.kept {G : mG} {s : State} {e : mE} {a : Nat} {H H1 : Heap} (h : mAt G s e a H) (hq : H1[a]? = H[a]?) : mAt G s e a H1 := by
  rcases e with ⟨t, n, g⟩ | ⟨n, g⟩ | ⟨t, n, g⟩ | ⟨ci, fs⟩
  · unfold mAt at h ⊢
    dsimp only at h ⊢
    rw [hq]
    exact h
  · exact hq.trans h
  · exact hq.trans h
  · exact va_at.kept (q := (a, .inr (ci, fs))) h hq
theorem mAt.moved {G : mG} {s U : State} {e : mE} {a : Nat} {H : Heap} (hvm : s.vm.Alike U.vm) (h : mAt G s e a H) : mAt G U e a H := by
  rcases e with ⟨t, n, g⟩ | ⟨n, g⟩ | ⟨t, n, g⟩ | ⟨ci, fs⟩
  · unfold mAt at h ⊢
    dsimp only at h ⊢
    by_cases h0 : t = 0
    · rw [if_pos h0] at h ⊢
      exact h
    · rw [if_neg h0] at h ⊢
      by_cases h1 : t = 1
      · rw [if_pos h1] at h ⊢
        exact h
      · rw [if_neg h1] at h ⊢
        by_cases h2 : t = 2
        · rw [if_pos h2] at h ⊢
          obtain ⟨c, q1, q2, q3⟩ := h
          exact ⟨c, q1, State.isArrayOf_alike hvm q2, q3⟩
        · rw [if_neg h2] at h ⊢
          obtain ⟨c, ty, q1, q2, q3⟩ := h
          exact ⟨c, ty, q1, State.isArrayOf_alike hvm q2, q3⟩
  · exact h
  · exact h
  · exact h
theorem mAt.lt {G : mG} {s : State} {e : mE} {a : Nat} {H : Heap} (h : mAt G s e a H) : a < H.size := by
  rcases e with ⟨t, n, g⟩ | ⟨n, g⟩ | ⟨t, n, g⟩ | ⟨ci, fs⟩
  · unfold mAt at h
    dsimp only at h
    split at h
    · exact (Array.getElem?_eq_some_iff.mp h).1
    · split at h
      · exact (Array.getElem?_eq_some_iff.mp h).1
      · split at h
        · obtain ⟨c, h1, -⟩ := h
          exact (Array.getElem?_eq_some_iff.mp h1).1
        · obtain ⟨c, ty, h1, -⟩ := h
          exact (Array.getElem?_eq_some_iff.mp h1).1
  · exact (Array.getElem?_eq_some_iff.mp h).1
  · exact (Array.getElem?_eq_some_iff.mp h).1
  · exact va_at.lt (q := (a, .inr (ci, fs))) h
def mRep (G : mG) (s : State) (h : mH) (n : Nat) (H : Heap) : Prop := H.size = n ∧ ∀ a e, h a = some e → mAt G s e a H
theorem mRep.moved {G : mG} {s U : State} {h : mH} {n : Nat} {H : Heap} (hvm : s.vm.Alike U.vm) (r : mRep G s h n H) : mRep G U h n H := ⟨r.1, fun a e q => (r.2 a e q).moved hvm⟩
/-- one cell is written -/
theorem mRep.put {G : mG} {s : State} {h : mH} {n : Nat} {H H1 : Heap} {a : Nat} {e : mE} (r : mRep G s h n H) (z : H1.size = H.size) (oq : ∀ q : Nat, q ≠ a → H1[q]? = H[q]?) (he : mAt G s e a H1) : mRep G s (mUp h a e) n H1 := by
  refine ⟨z.trans r.1, fun b e' hb => ?_⟩
  unfold mUp at hb
  split at hb
  · rename_i hba
    subst hba
    cases hb
    exact he
  · rename_i hba
    exact (r.2 b e' hb).kept (oq b hba)
/-- one cell is made -/
theorem mRep.new {G : mG} {s : State} {h : mH} {n : Nat} {H H1 : Heap} {e : mE} (r : mRep G s h n H) (z : H1.size = n + 1) (oq : ∀ q : Nat, q < n → H1[q]? = H[q]?) (he : mAt G s e n H1) : mRep G s (mUp h n e) (n + 1) H1 := by
  refine ⟨z, fun b e' hb => ?_⟩
  unfold mUp at hb
  split at hb
  · rename_i hba
    subst hba
    cases hb
    exact he
  · rename_i hba
    have hl := (r.2 b e' hb).lt
    rw [r.1] at hl
    exact (r.2 b e' hb).kept (oq b hl)
/-- the statics that are read: place, class, name, descriptor -/
def mSta : List (Nat × String × String × String) := [(0, "ChipCard", "TYPES", "[I"), (1, "ChipCard", "RESPONSE_TAGS", "[I"), (2, "ChipCard", "MENU_TAGS", "[I"), (3, "ChipCard", "EVENT_TAGS", "[I"), (4, "ChipCard", "TIMER_TAGS", "[I"), (5, "ChipCard", "MESSAGE_TAGS", "[I"), (6, "java/util/ArrayList", "DEFAULTCAPACITY_EMPTY_ELEMENTDATA", "[Ljava/lang/Object;")]
/-- pairs of exception classes, the first no kind of the second -/
def mNcs : List (String × String) := [("java/lang/IllegalArgumentException", "java/lang/IndexOutOfBoundsException"), ("java/lang/UnsupportedOperationException", "java/lang/IndexOutOfBoundsException"), ("java/lang/UnsupportedOperationException", "java/lang/IllegalArgumentException")]
/-- the texts of exceptions: class, pool entry, text -/
def mStr : List (String × Nat × String) := [("ChipCard", 96, "there is no such file above"), ("ChipCard", 113, "no directory above, or the id can not be had"), ("ChipCard", 120, "no such kind, or not of this size"), ("ChipCard", 127, "the card is full"), ("ChipCard", 147, "there is no such file with bytes"), ("ChipCard", 152, "the bytes go beyond the file"), ("ChipCard", 161, "no such sort or qualifier"), ("ChipCard", 163, "the text is too long"), ("ChipCard", 168, "there are 40 nodes"), ("ChipCard", 180, "there is no such node"), ("ChipCard", 188, "no choice, or no such identifier"), ("ChipCard", 194, "the identifier is there already, or the text is too long"), ("ChipCard", 199, "there are 5 items"), ("ChipCard", 205, "the title is too long"), ("ChipCard", 274, "the out has no such byte")]
def mKn (G : mG) (U : State) : Prop :=
  (∀ w ∈ lw_tbl, mGood w = true → w.before #[] U = true) ∧ va_K G.1 vwCl (mTys G) U ∧ G.2.2.2 ≤ U.heap.size ∧
  (∀ q ∈ mSta, va_Z q.2.1 q.2.2.1 q.2.2.2 (.ref (G.2.2.1 q.1)) (mBA G) U U.heap) ∧
  vx_Zq Bundle.tN "UNASSIGNED_STACK" Bundle.steD (mBA G) U U.heap ∧ vx_Zq Bundle.tN "SUPPRESSED_SENTINEL" Bundle.listD (mBA G) U U.heap ∧
  (∀ q ∈ mStr, ∃ sa, vk_R q.1 q.2.1 q.2.2 sa U) ∧ va_Mi "[Ljava/lang/Object;" (G.2.2.1 7) U ∧ (va_AO "ChipCard$Row" U ∧ va_AO "java/lang/Object" U) ∧ ∀ q ∈ mNcs, va_Nc q.1 q.2 U
theorem mKn.word {G : mG} {U : State} (K : mKn G U) {w : Cond} (hw : w ∈ lw_tbl) (hg : mGood w = true) {A : Array Value} : w.before A U = true :=
  mGood_at (State.WarmedH.refl U) hg (K.1 w hw hg)
theorem mKn.go {G : mG} {s U : State} (K : mKn G s) (hW : s.WarmedH U.vm) (hz : s.heap.size ≤ U.heap.size) (hq : ∀ q : Nat, q < s.heap.size → ¬ mBA G q → U.heap[q]? = s.heap[q]?) : mKn G U := by
  obtain ⟨k1, k2, k3, k4, k5, k6, k7, k8, k9, k10⟩ := K
  refine ⟨fun w hw hg => mGood_at hW hg (k1 w hw hg), va_K.moved hW.alike k2, Nat.le_trans k3 hz, fun q h => va_Z.moved hW.alike ((k4 q h).kept hq), vx_Zq.moved hW.alike (k5.kept hq), vx_Zq.moved hW.alike (k6.kept hq), fun q h => ?_, va_Mi.moved hW.alike k8, ⟨va_AO.moved hW.alike k9.1, va_AO.moved hW.alike k9.2⟩, fun q h => va_Nc.moved hW.alike (k10 q h)⟩
  obtain ⟨sa, h1⟩ := k7 q h
  exact ⟨sa, vk_R.warm hW h1⟩
/-- the locals -/
def mAs (L : List Value) : List (Nat × Value) := (L.zipIdx.filter (fun q => decide (q.1 ≠ mU))).map (fun q => (q.2, q.1))
theorem mAs_mem {L : List Value} {j : Nat} {w : Value} : (j, w) ∈ mAs L ↔ L[j]? = some w ∧ w ≠ mU := by
  unfold mAs
  simp only [List.mem_map, List.mem_filter, decide_eq_true_eq, Prod.exists, Prod.mk.injEq, ne_eq]
  constructor
  · rintro ⟨v, i, ⟨h1, h2⟩, rfl, rfl⟩
    exact ⟨List.mem_zipIdx_iff_getElem?.mp h1, h2⟩
  · rintro ⟨h1, h2⟩
    exact ⟨w, j, ⟨List.mem_zipIdx_iff_getElem?.mpr h1, h2⟩, rfl, rfl⟩
def mLv (ls : Array Slot) (nL : Nat) (L : List Value) : Prop := lv_has ls nL (mAs L) ∧ L.length = nL
theorem mLv.at {ls : Array Slot} {nL : Nat} {L : List Value} (h : mLv ls nL L) {i : Nat} {v : Value} (hi : L[i]? = some v) (hv : v ≠ mU) : ls[i]? = some (.val v) := h.1.2.2 (i, v) (mAs_mem.mpr ⟨hi, hv⟩)
theorem mLv.set1 {ls ls' : Array Slot} {nL : Nat} {L L' : List Value} {i : Nat} {v : Value} (h : mLv ls nL L) (e : mSt1 L i v = some L') (h' : lv_has ls' nL ((i, v) :: (mAs L).filter (fun q => !(q.1 == i) && !(q.1 + 1 == i && q.2.category == 2)))) : mLv ls' nL L' := by
  unfold mSt1 at e
  split at e
  · rename_i hc
    cases e
    refine ⟨⟨h'.1, h'.2.1, fun q hq => ?_⟩, by rw [List.length_set]; exact h.2⟩
    obtain ⟨j, w⟩ := q
    obtain ⟨h1, h2⟩ := mAs_mem.mp hq
    rw [List.getElem?_set] at h1
    split at h1
    · rename_i hij
      subst hij
      split at h1
      · cases h1
        exact h'.2.2 (i, v) List.mem_cons_self
      · cases h1
    · rename_i hij
      refine h'.2.2 (j, w) (List.mem_cons_of_mem _ (List.mem_filter.mpr ⟨mAs_mem.mpr ⟨h1, h2⟩, ?_⟩))
      have hji : (j == i) = false := by simp; exact fun z => hij z.symm
      simp only [hji, Bool.not_false, Bool.true_and, Bool.not_eq_true', Bool.and_eq_false_iff]
      by_cases hp : j + 1 = i
      · right
        rcases hc.2.2 with h0 | h0
        · omega
        · have : i - 1 = j := by omega
          rw [this, h1] at h0
          simp [mC1] at h0
          simp [h0]
      · left
        simp [hp]
  · cases e
theorem mLv.set2 {ls ls' : Array Slot} {nL : Nat} {L L' : List Value} {i : Nat} {v : Value} (h : mLv ls nL L) (e : mSt2 L i v = some L') (h' : lv_has ls' nL ((i, v) :: (mAs L).filter (fun q => !(q.1 == i) && (!(q.1 == i + 1) && !(q.1 + 1 == i && q.2.category == 2))))) : mLv ls' nL L' := by
  unfold mSt2 at e
  split at e
  · rename_i hc
    cases e
    refine ⟨⟨h'.1, h'.2.1, fun q hq => ?_⟩, by rw [List.length_set, List.length_set]; exact h.2⟩
    obtain ⟨j, w⟩ := q
    obtain ⟨h1, h2⟩ := mAs_mem.mp hq
    rw [List.getElem?_set] at h1
    split at h1
    · split at h1
      · cases h1
        exact absurd rfl h2
      · cases h1
    · rename_i hij1
      rw [List.getElem?_set] at h1
      split at h1
      · rename_i hij
        subst hij
        split at h1
        · cases h1
          exact h'.2.2 (i, v) List.mem_cons_self
        · cases h1
      · rename_i hij
        refine h'.2.2 (j, w) (List.mem_cons_of_mem _ (List.mem_filter.mpr ⟨mAs_mem.mpr ⟨h1, h2⟩, ?_⟩))
        have hji : (j == i) = false := by simp; exact fun z => hij z.symm
        have hji1 : (j == i + 1) = false := by simp; exact fun z => hij1 z.symm
        simp only [hji, hji1, Bool.not_false, Bool.true_and, Bool.not_eq_true', Bool.and_eq_false_iff]
        by_cases hp : j + 1 = i
        · right
          rcases hc.2.2.1 with h0 | h0
          · omega
          · have : i - 1 = j := by omega
            rw [this, h1] at h0
            simp [mC1] at h0
            simp [h0]
        · left
          simp [hp]
  · cases e
theorem mSt1_lt {L L' : List Value} {i : Nat} {v : Value} (e : mSt1 L i v = some L') : i < L.length := by
  unfold mSt1 at e
  split at e
  · rename_i hc; exact hc.1
  · cases e
theorem mSt2_lt {L L' : List Value} {i : Nat} {v : Value} (e : mSt2 L i v = some L') : i + 1 < L.length := by
  unfold mSt2 at e
  split at e
  · rename_i hc; exact hc.1
  · cases e
