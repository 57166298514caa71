/-! What the Statement gives of the start: its statics, its classes, its script. -/
section MKNOWN
theorem len_ex {args : Array Value} {s : State} {tm : Term} {N : Nat} (hN : N < 2 ^ 31) (h : (Term.length tm).eval args s none [] s = some (.int (Int32.ofNat N))) : ∃ t cell, tm.eval args s none [] s = some (.ref t) ∧ s.arrayAt? t = some cell ∧ cell.slots.size = N := by
  obtain ⟨t, cell, ht, hat, hv⟩ := Term.length_spec h
  refine ⟨t, cell, ht, hat, ?_⟩
  by_cases q : cell.slots.size < 2 ^ 31
  · have e := Value.int.inj hv
    have e1 : (Int32.ofNat N).toNatClampNeg = N := Int32.toNatClampNeg_ofNat_of_lt hN
    have e2 : (Int32.ofNat cell.slots.size).toNatClampNeg = cell.slots.size := Int32.toNatClampNeg_ofNat_of_lt q
    have e3 : Int32.ofNat N = Int32.ofNat cell.slots.size := e
    rw [← e3, e1] at e2
    exact e2.symm
  · exfalso
    have q' : ¬ cell.slots.size < 2147483648 := q
    simp [Term.eval, ht, hat, q'] at h
/-- what a cell of ints holds -/
def sv (s : State) (a j : Nat) : Int := match s.heap[a]? with
  | some c => match c.slots[j]? with
    | some (.int x) => x.toInt
    | _ => 0
  | none => 0
def sz (s : State) (a : Nat) : Nat := match s.heap[a]? with
  | some c => c.slots.size
  | none => 0
/-- an array of ints that stands there -/
def sA (s : State) (a N : Nat) (f : Nat → Int32) : Prop := ∃ c : Cell, s.heap[a]? = some c ∧ s.isArrayOf c .int ∧ c.vm ≠ .unknown ∧ c.slots.size = N ∧ ∀ j : Nat, j < N → c.slots[j]? = some (.int (f j))
theorem sA_sz {s : State} {a N : Nat} {f : Nat → Int32} (h : sA s a N f) : sz s a = N := by
  obtain ⟨c, h1, -, -, h4, -⟩ := h
  unfold sz
  rw [h1]
  exact h4
theorem sA_sv {s : State} {a N : Nat} {f : Nat → Int32} (h : sA s a N f) {j : Nat} (hj : j < N) : sv s a j = (f j).toInt := by
  obtain ⟨c, h1, -, -, h4, h5⟩ := h
  unfold sv
  rw [h1]
  dsimp only
  rw [h5 j hj]
theorem sA_hi {s : State} {a N : Nat} {f : Nat → Int32} (h : sA s a N f) {j : Nat} (hj : N ≤ j) : sv s a j = 0 := by
  obtain ⟨c, h1, -, -, h4, h5⟩ := h
  unfold sv
  rw [h1]
  dsimp only
  rw [Array.getElem?_eq_none (by omega)]
theorem sv_rng (s : State) (a j : Nat) : -2147483648 ≤ sv s a j ∧ sv s a j < 2147483648 := by
  unfold sv
  split
  · split
    · exact iI_rng _
    · omega
  · omega
theorem sA_at {G : mG} {s : State} {a N : Nat} {f : Nat → Int32} (h : sA s a N f) : mAt G s (.inl (2, sz s a, fun j => iI (sv s a j))) a s.heap := by
  have h0 := h
  obtain ⟨c, h1, h2, h3, h4, h5⟩ := h
  show ∃ c, s.heap[a]? = some c ∧ s.isArrayOf c .int ∧ c.vm ≠ .unknown ∧ c.slots.size = sz s a ∧ ∀ j : Nat, j < sz s a → c.slots[j]? = some (.int (iI (sv s a j)))
  rw [sA_sz h0]
  refine ⟨c, h1, h2, h3, h4, fun j hj => ?_⟩
  rw [h5 j hj, sA_sv h0 hj, iI_self]
theorem sta_of {args : Array Value} {s : State} {T : Cond} {C n d : String} {vals : List Int} (hl : vals.length < 100) (hgv : T.before args s = true) (hk : (decide (Cond.arrayOf (.static C n d) .int ∈ flatC T) && (decide (Cond.eq (.length (.static C n d)) (.int (Int32.ofNat vals.length)) ∈ flatC T) && (List.range vals.length).all (fun j => decide (Cond.eq (.elem (.static C n d) (.int (Int32.ofNat j))) (.int (iI (vals.getD j 0))) ∈ flatC T)))) = true) :
    ∃ t, (Term.static C n d).eval args s none [] s = some (.ref t) ∧ sA s t vals.length (fun j => iI (vals.getD j 0)) := by
  have hs := flat_of_before _ hgv
  rw [Bool.and_eq_true, Bool.and_eq_true, List.all_eq_true] at hk
  obtain ⟨k1, k2, k3⟩ := hk
  have hlen := va_eqt (hs _ (of_decide_eq_true k2))
  obtain ⟨t, ht, cell, h1, h2, h3, h4, h5, h6, -⟩ := va_Tof (tm := .static C n d) (ty := .int) (N := vals.length) (f := fun j => .int (iI (vals.getD j 0))) (A := fun _ => False) (by omega) (hs _ (of_decide_eq_true k1)) hlen (fun j hj => va_eqt (hs _ (of_decide_eq_true (k3 j (List.mem_range.mpr hj))))) (fun _ _ h => h)
  obtain ⟨t', cell', g1, g2, g3⟩ := len_ex (by omega) hlen
  cases Option.some.inj (ht.symm.trans g1)
  obtain ⟨g4, -, -, -⟩ := State.arrayAt?_spec g2
  cases Option.some.inj (h1.symm.trans g4)
  exact ⟨t, ht, cell, h1, h2, h3, g3, h6⟩
/-- the tables' words hold; all that the pure machine asks of the start -/
def tvs : List (List Int) := [[33, 35, 36, 19, 39, 1, 38, 5, 37], [1, 2, 3, 13, 16, 19, 36, 37], [2, 16, 21], [2, 25], [2, 36, 37], [2, 6, 11]]
def H0 (s : State) (b : Nat) (t : Nat → Nat) : mH := fun a => if a = b ∨ a = t 0 ∨ a = t 1 ∨ a = t 2 ∨ a = t 3 ∨ a = t 4 ∨ a = t 5 then some (.inl (2, sz s a, fun j => iI (sv s a j))) else if a = t 6 then some (.inl (3, 0, fun _ => 0)) else none
theorem tg_of {G : mG} {s : State} {h0 : mH} {b i a : Nat} {vals : List Int} {K : Int → Prop} (ha : G.2.2.1 i = a) (hb : a < b) (hh : h0 a = some (.inl (2, sz s a, fun j => iI (sv s a j)))) (hA : sA s a vals.length (fun j => iI (vals.getD j 0))) (hl : vals.length < 100) (hv : ∀ x ∈ vals, 0 ≤ x ∧ x ≤ 255) (hK : ∀ t, t ∈ vals ↔ K t) : sTg G h0 b i K := by
  subst ha
  have e1 : ∀ j, j < vals.length → sv s (G.2.2.1 i) j = vals.getD j 0 := by
    intro j hj
    rw [sA_sv hA hj]
    have hm : vals.getD j 0 ∈ vals := by
      rw [List.getD_eq_getElem?_getD, List.getElem?_eq_getElem hj]
      exact List.getElem_mem hj
    have := hv _ hm
    exact iI_toInt (by omega) (by omega)
  refine ⟨vals.length, sv s (G.2.2.1 i), ⟨Or.inl hb, ?_⟩, ⟨hl, ?_⟩, ?_⟩
  · rw [hh, sA_sz hA]
  · intro j
    by_cases q : j < vals.length
    · rw [e1 j q]
      have hm : vals.getD j 0 ∈ vals := by
        rw [List.getD_eq_getElem?_getD, List.getElem?_eq_getElem q]
        exact List.getElem_mem q
      exact hv _ hm
    · rw [sA_hi hA (by omega)]
      omega
  · intro t h1 h2
    rw [seek_ex _ _ _ (by omega), ← hK t]
    constructor
    · rintro ⟨j, q1, q2, q3⟩
      have hj : j.toNat < vals.length := by omega
      rw [e1 _ hj] at q3
      rw [← q3, List.getD_eq_getElem?_getD, List.getElem?_eq_getElem hj]
      exact List.getElem_mem hj
    · intro hm
      obtain ⟨j, hj, e⟩ := List.mem_iff_getElem.mp hm
      refine ⟨(j : Int), by omega, by omega, ?_⟩
      rw [Int.toNat_natCast, e1 j hj, List.getD_eq_getElem?_getD, List.getElem?_eq_getElem hj]
      exact e
end MKNOWN
