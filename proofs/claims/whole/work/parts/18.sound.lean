/-! Calls. -/
theorem mNoNest0 : (mTab.all (fun M => M.2.2.2.2.2.isEmpty || M.1.cls == "ChipCardLaw")) = true := by decide +kernel
theorem mNoNest1 : (lw_tbl.all (fun w => match w with | .methodLinkNest _ _ y _ => y.cls != "ChipCardLaw" | _ => true)) = true := by decide +kernel
theorem mNoNest {mj x : Nat} {own host : String} {Mj : mM} (h : mTab[mj]? = some Mj) (he : Mj.2.2.2.2.2 ≠ []) : ¬ Cond.methodLinkNest own x Mj.1 host ∈ lw_tbl := by
  intro hl
  have h1 := List.all_eq_true.mp mNoNest0 _ (List.mem_of_getElem? h)
  have h2 := List.all_eq_true.mp mNoNest1 _ hl
  rcases Bool.or_eq_true _ _ ▸ h1 with z | z
  · exact he (List.isEmpty_iff.mp z)
  · simp only [bne_iff_ne, ne_eq] at h2
    exact h2 (eq_of_beq z)
section MSO
variable {G : mG} {l : Launch} {p : Program} {e : Env} {R : Room} {s : State} {m : MethodId} {args : Array Value} {below : List Frame} {meth : Method} {c : Code} {M : mM} {mi pc len : Nat} {L st : List Value} {h : mH} {n k : Nat}
/-- the room of a call of mj -/
def mRm (mj mc ms : Nat) : Room := { frames := (mNeed mj).1, cells := mc, slots := ms, locals := (mNeed mj).2 }
theorem mTab_lt {mj : Nat} {Mj : mM} (h : mTab[mj]? = some Mj) : mj < 1000 := by
  have h1 : mj < mTab.length := (List.getElem?_eq_some_iff.mp h).1
  have h2 : mTab.length ≤ 1000 := by decide +kernel
  omega
theorem mRoom_ok {mi mj : Nat} {Mj : mM} {R : Room} (hMj : mTab[mj]? = some Mj) (h : mRoom mi mj = true) (h1 : (mNeed mi).1 ≤ R.frames) (h2 : (mNeed mi).2 ≤ R.locals) : (mNeed mj).1 + 1 ≤ R.frames ∧ 8 + (Mj.2.2.1 + 11) + (mNeed mj).2 ≤ R.locals := by
  unfold mRoom at h
  rw [hMj] at h
  have := of_decide_eq_true h
  omega
theorem mP9_at {vs : List Value} {H : Heap} {locs : List Loc} (hKn : mKn G s) (hR : mRep G s h n H) (hS : va_S (mBA G) s.heap H locs) : ∀ U : State, U.heap = H → s.WarmedH U.vm → mP9 G vs h n vs.toArray U := by
  intro U hU hW
  refine ⟨rfl, hKn.go hW (by rw [hU]; exact hS.1) (fun q h1 h2 => by rw [hU]; exact hS.2.1 q h1 h2), ?_⟩
  rw [hU]
  exact hR.moved hW.alike
theorem take_split {st vs : List Value} {a : Value} {j : Nat} (h : (st.take j).reverse = a :: vs) : st = vs.reverse ++ a :: st.drop j := by
  have h1 : st.take j = vs.reverse ++ [a] := by
    have := congrArg List.reverse h
    rw [List.reverse_reverse, List.reverse_cons] at this
    exact this
  have h2 : st.take j ++ st.drop j = st := List.take_append_drop j st
  rw [h1, List.append_assoc] at h2
  exact h2.symm
/-- a call: the callee's contract gives the run of it -/
theorem ms_call {i : Instr} {mj : Nat} {vs r : List Value} {Mj : mM} {mc ms n1 cells slots : Nat} {res : Option Value ⊕ Nat} {h1 : mH} {H : Heap} {locs : List Loc} {ls : Array Slot} (hM : mTab[mi]? = some M) (C : mCx G l M mi p R s m meth c) (hd : decode M.2.1 pc = .ok (i, len)) (hlen : mIL i len = true)
    (E : mIns i len G M mi pc L st h n k = some (.inr (.inl (mj, vs, r)))) (hMj : mTab[mj]? = some Mj) (hMet : vx_Met l Mj.1 [mCw Mj] (mRm mj mc ms) (mP9 G vs h n) (mQ9 G res h1 n1) (mX9 G res h1 n1) mc ms (mBA G))
    (hR : mRep G s h n H) (hL : mLv ls M.2.2.1 L) (hS : va_S (mBA G) s.heap H locs) (hf : cells + mc ≤ R.cells ∧ slots + ms ≤ R.slots) :
    vx_Run p l e R s m args below meth c H locs cells slots mc ms (F0 m pc ls st) r (mQ9 G res h1 n1 vs.toArray) (mX9 G res h1 n1) (mBA G) := by
  have hend := mIns_end E
  obtain ⟨hx, hb, hr, hml, hown, hlocks, hnm, hKn, htab, hRf, hRl, htr⟩ := C
  have hown9 := mTab_own hM
  have hjl := mTab_lt hMj
  have hcw : ∀ (hl : Mj.1 ≠ yL_law) (he : Mj.2.2.2.2.2 = []), ∀ w ∈ [mCw Mj], ∀ (a' : Array Value) (U : State), s.WarmedH U.vm → w.before a' U = true := by
    intro hl he w hw a' U hW
    rw [List.mem_singleton.mp hw]
    refine mGood_at (args := #[]) hW ?_ (hKn.word (mCd_spec hMj hl).1 ?_) <;> (unfold mCw; rw [he]; rfl)
  have mk : ∀ {np : Nat} (hl : Mj.1 ≠ yL_law) (he : Mj.2.2.2.2.2 = []) (hroom : mRoom mi mj = true) (hnp : ∀ sig, parseMethodDescriptor Mj.1.desc = some sig → np = sig.parameters.length), mCb R s args Mj.1 Mj.2.1 Mj.2.2.1 Mj.2.2.2.1 [mCw Mj] (mRm mj mc ms) mc ms np := by
    intro np hl he hroom hnp
    obtain ⟨r1, r2⟩ := mRoom_ok hMj hroom hRf hRl
    obtain ⟨d1, d2, d3, d4⟩ := mCd_spec hMj hl
    have e9 : mCw Mj = Cond.code Mj.1 Mj.2.1 Mj.2.2.1 Mj.2.2.2.1 := by unfold mCw; rw [he]; rfl
    refine ⟨rfl, rfl, r1, r2, hcw hl he, by rw [e9]; exact List.mem_singleton.mpr rfl, ?_, hKn.word d2 rfl, d3, hnp⟩
    rw [← e9]
    exact hKn.word d1 (by rw [e9]; rfl)
  have link : ∀ {x : Nat} (hl : Cond.methodLink M.1.cls x Mj.1 ∈ lw_tbl ∨ Cond.methodLinkNest M.1.cls x Mj.1 "ChipCard" ∈ lw_tbl), (Cond.methodLink M.1.cls x Mj.1).before args s = true ∨ ∃ host, (Cond.methodLinkNest M.1.cls x Mj.1 host).before args s = true := by
    intro x hl
    rcases hl with hl | hl
    · exact Or.inl (hKn.word hl rfl)
    · exact Or.inr ⟨_, hKn.word hl rfl⟩
  cases i with
  | invokevirtual x =>
    have hlen : len = 3 := by simpa [mIL] using hlen
    subst hlen
    dsimp only [mIns, mNx] at E
    split at E
    · rename_i mj' hmj
      split at E
      · split at E
        · split at E
          · split at E <;> cases E
          · cases E
        · cases E
      · split at E
        · rename_i hc
          obtain ⟨hcat, hroom⟩ := hc
          split at E
          · rename_i a vs' htk
            split at E
            · rename_i ci fs hh
              split at E
              · rename_i hc2
                obtain ⟨hci, hln, hfl⟩ := hc2
                cases E
                obtain ⟨Mj', hMj', hlaw, hlk, hst, hin, hsel, hnp, hini⟩ := (mT_spec hmj hown9).2 hjl
                cases hMj.symm.trans hMj'
                have hne99 : mRc mj ≠ 99 := by
                  intro z
                  rw [z] at hci
                  have hat : va_at G.1 vwCl (a, .inr (ci, fs)) H := hR.2 a _ hh
                  obtain ⟨rr, hrr, -⟩ := hat
                  rw [hci] at hrr
                  simp [vwCl] at hrr
                have hne98 : mRc mj ≠ 98 := by
                  intro z
                  rw [z] at hci
                  have hat : va_at G.1 vwCl (a, .inr (ci, fs)) H := hR.2 a _ hh
                  obtain ⟨rr, hrr, -⟩ := hat
                  rw [hci] at hrr
                  simp [vwCl] at hrr
                obtain ⟨hin1, hin2, hin3⟩ := hin hne99
                obtain ⟨hs1, q, hq1, hq2⟩ := hsel hne99 hne98
                rw [if_neg hne99] at hnp
                subst hci
                have hat : va_at G.1 vwCl (a, .inr (mRc mj, fs)) H := hR.2 a _ hh
                have hrec := va_recv hKn.2.1 (mOne hat) hq1 (q0 := 0) rfl
                rw [hq2] at hrec
                exact mx_runV hx hb hml hown hMet (mk hlaw hin3 hroom hnp) (hKn.word hin1 rfl) (hKn.word hs1 rfl) (link hlk) ⟨mP9_blind, hrec, mP9_at (vs := .ref a :: vs') hKn hR hS⟩ rfl (by rw [List.length_cons] at hln; omega) hL.1.1 (take_split htk) (lv_room hcat) hd hf
              · cases E
            · cases E
          · cases E
        · cases E
    · cases E
  | invokespecial x =>
    have hlen : len = 3 := by simpa [mIL] using hlen
    subst hlen
    dsimp only [mIns, mNx] at E
    split at E
    · rename_i mj' hmj
      split at E
      · split at E
        · split at E <;> cases E
        · cases E
      · split at E
        · rename_i hc
          obtain ⟨hcat, hrc, hroom⟩ := hc
          split at E
          · rename_i a vs' htk
            split at E
            · rename_i hc2
              obtain ⟨hln, hfl⟩ := hc2
              cases E
              obtain ⟨Mj', hMj', hlaw, hlk, hst, hin, hsel, hnp, hini⟩ := (mT_spec hmj hown9).2 hjl
              cases hMj.symm.trans hMj'
              have hne99 : mRc mj ≠ 99 := by rw [hrc]; decide
              obtain ⟨hin1, hin2, hin3⟩ := hin hne99
              rw [if_neg hne99] at hnp
              obtain ⟨hnm9, hrt⟩ := hini hrc
              have cb := mk hlaw hin3 hroom hnp
              rw [hrt] at cb
              exact mx_runI hx hb hml hown hMet cb hnm9 (hKn.word hin1 rfl) (link hlk) ⟨mP9_blind, mP9_at (vs := .ref a :: vs') hKn hR hS⟩ rfl (by rw [List.length_cons] at hln; omega) hL.1.1 (take_split htk) (lv_room hcat) hd hf
            · cases E
          · cases E
        · cases E
    · cases E
  | invokestatic x =>
    have hlen : len = 3 := by simpa [mIL] using hlen
    subst hlen
    dsimp only [mIns, mNx] at E
    split at E
    · rename_i mj' hmj
      split at E
      · exfalso
        revert E
        (repeat' split) <;> (intro E; cases E)
      · split at E
        · exfalso
          revert E
          (repeat' split) <;> (intro E; cases E)
        · split at E
          · exfalso
            revert E
            (repeat' split) <;> (intro E; cases E)
          · split at E
            · rename_i hc
              obtain ⟨hcat, hrc, hroom, hln, hfl⟩ := hc
              cases E
              obtain ⟨Mj', hMj', hlaw, hlk, hst, hin, hsel, hnp, hini⟩ := (mT_spec hmj hown9).2 hjl
              cases hMj.symm.trans hMj'
              rw [if_pos hrc] at hnp
              have hspl : st = ((st.take (mAr mj)).reverse).reverse ++ st.drop (mAr mj) := by rw [List.reverse_reverse, List.take_append_drop]
              by_cases he : Mj.2.2.2.2.2 = []
              · exact mx_runS hx hb hml hown hMet (mk hlaw he hroom hnp) (hKn.word (hst hrc) rfl) (link hlk) ⟨mP9_blind, mP9_at (vs := (st.take (mAr mj)).reverse) hKn hR hS⟩ rfl hln hL.1.1 hspl (lv_room hcat) hd hf
              · obtain ⟨r1, r2⟩ := mRoom_ok hMj hroom hRf hRl
                obtain ⟨d1, d2, d3, d4⟩ := mCd_spec hMj hlaw
                have e9 : mCw Mj = Cond.codeWith Mj.1 Mj.2.1 Mj.2.2.1 Mj.2.2.2.1 Mj.2.2.2.2.2 := by
                  unfold mCw
                  rw [if_neg (by intro z; exact he (List.isEmpty_iff.mp z))]
                have hl9 : (Cond.methodLink M.1.cls x Mj.1).before args s = true := by
                  rcases hlk with hl | hl
                  · exact hKn.word hl rfl
                  · exact absurd hl (mNoNest hMj he)
                refine vx_runSX (Ts := []) (bytes := Mj.2.1) (maxL := Mj.2.2.1) (ret := Mj.2.2.2.1) (hh := Mj.2.2.2.2.2) ⟨hx, hb, hml, hown, fun _ z => nomatch z⟩ hMet ⟨⟨rfl, rfl, r1, r2, ?_, ?_⟩, ?_, hKn.word d2 rfl, d3, hnp, hl9, hKn.word (hst hrc) rfl⟩ ⟨mP9_blind, mP9_at (vs := (st.take (mAr mj)).reverse) hKn hR hS⟩ rfl hln hL.1.1 hspl (lv_room hcat) hd hf
                · intro w hw a' U hW
                  rw [List.mem_singleton.mp hw]
                  exact mGood_at (args := #[]) hW (by rw [e9]; rfl) (hKn.word d1 (by rw [e9]; rfl))
                · rw [e9]; exact List.mem_singleton.mpr rfl
                · rw [← e9]; exact hKn.word d1 (by rw [e9]; rfl)
            · cases E
    · cases E
  | new x =>
    exfalso
    revert E
    dsimp only [mIns, mNx]
    (repeat' split) <;> (intro E; cases E)
  | return_ => exact absurd E (by dsimp only [mIns]; split <;> (intro q; cases q))
  | ireturn => exact absurd E (by dsimp only [mIns]; (repeat' split) <;> (intro q; cases q))
  | lreturn => exact absurd E (by dsimp only [mIns]; (repeat' split) <;> (intro q; cases q))
  | areturn => exact absurd E (by dsimp only [mIns]; (repeat' split) <;> (intro q; cases q))
  | _ => cases hend
end MSO
