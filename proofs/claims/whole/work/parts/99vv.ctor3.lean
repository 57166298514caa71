/-! The reference's constructor; the law's first bytes. -/
section MCTOR3
variable {G : mG} {h h0 : mH} {n k b : Nat} {Q : mR → Prop} {I : Nat → Int} {A : Nat → Nat → Int} {P : Nat → Nat} {R : Nat → Option Nat} {o : Nat → Int64}
def pinI : Nat → Int := fun j => if j < 4 then 49 + (j : Int) else 255
def upL (h : mH) (c : Nat) : List mE → mH
  | [] => h
  | e :: l => upL (mUp h c e) (c + 1) l
theorem fx_cons {h : mH} {c : Nat} {e : mE} {l : List (Option mE)} : fx (mUp h c e) (c + 1) l = fx h c (some e :: l) := by
  funext a
  unfold fx
  rcases Nat.lt_trichotomy a c with q | q | q
  · rw [if_neg (by omega), if_neg (by omega)]
    exact mUp_ne (by omega)
  · subst q
    rw [if_neg (by omega), if_pos (by omega), Nat.sub_self]
    exact mUp_same _ _ _
  · obtain ⟨j, rfl⟩ : ∃ j, a = c + 1 + j := ⟨a - (c + 1), by omega⟩
    rw [if_pos (by omega), if_pos (by omega), Nat.add_sub_cancel_left, show c + 1 + j - c = j + 1 by omega, List.getElem?_cons_succ, mUp_ne (by omega)]
theorem upL_fx : ∀ (l : List mE) (h : mH) (c : Nat), upL h c l = fx h c (l.map some)
  | [], h, c => by
    funext a
    show h a = fx h c [] a
    unfold fx
    split <;> rename_i z
    · split at z
      · rw [List.getElem?_nil] at z; cases z
      · cases z
    · rfl
  | e :: l, h, c => by
    rw [upL, upL_fx l, fx_cons, List.map_cons]
def setL (h : mH) (c : Nat) : List (Nat × mE) → mH
  | [] => h
  | u :: t => setL (mUp h (c + u.1) u.2) c t
theorem setL_fx {h : mH} {c N : Nat} : ∀ (us : List (Nat × mE)) (l : List mE), l.length = N → (us.map (fun u => u.1)).all (fun j => decide (j < N)) = true → setL (fx h c (l.map some)) c us = fx h c ((us.foldl (fun l u => l.set u.1 u.2) l).map some)
  | [], l, _, _ => rfl
  | u :: t, l, hl, hu => by
    rw [List.map_cons, List.all_cons, Bool.and_eq_true] at hu
    have hj : u.1 < l.length := by rw [hl]; exact of_decide_eq_true hu.1
    rw [setL, fx_set (e0 := l[u.1]) (e := u.2) (l' := (l.set u.1 u.2).map some), setL_fx t (l.set u.1 u.2) (by rw [List.length_set]; exact hl) hu.2, List.foldl_cons]
    · rw [List.getElem?_map, List.getElem?_eq_getElem hj]; rfl
    · exact List.map_set.symm
def celA (b : Nat) : List mE := [mO 13 [.int (iI 0), .ref (b + 44), .int (iI 0), .int (iI 1), .ref (b + 45), .ref (b + 46), .ref (b + 47), .ref (b + 48), .ref (b + 49), .ref (b + 50), .ref (b + 51), .ref (b + 52), .ref (b + 53), .int (iI 0), .int (iI 0), .ref (b + 54), .ref (b + 55), .ref (b + 56), .ref (b + 57), .ref (b + 58), .ref (b + 59), .ref (b + 60), .ref (b + 61), .ref (b + 62), .ref (b + 63), .ref (b + 64), .ref (b + 65), .ref (b + 66), .ref (b + 67), .int (iI 0), .ref (b + 68), .ref (b + 69), .ref (b + 70), .ref (b + 71), .ref (b + 72), .int (iI 3), .int (iI 10), .int (iI 0), .int (iI 0), .int (iI 0), .int (iI 0), .int (iI 0), .int (iI 0), .ref (b + 73), .int (iI 0), .int (iI 0), .int (iI 0), .int (iI 0), .int (iI 0), .ref (b + 74), .int (iI 0), .int (iI 0), .int (iI 0), .int (iI 0), .int (iI 0), .ref (b + 75), .ref (b + 76), .int (iI 0), .int (iI 0), .ref (b + 77), .int (iI 0)],
  mI 300 (fun _ => iI 0),
  mI 40 (fun _ => iI 0),
  mI 40 (fun _ => iI 0),
  mI 40 (fun _ => iI 0),
  mI 40 (fun _ => iI 0),
  mI 40 (fun _ => iI 0),
  mI 40 (fun _ => iI 0),
  mI 40 (fun _ => iI 0),
  mI 40 (fun _ => iI 0),
  mI 8000 (fun _ => iI 0),
  mI 40 (fun _ => iI 0),
  mI 40 (fun _ => iI 0),
  mI 40 (fun _ => iI 0),
  mI 40 (fun _ => iI 0),
  mI 40 (fun _ => iI 0),
  mI 160 (fun _ => iI 0),
  mI 40 (fun _ => iI 0),
  mI 4000 (fun _ => iI 0),
  mI 41 (fun _ => iI 0),
  mI 205 (fun _ => iI 0),
  mI 205 (fun _ => iI 0),
  mI 205 (fun _ => iI 0),
  mI 4100 (fun _ => iI 0),
  mI 20 (fun _ => iI 0),
  mI 32 (fun _ => iI 0),
  mI 9 (fun _ => iI 0),
  mZ 9 (fun _ => iI 0),
  mI 8 (fun _ => iI 0),
  mI 8 (fun _ => iI 0),
  mI 256 (fun _ => iI 0),
  mI 300 (fun _ => iI 0),
  mI 128 (fun _ => iI 0),
  mI 128 (fun _ => iI 0),
  mI 300 (fun _ => iI 0)]
def celM (b : Nat) : List mE := [mO 13 [.int (iI 0), .ref (b + 44), .int (iI 0), .int (iI 1), .ref (b + 45), .ref (b + 46), .ref (b + 47), .ref (b + 48), .ref (b + 49), .ref (b + 50), .ref (b + 51), .ref (b + 52), .ref (b + 53), .int (iI 0), .int (iI 0), .ref (b + 54), .ref (b + 55), .ref (b + 56), .ref (b + 57), .ref (b + 58), .ref (b + 59), .ref (b + 60), .ref (b + 61), .ref (b + 62), .ref (b + 63), .ref (b + 64), .ref (b + 65), .ref (b + 66), .ref (b + 67), .int (iI 0), .ref (b + 68), .ref (b + 69), .ref (b + 70), .ref (b + 71), .ref (b + 72), .int (iI 3), .int (iI 10), .int (iI 0), .int (iI 0), .int (iI (-1)), .int (iI 0), .int (iI 0), .int (iI 0), .ref (b + 73), .int (iI 0), .int (iI 0), .int (iI 0), .int (iI 0), .int (iI 0), .ref (b + 74), .int (iI 0), .int (iI 0), .int (iI 0), .int (iI 0), .int (iI 0), .ref (b + 75), .ref (b + 76), .int (iI 0), .int (iI 0), .ref (b + 77), .int (iI 0)],
  mI 300 (fun _ => iI 0),
  mI 40 (fun j => iI (upE zer 0 16128 j)),
  mI 40 (fun j => iI (upE zer 0 (-1) j)),
  mI 40 (fun _ => iI 0),
  mI 40 (fun _ => iI 0),
  mI 40 (fun _ => iI 0),
  mI 40 (fun _ => iI 0),
  mI 40 (fun _ => iI 0),
  mI 40 (fun _ => iI 0),
  mI 8000 (fun _ => iI 0),
  mI 40 (fun _ => iI 0),
  mI 40 (fun _ => iI 0),
  mI 40 (fun _ => iI 0),
  mI 40 (fun _ => iI 0),
  mI 40 (fun _ => iI 0),
  mI 160 (fun _ => iI 0),
  mI 40 (fun _ => iI 0),
  mI 4000 (fun _ => iI 0),
  mI 41 (fun _ => iI 0),
  mI 205 (fun _ => iI 0),
  mI 205 (fun _ => iI 0),
  mI 205 (fun _ => iI 0),
  mI 4100 (fun _ => iI 0),
  mI 20 (fun _ => iI 0),
  mI 32 (fun j => iI (cpE zer (fun _ => -1) 0 32 j)),
  mI 9 (fun j => iI (cpE zer (fun _ => -1) 0 9 j)),
  mZ 9 (fun _ => iI 0),
  mI 8 (fun j => iI (cpE zer pinI 0 8 j)),
  mI 8 (fun j => iI (cpE zer (fun _ => 56) 0 8 j)),
  mI 256 (fun _ => iI 0),
  mI 300 (fun _ => iI 0),
  mI 128 (fun _ => iI 0),
  mI 128 (fun _ => iI 0),
  mI 300 (fun _ => iI 0)]
def iniA (H : mH) (b : Nat) : mH := upL H (b + 43) (celA b)
def iniM (H : mH) (b : Nat) : mH := upL H (b + 43) (celM b)
theorem stepL {H : mH} {m N : Nat} {o o' e : mE} {es : List mE} (hN : N = m + 1 + es.length) : mUp (mUp (upL H m (o :: es)) N e) m o' = upL H m (o' :: (es ++ [e])) := by
  subst hN
  funext a
  rw [upL_fx, upL_fx]
  by_cases q1 : a = m
  · subst q1
    rw [mUp_same]
    exact (fx_get (j := 0) rfl).symm
  · rw [mUp_ne q1]
    by_cases q2 : a = m + 1 + es.length
    · subst q2
      rw [mUp_same, show m + 1 + es.length = m + (es.length + 1) by omega]
      refine (fx_get ?_).symm
      rw [List.getElem?_map, List.getElem?_cons_succ, List.getElem?_append_right (Nat.le_refl _), Nat.sub_self]
      rfl
    · rw [mUp_ne q2]
      unfold fx
      by_cases q3 : m ≤ a
      · rw [if_pos q3, if_pos q3]
        obtain ⟨j, rfl⟩ : ∃ j, a = m + (j + 1) := ⟨a - m - 1, by omega⟩
        rw [Nat.add_sub_cancel_left, List.getElem?_map, List.getElem?_map, List.getElem?_cons_succ, List.getElem?_cons_succ]
        by_cases q4 : j < es.length
        · rw [List.getElem?_append_left q4]
        · rw [List.getElem?_eq_none (by omega), List.getElem?_eq_none (by rw [List.length_append, List.length_singleton]; omega)]
      · rw [if_neg q3, if_neg q3]
theorem setO {H : mH} {m : Nat} {o o' : mE} {es : List mE} : mUp (upL H m (o :: es)) m o' = upL H m (o' :: es) := by
  rw [upL, upL]
  have : ∀ (l : List mE) (h : mH) (c : Nat), m < c → mUp (upL h c l) m o' = upL (mUp h m o') c l := by
    intro l
    induction l with
    | nil => intro h c _; rfl
    | cons e l ih =>
      intro h c hc
      rw [upL, upL, ih _ _ (by omega), mUp_push hc]
  rw [this es _ _ (by omega), mUp_mUp]
end MCTOR3
