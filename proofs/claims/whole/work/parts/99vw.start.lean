/-! The start: the law's first bytes; what class and reference are then. -/
section MSTART
variable {G : mG} {h h0 : mH} {n k b : Nat} {Q : mR → Prop} {I : Nat → Int} {A : Nat → Nat → Int} {P : Nat → Nat} {R : Nat → Option Nat} {o : Nat → Int64}
def I0 : Nat → Int := fun j => if j = 9 then 1 else if j = 10 then 1 else if j = 11 then 3 else if j = 12 then 10 else if j = 14 then 8 else if j = 15 then 8 else if j = 29 then 1 else if j = 33 then 3 else if j = 34 then 10 else if j = 37 then -1 else 0
def A0 : Nat → Nat → Int := fun i => if i = 2 then putL (putL zer 0 (w4 825373492)) 4 (w4 (-1)) else if i = 3 then putL (putL zer 0 (w4 943208504)) 4 (w4 943208504) else if i = 4 then cpE zer (fun _ => -1) 0 32 else if i = 5 then cpE zer (fun _ => -1) 0 9 else if i = 15 then upE zer 0 16128 else if i = 16 then upE zer 0 (-1) else if i = 38 then cpE zer (fun _ => -1) 0 32 else if i = 39 then cpE zer (fun _ => -1) 0 9 else if i = 41 then cpE zer pinI 0 8 else if i = 42 then cpE zer (fun _ => 56) 0 8 else zer
def P0 (G : mG) (b : Nat) : Nat → Nat := fun i => if i = 0 then 39 else if i = 1 then 41 else if i = 2 then b + 10 else if i = 3 then G.2.2.1 6 else b + 79
def R0 (b : Nat) : Nat → Option Nat := fun i => if i = 0 then some (b + 8) else none
def celC (G : mG) (b : Nat) : List mE := [mO 12 [.ref (b + 1), .ref (b + 3), .ref (b + 6), .ref (b + 11), .ref (b + 16), .ref (b + 17), .ref (b + 28), .ref (b + 34), .ref (b + 39), .ref (b + 41), .int (iI 0)],
  mO 7 [.ref (b + 2), .int (iI 0)],
  mI 256 (fun _ => iI 0),
  mO 6 [.ref (b + 4), .int (iI 0), .int (iI 0), .int (iI 0), .int (iI 0), .int (iI 0)],
  mO 7 [.ref (b + 5), .int (iI 0)],
  mI 255 (fun _ => iI 0),
  mO 3 [.ref (b + 7), .int (iI 0)],
  mO 0 [.int (iI 1), .ref (b + 10), .int (iI 1)],
  mO 1 [.int (iI 0), .null, .int (iI 0), .int (iI 16128), .int (iI 0), .int (iI 0), .ref (b + 9), .int (iI 0), .int (iI 0)],
  mI 0 (fun j => iI (cpE zer (fun _ => 255) 0 0 j)),
  mA 4 10 (va_up (fun _ => none) 0 (some (b + 8))),
  mO 8 [.ref (b + 12), .ref (b + 14), .int (iI 3), .int (iI 10), .int (iI 0)],
  mO 7 [.ref (b + 13), .int (iI 8)],
  mI 8 (fun j => iI (putL (putL zer 0 (w4 825373492)) 4 (w4 (-1)) j)),
  mO 7 [.ref (b + 15), .int (iI 8)],
  mI 8 (fun j => iI (putL (putL zer 0 (w4 943208504)) 4 (w4 943208504) j)),
  mO 2 [.ref (b + 6), .ref (b + 11), .ref (b + 1), .ref (b + 8), .null, .int (iI 0)],
  mO 5 [.ref (b + 18), .ref (b + 19), .ref (b + 26), .ref (b + 27)],
  mO 0 [.int (iI 0), .ref (G.2.2.1 6), .int (iI 0)],
  mO 4 [.int (iI (-1)), .int (iI 8), .int (iI 0), .ref (b + 22), .ref (b + 23), .ref (b + 24), .ref (b + 25), .int (iI 0), .ref (b + 20), .null, .int (iI 0), .int (iI 255)],
  mO 7 [.ref (b + 21), .int (iI 0)],
  mI 0 (fun _ => iI 0),
  mI 4 (fun j => iI (cpE zer (fun _ => -1) 0 4 j)),
  mI 5 (fun _ => iI 0),
  mI 5 (fun _ => iI 0),
  mA 3 5 (fun _ => none),
  mI 32 (fun j => iI (cpE zer (fun _ => -1) 0 32 j)),
  mI 9 (fun j => iI (cpE zer (fun _ => -1) 0 9 j)),
  mO 9 [.ref (b + 17), .ref (b + 29), .ref (b + 31), .ref (b + 33), .int (iI 0), .int (iI 0), .null, .int (iI 0), .int (iI 0)],
  mO 7 [.ref (b + 30), .int (iI 0)],
  mI 255 (fun _ => iI 0),
  mO 7 [.ref (b + 32), .int (iI 0)],
  mI 255 (fun _ => iI 0),
  mZ 9 (fun _ => iI 0),
  mO 11 [.ref (b + 6), .ref (b + 17), .ref (b + 28), .ref (b + 1), .ref (b + 35)],
  mO 10 [.ref (b + 36), .ref (b + 37), .ref (b + 38), .null],
  mI 128 (fun _ => iI 0),
  mI 128 (fun _ => iI 0),
  mZ 128 (fun _ => iI 0),
  mO 7 [.ref (b + 40), .int (iI 0)],
  mI 300 (fun _ => iI 0),
  mO 7 [.ref (b + 42), .int (iI 0)],
  mI 300 (fun _ => iI 0)]
def l9 (G : mG) (b : Nat) : List (Option mE) := [none, none, none, none, none, none, none, none, some (mO 1 [.int (iI 0), .null, .int (iI 0), .int (iI 16128), .int (iI 0), .int (iI 0), .ref (b + 9), .int (iI 0), .int (iI 0)]), some (mI 0 (fun j => iI (cpE zer (fun _ => 255) 0 0 j))), some (mA 4 10 (va_up (fun _ => none) 0 (some (b + 8)))), none, none, none, none, none, none, none, none, some (mO 4 [.int (iI (-1)), .int (iI 8), .int (iI 0), .ref (b + 22), .ref (b + 23), .ref (b + 24), .ref (b + 25), .int (iI 0), .ref (b + 20), .null, .int (iI 0), .int (iI 255)]), some (mO 7 [.ref (b + 21), .int (iI 0)]), some (mI 0 (fun _ => iI 0)), some (mI 4 (fun j => iI (cpE zer (fun _ => -1) 0 4 j))), some (mI 5 (fun _ => iI 0)), some (mI 5 (fun _ => iI 0)), some (mA 3 5 (fun _ => none)), none, none, none, none, none, none, none, none, none, none, none, none, none, none, none, none, none, none, none, none, none, none, none, none, none, none, none, none, none, none, none, none, none, none, none, none, none, none, none, none, none, none, none, none, none, none, none, none, none, none, none, none, none]
def h9 (G : mG) (H : mH) (b : Nat) : mH := fx H b (l9 G b)
theorem upL_app {h : mH} : ∀ (l1 l2 : List mE) (h : mH) (c : Nat), upL (upL h c l1) (c + l1.length) l2 = upL h c (l1 ++ l2)
  | [], _, _, _ => rfl
  | e :: l1, l2, h, c => by
    rw [upL, List.cons_append, upL, ← upL_app (h := h) l1 l2 (mUp h c e) (c + 1), List.length_cons, show c + (l1.length + 1) = c + 1 + l1.length by omega]
theorem fx_fx {h : mH} {l1 l2 l : List (Option mE)} (hl : l1.length = l2.length) (e : List.zipWith (fun x y => x.or y) l1 l2 = l) : fx (fx h b l2) b l1 = fx h b l := by
  subst e
  funext a
  rcases Nat.lt_or_ge a b with q | q
  · rw [fx_hole (Or.inl q), fx_hole (Or.inl q), fx_hole (Or.inl q)]
  · obtain ⟨j, rfl⟩ := Nat.exists_eq_add_of_le q
    rw [fx_at, fx_at, fx_at]
    rcases Nat.lt_or_ge j l1.length with w | w
    · have w2 : j < l2.length := by omega
      have e1 : l1[j]? = some l1[j] := List.getElem?_eq_getElem w
      have e2 : l2[j]? = some l2[j] := List.getElem?_eq_getElem w2
      rw [List.getElem?_zipWith, e1, e2]
      generalize l1[j] = x
      generalize l2[j] = y
      cases x <;> rfl
    · have e1 : l1[j]? = none := List.getElem?_eq_none w
      have e2 : l2[j]? = none := List.getElem?_eq_none (by omega)
      rw [List.getElem?_zipWith, e1, e2]
      rfl
set_option maxRecDepth 100000 in
set_option maxHeartbeats 4000000 in
theorem ini_w {H : mH} : mUp (iniM (iniC G H b) b) (b + 78) (mJ 1 (fun _ => 0)) = wH (h9 G H b) b I0 A0 (P0 G b) (R0 b) (fun _ => 0) := by
  have e1 : iniC G H b = upL H b (celC G b) := rfl
  have e2 : mUp (iniM (iniC G H b) b) (b + 78) (mJ 1 (fun _ => 0)) = upL (upL (upL H b (celC G b)) (b + 43) (celM b)) (b + 78) [mJ 1 (fun _ => 0)] := rfl
  have e3 : upL (upL H b (celC G b)) (b + 43) (celM b) = upL H b (celC G b ++ celM b) := upL_app (h := H) (celC G b) (celM b) H b
  have e4 : upL (upL H b (celC G b ++ celM b)) (b + 78) [mJ 1 (fun _ => 0)] = upL H b ((celC G b ++ celM b) ++ [mJ 1 (fun _ => 0)]) := upL_app (h := H) (celC G b ++ celM b) [mJ 1 (fun _ => 0)] H b
  rw [e2, e3, e4, upL_fx]
  unfold wH h9
  exact (fx_fx (l1 := wL b I0 A0 (P0 G b) (R0 b) (fun _ => 0)) (l2 := l9 G b) rfl rfl).symm
theorem law_0 {H : mH} {f : Nat → Int32} {sc : Nat} (hb : G.2.2.2 ≤ b) (hS : H (G.2.2.1 6) = some (.inl (3, 0, f))) (hl : G.2.2.1 6 < b) : mX G 287 0 [.ref sc, mU, mU, mU, mU, mU, mU] [] H b k Q ↔ mX G 287 23 [.ref sc, .ref b, .ref (b + 43), .ref (b + 78), .int (iI 0), mU, mU] [] (wH (h9 G H b) b I0 A0 (P0 G b) (R0 b) (fun _ => 0)) (b + 79) (k + 21233) Q := by
  rw [← ini_w]
  simp (maxSteps := 1000000) (disch := first | omega | (simp only [updI_at, upA_at, Nat.reduceEqDiff, reduceIte]; omega) | exact mIsRef_rf _ | exact rfl) only [↓s287_0, ↓s287_3, ↓s287_4, ↓s287_7, ↓s287_8, ↓s287_11, ↓s287_12, ↓s287_15, ↓s287_16, ↓s287_17, ↓s287_19, ↓s287_20, ↓s287_21, mN1_int, mN1_ref, mN1_null, mN1_U, mN1_rf, mCats_nil, mCats_int, mCats_ref, mCats_null, mCats_long, mCats_rf, mIsRef_ref, mIsRef_null, mIsRef_va, mRf_ref, mRf_null, mRf_rf, true_and, and_true, true_or, or_true, eq_self_iff_true, mK_v, mK_0, Nat.reduceAdd, Nat.reduceLeDiff, Nat.zero_le, iL_0, iL_1, iL_m1, iI_add, iI_sub, iI_mul, iI_neg, updI_at, upA_at, upP_at, upR_at, Nat.reduceEqDiff, reduceIte, Int.reduceAdd, Int.reduceSub, Int.reduceMul, Int.reduceDiv, Int.reduceMod, Int.reduceLT, Int.reduceLE, Int.reduceEq, Int.reduceNeg, not_true_eq_false, not_false_eq_true, Decidable.not_not, c153 hb hS hl, c184 hb, iI_lt, iI_nat, Int.reduceToNat, Nat.add_assoc]
end MSTART
