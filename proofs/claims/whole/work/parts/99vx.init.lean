/-! What holds at the start. -/
section MINIT
variable {G : mG} {h h0 : mH} {n k b : Nat} {Q : mR → Prop} {I : Nat → Int} {A : Nat → Nat → Int} {P : Nat → Nat} {R : Nat → Option Nat} {o : Nat → Int64}
theorem A0_r : RgA A0 := by
  intro i j
  have z : ∀ j, -2147483648 ≤ zer j ∧ zer j < 2147483648 := fun j => by show (-2147483648 : Int) ≤ 0 ∧ (0 : Int) < 2147483648; omega
  have w : ∀ x : Int, ∀ y ∈ w4 x, -2147483648 ≤ y ∧ y < 2147483648 := fun x y hy => by have := w4_r x y hy; omega
  have c1 : ∀ m, ∀ j, -2147483648 ≤ cpE zer (fun _ => -1) 0 m j ∧ cpE zer (fun _ => -1) 0 m j < 2147483648 := fun m => cpE_P (p := fun x => -2147483648 ≤ x ∧ x < 2147483648) z (fun _ => by omega)
  unfold A0
  split
  · exact putL_P (p := fun x => -2147483648 ≤ x ∧ x < 2147483648) _ _ _ (putL_P (p := fun x => -2147483648 ≤ x ∧ x < 2147483648) _ _ _ z (w _)) (w _) j
  · split
    · exact putL_P (p := fun x => -2147483648 ≤ x ∧ x < 2147483648) _ _ _ (putL_P (p := fun x => -2147483648 ≤ x ∧ x < 2147483648) _ _ _ z (w _)) (w _) j
    · split
      · exact c1 _ j
      · split
        · exact c1 _ j
        · split
          · exact upE_P (p := fun x => -2147483648 ≤ x ∧ x < 2147483648) z (by omega) j
          · split
            · exact upE_P (p := fun x => -2147483648 ≤ x ∧ x < 2147483648) z (by omega) j
            · split
              · exact c1 _ j
              · split
                · exact c1 _ j
                · split
                  · refine cpE_P (p := fun x => -2147483648 ≤ x ∧ x < 2147483648) z (fun j => ?_) j
                    unfold pinI
                    split <;> omega
                  · split
                    · exact cpE_P (p := fun x => -2147483648 ≤ x ∧ x < 2147483648) z (fun _ => by omega) j
                    · exact z j
theorem z255 : ∀ j, 0 ≤ zer j ∧ zer j ≤ 255 := fun j => by show (0 : Int) ≤ 0 ∧ (0 : Int) ≤ 255; omega
theorem iM_0 : iM I0 A0 := by
  have up : ∀ (x : Int) (f : Nat), 0 < f → upE zer 0 x f = 0 := fun x f hf => by rw [upE_ne (by omega)]; rfl
  refine ⟨A0_r, ⟨⟨by decide, by decide⟩, ⟨by decide, by decide⟩, ?_, ?_, ⟨rfl, rfl, rfl⟩, z255⟩, ⟨⟨by decide, by decide⟩, ⟨by decide, by decide⟩, ⟨by decide, by decide⟩, ?_, ⟨by decide, by decide⟩, ⟨by decide, by decide⟩, ⟨by decide, by decide⟩, ?_, ?_⟩, ⟨⟨by decide, by decide⟩, ?_, ?_, ?_, ?_, ⟨by decide, by decide⟩, ?_, ?_, z255, z255, z255⟩, ⟨⟨by decide, by decide⟩, ⟨by decide, by decide⟩, ⟨by decide, by decide⟩, ⟨by decide, by decide⟩, ?_, ⟨by decide, by decide⟩, ⟨by decide, by decide⟩, z255, ?_⟩, ⟨⟨⟨by decide, by decide⟩, ?_, ⟨by decide, by decide⟩⟩, z255⟩⟩
  · intro f hf
    have hf' : (f : Int) < 1 := hf
    obtain rfl : f = 0 := by omega
    exact ⟨⟨by decide, by decide⟩, Or.inl ⟨rfl, rfl, rfl⟩, ⟨by decide, by decide⟩, ⟨by decide, by decide⟩, ⟨by decide, by decide⟩, ⟨by decide, by decide⟩, ⟨by decide, by decide⟩, fun h => by omega⟩
  · intro f g h1 h2
    have h2' : (g : Int) < 1 := h2
    omega
  · intro h
    have h' : (0 : Int) ≤ -1 := h
    omega
  · refine cpE_P (p := fun x => 0 ≤ x ∧ x ≤ 255) z255 (fun j => ?_)
    unfold pinI
    split <;> omega
  · exact cpE_P (p := fun x => 0 ≤ x ∧ x ≤ 255) z255 (fun _ => by show (0 : Int) ≤ 56 ∧ (56 : Int) ≤ 255; omega)
  · intro x hx
    have hx' : (x : Int) < 0 := hx
    omega
  · intro x _
    show (0 : Int) ≤ 0 ∧ (0 : Int) ≤ 5
    omega
  · intro x _ _
    rfl
  · intro x c h1 h2 h3
    have h3' : (c : Int) < 5 * x + 0 := h3
    omega
  · intro j hj
    show -1 ≤ cpE zer (fun _ => -1) 0 32 j ∧ cpE zer (fun _ => -1) 0 32 j < 0
    unfold cpE
    rw [if_pos (by omega)]
    show (-1 : Int) ≤ -1 ∧ (-1 : Int) < 0
    omega
  · intro j hj
    show -1 ≤ cpE zer (fun _ => -1) 0 9 j ∧ cpE zer (fun _ => -1) 0 9 j < 0
    unfold cpE
    rw [if_pos (by omega)]
    show (-1 : Int) ≤ -1 ∧ (-1 : Int) < 0
    omega
  · intro h
    exact absurd rfl h
  · intro j
    show (0 : Int) ≤ 0 ∧ (0 : Int) ≤ 1
    omega
  · intro j
    show (-1 : Int) ≤ 0 ∧ (0 : Int) ≤ 255
    omega
theorem ri_0 : ri I0 A0 := fun _ _ => ⟨rfl, rfl⟩
def W0 (b : Nat) : Nat → Nat → Nat → Nat := fun q _ _ => if q = 0 then b + 19 else if q = 1 then b + 22 else if q = 2 then b + 20 else if q = 3 then 0 else b
def V0 : Nat → Nat → Nat → Nat → Int := fun q _ j _ => if q = 0 then cpE zer (fun _ => -1) 0 4 j else 0
def T0 (b : Nat) : Nat → Nat := fun y => if y = b + 8 then 10000 else if y = b + 9 then 10001 else if y = b + 10 then 20000 else if y = b + 19 then 4000 else if y = b + 22 then 4010 else if y = b + 23 then 4020 else if y = b + 24 then 4030 else if y = b + 25 then 4040 else if y = b + 20 then 4050 else if y = b + 21 then 4051 else 20001
theorem T0_t (b : Nat) : T0 b (b + 8) = 10000 ∧ T0 b (b + 9) = 10001 ∧ T0 b (b + 10) = 20000 ∧ T0 b (b + 19) = 4000 ∧ T0 b (b + 22) = 4010 ∧ T0 b (b + 23) = 4020 ∧ T0 b (b + 24) = 4030 ∧ T0 b (b + 25) = 4040 ∧ T0 b (b + 20) = 4050 ∧ T0 b (b + 21) = 4051 := by
  unfold T0
  refine ⟨?_, ?_, ?_, ?_, ?_, ?_, ?_, ?_, ?_, ?_⟩
  · rw [if_pos rfl]
  · rw [if_neg (by omega), if_pos rfl]
  · rw [if_neg (by omega), if_neg (by omega), if_pos rfl]
  · rw [if_neg (by omega), if_neg (by omega), if_neg (by omega), if_pos rfl]
  · rw [if_neg (by omega), if_neg (by omega), if_neg (by omega), if_neg (by omega), if_pos rfl]
  · rw [if_neg (by omega), if_neg (by omega), if_neg (by omega), if_neg (by omega), if_neg (by omega), if_pos rfl]
  · rw [if_neg (by omega), if_neg (by omega), if_neg (by omega), if_neg (by omega), if_neg (by omega), if_neg (by omega), if_pos rfl]
  · rw [if_neg (by omega), if_neg (by omega), if_neg (by omega), if_neg (by omega), if_neg (by omega), if_neg (by omega), if_neg (by omega), if_pos rfl]
  · rw [if_neg (by omega), if_neg (by omega), if_neg (by omega), if_neg (by omega), if_neg (by omega), if_neg (by omega), if_neg (by omega), if_neg (by omega), if_pos rfl]
  · rw [if_neg (by omega), if_neg (by omega), if_neg (by omega), if_neg (by omega), if_neg (by omega), if_neg (by omega), if_neg (by omega), if_neg (by omega), if_neg (by omega), if_pos rfl]
theorem T0_lo {b y : Nat} (h : y < b) : T0 b y = 20001 := by
  unfold T0
  rw [if_neg (by omega), if_neg (by omega), if_neg (by omega), if_neg (by omega), if_neg (by omega), if_neg (by omega), if_neg (by omega), if_neg (by omega), if_neg (by omega), if_neg (by omega)]
set_option maxRecDepth 100000 in
set_option maxHeartbeats 4000000 in
theorem rl_0 {H : mH} {f : Nat → Int32} (hb : G.2.2.2 ≤ b) (hz : ∀ a, b ≤ a → H a = none) (hS : H (G.2.2.1 6) = some (.inl (3, 0, f))) (hT : rT G H b) (hs : sSc G H b) : rl G b (wH (h9 G H b) b I0 A0 (P0 G b) (R0 b) (fun _ => 0)) (b + 79) := by
  have lt : ∀ a e, H a = some e → a < b := fun a e q => hLt hz q
  have he : ∀ a e, H a = some e → h9 G H b a = some e := fun a e q => (fx_hole (Or.inl (lt a e q))).trans q
  have l6 : G.2.2.1 6 < b := lt _ _ hS
  have c8 : h9 G H b (b + 8) = some (mO 1 [.int (iI 0), .null, .int (iI 0), .int (iI 16128), .int (iI 0), .int (iI 0), .ref (b + 9), .int (iI 0), .int (iI 0)]) := fx_get rfl
  have c9 : h9 G H b (b + 9) = some (mI 0 (fun j => iI (cpE zer (fun _ => 255) 0 0 j))) := fx_get rfl
  have c10 : h9 G H b (b + 10) = some (mA 4 10 (va_up (fun _ => none) 0 (some (b + 8)))) := fx_get rfl
  have c19 : h9 G H b (b + 19) = some (mO 4 [.int (iI (-1)), .int (iI 8), .int (iI 0), .ref (b + 22), .ref (b + 23), .ref (b + 24), .ref (b + 25), .int (iI 0), .ref (b + 20), .null, .int (iI 0), .int (iI 255)]) := fx_get rfl
  have c20 : h9 G H b (b + 20) = some (mO 7 [.ref (b + 21), .int (iI 0)]) := fx_get rfl
  have c21 : h9 G H b (b + 21) = some (mI 0 (fun _ => iI 0)) := fx_get rfl
  have c22 : h9 G H b (b + 22) = some (mI 4 (fun j => iI (cpE zer (fun _ => -1) 0 4 j))) := fx_get rfl
  have c23 : h9 G H b (b + 23) = some (mI 5 (fun _ => iI 0)) := fx_get rfl
  have c24 : h9 G H b (b + 24) = some (mI 5 (fun _ => iI 0)) := fx_get rfl
  have c25 : h9 G H b (b + 25) = some (mA 3 5 (fun _ => none)) := fx_get rfl
  have h79 : ∀ a, b + 79 ≤ a → h9 G H b a = none := by
    intro a ha
    unfold h9
    rw [fx_hole]
    · exact hz a (by omega)
    · right
      rw [List.getElem?_eq_none (show (l9 G b).length ≤ a - b by show 79 ≤ a - b; omega)]
      rfl
  have hT9 : rT G (h9 G H b) b := rT_ext he hT
  have hs9 : sSc G (h9 G H b) b := ⟨⟨hs.1.1, he _ _ hs.1.2⟩, hs.2⟩
  have g6 : h9 G H b (G.2.2.1 6) = some (.inl (3, 0, f)) := he _ _ hS
  generalize h9 G H b = h0 at *
  obtain ⟨t8, t9, t10, t19, t22, t23, t24, t25, t20, t21⟩ := T0_t b
  refine ⟨h0, I0, A0, P0 G b, R0 b, fun _ => 0, fun _ => b + 8, fun _ j => cpE zer (fun _ => 255) 0 0 j, 10, va_up (fun _ => none) 0 (some (b + 8)), W0 b, V0, fun _ _ => none, 10, fun _ => none, rfl, iM_0, ?_, ⟨Nat.le_refl _, rfl, fun i j => by show b < b + 79; omega⟩, ri_0⟩
  refine ⟨⟨⟨⟨by unfold hol; right; right; right; right; exact Or.inl rfl, by show G.2.2.2 ≤ b + 10; omega, c10⟩, ⟨by decide, by decide⟩, ?_, ?_⟩, rfl, rfl⟩, ⟨⟨⟨Or.inl l6, fun q => absurd q (by decide)⟩, ⟨by decide, by decide⟩, rfl, ?_, ?_⟩, rfl, ?_⟩, hT9, ⟨⟨rfl, rfl, rfl⟩, ⟨rfl, rfl⟩, ⟨?_, ?_⟩, ?_, ?_⟩, ⟨⟨rfl, rfl⟩, rfl⟩, ⟨⟨rfl, rfl, rfl, fun _ => rfl⟩, ⟨fun q => absurd q (by decide), fun q => absurd rfl q⟩, rfl, ⟨fun _ _ => rfl, rfl, fun j => by show (0 : Int) ≤ 0 ∧ (0 : Int) ≤ 1; omega⟩, z255⟩, ⟨fun _ _ => rfl, fun _ _ => rfl⟩, ⟨⟨fun j => by show (-1 : Int) ≤ 0 ∧ (0 : Int) ≤ 300; omega, fun j => by show (0 : Int) ≤ 0 ∧ (0 : Int) ≤ 1; omega⟩, fun j => by show (0 : Int) ≤ 0 ∧ (0 : Int) ≤ 300; omega, z255, z255, ⟨z255, z255⟩, ⟨by decide, by decide⟩, ⟨by decide, by decide⟩⟩, ⟨⟨rfl, by decide, by decide⟩, fun j hj => by have hj' : (j : Int) < 0 := hj; omega⟩, Or.inl ⟨⟨rfl, rfl⟩, rfl, fun j hj => by have hj' : (j : Int) < 0 := hj; omega⟩, rfl, Or.inl ⟨rfl, rfl, f, g6⟩, hs9, ⟨T0 b, ?_, ?_, t10, T0_lo l6⟩, h79⟩
  · intro i hi
    have hi' : (i : Int) < 1 := hi
    obtain rfl : i = 0 := by omega
    refine ⟨rfl, ⟨⟨?_, ?_⟩, by show G.2.2.2 ≤ b + 8; omega, c8⟩, c9, ?_, ?_⟩
    · unfold hol; right; right; exact Or.inl rfl
    · unfold hol; right; right; right; exact Or.inl rfl
    · intro j hj
      have hj' : j < 0 := hj
      omega
    · exact cpE_P (p := fun x => 0 ≤ x ∧ x ≤ 255) z255 (fun _ => by omega)
  · intro i j hi hj _
    have hi' : (i : Int) < 1 := hi
    have hj' : (j : Int) < 1 := hj
    omega
  · intro i hi
    have hi' : (i : Int) < 0 := hi
    omega
  · intro i hi
    have hi' : (i : Int) < 0 ∨ i = 40 := hi
    obtain rfl : i = 40 := by omega
    refine ⟨⟨⟨⟨?_, ?_, ?_, ?_, ?_⟩, ⟨by show G.2.2.2 ≤ b + 19; omega, by show G.2.2.2 ≤ b + 22; omega⟩, c19⟩, ⟨c22, c23, c24, c25⟩, ⟨⟨?_, ?_⟩, c20, c21⟩, ?_, ⟨⟨by show 0 ≤ 100000; omega, by decide⟩, ⟨by decide, by show (0 : Int) ≤ ((0 : Nat) : Int); omega⟩, by decide, ⟨by decide, by decide⟩⟩, ⟨⟨by decide, by decide⟩, ⟨by decide, by decide⟩, ⟨by decide, by decide⟩, ⟨by decide, by decide⟩⟩, z255, z255⟩, ?_, ?_, ?_⟩
    · show hol b (b + 19); unfold hol; omega
    · show hol b (b + 22); unfold hol; omega
    · show hol b (b + 22 + 1); unfold hol; omega
    · show hol b (b + 22 + 2); unfold hol; omega
    · show hol b (b + 22 + 3); unfold hol; omega
    · show hol b (b + 20); unfold hol; omega
    · show hol b (b + 20 + 1); unfold hol; omega
    · intro j hj
      have hj' : (j : Int) < 0 := hj
      omega
    · intro j hj
      show cpE zer (fun _ => -1) 0 4 j = -1
      unfold cpE
      rw [if_pos (by omega)]
    · intro j hj
      have hj' : (j : Int) < 0 := hj
      omega
    · intro u hu
      have hu' : (u : Int) < 0 := hu
      omega
  · intro x hx i hi
    show (b + 8 + 1 ≠ b + 22 ∧ b + 8 + 1 ≠ b + 22 + 1 ∧ b + 8 + 1 ≠ b + 22 + 2) ∧ b + 8 ≠ b + 20 ∧ (∀ j : Nat, b + 8 ≠ b)
    exact ⟨⟨by omega, by omega, by omega⟩, by omega, fun _ => by omega⟩
  · intro j hj
    have : j = 0 ∨ j = 1 ∨ j = 2 ∨ j = 3 ∨ j = 4 ∨ j = 5 ∨ j = 6 ∨ j = 7 := by omega
    rcases this with rfl | rfl | rfl | rfl | rfl | rfl | rfl | rfl <;> decide
  · intro j hj
    have : j = 0 ∨ j = 1 ∨ j = 2 ∨ j = 3 ∨ j = 4 ∨ j = 5 ∨ j = 6 ∨ j = 7 := by omega
    rcases this with rfl | rfl | rfl | rfl | rfl | rfl | rfl | rfl <;> decide
  · exact putL_P (p := fun x => 0 ≤ x ∧ x ≤ 255) _ _ _ (putL_P (p := fun x => 0 ≤ x ∧ x ≤ 255) _ _ _ z255 (w4_r _)) (w4_r _)
  · exact putL_P (p := fun x => 0 ≤ x ∧ x ≤ 255) _ _ _ (putL_P (p := fun x => 0 ≤ x ∧ x ≤ 255) _ _ _ z255 (w4_r _)) (w4_r _)
  · intro x hx
    have hx' : (x : Int) < 1 := hx
    obtain rfl : x = 0 := by omega
    exact ⟨t8, t9⟩
  · intro i hi
    have hi' : (i : Int) < 0 ∨ i = 40 := hi
    obtain rfl : i = 40 := by omega
    exact ⟨t19, ⟨t22, t23, t24, t25⟩, ⟨t20, t21⟩, fun j hj => by have hj' : (j : Int) < 0 := hj; omega⟩
/-- THE LAW: from a start with its statics, its script and nothing above, it ends with 1; at most 8300 cells, 4700000 slots are made -/
theorem law_all {H : mH} {f : Nat → Int32} (hb : G.2.2.2 ≤ b) (hz : ∀ a, b ≤ a → H a = none) (hS : H (G.2.2.1 6) = some (.inl (3, 0, f))) (hT : rT G H b) (hs : sSc G H b) (hQ : ∀ (h' : mH) (n' k' : Nat), n' ≤ b + 9000 → k' ≤ k + 5000000 → Q (.inl (some (.int (iI 1))), h', n', k')) : mX G 287 0 [.ref (G.2.2.1 8), mU, mU, mU, mU, mU, mU] [] H b k Q := by
  rw [law_0 hb hS (hLt hz hS)]
  have l3 := hs.2.1
  exact law_l hb 512 0 _ (b + 79) (k + 21233) mU mU (rl_0 hb hz hS hT hs) (by omega) (by omega) (fun h' n' k' q1 q2 => hQ h' n' k' (by omega) (by omega))
end MINIT
