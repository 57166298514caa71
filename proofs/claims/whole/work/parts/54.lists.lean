/-! Lists written behind an array's length; the bytes of a proactive command as lists. Reference: addText, addItems, message, timer1, events. -/
section MLISTS
variable {G : mG} {h h0 : mH} {n k b : Nat} {Q : mR → Prop} {I : Nat → Int} {A : Nat → Nat → Int} {P : Nat → Nat} {R : Nat → Option Nat} {o : Nat → Int64}
def lwI (I : Nat → Int) (i : Nat) (l : List Int) : Nat → Int := updI I i (I i + l.length)
def lwA (I : Nat → Int) (A : Nat → Nat → Int) (i a : Nat) (l : List Int) : Nat → Nat → Int := upA A a (putL (A a) (I i) l)
theorem lwI_at (I : Nat → Int) (i : Nat) (l : List Int) (j : Nat) : lwI I i l j = if j = i then I i + l.length else I j := rfl
theorem lwA_at (I : Nat → Int) (A : Nat → Nat → Int) (i a : Nat) (l : List Int) (j : Nat) : lwA I A i a l j = if j = a then putL (A a) (I i) l else A j := rfl
theorem lwI_nil (I : Nat → Int) (i : Nat) : lwI I i [] = I := by
  funext j; unfold lwI updI; split
  · rename_i q; subst q; simp
  · rfl
theorem lwA_nil (I : Nat → Int) (A : Nat → Nat → Int) (i a : Nat) : lwA I A i a [] = A := by
  funext j; unfold lwA upA; split
  · rename_i q; subst q; rfl
  · rfl
theorem lwI_lwI (I : Nat → Int) (i : Nat) (l m : List Int) : lwI (lwI I i l) i m = lwI I i (l ++ m) := by
  funext j; unfold lwI updI; split
  · rw [if_pos rfl, List.length_append]; omega
  · rfl
theorem lwA_lwA (I : Nat → Int) (A : Nat → Nat → Int) (i a : Nat) (l m : List Int) : lwA (lwI I i l) (lwA I A i a l) i a m = lwA I A i a (l ++ m) := by
  funext j; unfold lwA upA; split
  · rw [if_pos rfl, lwI_at, if_pos rfl, putL_app]
  · rfl
theorem lwI_RgA {I : Nat → Int} {A : Nat → Nat → Int} {i a : Nat} {l : List Int} (hA : RgA A) (hl : ∀ x ∈ l, -2147483648 ≤ x ∧ x < 2147483648) : RgA (lwA I A i a l) := by
  intro u v
  rw [lwA_at]
  split
  · have key : ∀ (l : List Int) (g : Nat → Int) (t : Int), (∀ v, -2147483648 ≤ g v ∧ g v < 2147483648) → (∀ x ∈ l, -2147483648 ≤ x ∧ x < 2147483648) → ∀ v, -2147483648 ≤ putL g t l v ∧ putL g t l v < 2147483648 := by
      intro l
      induction l with
      | nil => intro g t hg _ v; exact hg v
      | cons x l ih =>
        intro g t hg hx v
        rw [putL]
        refine ih _ _ ?_ (fun y hy => hx y (List.mem_cons_of_mem x hy)) v
        intro w
        unfold upE
        split
        · exact hx x List.mem_cons_self
        · exact hg w
    exact key l _ _ (fun v => hA a v) hl v
  · exact hA u v
/-- the bytes of a text -/
def txtL (g : Nat → Int) : Nat → Nat → List Int
  | 0, _ => []
  | d + 1, c => g c % 256 :: txtL g d (c + 1)
theorem txtL_len (g : Nat → Int) : ∀ (d c : Nat), (txtL g d c).length = d
  | 0, _ => rfl
  | d + 1, c => by rw [txtL, List.length_cons, txtL_len g d (c + 1)]
def tagL (t n : Int) : List Int := if n ≤ 127 then [t % 256, n % 256] else [t % 256, 129, n % 256]
theorem tagL_len (t n : Int) : 2 ≤ (tagL t n).length ∧ (tagL t n).length ≤ 3 := by unfold tagL; split <;> simp
theorem tagL_2 {t n : Int} (h : n ≤ 127) : tagL t n = [t % 256, n % 256] := if_pos h
/-- the items from number c on -/
def itmL (A : Nat → Nat → Int) : Nat → Nat → List Int
  | 0, _ => []
  | d + 1, c => tagL 143 (1 + (A 35) c) ++ ([(A 33) c % 256] ++ (txtL (A 36) ((A 35) c).toNat (20 * c) ++ itmL A d (c + 1)))
theorem itmL_len (A : Nat → Nat → Int) : ∀ (d c : Nat), (∀ j, c ≤ j → j < c + d → 0 ≤ (A 35) j ∧ (A 35) j ≤ 20) → (itmL A d c).length ≤ 23 * d
  | 0, _, _ => Nat.zero_le _
  | d + 1, c, h => by
    rw [itmL, tagL_2 (by have := h c (Nat.le_refl c) (by omega); omega)]
    have ih := itmL_len A d (c + 1) (fun j q1 q2 => h j (by omega) (by omega))
    have := h c (Nat.le_refl c) (by omega)
    simp only [List.length_append, List.length_cons, List.length_nil, txtL_len]
    omega
def evL (g : Nat → Int) : Nat → Nat → List Int
  | 0, _ => []
  | d + 1, c => if 0 ≤ g c then ((c : Int) % 256) :: evL g d (c + 1) else evL g d (c + 1)
theorem evL_len (g : Nat → Int) : ∀ (d c : Nat), (evL g d c).length ≤ d
  | 0, _ => Nat.zero_le _
  | d + 1, c => by
    have := evL_len g d (c + 1)
    rw [evL]; split
    · rw [List.length_cons]; omega
    · omega
theorem b238 {x : Int} (hb : G.2.2.2 ≤ b) (hx : -2147483648 ≤ x ∧ x < 2147483648) (ho : 0 ≤ (I 53) ∧ (I 53) < 300) : mX G 238 0 [.ref (b + 43), .int (iI x)] [] (wH h0 b I A P R o) n k Q ↔ Q (.inl none, wH h0 b (lwI I 53 ([x % 256])) (lwA I A 53 47 ([x % 256])) P R o, n, k) := c238 hb hx ho
theorem b239 {x y : Int} (hb : G.2.2.2 ≤ b) (hx : 0 ≤ x ∧ x ≤ 255) (hy : 0 ≤ y ∧ y ≤ 255) (hl : 0 ≤ (I 53) ∧ (I 53) < 297) : mX G 239 0 [.ref (b + 43), .int (iI x), .int (iI y)] [] (wH h0 b I A P R o) n k Q ↔ Q (.inl none, wH h0 b (lwI I 53 (tagL x y)) (lwA I A 53 47 (tagL x y)) P R o, n, k) := by
  rw [c239 hb hx hy hl]
  unfold tagL
  split <;> exact Iff.rfl
theorem b242 {x : Int} (hb : G.2.2.2 ≤ b) (hx : 0 ≤ x ∧ x ≤ 99) (hl : 0 ≤ (I 53) ∧ (I 53) < 300) : mX G 242 0 [.ref (b + 43), .int (iI x)] [] (wH h0 b I A P R o) n k Q ↔ Q (.inl none, wH h0 b (lwI I 53 ([(x % 10 * 16 + x / 10) % 256])) (lwA I A 53 47 ([(x % 10 * 16 + x / 10) % 256])) P R o, n, k) := c242 hb hx hl
theorem a238 {x : Int} {l : List Int} (hb : G.2.2.2 ≤ b) (hx : -2147483648 ≤ x ∧ x < 2147483648) (h1 : 0 ≤ (I 53)) (ho : (I 53) + l.length < 300) : mX G 238 0 [.ref (b + 43), .int (iI x)] [] (wH h0 b (lwI I 53 (l)) (lwA I A 53 47 (l)) P R o) n k Q ↔ Q (.inl none, wH h0 b (lwI I 53 (l ++ [x % 256])) (lwA I A 53 47 (l ++ [x % 256])) P R o, n, k) := by
  rw [b238 hb hx (by rw [lwI_at, if_pos rfl]; omega), lwI_lwI, lwA_lwA]
theorem a239 {x y : Int} {l : List Int} (hb : G.2.2.2 ≤ b) (hx : 0 ≤ x ∧ x ≤ 255) (hy : 0 ≤ y ∧ y ≤ 255) (h1 : 0 ≤ (I 53)) (ho : (I 53) + l.length < 297) : mX G 239 0 [.ref (b + 43), .int (iI x), .int (iI y)] [] (wH h0 b (lwI I 53 (l)) (lwA I A 53 47 (l)) P R o) n k Q ↔ Q (.inl none, wH h0 b (lwI I 53 (l ++ tagL x y)) (lwA I A 53 47 (l ++ tagL x y)) P R o, n, k) := by
  rw [b239 hb hx hy (by rw [lwI_at, if_pos rfl]; omega), lwI_lwI, lwA_lwA]
theorem a242 {x : Int} {l : List Int} (hb : G.2.2.2 ≤ b) (hx : 0 ≤ x ∧ x ≤ 99) (h1 : 0 ≤ (I 53)) (ho : (I 53) + l.length < 300) : mX G 242 0 [.ref (b + 43), .int (iI x)] [] (wH h0 b (lwI I 53 (l)) (lwA I A 53 47 (l)) P R o) n k Q ↔ Q (.inl none, wH h0 b (lwI I 53 (l ++ [(x % 10 * 16 + x / 10) % 256])) (lwA I A 53 47 (l ++ [(x % 10 * 16 + x / 10) % 256])) P R o, n, k) := by
  rw [b242 hb hx (by rw [lwI_at, if_pos rfl]; omega), lwI_lwI, lwA_lwA]
theorem a240_l {x : Int} (hb : G.2.2.2 ≤ b) (hA : RgA A) (hx : 0 ≤ x ∧ x < 40) (ht : 0 ≤ (A 30) x.toNat ∧ (A 30) x.toNat ≤ 100) (hq0 : 0 ≤ (I 53)) : ∀ (d : Nat) (c : Int) (l : List Int), 0 ≤ c → c + d = (A 30) x.toNat → (I 53) + l.length + d ≤ 300 →
    (mX G 240 2 [.ref (b + 43), .int (iI x), .int (iI c)] [] (wH h0 b (lwI I 53 (l)) (lwA I A 53 47 (l)) P R o) n k Q ↔ Q (.inl none, wH h0 b (lwI I 53 (l ++ txtL (A 31) d (100 * x + c).toNat)) (lwA I A 53 47 (l ++ txtL (A 31) d (100 * x + c).toNat)) P R o, n, k)) := by
  intro d
  induction d with
  | zero =>
    intro c l h1 h2 h4
    rw [s240_2]
    simp (maxSteps := 1000000) (disch := first | omega | (simp only [updI_at, upA_at, Nat.reduceEqDiff, reduceIte]; omega) | exact mIsRef_rf _ | exact rfl) only [↓s240_0, ↓s240_1, ↓s240_3, ↓s240_4, ↓s240_7, ↓s240_8, ↓s240_9, ↓s240_12, ↓s240_13, ↓s240_14, ↓s240_17, ↓s240_19, ↓s240_20, ↓s240_21, ↓s240_22, ↓s240_23, ↓s240_24, ↓s240_27, ↓s240_30, ↓s240_33, iL_100, wc_43, wg_43_21, wg_43_22, wl_60, wl_61, wn_60, wn_61, ws_60, ws_61, mN1_int, mN1_ref, mN1_null, mN1_U, mN1_rf, mCats_nil, mCats_int, mCats_ref, mCats_null, mCats_long, mCats_rf, mIsRef_ref, mIsRef_null, mIsRef_va, mRf_ref, mRf_null, mRf_rf, true_and, and_true, true_or, or_true, eq_self_iff_true, mK_v, mK_0, Nat.reduceAdd, Nat.reduceLeDiff, Nat.zero_le, iL_0, iL_1, iL_m1, iI_add, iI_sub, iI_mul, iI_neg, updI_at, upA_at, upP_at, upR_at, Nat.reduceEqDiff, reduceIte, Int.reduceAdd, Int.reduceSub, Int.reduceMul, Int.reduceDiv, Int.reduceMod, Int.reduceLT, Int.reduceLE, Int.reduceEq, Int.reduceNeg, not_true_eq_false, not_false_eq_true, Decidable.not_not, iI_le, lwA_at]
    rw [if_pos (by omega), txtL, List.append_nil]
  | succ d ih =>
    intro c l h1 h2 h4
    have g := hA 31 (100 * x + c).toNat
    have hc : ¬ (A 30) x.toNat ≤ c := by omega
    rw [s240_2]
    simp (maxSteps := 1000000) (disch := first | omega | (simp only [updI_at, upA_at, Nat.reduceEqDiff, reduceIte]; omega) | exact mIsRef_rf _ | exact rfl) only [↓s240_0, ↓s240_1, ↓s240_3, ↓s240_4, ↓s240_7, ↓s240_8, ↓s240_9, ↓s240_12, ↓s240_13, ↓s240_14, ↓s240_17, ↓s240_19, ↓s240_20, ↓s240_21, ↓s240_22, ↓s240_23, ↓s240_24, ↓s240_27, ↓s240_30, ↓s240_33, iL_100, wc_43, wg_43_21, wg_43_22, wl_60, wl_61, wn_60, wn_61, ws_60, ws_61, mN1_int, mN1_ref, mN1_null, mN1_U, mN1_rf, mCats_nil, mCats_int, mCats_ref, mCats_null, mCats_long, mCats_rf, mIsRef_ref, mIsRef_null, mIsRef_va, mRf_ref, mRf_null, mRf_rf, true_and, and_true, true_or, or_true, eq_self_iff_true, mK_v, mK_0, Nat.reduceAdd, Nat.reduceLeDiff, Nat.zero_le, iL_0, iL_1, iL_m1, iI_add, iI_sub, iI_mul, iI_neg, updI_at, upA_at, upP_at, upR_at, Nat.reduceEqDiff, reduceIte, Int.reduceAdd, Int.reduceSub, Int.reduceMul, Int.reduceDiv, Int.reduceMod, Int.reduceLT, Int.reduceLE, Int.reduceEq, Int.reduceNeg, not_true_eq_false, not_false_eq_true, Decidable.not_not, iI_le, lwA_at, hc, a238]
    rw [ih (c + 1) _ (by omega) (by omega) (by simp only [List.length_append, List.length_cons, List.length_nil]; omega), txtL, List.append_assoc, show (100 * x + (c + 1)).toNat = (100 * x + c).toNat + 1 by omega]
    exact Iff.rfl
theorem a240 {x : Int} {l : List Int} (hb : G.2.2.2 ≤ b) (hA : RgA A) (hx : 0 ≤ x ∧ x < 40) (ht : 0 ≤ (A 30) x.toNat ∧ (A 30) x.toNat ≤ 100) (hq0 : 0 ≤ (I 53)) (hl : (I 53) + l.length + (A 30) x.toNat ≤ 300) : mX G 240 0 [.ref (b + 43), .int (iI x), mU] [] (wH h0 b (lwI I 53 (l)) (lwA I A 53 47 (l)) P R o) n k Q ↔ Q (.inl none, wH h0 b (lwI I 53 (l ++ txtL (A 31) ((A 30) x.toNat).toNat (100 * x).toNat)) (lwA I A 53 47 (l ++ txtL (A 31) ((A 30) x.toNat).toNat (100 * x).toNat)) P R o, n, k) := by
  simp (maxSteps := 1000000) (disch := first | omega | (simp only [updI_at, upA_at, Nat.reduceEqDiff, reduceIte]; omega) | exact mIsRef_rf _ | exact rfl) only [↓s240_0, ↓s240_1, mN1_int, mN1_ref, mN1_null, mN1_U, mN1_rf, mCats_nil, mCats_int, mCats_ref, mCats_null, mCats_long, mCats_rf, mIsRef_ref, mIsRef_null, mIsRef_va, mRf_ref, mRf_null, mRf_rf, true_and, and_true, true_or, or_true, eq_self_iff_true, mK_v, mK_0, Nat.reduceAdd, Nat.reduceLeDiff, Nat.zero_le, iL_0, iL_1, iL_m1, iI_add, iI_sub, iI_mul, iI_neg, updI_at, upA_at, upP_at, upR_at, Nat.reduceEqDiff, reduceIte, Int.reduceAdd, Int.reduceSub, Int.reduceMul, Int.reduceDiv, Int.reduceMod, Int.reduceLT, Int.reduceLE, Int.reduceEq, Int.reduceNeg, not_true_eq_false, not_false_eq_true, Decidable.not_not]
  rw [a240_l hb hA hx ht hq0 ((A 30) x.toNat).toNat 0 l (by omega) (by omega) (by omega), Int.add_zero]
theorem a241_t {x c : Int} (hb : G.2.2.2 ≤ b) (hA : RgA A) (hx : 0 ≤ x ∧ x < 41) (hc : 5 * x ≤ c ∧ c < 5 * x + 5) (ht : 0 ≤ (A 35) c.toNat ∧ (A 35) c.toNat ≤ 20) (hq0 : 0 ≤ (I 53)) : ∀ (d : Nat) (i : Int) (l : List Int), 0 ≤ i → i + d = (A 35) c.toNat → (I 53) + l.length + d ≤ 300 →
    (mX G 241 45 [.ref (b + 43), .int (iI x), .int (iI c), .int (iI i)] [] (wH h0 b (lwI I 53 (l)) (lwA I A 53 47 (l)) P R o) n k Q ↔ mX G 241 4 [.ref (b + 43), .int (iI x), .int (iI (c + 1)), .int (iI ((A 35) c.toNat))] [] (wH h0 b (lwI I 53 (l ++ txtL (A 36) d (20 * c + i).toNat)) (lwA I A 53 47 (l ++ txtL (A 36) d (20 * c + i).toNat)) P R o) n k Q) := by
  intro d
  induction d with
  | zero =>
    intro i l h1 h2 h4
    obtain rfl : i = (A 35) c.toNat := by omega
    rw [s241_45]
    simp (maxSteps := 1000000) (disch := first | omega | (simp only [updI_at, upA_at, Nat.reduceEqDiff, reduceIte]; omega) | exact mIsRef_rf _ | exact rfl) only [↓s241_0, ↓s241_1, ↓s241_2, ↓s241_3, ↓s241_5, ↓s241_6, ↓s241_7, ↓s241_8, ↓s241_9, ↓s241_12, ↓s241_13, ↓s241_14, ↓s241_15, ↓s241_18, ↓s241_19, ↓s241_22, ↓s241_23, ↓s241_24, ↓s241_27, ↓s241_28, ↓s241_29, ↓s241_30, ↓s241_33, ↓s241_34, ↓s241_35, ↓s241_38, ↓s241_39, ↓s241_40, ↓s241_43, ↓s241_44, ↓s241_46, ↓s241_47, ↓s241_50, ↓s241_51, ↓s241_52, ↓s241_55, ↓s241_56, ↓s241_57, ↓s241_60, ↓s241_62, ↓s241_63, ↓s241_64, ↓s241_65, ↓s241_66, ↓s241_67, ↓s241_70, ↓s241_73, ↓s241_76, ↓s241_79, ↓s241_82, iL_143, iL_20, iL_5, wc_43, wg_43_23, wg_43_24, wg_43_26, wg_43_27, wl_62, wl_63, wl_65, wl_66, wn_62, wn_63, wn_65, wn_66, ws_62, ws_63, ws_65, ws_66, mN1_int, mN1_ref, mN1_null, mN1_U, mN1_rf, mCats_nil, mCats_int, mCats_ref, mCats_null, mCats_long, mCats_rf, mIsRef_ref, mIsRef_null, mIsRef_va, mRf_ref, mRf_null, mRf_rf, true_and, and_true, true_or, or_true, eq_self_iff_true, mK_v, mK_0, Nat.reduceAdd, Nat.reduceLeDiff, Nat.zero_le, iL_0, iL_1, iL_m1, iI_add, iI_sub, iI_mul, iI_neg, updI_at, upA_at, upP_at, upR_at, Nat.reduceEqDiff, reduceIte, Int.reduceAdd, Int.reduceSub, Int.reduceMul, Int.reduceDiv, Int.reduceMod, Int.reduceLT, Int.reduceLE, Int.reduceEq, Int.reduceNeg, not_true_eq_false, not_false_eq_true, Decidable.not_not, iI_le, lwA_at, Int.le_refl, txtL, List.append_nil]
  | succ d ih =>
    intro i l h1 h2 h4
    have g := hA 36 (20 * c + i).toNat
    have hi : ¬ (A 35) c.toNat ≤ i := by omega
    rw [s241_45]
    simp (maxSteps := 1000000) (disch := first | omega | (simp only [updI_at, upA_at, Nat.reduceEqDiff, reduceIte]; omega) | exact mIsRef_rf _ | exact rfl) only [↓s241_0, ↓s241_1, ↓s241_2, ↓s241_3, ↓s241_5, ↓s241_6, ↓s241_7, ↓s241_8, ↓s241_9, ↓s241_12, ↓s241_13, ↓s241_14, ↓s241_15, ↓s241_18, ↓s241_19, ↓s241_22, ↓s241_23, ↓s241_24, ↓s241_27, ↓s241_28, ↓s241_29, ↓s241_30, ↓s241_33, ↓s241_34, ↓s241_35, ↓s241_38, ↓s241_39, ↓s241_40, ↓s241_43, ↓s241_44, ↓s241_46, ↓s241_47, ↓s241_50, ↓s241_51, ↓s241_52, ↓s241_55, ↓s241_56, ↓s241_57, ↓s241_60, ↓s241_62, ↓s241_63, ↓s241_64, ↓s241_65, ↓s241_66, ↓s241_67, ↓s241_70, ↓s241_73, ↓s241_76, ↓s241_79, ↓s241_82, iL_143, iL_20, iL_5, wc_43, wg_43_23, wg_43_24, wg_43_26, wg_43_27, wl_62, wl_63, wl_65, wl_66, wn_62, wn_63, wn_65, wn_66, ws_62, ws_63, ws_65, ws_66, mN1_int, mN1_ref, mN1_null, mN1_U, mN1_rf, mCats_nil, mCats_int, mCats_ref, mCats_null, mCats_long, mCats_rf, mIsRef_ref, mIsRef_null, mIsRef_va, mRf_ref, mRf_null, mRf_rf, true_and, and_true, true_or, or_true, eq_self_iff_true, mK_v, mK_0, Nat.reduceAdd, Nat.reduceLeDiff, Nat.zero_le, iL_0, iL_1, iL_m1, iI_add, iI_sub, iI_mul, iI_neg, updI_at, upA_at, upP_at, upR_at, Nat.reduceEqDiff, reduceIte, Int.reduceAdd, Int.reduceSub, Int.reduceMul, Int.reduceDiv, Int.reduceMod, Int.reduceLT, Int.reduceLE, Int.reduceEq, Int.reduceNeg, not_true_eq_false, not_false_eq_true, Decidable.not_not, iI_le, lwA_at, hi, a238]
    rw [ih (i + 1) _ (by omega) (by omega) (by simp only [List.length_append, List.length_cons, List.length_nil]; omega), txtL, List.append_assoc, show (20 * c + (i + 1)).toNat = (20 * c + i).toNat + 1 by omega]
    exact Iff.rfl
theorem a241_l {x : Int} (hb : G.2.2.2 ≤ b) (hA : RgA A) (hx : 0 ≤ x ∧ x < 41) (hn : 0 ≤ (A 32) x.toNat ∧ (A 32) x.toNat ≤ 5) (ht : ∀ c : Nat, 5 * x ≤ c → c < 5 * x + (A 32) x.toNat → 0 ≤ (A 35) c ∧ (A 35) c ≤ 20) (hq0 : 0 ≤ (I 53)) : ∀ (d : Nat) (c : Int) (v : Value) (l : List Int), 5 * x ≤ c → c + d = 5 * x + (A 32) x.toNat → (I 53) + l.length + 23 * d ≤ 290 →
    (mX G 241 4 [.ref (b + 43), .int (iI x), .int (iI c), v] [] (wH h0 b (lwI I 53 (l)) (lwA I A 53 47 (l)) P R o) n k Q ↔ Q (.inl none, wH h0 b (lwI I 53 (l ++ itmL A d c.toNat)) (lwA I A 53 47 (l ++ itmL A d c.toNat)) P R o, n, k)) := by
  intro d
  induction d with
  | zero =>
    intro c v l h1 h2 h4
    rw [s241_4]
    simp (maxSteps := 1000000) (disch := first | omega | (simp only [updI_at, upA_at, lwI_at, Nat.reduceEqDiff, reduceIte, List.length_append, List.length_cons, List.length_nil, txtL_len, Nat.reduceAdd]; omega) | exact mIsRef_rf _ | exact rfl | assumption) only [↓s241_0, ↓s241_1, ↓s241_2, ↓s241_3, ↓s241_5, ↓s241_6, ↓s241_7, ↓s241_8, ↓s241_9, ↓s241_12, ↓s241_13, ↓s241_14, ↓s241_15, ↓s241_18, ↓s241_19, ↓s241_22, ↓s241_23, ↓s241_24, ↓s241_27, ↓s241_28, ↓s241_29, ↓s241_30, ↓s241_33, ↓s241_34, ↓s241_35, ↓s241_38, ↓s241_39, ↓s241_40, ↓s241_43, ↓s241_44, ↓s241_45, ↓s241_46, ↓s241_47, ↓s241_50, ↓s241_51, ↓s241_52, ↓s241_55, ↓s241_56, ↓s241_57, ↓s241_60, ↓s241_62, ↓s241_63, ↓s241_64, ↓s241_65, ↓s241_66, ↓s241_67, ↓s241_70, ↓s241_73, ↓s241_76, ↓s241_79, ↓s241_82, iL_143, iL_20, iL_5, wc_43, wg_43_23, wg_43_24, wg_43_26, wg_43_27, wl_62, wl_63, wl_65, wl_66, wn_62, wn_63, wn_65, wn_66, ws_62, ws_63, ws_65, ws_66, mN1_int, mN1_ref, mN1_null, mN1_U, mN1_rf, mCats_nil, mCats_int, mCats_ref, mCats_null, mCats_long, mCats_rf, mIsRef_ref, mIsRef_null, mIsRef_va, mRf_ref, mRf_null, mRf_rf, true_and, and_true, true_or, or_true, eq_self_iff_true, mK_v, mK_0, Nat.reduceAdd, Nat.reduceLeDiff, Nat.zero_le, iL_0, iL_1, iL_m1, iI_add, iI_sub, iI_mul, iI_neg, updI_at, upA_at, upP_at, upR_at, Nat.reduceEqDiff, reduceIte, Int.reduceAdd, Int.reduceSub, Int.reduceMul, Int.reduceDiv, Int.reduceMod, Int.reduceLT, Int.reduceLE, Int.reduceEq, Int.reduceNeg, not_true_eq_false, not_false_eq_true, Decidable.not_not, iI_le, lwA_at]
    rw [if_pos (by omega), itmL, List.append_nil]
  | succ d ih =>
    intro c v l h1 h2 h4
    have g := hA 33 c.toNat
    have hi : ¬ 5 * x + (A 32) x.toNat ≤ c := by omega
    have t := ht c.toNat (by omega) (by omega)
    have e2 := tagL_2 (t := 143) (n := 1 + (A 35) c.toNat) (by omega)
    rw [s241_4]
    simp (maxSteps := 1000000) (disch := first | omega | (simp only [updI_at, upA_at, lwI_at, Nat.reduceEqDiff, reduceIte, List.length_append, List.length_cons, List.length_nil, txtL_len, Nat.reduceAdd]; omega) | exact mIsRef_rf _ | exact rfl | assumption) only [↓s241_0, ↓s241_1, ↓s241_2, ↓s241_3, ↓s241_5, ↓s241_6, ↓s241_7, ↓s241_8, ↓s241_9, ↓s241_12, ↓s241_13, ↓s241_14, ↓s241_15, ↓s241_18, ↓s241_19, ↓s241_22, ↓s241_23, ↓s241_24, ↓s241_27, ↓s241_28, ↓s241_29, ↓s241_30, ↓s241_33, ↓s241_34, ↓s241_35, ↓s241_38, ↓s241_39, ↓s241_40, ↓s241_43, ↓s241_44, ↓s241_46, ↓s241_47, ↓s241_50, ↓s241_51, ↓s241_52, ↓s241_55, ↓s241_56, ↓s241_57, ↓s241_60, ↓s241_62, ↓s241_63, ↓s241_64, ↓s241_65, ↓s241_66, ↓s241_67, ↓s241_70, ↓s241_73, ↓s241_76, ↓s241_79, ↓s241_82, iL_143, iL_20, iL_5, wc_43, wg_43_23, wg_43_24, wg_43_26, wg_43_27, wl_62, wl_63, wl_65, wl_66, wn_62, wn_63, wn_65, wn_66, ws_62, ws_63, ws_65, ws_66, mN1_int, mN1_ref, mN1_null, mN1_U, mN1_rf, mCats_nil, mCats_int, mCats_ref, mCats_null, mCats_long, mCats_rf, mIsRef_ref, mIsRef_null, mIsRef_va, mRf_ref, mRf_null, mRf_rf, true_and, and_true, true_or, or_true, eq_self_iff_true, mK_v, mK_0, Nat.reduceAdd, Nat.reduceLeDiff, Nat.zero_le, iL_0, iL_1, iL_m1, iI_add, iI_sub, iI_mul, iI_neg, updI_at, upA_at, upP_at, upR_at, Nat.reduceEqDiff, reduceIte, Int.reduceAdd, Int.reduceSub, Int.reduceMul, Int.reduceDiv, Int.reduceMod, Int.reduceLT, Int.reduceLE, Int.reduceEq, Int.reduceNeg, not_true_eq_false, not_false_eq_true, Decidable.not_not, iI_le, lwA_at, hi, a238, a239, e2, List.length_append, List.length_cons, List.length_nil]
    rw [a241_t hb hA hx (by omega) t hq0 ((A 35) c.toNat).toNat 0 _ (by omega) (by omega) (by simp only [List.length_append, List.length_cons, List.length_nil]; omega)]
    rw [ih (c + 1) _ _ (by omega) (by omega) (by simp only [List.length_append, List.length_cons, List.length_nil, txtL_len]; omega), itmL, e2, Int.add_zero, show (c + 1).toNat = c.toNat + 1 by omega, show (20 * c).toNat = 20 * c.toNat by omega]
    simp only [List.append_assoc, Int.reduceMod]
theorem a241 {x : Int} {l : List Int} (hb : G.2.2.2 ≤ b) (hA : RgA A) (hx : 0 ≤ x ∧ x < 41) (hn : 0 ≤ (A 32) x.toNat ∧ (A 32) x.toNat ≤ 5) (ht : ∀ c : Nat, 5 * x ≤ c → c < 5 * x + (A 32) x.toNat → 0 ≤ (A 35) c ∧ (A 35) c ≤ 20) (hq0 : 0 ≤ (I 53)) (hl : (I 53) + l.length + 115 ≤ 290) :
    mX G 241 0 [.ref (b + 43), .int (iI x), mU, mU] [] (wH h0 b (lwI I 53 (l)) (lwA I A 53 47 (l)) P R o) n k Q ↔ Q (.inl none, wH h0 b (lwI I 53 (l ++ itmL A ((A 32) x.toNat).toNat (5 * x).toNat)) (lwA I A 53 47 (l ++ itmL A ((A 32) x.toNat).toNat (5 * x).toNat)) P R o, n, k) := by
  simp (maxSteps := 1000000) (disch := first | omega | (simp only [updI_at, upA_at, lwI_at, Nat.reduceEqDiff, reduceIte, List.length_append, List.length_cons, List.length_nil, txtL_len, Nat.reduceAdd]; omega) | exact mIsRef_rf _ | exact rfl | assumption) only [↓s241_0, ↓s241_1, ↓s241_2, ↓s241_3, iL_5, mN1_int, mN1_ref, mN1_null, mN1_U, mN1_rf, mCats_nil, mCats_int, mCats_ref, mCats_null, mCats_long, mCats_rf, mIsRef_ref, mIsRef_null, mIsRef_va, mRf_ref, mRf_null, mRf_rf, true_and, and_true, true_or, or_true, eq_self_iff_true, mK_v, mK_0, Nat.reduceAdd, Nat.reduceLeDiff, Nat.zero_le, iL_0, iL_1, iL_m1, iI_add, iI_sub, iI_mul, iI_neg, updI_at, upA_at, upP_at, upR_at, Nat.reduceEqDiff, reduceIte, Int.reduceAdd, Int.reduceSub, Int.reduceMul, Int.reduceDiv, Int.reduceMod, Int.reduceLT, Int.reduceLE, Int.reduceEq, Int.reduceNeg, not_true_eq_false, not_false_eq_true, Decidable.not_not]
  rw [a241_l hb hA hx hn ht hq0 ((A 32) x.toNat).toNat (5 * x) _ l (by omega) (by omega) (by omega)]
end MLISTS
