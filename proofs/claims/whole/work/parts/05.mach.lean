/-! THE PURE MACHINE: the bytecode of class, law and reference, run over cells that are mathematical values. Part 06 proves that the machine of the Statement does what this one does. -/
/-- a cell: ints (0), booleans (1), ints that are only read (2), an array of which the length alone is known (3); longs; references; an object: its class's number in vwCl, its fields -/
abbrev mE : Type := (Nat × Nat × (Nat → Int32)) ⊕ ((Nat × (Nat → Int64)) ⊕ ((Nat × Nat × (Nat → Option Nat)) ⊕ (Nat × List Value)))
abbrev mI (n : Nat) (g : Nat → Int32) : mE := .inl (0, n, g)
abbrev mZ (n : Nat) (g : Nat → Int32) : mE := .inl (1, n, g)
abbrev mJ (n : Nat) (g : Nat → Int64) : mE := .inr (.inl (n, g))
abbrev mA (t n : Nat) (g : Nat → Option Nat) : mE := .inr (.inr (.inl (t, n, g)))
abbrev mO (ci : Nat) (fs : List Value) : mE := .inr (.inr (.inr (ci, fs)))
abbrev mH : Type := Nat → Option mE
def mUp (h : mH) (a : Nat) (e : mE) : mH := fun b => if b = a then some e else h b
/-- an unset local -/
abbrev mU : Value := .retAddr 0
/-- class ids and slots; ids of the classes of reference arrays; addresses of things that are there at the start; the start of the law's own cells -/
abbrev mG : Type := va_G × (Nat → ClassId) × (Nat → Nat) × Nat
abbrev mN : Type := (Nat × List Value × List Value × mH × Nat × Nat) ⊕ ((Nat × List Value × List Value) ⊕ (Option Value ⊕ Nat))
/-- a method's end: what it returns, or the number of the class that it throws; heap, its size, slots made -/
abbrev mR : Type := (Option Value ⊕ Nat) × mH × Nat × Nat
def mNx (pc : Nat) (L st : List Value) (h : mH) (n k : Nat) : Option mN := some (.inl (pc, L, st, h, n, k))
def mJp (pc : Nat) (off : Int) (L st : List Value) (h : mH) (n k : Nat) : Option mN := if 0 ≤ (pc : Int) + off then some (.inl (((pc : Int) + off).toNat, L, st, h, n, k)) else none
def mC1 (o : Option Value) : Bool := match o with
  | some w => decide (w.category = 1)
  | none => true
def mBr (pc : Nat) (off : Int) (b : Bool) (L st : List Value) (h : mH) (n k : Nat) : Option mN :=
  if 0 ≤ (pc : Int) + off then (if b = true then some (.inl (((pc : Int) + off).toNat, L, st, h, n, k)) else some (.inl (pc + 3, L, st, h, n, k))) else none
def mACond (op : Jvm.ClassFile.ACond) (x y : Option Nat) : Bool := match op with
  | .eq => decide (x = y)
  | .ne => decide (¬ x = y)
/-- storing into a local: a long's second half isn't trodden upon -/
def mSt1 (L : List Value) (i : Nat) (v : Value) : Option (List Value) :=
  if i < L.length ∧ v.category = 1 ∧ (i = 0 ∨ mC1 L[i - 1]? = true) then some (L.set i v) else none
def mSt2 (L : List Value) (i : Nat) (v : Value) : Option (List Value) :=
  if i + 1 < L.length ∧ v.category = 2 ∧ (i = 0 ∨ mC1 L[i - 1]? = true) ∧ mC1 L[i + 1]? = true then some ((L.set i v).set (i + 1) mU) else none
def mLd (L : List Value) (i : Nat) : Option Value := match L[i]? with
  | some (.int x) => some (.int x)
  | some (.long x) => some (.long x)
  | some (.ref x) => some (.ref x)
  | some .null => some .null
  | _ => none
def mIsRef (v : Value) : Bool := match v with
  | .ref _ => true
  | .null => true
  | _ => false
def mRf (v : Value) : Option Nat := match v with
  | .ref a => some a
  | _ => none
def mCats (st : List Value) : Nat := (st.map fun v => v.category).sum
def mCond (op : Jvm.ClassFile.Cond) (x y : Int32) : Bool := match op with
  | .eq => decide (x = y)
  | .ne => decide (¬ x = y)
  | .lt => decide (x < y)
  | .ge => decide (y ≤ x)
  | .gt => decide (y < x)
  | .le => decide (x ≤ y)
def mSpread : List Value → List Value
  | [] => []
  | v :: t => if v.category = 2 then v :: mU :: mSpread t else v :: mSpread t
def mEnt (nL : Nat) (vs : List Value) : List Value := mSpread vs ++ List.replicate (nL - (mSpread vs).length) mU
/-- frames and words of locals that the calls of a method need, by program -/
def mNeed (mi : Nat) : Nat × Nat := mNeedT.getD mi (0, 0)
def mRoom (mi mj : Nat) : Bool := match mTab[mj]? with
  | some M => decide ((mNeed mj).1 + 1 ≤ (mNeed mi).1 ∧ 8 + (M.2.2.1 + 11) + (mNeed mj).2 ≤ (mNeed mi).2)
  | none => false
def mRoomN (mi : Nat) : Bool := decide (1 ≤ (mNeed mi).1 ∧ 68 ≤ (mNeed mi).2)
def mRoomX (mi : Nat) : Bool := decide (7 ≤ (mNeed mi).1 ∧ 103 ≤ (mNeed mi).2)
def mFitL (mj : Nat) (vs : List Value) : Bool := match mTab[mj]? with
  | some M => decide ((mSpread vs).length ≤ M.2.2.1)
  | none => false
/-- null, or an object of a known class -/
def mObj (h : mH) (o : Option Nat) : Bool := match o with
  | none => true
  | some y => match h y with
    | some (.inr (.inr (.inr _))) => true
    | _ => false
def mIns (i : Instr) (len : Nat) (G : mG) (M : mM) (mi pc : Nat) (L st : List Value) (h : mH) (n k : Nat) : Option mN :=
  match i with
  | .iconst c => mNx (pc + len) L (.int (Int32.ofInt c) :: st) h n k
  | .bipush c => mNx (pc + len) L (.int (Int8.ofInt c).toInt32 :: st) h n k
  | .sipush c => mNx (pc + len) L (.int (Int16.ofInt c).toInt32 :: st) h n k
  | .lconst c => mNx (pc + len) L (.long (Int64.ofNat c.val) :: st) h n k
  | .aconst_null => mNx (pc + len) L (.null :: st) h n k
  | .ldc x => match kT M.2.2.2.2.1 x with
    | some v => mNx (pc + len) L (.int v :: st) h n k
    | none => if M.2.2.2.2.1 = mcArrays ∧ x = mirIx then mNx (pc + len) L (.ref (G.2.2.1 7) :: st) h n k else none
  | .ldc_w x => match kT M.2.2.2.2.1 x with
    | some v => mNx (pc + len) L (.int v :: st) h n k
    | none => none
  | .ldc2_w x => match jT M.2.2.2.2.1 x with
    | some v => mNx (pc + len) L (.long v :: st) h n k
    | none => none
  | .iload x => match L[x]? with
    | some (.int v) => mNx (pc + len) L (.int v :: st) h n k
    | _ => none
  | .iload_n x => match L[x.val]? with
    | some (.int v) => mNx (pc + len) L (.int v :: st) h n k
    | _ => none
  | .lload x => match L[x]? with
    | some (.long v) => mNx (pc + len) L (.long v :: st) h n k
    | _ => none
  | .lload_n x => match L[x.val]? with
    | some (.long v) => mNx (pc + len) L (.long v :: st) h n k
    | _ => none
  | .aload x => match L[x]? with
    | some (.ref v) => mNx (pc + len) L (.ref v :: st) h n k
    | some .null => mNx (pc + len) L (.null :: st) h n k
    | _ => none
  | .aload_n x => match L[x.val]? with
    | some (.ref v) => mNx (pc + len) L (.ref v :: st) h n k
    | some .null => mNx (pc + len) L (.null :: st) h n k
    | _ => none
  | .istore x => match st with
    | .int v :: r => (mSt1 L x (.int v)).bind (fun L' => mNx (pc + len) L' r h n k)
    | _ => none
  | .istore_n x => match st with
    | .int v :: r => (mSt1 L x.val (.int v)).bind (fun L' => mNx (pc + len) L' r h n k)
    | _ => none
  | .astore x => match st with
    | .ref v :: r => (mSt1 L x (.ref v)).bind (fun L' => mNx (pc + len) L' r h n k)
    | .null :: r => (mSt1 L x .null).bind (fun L' => mNx (pc + len) L' r h n k)
    | _ => none
  | .astore_n x => match st with
    | .ref v :: r => (mSt1 L x.val (.ref v)).bind (fun L' => mNx (pc + len) L' r h n k)
    | .null :: r => (mSt1 L x.val .null).bind (fun L' => mNx (pc + len) L' r h n k)
    | _ => none
  | .lstore x => match st with
    | .long v :: r => (mSt2 L x (.long v)).bind (fun L' => mNx (pc + len) L' r h n k)
    | _ => none
  | .iinc x c => match L[x]? with
    | some (.int v) => (mSt1 L x (.int (v + Int32.ofInt c))).bind (fun L' => mNx (pc + len) L' st h n k)
    | _ => none
  | .dup => match st with
    | v :: r => if v.category = 1 then mNx (pc + len) L (v :: v :: r) h n k else none
    | _ => none
  | .dup2 => match st with
    | v :: w :: r => if v.category = 1 ∧ w.category = 1 then mNx (pc + len) L (v :: w :: v :: w :: r) h n k else none
    | _ => none
  | .dup_x1 => match st with
    | v :: w :: r => if v.category = 1 ∧ w.category = 1 then mNx (pc + len) L (v :: w :: v :: r) h n k else none
    | _ => none
  | .pop => match st with
    | v :: r => if v.category = 1 then mNx (pc + len) L r h n k else none
    | _ => none
  | .iadd => match st with
    | .int y :: .int x :: r => mNx (pc + len) L (.int (x + y) :: r) h n k
    | _ => none
  | .isub => match st with
    | .int y :: .int x :: r => mNx (pc + len) L (.int (x - y) :: r) h n k
    | _ => none
  | .imul => match st with
    | .int y :: .int x :: r => mNx (pc + len) L (.int (x * y) :: r) h n k
    | _ => none
  | .iand => match st with
    | .int y :: .int x :: r => mNx (pc + len) L (.int (x &&& y) :: r) h n k
    | _ => none
  | .ior => match st with
    | .int y :: .int x :: r => mNx (pc + len) L (.int (x ||| y) :: r) h n k
    | _ => none
  | .ishl => match st with
    | .int y :: .int x :: r => mNx (pc + len) L (.int (x <<< (y &&& 31)) :: r) h n k
    | _ => none
  | .ishr => match st with
    | .int y :: .int x :: r => mNx (pc + len) L (.int (x >>> (y &&& 31)) :: r) h n k
    | _ => none
  | .idiv => match st with
    | .int y :: .int x :: r => if y = 0 then none else mNx (pc + len) L (.int (x / y) :: r) h n k
    | _ => none
  | .irem => match st with
    | .int y :: .int x :: r => if y = 0 then none else mNx (pc + len) L (.int (x - x / y * y) :: r) h n k
    | _ => none
  | .ladd => match st with
    | .long y :: .long x :: r => mNx (pc + len) L (.long (x + y) :: r) h n k
    | _ => none
  | .land => match st with
    | .long y :: .long x :: r => mNx (pc + len) L (.long (x &&& y) :: r) h n k
    | _ => none
  | .lor => match st with
    | .long y :: .long x :: r => mNx (pc + len) L (.long (x ||| y) :: r) h n k
    | _ => none
  | .lshl => match st with
    | .int y :: .long x :: r => mNx (pc + len) L (.long (x <<< (y.toInt64 &&& 63)) :: r) h n k
    | _ => none
  | .lshr => match st with
    | .int y :: .long x :: r => mNx (pc + len) L (.long (x >>> (y.toInt64 &&& 63)) :: r) h n k
    | _ => none
  | .i2l => match st with
    | .int x :: r => mNx (pc + len) L (.long x.toInt64 :: r) h n k
    | _ => none
  | .lcmp => match st with
    | .long y :: .long x :: r => mNx (pc + len) L (.int (lg_cmp x y) :: r) h n k
    | _ => none
  | .if_icmp op off => match st with
    | .int y :: .int x :: r => mBr pc off (mCond op x y) L r h n k
    | _ => none
  | .ifCond op off => match st with
    | .int x :: r => mBr pc off (mCond op x 0) L r h n k
    | _ => none
  | .if_acmp op off => match st with
    | w :: v :: r => if mIsRef w = true ∧ mIsRef v = true then mBr pc off (mACond op (mRf v) (mRf w)) L r h n k else none
    | _ => none
  | .ifnull off => match st with
    | .null :: r => mJp pc off L r h n k
    | .ref _ :: r => mNx (pc + 3) L r h n k
    | _ => none
  | .ifnonnull off => match st with
    | .null :: r => mNx (pc + 3) L r h n k
    | .ref _ :: r => mJp pc off L r h n k
    | _ => none
  | .goto off => mJp pc off L st h n k
  | .tableswitch d lo hi offs => match st with
    | .int x :: r => if x.toInt < lo ∨ hi < x.toInt then mJp pc d L r h n k else (match offs[(x.toInt - lo).toNat]? with
      | some off => mJp pc off L r h n k
      | none => none)
    | _ => none
  | .lookupswitch d ps => match st with
    | .int x :: r => if (ps.toList.zip (ps.toList.drop 1)).all (fun (a, next) => a.1 < next.1) = true then mJp pc (Op.lookupswitch.offset ps.toList d x.toInt) L r h n k else none
    | _ => none
  | .getfield x => match fT M.2.2.2.2.1 x, st with
    | some (ci, j), .ref a :: r => (match h a with
      | some (.inr (.inr (.inr (ci', fs)))) => if ci' = ci then (match fs[j]? with
        | some v => mNx (pc + len) L (v :: r) h n k
        | none => none) else none
      | _ => none)
    | _, _ => none
  | .putfield x => match fT M.2.2.2.2.1 x, st with
    | some (ci, j), v :: .ref a :: r => (match h a with
      | some (.inr (.inr (.inr (ci', fs)))) => if ci' = ci ∧ j < fs.length ∧ G.2.2.2 ≤ a ∧ mFits ci j v = true ∧ mPutOk M ci j = true then mNx (pc + len) L r (mUp h a (mO ci (fs.set j v))) n k else none
      | _ => none)
    | _, _ => none
  | .getstatic x => match sT M.2.2.2.2.1 x with
    | some j => mNx (pc + len) L (.ref (G.2.2.1 j) :: st) h n k
    | none => none
  | .arraylength => match st with
    | .ref a :: r => (match h a with
      | some (.inl (_, N, _)) => mNx (pc + len) L (.int (Int32.ofNat N) :: r) h n k
      | some (.inr (.inl (N, _))) => mNx (pc + len) L (.int (Int32.ofNat N) :: r) h n k
      | some (.inr (.inr (.inl (t, N, _)))) => if t = 3 ∨ t = 4 then mNx (pc + len) L (.int (Int32.ofNat N) :: r) h n k else none
      | _ => none)
    | _ => none
  | .iaload => match st with
    | .int i :: .ref a :: r => (match h a with
      | some (.inl (t, N, g)) => if (t = 0 ∨ t = 2) ∧ ¬ i < 0 ∧ i.toNatClampNeg < N then mNx (pc + len) L (.int (g i.toNatClampNeg) :: r) h n k else none
      | _ => none)
    | _ => none
  | .baload => match st with
    | .int i :: .ref a :: r => (match h a with
      | some (.inl (t, N, g)) => if t = 1 ∧ ¬ i < 0 ∧ i.toNatClampNeg < N then mNx (pc + len) L (.int (g i.toNatClampNeg) :: r) h n k else none
      | _ => none)
    | _ => none
  | .laload => match st with
    | .int i :: .ref a :: r => (match h a with
      | some (.inr (.inl (N, g))) => if ¬ i < 0 ∧ i.toNatClampNeg < N then mNx (pc + len) L (.long (g i.toNatClampNeg) :: r) h n k else none
      | _ => none)
    | _ => none
  | .aaload => match st with
    | .int i :: .ref a :: r => (match h a with
      | some (.inr (.inr (.inl (t, N, g)))) => if (t = 3 ∨ t = 4) ∧ ¬ i < 0 ∧ i.toNatClampNeg < N then mNx (pc + len) L (va_rf (g i.toNatClampNeg) :: r) h n k else none
      | _ => none)
    | _ => none
  | .iastore => match st with
    | .int x :: .int i :: .ref a :: r => (match h a with
      | some (.inl (t, N, g)) => if t = 0 ∧ G.2.2.2 ≤ a ∧ ¬ i < 0 ∧ i.toNatClampNeg < N then mNx (pc + len) L r (mUp h a (mI N (upd g i.toNatClampNeg x))) n k else none
      | _ => none)
    | _ => none
  | .bastore => match st with
    | .int x :: .int i :: .ref a :: r => (match h a with
      | some (.inl (t, N, g)) => if t = 1 ∧ G.2.2.2 ≤ a ∧ ¬ i < 0 ∧ i.toNatClampNeg < N ∧ (x = 0 ∨ x = 1) then mNx (pc + len) L r (mUp h a (mZ N (upd g i.toNatClampNeg x))) n k else none
      | _ => none)
    | _ => none
  | .lastore => match st with
    | .long x :: .int i :: .ref a :: r => (match h a with
      | some (.inr (.inl (N, g))) => if G.2.2.2 ≤ a ∧ ¬ i < 0 ∧ i.toNatClampNeg < N then mNx (pc + len) L r (mUp h a (mJ N (vp_updL g i.toNatClampNeg x))) n k else none
      | _ => none)
    | _ => none
  | .aastore => match st with
    | .ref y :: .int i :: .ref a :: r => (match h a, h y with
      | some (.inr (.inr (.inl (t, N, g)))), some (.inr (.inr (.inr (ci, _)))) => if ((t = 3 ∧ ci = 7) ∨ t = 4) ∧ G.2.2.2 ≤ a ∧ ¬ i < 0 ∧ i.toNatClampNeg < N then mNx (pc + len) L r (mUp h a (mA t N (va_up g i.toNatClampNeg (some y)))) n k else none
      | _, _ => none)
    | _ => none
  | .newarray ty => match st with
    | .int N :: r => if ¬ N < 0 ∧ N.toNatClampNeg ≤ 10000 then (match ty with
      | .int => mNx (pc + len) L (.ref n :: r) (mUp h n (mI N.toNatClampNeg (fun _ => 0))) (n + 1) (k + N.toNatClampNeg)
      | .boolean => mNx (pc + len) L (.ref n :: r) (mUp h n (mZ N.toNatClampNeg (fun _ => 0))) (n + 1) (k + N.toNatClampNeg)
      | .long => mNx (pc + len) L (.ref n :: r) (mUp h n (mJ N.toNatClampNeg (fun _ => 0))) (n + 1) (k + N.toNatClampNeg)
      | _ => none) else none
    | _ => none
  | .anewarray x => match aT M.2.2.2.2.1 x, st with
    | some t, .int N :: r => if ¬ N < 0 ∧ N.toNatClampNeg ≤ 10000 then mNx (pc + len) L (.ref n :: r) (mUp h n (mA t N.toNatClampNeg (fun _ => none))) (n + 1) (k + N.toNatClampNeg) else none
    | _, _ => none
  | .new x => match cT M.2.2.2.2.1 x with
    | some ci => mNx (pc + len) L (.ref n :: st) (mUp h n (mO ci (mDef ci))) (n + 1) (k + (mDef ci).length)
    | none => (match xT mi pc with
      | some e => if mCats st ≤ 8 ∧ mRoomX mi = true then some (.inr (.inr (.inr e))) else none
      | none => none)
  | .checkcast x => match cT M.2.2.2.2.1 x, st with
    | some ci, .ref a :: r => (match h a with
      | some (.inr (.inr (.inr (ci', _)))) => if ci' = ci then mNx (pc + len) L (.ref a :: r) h n k else none
      | _ => none)
    | some _, .null :: r => mNx (pc + len) L (.null :: r) h n k
    | _, _ => none
  | .invokevirtual x => match mT M.2.2.2.2.1 x with
    | some mj => if mj = 1001 then (match st with
        | .ref a :: r => (match h a with
          | some (.inr (.inr (.inl (t, _, _)))) => if t = 4 ∧ mCats r ≤ 8 ∧ mRoomN mi = true then mNx (pc + len) L (.ref (G.2.2.1 7) :: r) h n k else none
          | _ => none)
        | _ => none)
      else (if mCats (st.drop (mAr mj)) ≤ 8 ∧ mRoom mi mj = true then (match (st.take (mAr mj)).reverse with
        | .ref a :: vs => (match h a with
          | some (.inr (.inr (.inr (ci, _)))) => if ci = mRc mj ∧ (.ref a :: vs).length = mAr mj ∧ mFitL mj (.ref a :: vs) = true then some (.inr (.inl (mj, .ref a :: vs, st.drop (mAr mj)))) else none
          | _ => none)
        | _ => none) else none)
    | none => none
  | .invokespecial x => match mT M.2.2.2.2.1 x with
    | some mj => if mj = 1002 then (match st with
        | .ref _ :: r => if mCats r ≤ 8 ∧ mRoomN mi = true then mNx (pc + len) L r h n k else none
        | _ => none)
      else (if mCats (st.drop (mAr mj)) ≤ 8 ∧ mRc mj = 98 ∧ mRoom mi mj = true then (match (st.take (mAr mj)).reverse with
        | .ref a :: vs => if (.ref a :: vs).length = mAr mj ∧ mFitL mj (.ref a :: vs) = true then some (.inr (.inl (mj, .ref a :: vs, st.drop (mAr mj)))) else none
        | _ => none) else none)
    | none => none
  | .invokestatic x => match mT M.2.2.2.2.1 x with
    | some mj => if mj = 1000 then (match st with
        | .int N :: .int dp :: .ref a :: .int sp :: .ref a0 :: r => if ¬ sp < 0 ∧ ¬ dp < 0 ∧ ¬ N < 0 ∧ G.2.2.2 ≤ a ∧ mCats r ≤ 8 ∧ mRoomN mi = true then (match h a0, h a with
          | some (.inl (t0, n0, f)), some (.inl (t1, n1, g)) => if t0 = 0 ∧ t1 = 0 ∧ sp.toNatClampNeg + N.toNatClampNeg ≤ n0 ∧ dp.toNatClampNeg + N.toNatClampNeg ≤ n1 then
              mNx (pc + len) L r (mUp h a (mI n1 (va_cpy f g sp.toNatClampNeg dp.toNatClampNeg N.toNatClampNeg))) n k else none
          | some (.inr (.inr (.inl (t0, n0, f)))), some (.inr (.inr (.inl (t1, n1, g)))) => if t0 = 4 ∧ t1 = 4 ∧ sp.toNatClampNeg + N.toNatClampNeg ≤ n0 ∧ dp.toNatClampNeg + N.toNatClampNeg ≤ n1 ∧ (List.range N.toNatClampNeg).all (fun i => mObj h (f (sp.toNatClampNeg + i))) = true then
              mNx (pc + len) L r (mUp h a (mA 4 n1 (va_cpy f g sp.toNatClampNeg dp.toNatClampNeg N.toNatClampNeg))) n k else none
          | _, _ => none) else none
        | _ => none)
      else if mj = 1003 then (match st with
        | .int y :: .int x :: r => if mCats r ≤ 8 ∧ mRoomN mi = true then mNx (pc + len) L (.int (if x < y then y else x) :: r) h n k else none
        | _ => none)
      else if mj = 1004 then (match st with
        | .int y :: .int x :: r => if mCats r ≤ 8 ∧ mRoomN mi = true then mNx (pc + len) L (.int (if y < x then y else x) :: r) h n k else none
        | _ => none)
      else (if mCats (st.drop (mAr mj)) ≤ 8 ∧ mRc mj = 99 ∧ mRoom mi mj = true ∧ ((st.take (mAr mj)).reverse).length = mAr mj ∧ mFitL mj (st.take (mAr mj)).reverse = true then some (.inr (.inl (mj, (st.take (mAr mj)).reverse, st.drop (mAr mj)))) else none)
    | none => none
  | .return_ => if M.2.2.2.1 = none ∧ st = [] then some (.inr (.inr (.inl none))) else none
  | .ireturn => match M.2.2.2.1, st with
    | some .int, [.int v] => some (.inr (.inr (.inl (some (.int v)))))
    | some .boolean, [.int v] => if v = 0 ∨ v = 1 then some (.inr (.inr (.inl (some (.int v))))) else none
    | _, _ => none
  | .lreturn => match M.2.2.2.1, st with
    | some .long, [.long v] => some (.inr (.inr (.inl (some (.long v)))))
    | _, _ => none
  | .areturn => match M.2.2.2.1, st with
    | some (.object _), [.ref v] => some (.inr (.inr (.inl (some (.ref v)))))
    | some (.array _), [.ref v] => some (.inr (.inr (.inl (some (.ref v)))))
    | some (.object _), [.null] => some (.inr (.inr (.inl (some .null))))
    | some (.array _), [.null] => some (.inr (.inr (.inl (some .null))))
    | _, _ => none
  | _ => none
/-- an instruction's length -/
def mIL (i : Instr) (len : Nat) : Bool := match i with
  | .bipush _ => decide (len = 2)
  | .ldc _ => decide (len = 2)
  | .iload _ => decide (len = 2)
  | .lload _ => decide (len = 2)
  | .aload _ => decide (len = 2)
  | .istore _ => decide (len = 2)
  | .lstore _ => decide (len = 2)
  | .astore _ => decide (len = 2)
  | .newarray _ => decide (len = 2)
  | .sipush _ => decide (len = 3)
  | .ldc_w _ => decide (len = 3)
  | .ldc2_w _ => decide (len = 3)
  | .iinc _ _ => decide (len = 3)
  | .if_icmp _ _ => decide (len = 3)
  | .ifCond _ _ => decide (len = 3)
  | .if_acmp _ _ => decide (len = 3)
  | .ifnull _ => decide (len = 3)
  | .ifnonnull _ => decide (len = 3)
  | .goto _ => decide (len = 3)
  | .getfield _ => decide (len = 3)
  | .putfield _ => decide (len = 3)
  | .getstatic _ => decide (len = 3)
  | .anewarray _ => decide (len = 3)
  | .new _ => decide (len = 3)
  | .checkcast _ => decide (len = 3)
  | .invokevirtual _ => decide (len = 3)
  | .invokespecial _ => decide (len = 3)
  | .invokestatic _ => decide (len = 3)
  | .tableswitch _ _ _ _ => true
  | .lookupswitch _ _ => true
  | _ => decide (len = 1)
def mStep (G : mG) (mi pc : Nat) (L st : List Value) (h : mH) (n k : Nat) : Option mN :=
  match mTab[mi]? with
  | none => none
  | some M => match decode M.2.1 pc with
    | .ok (i, len) => if mIL i len = true then mIns i len G M mi pc L st h n k else none
    | .error _ => none
def mRun (G : mG) : Nat → Nat → Nat → List Value → List Value → mH → Nat → Nat → Option mR
  | 0, _, _, _, _, _, _, _ => none
  | f + 1, mi, pc, L, st, h, n, k => match mStep G mi pc L st h n k with
    | none => none
    | some (.inl (pc', L', st', h', n', k')) => mRun G f mi pc' L' st' h' n' k'
    | some (.inr (.inl (mj, vs, r))) => match mTab[mj]? with
      | none => none
      | some M => match mRun G f mj 0 (mEnt M.2.2.1 vs) [] h n k with
        | none => none
        | some (.inl v, h', n', k') => mRun G f mi (pc + 3) L (v.toList ++ r) h' n' k'
        | some (.inr e, h', n', k') => match mCat mi pc e with
          | some (hpc, x) => match mSt1 L x .null with
            | some L' => mRun G f mi hpc (L'.set x mU) [] h' n' k'
            | none => none
          | none => none
    | some (.inr (.inr (.inl v))) => some (.inl v, h, n, k)
    | some (.inr (.inr (.inr e))) => some (.inr e, h, n + 1, k + 6)
