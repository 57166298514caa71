/-! The theorem: a run of the pure machine that comes to an end is a run of the Statement's machine to that end. -/
/-- instructions that end a method, throw, or call -/
def mEndI (i : Instr) : Bool := match i with
  | .return_ => true
  | .ireturn => true
  | .lreturn => true
  | .areturn => true
  | .new _ => true
  | .invokevirtual _ => true
  | .invokespecial _ => true
  | .invokestatic _ => true
  | _ => false
set_option maxHeartbeats 4000000 in
theorem mIns_end {i : Instr} {len : Nat} {G : mG} {M : mM} {mi pc : Nat} {L st : List Value} {h : mH} {n k : Nat} {z : (Nat × List Value × List Value) ⊕ (Option Value ⊕ Nat)} (E : mIns i len G M mi pc L st h n k = some (.inr z)) : mEndI i = true := by
  cases i <;> first
    | rfl
    | (exfalso; revert E; dsimp only [mIns, mNx, mJp, mBr]; (repeat' split) <;> (intro E; first | cases E | (obtain ⟨_, _, e2⟩ := Option.bind_eq_some_iff.mp E; cases e2)))
section MFI
variable {G : mG} {p : Program} {l : Launch} {e : Env} {R : Room} {s : State} {m : MethodId} {args : Array Value} {below : List Frame} {meth : Method} {c : Code} {n0 k0 : Nat} {Q : State → Prop} {M : mM} {mi pc len : Nat} {L st : List Value} {h : mH} {n k : Nat} {pc' : Nat} {L' st' : List Value} {h' : mH} {n' k' : Nat}
set_option maxHeartbeats 4000000 in
theorem ms_all {i : Instr} (hM : mTab[mi]? = some M) (C : mCx G l M mi p R s m meth c) (hd : decode M.2.1 pc = .ok (i, len)) (hlen : mIL i len = true) (E : mIns i len G M mi pc L st h n k = some (.inl (pc', L', st', h', n', k'))) (hn0 : n0 ≤ n) (hk0 : k0 ≤ k) (hcells : n' - n0 ≤ R.cells) (hslots : k' - k0 ≤ R.slots)
    (K : mWt G M.2.2.1 p l e R s m args below meth c n0 k0 Q pc' L' st' h' n' k') : mWt G M.2.2.1 p l e R s m args below meth c n0 k0 Q pc L st h n k := by
  cases i with
  | iconst _ => exact ms_iconst C hd hlen E K
  | bipush _ => exact ms_bipush C hd hlen E K
  | sipush _ => exact ms_sipush C hd hlen E K
  | lconst _ => exact ms_lconst C hd hlen E K
  | aconst_null => exact ms_aconst_null C hd hlen E K
  | iload _ => exact ms_iload C hd hlen E K
  | iload_n _ => exact ms_iload_n C hd hlen E K
  | lload _ => exact ms_lload C hd hlen E K
  | lload_n _ => exact ms_lload_n C hd hlen E K
  | aload _ => exact ms_aload C hd hlen E K
  | aload_n _ => exact ms_aload_n C hd hlen E K
  | istore _ => exact ms_istore C hd hlen E K
  | istore_n _ => exact ms_istore_n C hd hlen E K
  | astore _ => exact ms_astore C hd hlen E K
  | astore_n _ => exact ms_astore_n C hd hlen E K
  | lstore _ => exact ms_lstore C hd hlen E K
  | iinc _ _ => exact ms_iinc C hd hlen E K
  | dup => exact ms_dup C hd hlen E K
  | dup2 => exact ms_dup2 C hd hlen E K
  | dup_x1 => exact ms_dup_x1 C hd hlen E K
  | pop => exact ms_pop C hd hlen E K
  | iadd => exact ms_iadd C hd hlen E K
  | isub => exact ms_isub C hd hlen E K
  | imul => exact ms_imul C hd hlen E K
  | iand => exact ms_iand C hd hlen E K
  | ior => exact ms_ior C hd hlen E K
  | ishl => exact ms_ishl C hd hlen E K
  | ishr => exact ms_ishr C hd hlen E K
  | idiv => exact ms_idiv C hd hlen E K
  | irem => exact ms_irem C hd hlen E K
  | ladd => exact ms_ladd C hd hlen E K
  | land => exact ms_land C hd hlen E K
  | lor => exact ms_lor C hd hlen E K
  | lshl => exact ms_lshl C hd hlen E K
  | lshr => exact ms_lshr C hd hlen E K
  | i2l => exact ms_i2l C hd hlen E K
  | lcmp => exact ms_lcmp C hd hlen E K
  | if_icmp _ _ => exact ms_if_icmp C hd hlen E K
  | ifCond _ _ => exact ms_ifCond C hd hlen E K
  | if_acmp _ _ => exact ms_if_acmp C hd hlen E K
  | ifnull _ => exact ms_ifnull C hd hlen E K
  | ifnonnull _ => exact ms_ifnonnull C hd hlen E K
  | goto _ => exact ms_goto C hd hlen E K
  | tableswitch _ _ _ _ => exact ms_tableswitch C hd hlen E K
  | lookupswitch _ _ => exact ms_lookupswitch C hd hlen E K
  | ldc _ => exact ms_ldc hM C hd hlen E K
  | ldc_w _ => exact ms_ldc_w hM C hd hlen E K
  | ldc2_w _ => exact ms_ldc2_w hM C hd hlen E K
  | getfield _ => exact ms_getfield hM C hd hlen E K
  | putfield _ => exact ms_putfield hM C hd hlen E K
  | getstatic _ => exact ms_getstatic hM C hd hlen E K
  | arraylength => exact ms_arraylength hM C hd hlen E K
  | iaload => exact ms_iaload hM C hd hlen E K
  | baload => exact ms_baload hM C hd hlen E K
  | laload => exact ms_laload hM C hd hlen E K
  | aaload => exact ms_aaload hM C hd hlen E K
  | iastore => exact ms_iastore hM C hd hlen E K
  | bastore => exact ms_bastore hM C hd hlen E K
  | lastore => exact ms_lastore hM C hd hlen E K
  | aastore => exact ms_aastore hM C hd hlen E K
  | checkcast _ => exact ms_checkcast hM C hd hlen E K
  | newarray _ => exact ms_newarray hM C hd hlen E hn0 hk0 hcells hslots K
  | anewarray _ => exact ms_anewarray hM C hd hlen E hn0 hk0 hcells hslots K
  | new _ => exact ms_new hM C hd hlen E hn0 hk0 hcells hslots K
  | invokevirtual _ => exact ms_virtN hM C hd hlen E hcells hslots K
  | invokespecial _ => exact ms_specN hM C hd hlen E hcells hslots K
  | invokestatic _ => exact ms_statN hM C hd hlen E hcells hslots K
  | return_ => exact absurd E (by dsimp only [mIns]; split <;> (intro q; cases q))
  | ireturn => exact absurd E (by dsimp only [mIns]; (repeat' split) <;> (intro q; cases q))
  | lreturn => exact absurd E (by dsimp only [mIns]; (repeat' split) <;> (intro q; cases q))
  | areturn => exact absurd E (by dsimp only [mIns]; (repeat' split) <;> (intro q; cases q))
  | _ => cases E
/-- sizes and slots only grow in a step -/
theorem mIns_grow {i : Instr} (E : mIns i len G M mi pc L st h n k = some (.inl (pc', L', st', h', n', k'))) : n ≤ n' ∧ k ≤ k' := by
  have nx : ∀ {q : Nat} {L9 st9 : List Value} {h9 : mH} {n9 k9 : Nat}, mNx q L9 st9 h9 n9 k9 = some (.inl (pc', L', st', h', n', k')) → n9 = n' ∧ k9 = k' := by
    intro q L9 st9 h9 n9 k9 z
    unfold mNx at z
    cases z
    exact ⟨rfl, rfl⟩
  have jp : ∀ {q : Nat} {off : Int} {L9 st9 : List Value} {h9 : mH} {n9 k9 : Nat}, mJp q off L9 st9 h9 n9 k9 = some (.inl (pc', L', st', h', n', k')) → n9 = n' ∧ k9 = k' := by
    intro q off L9 st9 h9 n9 k9 z
    unfold mJp at z
    split at z
    · cases z
      exact ⟨rfl, rfl⟩
    · cases z
  have br : ∀ {q : Nat} {off : Int} {b : Bool} {L9 st9 : List Value} {h9 : mH} {n9 k9 : Nat}, mBr q off b L9 st9 h9 n9 k9 = some (.inl (pc', L', st', h', n', k')) → n9 = n' ∧ k9 = k' := by
    intro q off b L9 st9 h9 n9 k9 z
    unfold mBr at z
    split at z
    · split at z <;> (cases z; exact ⟨rfl, rfl⟩)
    · cases z
  have bd : ∀ {q : Nat} {o : Option (List Value)} {st9 : List Value} {h9 : mH} {n9 k9 : Nat}, o.bind (fun L9 => mNx q L9 st9 h9 n9 k9) = some (.inl (pc', L', st', h', n', k')) → n9 = n' ∧ k9 = k' := by
    intro q o st9 h9 n9 k9 z
    obtain ⟨_, _, e2⟩ := Option.bind_eq_some_iff.mp z
    exact nx e2
  revert E
  cases i <;> first
    | (dsimp only [mIns]; (repeat' split) <;> (intro E; first | (cases E; done) | (obtain ⟨z1, z2⟩ := nx E; omega) | (obtain ⟨z1, z2⟩ := jp E; omega) | (obtain ⟨z1, z2⟩ := br E; omega) | (obtain ⟨z1, z2⟩ := bd E; omega)))
end MFI
