/-! THE STEPS ARE THE BYTES: what a decoded instruction is as a step; every method's blocks are checked against its bytes (printed by wip/whole/part_check.py) -/
abbrev am_M : Type := MethodName × ByteArray × Nat × Option FieldType × Nat
def am_q (y : Nat) : am_M := am_mt.getD y (x, code, 4, ret, 0)
def am_tr (q : am_M) (ins : Instr) : Option am_O := match ins with
  | .iconst n => some (.inl (.int (Int32.ofInt n)))
  | .bipush n => some (.inl (.int (Int8.ofInt n).toInt32))
  | .sipush n => some (.inl (.int (Int16.ofInt n).toInt32))
  | .lconst n => some (.inl (.long (Int64.ofNat (n : Nat))))
  | .aconst_null => some (.inl (.ref 0))
  | .ldc k => am_lu lt_ldc q.2.2.2.2 k
  | .ldc_w k => match am_lu lt_ldc q.2.2.2.2 k with
    | some (.inl (.int v)) => some (.inl (.int v))
    | _ => none
  | .ldc2_w k => am_lu lt_ldc2 q.2.2.2.2 k
  | .getstatic k => am_lu lt_gs q.2.2.2.2 k
  | .iload_n k => some (.inr (.iload (k : Nat)))
  | .iload k => some (.inr (.iload k))
  | .istore_n k => some (.inr (.istore (k : Nat)))
  | .istore k => some (.inr (.istore k))
  | .lload_n k => some (.inr (.lload (k : Nat)))
  | .lload k => some (.inr (.lload k))
  | .lstore_n k => some (.inr (.lstore (k : Nat)))
  | .lstore k => some (.inr (.lstore k))
  | .aload_n k => some (.inr (.aload (k : Nat)))
  | .aload k => some (.inr (.aload k))
  | .astore_n k => some (.inr (.astore (k : Nat)))
  | .astore k => some (.inr (.astore k))
  | .iinc k n => some (.inr (.iinc k n))
  | .iadd => some (.inr .iadd)
  | .isub => some (.inr .isub)
  | .imul => some (.inr .imul)
  | .idiv => some (.inr .idiv)
  | .irem => some (.inr .irem)
  | .ineg => some (.inr .ineg)
  | .iand => some (.inr .iand)
  | .ior => some (.inr .ior)
  | .ishl => some (.inr .ishl)
  | .ishr => some (.inr .ishr)
  | .iushr => some (.inr .iushr)
  | .ladd => some (.inr .ladd)
  | .lsub => some (.inr .lsub)
  | .lmul => some (.inr .lmul)
  | .ldiv => some (.inr .ldiv)
  | .land => some (.inr .land)
  | .lor => some (.inr .lor)
  | .lshl => some (.inr .lshl)
  | .lcmp => some (.inr .lcmp)
  | .i2l => some (.inr .i2l)
  | .l2i => some (.inr .l2i)
  | .i2b => some (.inr .i2b)
  | .i2s => some (.inr .i2s)
  | .i2c => some (.inr .i2c)
  | .dup => some (.inr .dup)
  | .dup_x1 => some (.inr .dup_x1)
  | .dup2 => some (.inr .dup2)
  | .pop => some (.inr .pop)
  | .iaload => some (.inr .iaload)
  | .laload => some (.inr .laload)
  | .aaload => some (.inr .aaload)
  | .baload => some (.inr .baload)
  | .iastore => some (.inr .iastore)
  | .lastore => some (.inr .lastore)
  | .aastore => some (.inr .aastore)
  | .bastore => some (.inr .bastore)
  | .arraylength => some (.inr .arraylength)
  | .ireturn => match q.2.2.2.1 with
    | some .int => some (.inr .ireturn)
    | some .boolean => some (.inr .freturn)
    | some .byte => some (.inr .dreturn)
    | some .char => some (.inr .fneg)
    | _ => none
  | .lreturn => match q.2.2.2.1 with
    | some .long => some (.inr .lreturn)
    | _ => none
  | .areturn => match q.2.2.2.1 with
    | some (.object _) => some (.inr .areturn)
    | some (.array _) => some (.inr .areturn)
    | _ => none
  | .return_ => match q.2.2.2.1 with
    | none => some (.inr .return_)
    | _ => none
  | .getfield k => am_lu lt_gf q.2.2.2.2 k
  | .putfield k => match am_lu lt_pf q.2.2.2.2 k with
    | some (.inr (.putfield f)) => if (sd_fr f).2.2.2 = true ∧ ¬ q.1.name = "<init>" then none else some (.inr (.putfield f))
    | _ => none
  | .new k => am_lu lt_nw q.2.2.2.2 k
  | .newarray t => some (.inr (.newarray t))
  | .anewarray k => am_lu lt_ana q.2.2.2.2 k
  | .multianewarray k n => if n = 2 then am_lu lt_mna q.2.2.2.2 k else none
  | .instanceof k => am_lu lt_ins q.2.2.2.2 k
  | .checkcast k => am_lu lt_cc q.2.2.2.2 k
  | .invokevirtual k => am_lu lt_iv q.2.2.2.2 k
  | .invokespecial k => am_lu lt_is q.2.2.2.2 k
  | .invokestatic k => am_lu lt_st q.2.2.2.2 k
  | _ => none
/-- the block b of method y begins where the jump goes -/
def am_to (y pc : Nat) (off b : Int) : Bool := match (am_pcl.getD y [])[b.toNat]? with
  | some t => decide ((pc : Int) + off = (t : Int))
  | none => false
def okI (y pc : Nat) (ins : Instr) (w : am_O) : Bool := match ins with
  | .goto off => match w with
    | .inr (.goto b) => am_to y pc off b
    | _ => false
  | .ifCond c off => match w with
    | .inr (.ifCond c2 b) => decide (c = c2) && am_to y pc off b
    | _ => false
  | .if_icmp c off => match w with
    | .inr (.if_icmp c2 b) => decide (c = c2) && am_to y pc off b
    | _ => false
  | .ifnull off => match w with
    | .inr (.ifnull b) => am_to y pc off b
    | _ => false
  | .ifnonnull off => match w with
    | .inr (.ifnonnull b) => am_to y pc off b
    | _ => false
  | .tableswitch d lo hi offs => match w with
    | .inr (.tableswitch d2 lo2 hi2 offs2) => am_to y pc d d2 && (decide (lo = lo2) && (decide (hi = hi2) && (decide ((hi - lo + 1).toNat = offs.size) && (decide (offs.size = offs2.size) && (List.range offs.size).all fun j => am_to y pc (offs.getD j 0) (offs2.getD j 0)))))
    | _ => false
  | ins => decide (am_tr (am_q y) ins = some w)
/-- does a step leave the block? -/
def am_end (w : am_O) : Bool := match w with
  | .inr (.goto _) => true
  | .inr (.tableswitch _ _ _ _) => true
  | .inr .ireturn => true
  | .inr .freturn => true
  | .inr .dreturn => true
  | .inr .fneg => true
  | .inr .lreturn => true
  | .inr .areturn => true
  | .inr .return_ => true
  | _ => false
/-- how many bytes an instruction takes -/
def am_ln (ins : Instr) (len : Nat) : Bool := match ins with
  | .tableswitch _ _ _ _ => true
  | .bipush _ => decide (len = 2)
  | .sipush _ => decide (len = 3)
  | .ldc _ => decide (len = 2)
  | .ldc_w _ => decide (len = 3)
  | .ldc2_w _ => decide (len = 3)
  | .iload _ => decide (len = 2)
  | .lload _ => decide (len = 2)
  | .aload _ => decide (len = 2)
  | .istore _ => decide (len = 2)
  | .lstore _ => decide (len = 2)
  | .astore _ => decide (len = 2)
  | .iinc _ _ => decide (len = 3)
  | .goto _ => decide (len = 3)
  | .ifCond _ _ => decide (len = 3)
  | .if_icmp _ _ => decide (len = 3)
  | .ifnull _ => decide (len = 3)
  | .ifnonnull _ => decide (len = 3)
  | .getfield _ => decide (len = 3)
  | .putfield _ => decide (len = 3)
  | .getstatic _ => decide (len = 3)
  | .new _ => decide (len = 3)
  | .newarray _ => decide (len = 2)
  | .anewarray _ => decide (len = 3)
  | .multianewarray _ _ => decide (len = 4)
  | .instanceof _ => decide (len = 3)
  | .checkcast _ => decide (len = 3)
  | .invokevirtual _ => decide (len = 3)
  | .invokespecial _ => decide (len = 3)
  | .invokestatic _ => decide (len = 3)
  | _ => decide (len = 1)
def okO (y : Nat) : Nat → List am_O → Bool
  | _, [] => false
  | pc, w :: ops => match w with
    | .inr (.goto_w b) => am_to y pc 0 b
    | .inr .athrow => true
    | w => match decode (am_q y).2.1 pc with
      | .ok (ins, len) => am_ln ins len && (okI y pc ins w && (am_end w || okO y (pc + len) ops))
      | _ => false
def am_okm (y : Nat) : Bool := (List.range (am_pcl.getD y []).length).all fun b => okO y ((am_pcl.getD y []).getD b 0) (am_bk y b)
