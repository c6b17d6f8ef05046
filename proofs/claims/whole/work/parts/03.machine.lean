/-! THE MACHINE OF HANDLES (am_): the program's steps over a heap of handles, as a function. A reference is a handle (0: null); a heap: ints, longs, references by handle and slot; kind and length of each handle's cell; how many cells, how many slots were made -/
abbrev am_H : Type := (Nat → Nat → Int32) × (Nat → Nat → Int64) × (Nat → Nat → Nat) × (Nat → Nat × Nat) × Nat × Nat
def am_u1 {α : Type} (f : Nat → α) (a : Nat) (v : α) : Nat → α := fun b => if b = a then v else f b
def am_u2 {α : Type} (f : Nat → Nat → α) (a i : Nat) (v : α) : Nat → Nat → α := am_u1 f a (am_u1 (f a) i v)
theorem am_u1_s {α : Type} (f : Nat → α) (a : Nat) (v : α) : am_u1 f a v a = v := if_pos rfl
theorem am_u1_n {α : Type} (f : Nat → α) {a b : Nat} (v : α) (h : b ≠ a) : am_u1 f a v b = f b := if_neg h
/-- cells 32 on are made by the program; those below are the launch's (its constants, the script) -/
def am_al (h : am_H) (k n : Nat) : am_H := (am_u1 h.1 (h.2.2.2.2.1 + 32) (fun _ => 0), am_u1 h.2.1 (h.2.2.2.2.1 + 32) (fun _ => 0), am_u1 h.2.2.1 (h.2.2.2.2.1 + 32) (fun _ => 0), am_u1 h.2.2.2.1 (h.2.2.2.2.1 + 32) (k, n), h.2.2.2.2.1 + 1, h.2.2.2.2.2 + n)
/-- n rows of m each under one row of references -/
def am_al2 (h : am_H) (k k1 n m : Nat) : am_H :=
  (fun b => if h.2.2.2.2.1 + 32 ≤ b ∧ b ≤ h.2.2.2.2.1 + 32 + n then fun _ => 0 else h.1 b,
   fun b => if h.2.2.2.2.1 + 32 ≤ b ∧ b ≤ h.2.2.2.2.1 + 32 + n then fun _ => 0 else h.2.1 b,
   fun b => if b = h.2.2.2.2.1 + 32 then (fun j => if j < n then h.2.2.2.2.1 + 33 + j else 0) else if h.2.2.2.2.1 + 32 ≤ b ∧ b ≤ h.2.2.2.2.1 + 32 + n then fun _ => 0 else h.2.2.1 b,
   fun b => if b = h.2.2.2.2.1 + 32 then (k, n) else if h.2.2.2.2.1 + 32 ≤ b ∧ b ≤ h.2.2.2.2.1 + 32 + n then (k1, m) else h.2.2.2.1 b,
   h.2.2.2.2.1 + (1 + n), h.2.2.2.2.2 + (n + n * m))
def am_pi (h : am_H) (a i : Nat) (x : Int32) : am_H := (am_u2 h.1 a i x, h.2)
def am_pj (h : am_H) (a i : Nat) (x : Int64) : am_H := (h.1, am_u2 h.2.1 a i x, h.2.2)
def am_pr (h : am_H) (a i : Nat) (x : Nat) : am_H := (h.1, h.2.1, am_u2 h.2.2.1 a i x, h.2.2.2)
/-- the kind of a handle's cell (0: none; 1 to 12 objects; 20 int[], 21 long[], 22 byte[], 23 Thing[], 24 int[][], 25 long[][]; 30 an int[] of the launch, 31 its byte[], 40 its String) -/
def am_k (h : am_H) (a : Nat) : Nat := (h.2.2.2.1 a).1
def am_n (h : am_H) (a : Nat) : Nat := (h.2.2.2.1 a).2
def am_in (i : Int32) (n : Nat) : Bool := decide (0 ≤ i.toInt ∧ i.toInt < n)
/-- locals: a list of maxLocals values; .null: nothing there -/
def am_kill (ls : List Value) : Nat → List Value
  | 0 => ls
  | k + 1 => match ls[k]? with
    | some (.long _) => ls.set k .null
    | _ => ls
def am_s1 (ls : List Value) (i : Nat) (v : Value) : List Value := (am_kill ls i).set i v
def am_s2 (ls : List Value) (i : Nat) (v : Value) : List Value := ((am_kill ls i).set i v).set (i + 1) .null
def am_lay : List Value → List Value
  | [] => []
  | v :: vs => match v with
    | .long x => .long x :: .null :: am_lay vs
    | v => v :: am_lay vs
def am_ent (k : Nat) (vs : List Value) : List Value := am_lay vs ++ List.replicate (am_mx k - (am_lay vs).length) .null
def am_pop : Nat → List Value → List Value → Option (List Value × List Value)
  | 0, acc, st => some (acc, st)
  | _ + 1, _, [] => none
  | n + 1, acc, v :: st => am_pop n (v :: acc) st
def am_wt (st : List Value) : Nat := (st.map fun v => v.category).sum
def am_cd (c : ClassFile.Cond) (x y : Int32) : Bool := match c with
  | .eq => decide (x = y)
  | .ne => decide (¬ x = y)
  | .lt => decide (x < y)
  | .ge => decide (y ≤ x)
  | .gt => decide (y < x)
  | .le => decide (x ≤ y)
def am_sw (d lo hi : Int) (offs : Array Int) (x : Int32) : Nat := if x.toInt < lo ∨ hi < x.toInt then d.toNat else (offs.getD (x.toInt - lo).toNat 0).toNat
/-- jumps: where to (none: on), the stack behind it -/
def am_j (i : Instr) (st : List Value) : Option (Option Nat × List Value) := match i with
  | .goto b => some (some b.toNat, st)
  | .goto_w b => some (some b.toNat, st)
  | .ifCond c b => match st with
    | .int x :: st => some (if am_cd c x 0 then some b.toNat else none, st)
    | _ => none
  | .if_icmp c b => match st with
    | .int y :: .int x :: st => some (if am_cd c x y then some b.toNat else none, st)
    | _ => none
  | .ifnull b => match st with
    | .ref r :: st => some (if r = 0 then some b.toNat else none, st)
    | _ => none
  | .ifnonnull b => match st with
    | .ref r :: st => some (if r = 0 then none else some b.toNat, st)
    | _ => none
  | .tableswitch d lo hi offs => match st with
    | .int x :: st => some (some (am_sw d lo hi offs x), st)
    | _ => none
  | _ => none
/-- returns: freturn is a boolean's, dreturn a byte's, fneg a char's -/
def am_r (i : Instr) (st : List Value) : Option (Option Value) := match i with
  | .ireturn => match st with
    | [.int x] => some (some (.int x))
    | _ => none
  | .freturn => match st with
    | [.int x] => if x = 0 ∨ x = 1 then some (some (.int x)) else none
    | _ => none
  | .dreturn => match st with
    | [.int x] => if x.toInt8.toInt32 = x then some (some (.int x)) else none
    | _ => none
  | .fneg => match st with
    | [.int x] => if narrow .char (.int x) = .int x then some (some (.int x)) else none
    | _ => none
  | .lreturn => match st with
    | [.long x] => some (some (.long x))
    | _ => none
  | .areturn => match st with
    | [.ref x] => some (some (.ref x))
    | _ => none
  | .return_ => match st with
    | [] => some none
    | _ => none
  | _ => none
/-- calls: the method, its arguments, the stack behind them; invokedynamic is a call of super's -/
def am_cl (i : Instr) (st : List Value) (h : am_H) : Option (Nat × List Value × List Value) := match i with
  | .invokestatic k => match am_pop (am_na k) [] st with
    | some (as, st') => if am_wt st' ≤ 8 ∧ (am_lay as).length ≤ am_mx k then some (k, as, st') else none
    | none => none
  | .invokespecial k => match am_pop (am_na k) [] st with
    | some (.ref a :: as, st') => if a ≠ 0 ∧ am_wt st' ≤ 8 ∧ (am_lay (.ref a :: as)).length ≤ am_mx k then some (k, .ref a :: as, st') else none
    | _ => none
  | .invokedynamic k => match am_pop (am_na k) [] st with
    | some (.ref a :: as, st') => if am_k h a = 8 ∧ am_wt st' ≤ 8 ∧ (am_lay (.ref a :: as)).length ≤ am_mx k then some (k, .ref a :: as, st') else none
    | _ => none
  | .invokevirtual k => match am_pop (am_na k) [] st with
    | some (.ref a :: as, st') => if am_vt k (am_k h a) ≠ 0 ∧ am_wt st' ≤ 8 ∧ (am_lay (.ref a :: as)).length ≤ am_mx (am_vt k (am_k h a)) then some (am_vt k (am_k h a), .ref a :: as, st') else none
    | _ => none
  | _ => none
/-- all other steps -/
def am_s (i : Instr) (ls st : List Value) (h : am_H) : Option (List Value × List Value × am_H) := match i with
  | .iload k => match ls[k]? with
    | some (.int x) => some (ls, .int x :: st, h)
    | _ => none
  | .lload k => match ls[k]? with
    | some (.long x) => some (ls, .long x :: st, h)
    | _ => none
  | .aload k => match ls[k]? with
    | some (.ref x) => some (ls, .ref x :: st, h)
    | _ => none
  | .istore k => match st with
    | .int x :: st => if k < ls.length then some (am_s1 ls k (.int x), st, h) else none
    | _ => none
  | .astore k => match st with
    | .ref x :: st => if k < ls.length then some (am_s1 ls k (.ref x), st, h) else none
    | _ => none
  | .lstore k => match st with
    | .long x :: st => if k + 1 < ls.length then some (am_s2 ls k (.long x), st, h) else none
    | _ => none
  | .iinc k n => match ls[k]? with
    | some (.int x) => some (am_s1 ls k (.int (x + Int32.ofInt n)), st, h)
    | _ => none
  | .iadd => match st with
    | .int y :: .int x :: st => some (ls, .int (x + y) :: st, h)
    | _ => none
  | .isub => match st with
    | .int y :: .int x :: st => some (ls, .int (x - y) :: st, h)
    | _ => none
  | .imul => match st with
    | .int y :: .int x :: st => some (ls, .int (x * y) :: st, h)
    | _ => none
  | .idiv => match st with
    | .int y :: .int x :: st => if y = 0 then none else some (ls, .int (x / y) :: st, h)
    | _ => none
  | .irem => match st with
    | .int y :: .int x :: st => if y = 0 then none else some (ls, .int (x - x / y * y) :: st, h)
    | _ => none
  | .ineg => match st with
    | .int x :: st => some (ls, .int (-x) :: st, h)
    | _ => none
  | .iand => match st with
    | .int y :: .int x :: st => some (ls, .int (x &&& y) :: st, h)
    | _ => none
  | .ior => match st with
    | .int y :: .int x :: st => some (ls, .int (x ||| y) :: st, h)
    | _ => none
  | .ishl => match st with
    | .int y :: .int x :: st => some (ls, .int (x <<< (y &&& 31)) :: st, h)
    | _ => none
  | .ishr => match st with
    | .int y :: .int x :: st => some (ls, .int (x >>> (y &&& 31)) :: st, h)
    | _ => none
  | .iushr => match st with
    | .int y :: .int x :: st => some (ls, .int (x.toUInt32 >>> (y.toUInt32 &&& Int32.toUInt32 31)).toInt32 :: st, h)
    | _ => none
  | .ladd => match st with
    | .long y :: .long x :: st => some (ls, .long (x + y) :: st, h)
    | _ => none
  | .lsub => match st with
    | .long y :: .long x :: st => some (ls, .long (x - y) :: st, h)
    | _ => none
  | .lmul => match st with
    | .long y :: .long x :: st => some (ls, .long (x * y) :: st, h)
    | _ => none
  | .ldiv => match st with
    | .long y :: .long x :: st => if y = 0 then none else some (ls, .long (x / y) :: st, h)
    | _ => none
  | .land => match st with
    | .long y :: .long x :: st => some (ls, .long (x &&& y) :: st, h)
    | _ => none
  | .lor => match st with
    | .long y :: .long x :: st => some (ls, .long (x ||| y) :: st, h)
    | _ => none
  | .lshl => match st with
    | .int y :: .long x :: st => some (ls, .long (x <<< (y.toInt64 &&& 63)) :: st, h)
    | _ => none
  | .lcmp => match st with
    | .long y :: .long x :: st => some (ls, .int (lg_cmp x y) :: st, h)
    | _ => none
  | .i2l => match st with
    | .int x :: st => some (ls, .long x.toInt64 :: st, h)
    | _ => none
  | .l2i => match st with
    | .long x :: st => some (ls, .int x.toInt32 :: st, h)
    | _ => none
  | .i2b => match st with
    | .int x :: st => some (ls, .int x.toInt8.toInt32 :: st, h)
    | _ => none
  | .i2s => match st with
    | .int x :: st => some (ls, .int x.toInt16.toInt32 :: st, h)
    | _ => none
  | .i2c => match st with
    | .int x :: st => some (ls, .int (x.toUInt32 % 65536).toInt32 :: st, h)
    | _ => none
  | .dup => match st with
    | .ref x :: st => some (ls, .ref x :: .ref x :: st, h)
    | .int x :: st => some (ls, .int x :: .int x :: st, h)
    | _ => none
  | .dup_x1 => match st with
    | .int x :: .ref a :: st => some (ls, .int x :: .ref a :: .int x :: st, h)
    | _ => none
  | .dup2 => match st with
    | .int x :: .ref a :: st => some (ls, .int x :: .ref a :: .int x :: .ref a :: st, h)
    | _ => none
  | .pop => match st with
    | .int _ :: st => some (ls, st, h)
    | .ref _ :: st => some (ls, st, h)
    | _ => none
  | .iaload => match st with
    | .int i :: .ref a :: st => if (am_k h a = 20 ∨ am_k h a = 30) ∧ am_in i (am_n h a) = true then some (ls, .int (h.1 a i.toNatClampNeg) :: st, h) else none
    | _ => none
  | .baload => match st with
    | .int i :: .ref a :: st => if (am_k h a = 22 ∨ am_k h a = 31) ∧ am_in i (am_n h a) = true then some (ls, .int (h.1 a i.toNatClampNeg) :: st, h) else none
    | _ => none
  | .laload => match st with
    | .int i :: .ref a :: st => if am_k h a = 21 ∧ am_in i (am_n h a) = true then some (ls, .long (h.2.1 a i.toNatClampNeg) :: st, h) else none
    | _ => none
  | .aaload => match st with
    | .int i :: .ref a :: st => if (am_k h a = 23 ∨ am_k h a = 24 ∨ am_k h a = 25) ∧ am_in i (am_n h a) = true then some (ls, .ref (h.2.2.1 a i.toNatClampNeg) :: st, h) else none
    | _ => none
  | .iastore => match st with
    | .int x :: .int i :: .ref a :: st => if am_k h a = 20 ∧ am_in i (am_n h a) = true then some (ls, st, am_pi h a i.toNatClampNeg x) else none
    | _ => none
  | .bastore => match st with
    | .int x :: .int i :: .ref a :: st => if am_k h a = 22 ∧ am_in i (am_n h a) = true then some (ls, st, am_pi h a i.toNatClampNeg x.toInt8.toInt32) else none
    | _ => none
  | .lastore => match st with
    | .long x :: .int i :: .ref a :: st => if am_k h a = 21 ∧ am_in i (am_n h a) = true then some (ls, st, am_pj h a i.toNatClampNeg x) else none
    | _ => none
  | .aastore => match st with
    | .ref x :: .int i :: .ref a :: st => if am_k h a = 23 ∧ am_in i (am_n h a) = true ∧ 5 ≤ am_k h x ∧ am_k h x ≤ 11 then some (ls, st, am_pr h a i.toNatClampNeg x) else none
    | _ => none
  | .arraylength => match st with
    | .ref a :: st => if 20 ≤ am_k h a ∧ am_k h a ≤ 31 then some (ls, .int (Int32.ofNat (am_n h a)) :: st, h) else none
    | _ => none
  | .getfield f => match st with
    | .ref a :: st => if (am_fd f).2.2.1 ≤ am_k h a ∧ am_k h a ≤ (am_fd f).2.2.2 then some (ls, (match (am_fd f).1 with
        | 1 => Value.long (h.2.1 a (am_fd f).2.1)
        | 2 => Value.ref (h.2.2.1 a (am_fd f).2.1)
        | _ => Value.int (h.1 a (am_fd f).2.1)) :: st, h) else none
    | _ => none
  | .putfield f => match st with
    | .int x :: .ref a :: st => if ((am_fd f).1 = 0 ∨ (am_fd f).1 = 3 ∧ (x = 0 ∨ x = 1)) ∧ (am_fd f).2.2.1 ≤ am_k h a ∧ am_k h a ≤ (am_fd f).2.2.2 then some (ls, st, am_pi h a (am_fd f).2.1 x) else none
    | .long x :: .ref a :: st => if (am_fd f).1 = 1 ∧ (am_fd f).2.2.1 ≤ am_k h a ∧ am_k h a ≤ (am_fd f).2.2.2 then some (ls, st, am_pj h a (am_fd f).2.1 x) else none
    | .ref x :: .ref a :: st => if (am_fd f).1 = 2 ∧ (am_fd f).2.2.1 ≤ am_k h a ∧ am_k h a ≤ (am_fd f).2.2.2 then some (ls, st, am_pr h a (am_fd f).2.1 x) else none
    | _ => none
  | .getstatic f => match st with
    | .ref a :: st => if am_k h a = 40 then (match f with
        | 0 => some (ls, .ref (h.2.2.1 a 0) :: st, h)
        | 1 => some (ls, .int 0 :: st, h)
        | _ => none) else none
    | _ => none
  | .new c => if 1 ≤ c ∧ c ≤ 12 ∧ h.2.2.2.2.1 + 1 ≤ 600000 ∧ h.2.2.2.2.2 + am_sz c ≤ 7302250 then some (ls, .ref (h.2.2.2.2.1 + 32) :: st, am_al h c (am_sz c)) else none
  | .newarray t => match st with
    | .int n :: st => if 0 ≤ n.toInt ∧ n.toInt ≤ 10000 ∧ h.2.2.2.2.1 + 1 ≤ 600000 ∧ h.2.2.2.2.2 + n.toNatClampNeg ≤ 7302250 then (match t with
        | .int => some (ls, .ref (h.2.2.2.2.1 + 32) :: st, am_al h 20 n.toNatClampNeg)
        | .long => some (ls, .ref (h.2.2.2.2.1 + 32) :: st, am_al h 21 n.toNatClampNeg)
        | .byte => some (ls, .ref (h.2.2.2.2.1 + 32) :: st, am_al h 22 n.toNatClampNeg)
        | _ => none) else none
    | _ => none
  | .anewarray _ => match st with
    | .int n :: st => if 0 ≤ n.toInt ∧ n.toInt ≤ 10000 ∧ h.2.2.2.2.1 + 1 ≤ 600000 ∧ h.2.2.2.2.2 + n.toNatClampNeg ≤ 7302250 then some (ls, .ref (h.2.2.2.2.1 + 32) :: st, am_al h 23 n.toNatClampNeg) else none
    | _ => none
  | .multianewarray t _ => match st with
    | .int m :: .int n :: st => if 0 ≤ n.toInt ∧ n.toInt ≤ 10000 ∧ 0 ≤ m.toInt ∧ m.toInt ≤ 10000 ∧ h.2.2.2.2.1 + (1 + n.toNatClampNeg) ≤ 600000 ∧ h.2.2.2.2.2 + (n.toNatClampNeg + n.toNatClampNeg * m.toNatClampNeg) ≤ 7302250 then (match t with
        | 0 => some (ls, .ref (h.2.2.2.2.1 + 32) :: st, am_al2 h 24 20 n.toNatClampNeg m.toNatClampNeg)
        | 1 => some (ls, .ref (h.2.2.2.2.1 + 32) :: st, am_al2 h 25 21 n.toNatClampNeg m.toNatClampNeg)
        | _ => none) else none
    | _ => none
  | .instanceof t => match st with
    | .ref a :: st => if a = 0 ∨ 5 ≤ am_k h a ∧ am_k h a ≤ 11 then some (ls, .int (if a ≠ 0 ∧ (am_ir t).1 ≤ am_k h a ∧ am_k h a ≤ (am_ir t).2 then 1 else 0) :: st, h) else none
    | _ => none
  | .checkcast t => match st with
    | .ref a :: st => if (am_ir t).1 ≤ am_k h a ∧ am_k h a ≤ (am_ir t).2 ∧ 5 ≤ am_k h a ∧ am_k h a ≤ 11 then some (ls, .ref a :: st, h) else none
    | _ => none
  -- Object.<init>
  | .fadd => match st with
    | .ref a :: st => if a ≠ 0 ∧ am_wt st ≤ 8 then some (ls, st, h) else none
    | _ => none
  -- System.arraycopy of int[] or long[]
  | .dadd => match st with
    | .int n :: .int dp :: .ref b :: .int sp :: .ref a :: st =>
      if am_wt st ≤ 8 ∧ 0 ≤ n.toInt ∧ 0 ≤ dp.toInt ∧ 0 ≤ sp.toInt ∧ sp.toNatClampNeg + n.toNatClampNeg ≤ am_n h a ∧ dp.toNatClampNeg + n.toNatClampNeg ≤ am_n h b then
        if am_k h a = 20 ∧ am_k h b = 20 then some (ls, st, (am_u1 h.1 b (va_cpy (h.1 a) (h.1 b) sp.toNatClampNeg dp.toNatClampNeg n.toNatClampNeg), h.2))
        else if am_k h a = 21 ∧ am_k h b = 21 then some (ls, st, (h.1, am_u1 h.2.1 b (va_cpy (h.2.1 a) (h.2.1 b) sp.toNatClampNeg dp.toNatClampNeg n.toNatClampNeg), h.2.2))
        else none
      else none
    | _ => none
  | _ => none
/-- the machine: fuel, depth, the method, the steps left of the block, locals, stack, heap -/
def am_x : Nat → Nat → Nat → List am_O → List Value → List Value → am_H → Option (Option Value × am_H)
  | 0, _, _, _, _, _, _ => none
  | n + 1, d, y, ops, ls, st, h => match ops with
    | [] => none
    | .inl v :: ops => am_x n d y ops ls (v :: st) h
    | .inr i :: ops => match am_j i st with
      | some (some b, st') => am_x n d y (am_bk y b) ls st' h
      | some (none, st') => am_x n d y ops ls st' h
      | none => match am_r i st with
        | some r => some (r, h)
        | none => match am_cl i st h with
          | some (k, as, st') => match d with
            | 0 => none
            | d' + 1 => match am_x n d' k (am_bk k 0) (am_ent k as) [] h with
              | some (r, h') => am_x n (d' + 1) y ops ls (r.toList ++ st') h'
              | none => none
          | none => match am_s i ls st h with
            | some (ls', st', h') => am_x n d y ops ls' st' h'
            | none => none
theorem am_mono1 : ∀ (n d y : Nat) (ops : List am_O) (ls st : List Value) (h : am_H) (r : Option Value × am_H), am_x n d y ops ls st h = some r → am_x (n + 1) d y ops ls st h = some r := by
  intro n
  induction n with
  | zero => intro d y ops ls st h r e; simp [am_x] at e
  | succ n ih =>
    intro d y ops ls st h r e
    unfold am_x at e ⊢
    split at e
    · exact e
    · exact ih _ _ _ _ _ _ _ e
    · split at e
      · exact ih _ _ _ _ _ _ _ e
      · exact ih _ _ _ _ _ _ _ e
      · split at e
        · exact e
        · split at e
          · split at e
            · exact e
            · split at e
              · rename_i h1
                rw [ih _ _ _ _ _ _ _ h1]
                exact ih _ _ _ _ _ _ _ e
              · cases e
          · split at e
            · exact ih _ _ _ _ _ _ _ e
            · cases e
theorem am_mono {n m : Nat} (hnm : n ≤ m) {d y : Nat} {ops : List am_O} {ls st : List Value} {h : am_H} {r : Option Value × am_H} (e : am_x n d y ops ls st h = some r) : am_x m d y ops ls st h = some r := by
  induction hnm with
  | refl => exact e
  | step _ ih => exact am_mono1 _ _ _ _ _ _ _ _ ih
/-- the machine comes to its end there, and the end is as Q says -/
def X (d y : Nat) (ops : List am_O) (ls st : List Value) (h : am_H) (Q : Option Value → am_H → Prop) : Prop := ∃ (n : Nat) (r : Option Value) (h' : am_H), am_x n d y ops ls st h = some (r, h') ∧ Q r h'
theorem X_of {d y : Nat} {ops : List am_O} {ls st : List Value} {h h' : am_H} {d2 y2 : Nat} {ops2 : List am_O} {ls2 st2 : List Value} {Q : Option Value → am_H → Prop} (e : ∀ n, am_x (n + 1) d y ops ls st h = am_x n d2 y2 ops2 ls2 st2 h') : X d y ops ls st h Q ↔ X d2 y2 ops2 ls2 st2 h' Q := by
  constructor
  · rintro ⟨n, r, k, h1, h2⟩
    cases n with
    | zero => simp [am_x] at h1
    | succ n => exact ⟨n, r, k, by rw [← e]; exact h1, h2⟩
  · rintro ⟨n, r, k, h1, h2⟩
    exact ⟨n + 1, r, k, by rw [e]; exact h1, h2⟩
theorem X_no {d y : Nat} {ops : List am_O} {ls st : List Value} {h : am_H} {Q : Option Value → am_H → Prop} (e : ∀ n, am_x (n + 1) d y ops ls st h = none) : X d y ops ls st h Q ↔ False := by
  constructor
  · rintro ⟨n, r, k, h1, h2⟩
    cases n with
    | zero => simp [am_x] at h1
    | succ n => rw [e] at h1; cases h1
  · exact False.elim
theorem X_det {d y : Nat} {ops : List am_O} {ls st : List Value} {h h' : am_H} {r : Option Value} {n : Nat} (e : am_x n d y ops ls st h = some (r, h')) {Q : Option Value → am_H → Prop} : X d y ops ls st h Q ↔ Q r h' := by
  constructor
  · rintro ⟨m, r2, k, h1, h2⟩
    have a := am_mono (Nat.le_max_left n m) e
    have b := am_mono (Nat.le_max_right n m) h1
    rw [a] at b
    cases b
    exact h2
  · intro q
    exact ⟨n, r, h', e, q⟩
