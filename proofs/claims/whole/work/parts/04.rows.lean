/-! ROWS OF THE MACHINE: what X is at each step (printed by wip/whole/part_x.py) -/
abbrev am_G : Type := (Nat → Nat → Nat) × (Nat → Nat × Nat) × Nat × Nat
def gk (g : am_G) (a : Nat) : Nat := (g.2.1 a).1
def gn (g : am_G) (a : Nat) : Nat := (g.2.1 a).2
def gr (g : am_G) (a i : Nat) : Nat := g.1 a i
section XR
variable {d y : Nat} {ops : List am_O} {ls st : List Value} {ci : Nat → Nat → Int32} {cj : Nat → Nat → Int64} {g : am_G} {Q : Option Value → am_H → Prop}
theorem am_k_t (a : Nat) : am_k (ci, cj, g) a = gk g a := rfl
theorem am_n_t (a : Nat) : am_n (ci, cj, g) a = gn g a := rfl
theorem X_push (v : Value) : X d y (.inl v :: ops) ls st (ci, cj, g) Q ↔ X d y ops ls (v :: st) (ci, cj, g) Q := X_of (fun _ => rfl)
theorem X_goto (b : Int) : X d y (.inr (.goto b) :: ops) ls st (ci, cj, g) Q ↔ X d y (am_bk y b.toNat) ls st (ci, cj, g) Q := X_of (fun _ => rfl)
theorem X_fall (b : Int) : X d y (.inr (.goto_w b) :: ops) ls st (ci, cj, g) Q ↔ X d y (am_bk y b.toNat) ls st (ci, cj, g) Q := X_of (fun _ => rfl)
theorem X_jump {i : Instr} {p : Prop} {D : Decidable p} {st' : List Value} {b : Nat} {h : am_H} (e : am_j i st = some (@ite _ p D (some b) none, st')) : X d y (.inr i :: ops) ls st h Q ↔ @ite _ p D (X d y (am_bk y b) ls st' h Q) (X d y ops ls st' h Q) := by
  by_cases hp : p
  · rw [if_pos hp] at e ⊢
    exact X_of (fun n => by simp only [am_x, e])
  · rw [if_neg hp] at e ⊢
    exact X_of (fun n => by simp only [am_x, e])
theorem X_br {i : Instr} {p : Prop} {D : Decidable p} {q : Bool} {st' : List Value} {b : Nat} {h : am_H} (e : am_j i st = some (if q then some b else none, st')) (hq : q = true ↔ p) : X d y (.inr i :: ops) ls st h Q ↔ @ite _ p D (X d y (am_bk y b) ls st' h Q) (X d y ops ls st' h Q) := by
  by_cases hp : p
  · rw [if_pos (hq.mpr hp)] at e
    rw [if_pos hp]
    exact X_of (fun n => by simp only [am_x, e])
  · rw [if_neg (fun z => hp (hq.mp z))] at e
    rw [if_neg hp]
    exact X_of (fun n => by simp only [am_x, e])
theorem X_ifeq (b : Int) (x : Int32) : X d y (.inr (.ifCond .eq b) :: ops) ls (.int x :: st) (ci, cj, g) Q ↔ if x = 0 then X d y (am_bk y b.toNat) ls st (ci, cj, g) Q else X d y ops ls st (ci, cj, g) Q := X_br rfl (by simp only [am_cd, decide_eq_true_eq])
theorem X_iceq (b : Int) (x y1 : Int32) : X d y (.inr (.if_icmp .eq b) :: ops) ls (.int y1 :: .int x :: st) (ci, cj, g) Q ↔ if x = y1 then X d y (am_bk y b.toNat) ls st (ci, cj, g) Q else X d y ops ls st (ci, cj, g) Q := X_br rfl (by simp only [am_cd, decide_eq_true_eq])
theorem X_ifne (b : Int) (x : Int32) : X d y (.inr (.ifCond .ne b) :: ops) ls (.int x :: st) (ci, cj, g) Q ↔ if ¬ x = 0 then X d y (am_bk y b.toNat) ls st (ci, cj, g) Q else X d y ops ls st (ci, cj, g) Q := X_br rfl (by simp only [am_cd, decide_eq_true_eq])
theorem X_icne (b : Int) (x y1 : Int32) : X d y (.inr (.if_icmp .ne b) :: ops) ls (.int y1 :: .int x :: st) (ci, cj, g) Q ↔ if ¬ x = y1 then X d y (am_bk y b.toNat) ls st (ci, cj, g) Q else X d y ops ls st (ci, cj, g) Q := X_br rfl (by simp only [am_cd, decide_eq_true_eq])
theorem X_iflt (b : Int) (x : Int32) : X d y (.inr (.ifCond .lt b) :: ops) ls (.int x :: st) (ci, cj, g) Q ↔ if x < 0 then X d y (am_bk y b.toNat) ls st (ci, cj, g) Q else X d y ops ls st (ci, cj, g) Q := X_br rfl (by simp only [am_cd, decide_eq_true_eq])
theorem X_iclt (b : Int) (x y1 : Int32) : X d y (.inr (.if_icmp .lt b) :: ops) ls (.int y1 :: .int x :: st) (ci, cj, g) Q ↔ if x < y1 then X d y (am_bk y b.toNat) ls st (ci, cj, g) Q else X d y ops ls st (ci, cj, g) Q := X_br rfl (by simp only [am_cd, decide_eq_true_eq])
theorem X_ifge (b : Int) (x : Int32) : X d y (.inr (.ifCond .ge b) :: ops) ls (.int x :: st) (ci, cj, g) Q ↔ if 0 ≤ x then X d y (am_bk y b.toNat) ls st (ci, cj, g) Q else X d y ops ls st (ci, cj, g) Q := X_br rfl (by simp only [am_cd, decide_eq_true_eq])
theorem X_icge (b : Int) (x y1 : Int32) : X d y (.inr (.if_icmp .ge b) :: ops) ls (.int y1 :: .int x :: st) (ci, cj, g) Q ↔ if y1 ≤ x then X d y (am_bk y b.toNat) ls st (ci, cj, g) Q else X d y ops ls st (ci, cj, g) Q := X_br rfl (by simp only [am_cd, decide_eq_true_eq])
theorem X_ifgt (b : Int) (x : Int32) : X d y (.inr (.ifCond .gt b) :: ops) ls (.int x :: st) (ci, cj, g) Q ↔ if 0 < x then X d y (am_bk y b.toNat) ls st (ci, cj, g) Q else X d y ops ls st (ci, cj, g) Q := X_br rfl (by simp only [am_cd, decide_eq_true_eq])
theorem X_icgt (b : Int) (x y1 : Int32) : X d y (.inr (.if_icmp .gt b) :: ops) ls (.int y1 :: .int x :: st) (ci, cj, g) Q ↔ if y1 < x then X d y (am_bk y b.toNat) ls st (ci, cj, g) Q else X d y ops ls st (ci, cj, g) Q := X_br rfl (by simp only [am_cd, decide_eq_true_eq])
theorem X_ifle (b : Int) (x : Int32) : X d y (.inr (.ifCond .le b) :: ops) ls (.int x :: st) (ci, cj, g) Q ↔ if x ≤ 0 then X d y (am_bk y b.toNat) ls st (ci, cj, g) Q else X d y ops ls st (ci, cj, g) Q := X_br rfl (by simp only [am_cd, decide_eq_true_eq])
theorem X_icle (b : Int) (x y1 : Int32) : X d y (.inr (.if_icmp .le b) :: ops) ls (.int y1 :: .int x :: st) (ci, cj, g) Q ↔ if x ≤ y1 then X d y (am_bk y b.toNat) ls st (ci, cj, g) Q else X d y ops ls st (ci, cj, g) Q := X_br rfl (by simp only [am_cd, decide_eq_true_eq])
theorem X_ifnull (b : Int) (r : Nat) : X d y (.inr (.ifnull b) :: ops) ls (.ref r :: st) (ci, cj, g) Q ↔ if r = 0 then X d y (am_bk y b.toNat) ls st (ci, cj, g) Q else X d y ops ls st (ci, cj, g) Q := X_jump rfl
theorem X_ifnonnull (b : Int) (r : Nat) : X d y (.inr (.ifnonnull b) :: ops) ls (.ref r :: st) (ci, cj, g) Q ↔ if r = 0 then X d y ops ls st (ci, cj, g) Q else X d y (am_bk y b.toNat) ls st (ci, cj, g) Q := by
  by_cases hp : r = 0
  · rw [if_pos hp]
    exact X_of (fun n => by simp only [am_x, am_j, if_pos hp])
  · rw [if_neg hp]
    exact X_of (fun n => by simp only [am_x, am_j, if_neg hp])
theorem X_switch (b lo hi : Int) (offs : Array Int) (x : Int32) : X d y (.inr (.tableswitch b lo hi offs) :: ops) ls (.int x :: st) (ci, cj, g) Q ↔ X d y (am_bk y (am_sw b lo hi offs x)) ls st (ci, cj, g) Q := X_of (fun _ => rfl)
theorem X_ret {i : Instr} {r : Option Value} {h : am_H} (e1 : am_j i st = none) (e : am_r i st = some r) : X d y (.inr i :: ops) ls st h Q ↔ Q r h := X_det (n := 1) (by simp only [am_x, e1, e])
theorem X_ireturn (x : Int32) : X d y (.inr .ireturn :: ops) ls [.int x] (ci, cj, g) Q ↔ Q (some (.int x)) (ci, cj, g) := X_ret rfl rfl
theorem X_lreturn (x : Int64) : X d y (.inr .lreturn :: ops) ls [.long x] (ci, cj, g) Q ↔ Q (some (.long x)) (ci, cj, g) := X_ret rfl rfl
theorem X_areturn (x : Nat) : X d y (.inr .areturn :: ops) ls [.ref x] (ci, cj, g) Q ↔ Q (some (.ref x)) (ci, cj, g) := X_ret rfl rfl
theorem X_return : X d y (.inr .return_ :: ops) ls [] (ci, cj, g) Q ↔ Q none (ci, cj, g) := X_ret rfl rfl
theorem X_zreturn (x : Int32) : X d y (.inr .freturn :: ops) ls [.int x] (ci, cj, g) Q ↔ (x = 0 ∨ x = 1) ∧ Q (some (.int x)) (ci, cj, g) := by
  by_cases hp : x = 0 ∨ x = 1
  · rw [X_ret rfl (show am_r .freturn [.int x] = some (some (.int x)) from if_pos hp)]
    exact ⟨fun q => ⟨hp, q⟩, fun q => q.2⟩
  · rw [X_no (fun n => by simp only [am_x, am_j, am_r, if_neg hp, am_cl, am_s])]
    exact ⟨False.elim, fun q => hp q.1⟩
theorem X_breturn (x : Int32) : X d y (.inr .dreturn :: ops) ls [.int x] (ci, cj, g) Q ↔ (x.toInt8.toInt32 = x) ∧ Q (some (.int x)) (ci, cj, g) := by
  by_cases hp : x.toInt8.toInt32 = x
  · rw [X_ret rfl (show am_r .dreturn [.int x] = some (some (.int x)) from if_pos hp)]
    exact ⟨fun q => ⟨hp, q⟩, fun q => q.2⟩
  · rw [X_no (fun n => by simp only [am_x, am_j, am_r, if_neg hp, am_cl, am_s])]
    exact ⟨False.elim, fun q => hp q.1⟩
theorem X_creturn (x : Int32) : X d y (.inr .fneg :: ops) ls [.int x] (ci, cj, g) Q ↔ (narrow .char (.int x) = .int x) ∧ Q (some (.int x)) (ci, cj, g) := by
  by_cases hp : narrow .char (.int x) = .int x
  · rw [X_ret rfl (show am_r .fneg [.int x] = some (some (.int x)) from if_pos hp)]
    exact ⟨fun q => ⟨hp, q⟩, fun q => q.2⟩
  · rw [X_no (fun n => by simp only [am_x, am_j, am_r, if_neg hp, am_cl, am_s])]
    exact ⟨False.elim, fun q => hp q.1⟩
theorem X_step {i : Instr} {ls' st' : List Value} {h h' : am_H} (e : am_s i ls st h = some (ls', st', h')) (e1 : am_j i st = none) (e2 : am_r i st = none) (e3 : am_cl i st h = none) : X d y (.inr i :: ops) ls st h Q ↔ X d y ops ls' st' h' Q := X_of (fun n => by simp only [am_x, e, e1, e2, e3])
theorem X_stepIf {i : Instr} {p : Prop} {D : Decidable p} {ls' st' : List Value} {h h' : am_H} (e : am_s i ls st h = @ite _ p D (some (ls', st', h')) none) (e1 : am_j i st = none) (e2 : am_r i st = none) (e3 : am_cl i st h = none) : X d y (.inr i :: ops) ls st h Q ↔ p ∧ X d y ops ls' st' h' Q := by
  by_cases hp : p
  · rw [if_pos hp] at e
    rw [X_step e e1 e2 e3]
    exact ⟨fun q => ⟨hp, q⟩, fun q => q.2⟩
  · rw [if_neg hp] at e
    rw [X_no (fun n => by simp only [am_x, e, e1, e2, e3])]
    exact ⟨False.elim, fun q => hp q.1⟩
theorem X_stepNo {i : Instr} {p : Prop} {D : Decidable p} {ls' st' : List Value} {h h' : am_H} (e : am_s i ls st h = @ite _ p D none (some (ls', st', h'))) (e1 : am_j i st = none) (e2 : am_r i st = none) (e3 : am_cl i st h = none) : X d y (.inr i :: ops) ls st h Q ↔ ¬ p ∧ X d y ops ls' st' h' Q := by
  by_cases hp : p
  · rw [if_pos hp] at e
    rw [X_no (fun n => by simp only [am_x, e, e1, e2, e3])]
    exact ⟨False.elim, fun q => q.1 hp⟩
  · rw [if_neg hp] at e
    rw [X_step e e1 e2 e3]
    exact ⟨fun q => ⟨hp, q⟩, fun q => q.2⟩
def ld_i (v : Option Value) : Option (Int32) := match v with
  | some (.int x) => some x
  | _ => none
theorem X_iload (k : Nat) : X d y (.inr (.iload k) :: ops) ls st (ci, cj, g) Q ↔ (match ls[k]? with
    | some (.int x) => X d y ops ls (.int x :: st) (ci, cj, g) Q
    | _ => False) := by
  split
  · rename_i x hx
    exact X_step (by simp only [am_s, hx]) rfl rfl rfl
  · rename_i hx
    refine X_no (fun n => ?_)
    simp only [am_x, am_j, am_r, am_cl, am_s]
def ld_l (v : Option Value) : Option (Int64) := match v with
  | some (.long x) => some x
  | _ => none
theorem X_lload (k : Nat) : X d y (.inr (.lload k) :: ops) ls st (ci, cj, g) Q ↔ (match ls[k]? with
    | some (.long x) => X d y ops ls (.long x :: st) (ci, cj, g) Q
    | _ => False) := by
  split
  · rename_i x hx
    exact X_step (by simp only [am_s, hx]) rfl rfl rfl
  · rename_i hx
    refine X_no (fun n => ?_)
    simp only [am_x, am_j, am_r, am_cl, am_s]
def ld_a (v : Option Value) : Option (Nat) := match v with
  | some (.ref x) => some x
  | _ => none
theorem X_aload (k : Nat) : X d y (.inr (.aload k) :: ops) ls st (ci, cj, g) Q ↔ (match ls[k]? with
    | some (.ref x) => X d y ops ls (.ref x :: st) (ci, cj, g) Q
    | _ => False) := by
  split
  · rename_i x hx
    exact X_step (by simp only [am_s, hx]) rfl rfl rfl
  · rename_i hx
    refine X_no (fun n => ?_)
    simp only [am_x, am_j, am_r, am_cl, am_s]
theorem X_istore (k : Nat) (x : Int32) : X d y (.inr (.istore k) :: ops) ls (.int x :: st) (ci, cj, g) Q ↔ k < ls.length ∧ X d y ops (am_s1 ls k (.int x)) st (ci, cj, g) Q := X_stepIf rfl rfl rfl rfl
theorem X_astore (k : Nat) (x : Nat) : X d y (.inr (.astore k) :: ops) ls (.ref x :: st) (ci, cj, g) Q ↔ k < ls.length ∧ X d y ops (am_s1 ls k (.ref x)) st (ci, cj, g) Q := X_stepIf rfl rfl rfl rfl
theorem X_lstore (k : Nat) (x : Int64) : X d y (.inr (.lstore k) :: ops) ls (.long x :: st) (ci, cj, g) Q ↔ k + 1 < ls.length ∧ X d y ops (am_s2 ls k (.long x)) st (ci, cj, g) Q := X_stepIf rfl rfl rfl rfl
theorem X_iinc (k : Nat) (n : Int) : X d y (.inr (.iinc k n) :: ops) ls st (ci, cj, g) Q ↔ (match ls[k]? with
    | some (.int x) => X d y ops (am_s1 ls k (.int (x + Int32.ofInt n))) st (ci, cj, g) Q
    | _ => False) := by
  split
  · rename_i x hx
    exact X_step (by simp only [am_s, hx]) rfl rfl rfl
  · rename_i hx
    refine X_no (fun n => ?_)
    simp only [am_x, am_j, am_r, am_cl, am_s]
theorem X_iadd (x y1 : Int32) : X d y (.inr .iadd :: ops) ls (.int y1 :: .int x :: st) (ci, cj, g) Q ↔ X d y ops ls (.int (x + y1) :: st) (ci, cj, g) Q := X_step rfl rfl rfl rfl
theorem X_isub (x y1 : Int32) : X d y (.inr .isub :: ops) ls (.int y1 :: .int x :: st) (ci, cj, g) Q ↔ X d y ops ls (.int (x - y1) :: st) (ci, cj, g) Q := X_step rfl rfl rfl rfl
theorem X_imul (x y1 : Int32) : X d y (.inr .imul :: ops) ls (.int y1 :: .int x :: st) (ci, cj, g) Q ↔ X d y ops ls (.int (x * y1) :: st) (ci, cj, g) Q := X_step rfl rfl rfl rfl
theorem X_idiv (x y1 : Int32) : X d y (.inr .idiv :: ops) ls (.int y1 :: .int x :: st) (ci, cj, g) Q ↔ ¬ y1 = 0 ∧ X d y ops ls (.int (x / y1) :: st) (ci, cj, g) Q := X_stepNo rfl rfl rfl rfl
theorem X_irem (x y1 : Int32) : X d y (.inr .irem :: ops) ls (.int y1 :: .int x :: st) (ci, cj, g) Q ↔ ¬ y1 = 0 ∧ X d y ops ls (.int (x - x / y1 * y1) :: st) (ci, cj, g) Q := X_stepNo rfl rfl rfl rfl
theorem X_iand (x y1 : Int32) : X d y (.inr .iand :: ops) ls (.int y1 :: .int x :: st) (ci, cj, g) Q ↔ X d y ops ls (.int (x &&& y1) :: st) (ci, cj, g) Q := X_step rfl rfl rfl rfl
theorem X_ior (x y1 : Int32) : X d y (.inr .ior :: ops) ls (.int y1 :: .int x :: st) (ci, cj, g) Q ↔ X d y ops ls (.int (x ||| y1) :: st) (ci, cj, g) Q := X_step rfl rfl rfl rfl
theorem X_ishl (x y1 : Int32) : X d y (.inr .ishl :: ops) ls (.int y1 :: .int x :: st) (ci, cj, g) Q ↔ X d y ops ls (.int (x <<< (y1 &&& 31)) :: st) (ci, cj, g) Q := X_step rfl rfl rfl rfl
theorem X_ishr (x y1 : Int32) : X d y (.inr .ishr :: ops) ls (.int y1 :: .int x :: st) (ci, cj, g) Q ↔ X d y ops ls (.int (x >>> (y1 &&& 31)) :: st) (ci, cj, g) Q := X_step rfl rfl rfl rfl
theorem X_iushr (x y1 : Int32) : X d y (.inr .iushr :: ops) ls (.int y1 :: .int x :: st) (ci, cj, g) Q ↔ X d y ops ls (.int ((x.toUInt32 >>> (y1.toUInt32 &&& Int32.toUInt32 31)).toInt32) :: st) (ci, cj, g) Q := X_step rfl rfl rfl rfl
theorem X_ladd (x y1 : Int64) : X d y (.inr .ladd :: ops) ls (.long y1 :: .long x :: st) (ci, cj, g) Q ↔ X d y ops ls (.long (x + y1) :: st) (ci, cj, g) Q := X_step rfl rfl rfl rfl
theorem X_lsub (x y1 : Int64) : X d y (.inr .lsub :: ops) ls (.long y1 :: .long x :: st) (ci, cj, g) Q ↔ X d y ops ls (.long (x - y1) :: st) (ci, cj, g) Q := X_step rfl rfl rfl rfl
theorem X_lmul (x y1 : Int64) : X d y (.inr .lmul :: ops) ls (.long y1 :: .long x :: st) (ci, cj, g) Q ↔ X d y ops ls (.long (x * y1) :: st) (ci, cj, g) Q := X_step rfl rfl rfl rfl
theorem X_land (x y1 : Int64) : X d y (.inr .land :: ops) ls (.long y1 :: .long x :: st) (ci, cj, g) Q ↔ X d y ops ls (.long (x &&& y1) :: st) (ci, cj, g) Q := X_step rfl rfl rfl rfl
theorem X_lor (x y1 : Int64) : X d y (.inr .lor :: ops) ls (.long y1 :: .long x :: st) (ci, cj, g) Q ↔ X d y ops ls (.long (x ||| y1) :: st) (ci, cj, g) Q := X_step rfl rfl rfl rfl
theorem X_ldiv (x y1 : Int64) : X d y (.inr .ldiv :: ops) ls (.long y1 :: .long x :: st) (ci, cj, g) Q ↔ ¬ y1 = 0 ∧ X d y ops ls (.long (x / y1) :: st) (ci, cj, g) Q := X_stepNo rfl rfl rfl rfl
theorem X_lshl (x : Int64) (y1 : Int32) : X d y (.inr .lshl :: ops) ls (.int y1 :: .long x :: st) (ci, cj, g) Q ↔ X d y ops ls (.long (x <<< (y1.toInt64 &&& 63)) :: st) (ci, cj, g) Q := X_step rfl rfl rfl rfl
theorem X_lcmp (x y1 : Int64) : X d y (.inr .lcmp :: ops) ls (.long y1 :: .long x :: st) (ci, cj, g) Q ↔ X d y ops ls (.int (lg_cmp x y1) :: st) (ci, cj, g) Q := X_step rfl rfl rfl rfl
theorem X_ineg (x : Int32) : X d y (.inr .ineg :: ops) ls (.int x :: st) (ci, cj, g) Q ↔ X d y ops ls (.int (-x) :: st) (ci, cj, g) Q := X_step rfl rfl rfl rfl
theorem X_i2l (x : Int32) : X d y (.inr .i2l :: ops) ls (.int x :: st) (ci, cj, g) Q ↔ X d y ops ls (.long (x.toInt64) :: st) (ci, cj, g) Q := X_step rfl rfl rfl rfl
theorem X_l2i (x : Int64) : X d y (.inr .l2i :: ops) ls (.long x :: st) (ci, cj, g) Q ↔ X d y ops ls (.int (x.toInt32) :: st) (ci, cj, g) Q := X_step rfl rfl rfl rfl
theorem X_i2b (x : Int32) : X d y (.inr .i2b :: ops) ls (.int x :: st) (ci, cj, g) Q ↔ X d y ops ls (.int (x.toInt8.toInt32) :: st) (ci, cj, g) Q := X_step rfl rfl rfl rfl
theorem X_i2s (x : Int32) : X d y (.inr .i2s :: ops) ls (.int x :: st) (ci, cj, g) Q ↔ X d y ops ls (.int (x.toInt16.toInt32) :: st) (ci, cj, g) Q := X_step rfl rfl rfl rfl
theorem X_i2c (x : Int32) : X d y (.inr .i2c :: ops) ls (.int x :: st) (ci, cj, g) Q ↔ X d y ops ls (.int ((x.toUInt32 % 65536).toInt32) :: st) (ci, cj, g) Q := X_step rfl rfl rfl rfl
theorem X_dupr (x : Nat) : X d y (.inr .dup :: ops) ls (.ref x :: st) (ci, cj, g) Q ↔ X d y ops ls (.ref x :: .ref x :: st) (ci, cj, g) Q := X_step rfl rfl rfl rfl
theorem X_dupi (x : Int32) : X d y (.inr .dup :: ops) ls (.int x :: st) (ci, cj, g) Q ↔ X d y ops ls (.int x :: .int x :: st) (ci, cj, g) Q := X_step rfl rfl rfl rfl
theorem X_dup_x1 (x : Int32) (a : Nat) : X d y (.inr .dup_x1 :: ops) ls (.int x :: .ref a :: st) (ci, cj, g) Q ↔ X d y ops ls (.int x :: .ref a :: .int x :: st) (ci, cj, g) Q := X_step rfl rfl rfl rfl
theorem X_dup2 (x : Int32) (a : Nat) : X d y (.inr .dup2 :: ops) ls (.int x :: .ref a :: st) (ci, cj, g) Q ↔ X d y ops ls (.int x :: .ref a :: .int x :: .ref a :: st) (ci, cj, g) Q := X_step rfl rfl rfl rfl
theorem X_popi (x : Int32) : X d y (.inr .pop :: ops) ls (.int x :: st) (ci, cj, g) Q ↔ X d y ops ls st (ci, cj, g) Q := X_step rfl rfl rfl rfl
theorem X_popr (x : Nat) : X d y (.inr .pop :: ops) ls (.ref x :: st) (ci, cj, g) Q ↔ X d y ops ls st (ci, cj, g) Q := X_step rfl rfl rfl rfl
theorem X_iaload (i : Int32) (a : Nat) : X d y (.inr .iaload :: ops) ls (.int i :: .ref a :: st) (ci, cj, g) Q ↔ ((gk g a = 20 ∨ gk g a = 30) ∧ am_in i (gn g a) = true) ∧ X d y ops ls (.int (ci a i.toNatClampNeg) :: st) (ci, cj, g) Q := X_stepIf rfl rfl rfl rfl
theorem X_baload (i : Int32) (a : Nat) : X d y (.inr .baload :: ops) ls (.int i :: .ref a :: st) (ci, cj, g) Q ↔ ((gk g a = 22 ∨ gk g a = 31) ∧ am_in i (gn g a) = true) ∧ X d y ops ls (.int (ci a i.toNatClampNeg) :: st) (ci, cj, g) Q := X_stepIf rfl rfl rfl rfl
theorem X_laload (i : Int32) (a : Nat) : X d y (.inr .laload :: ops) ls (.int i :: .ref a :: st) (ci, cj, g) Q ↔ (gk g a = 21 ∧ am_in i (gn g a) = true) ∧ X d y ops ls (.long (cj a i.toNatClampNeg) :: st) (ci, cj, g) Q := X_stepIf rfl rfl rfl rfl
theorem X_aaload (i : Int32) (a : Nat) : X d y (.inr .aaload :: ops) ls (.int i :: .ref a :: st) (ci, cj, g) Q ↔ ((gk g a = 23 ∨ gk g a = 24 ∨ gk g a = 25) ∧ am_in i (gn g a) = true) ∧ X d y ops ls (.ref (gr g a i.toNatClampNeg) :: st) (ci, cj, g) Q := X_stepIf rfl rfl rfl rfl
theorem X_iastore (x i : Int32) (a : Nat) : X d y (.inr .iastore :: ops) ls (.int x :: .int i :: .ref a :: st) (ci, cj, g) Q ↔ (gk g a = 20 ∧ am_in i (gn g a) = true) ∧ X d y ops ls st (am_u2 ci a i.toNatClampNeg x, cj, g) Q := X_stepIf rfl rfl rfl rfl
theorem X_bastore (x i : Int32) (a : Nat) : X d y (.inr .bastore :: ops) ls (.int x :: .int i :: .ref a :: st) (ci, cj, g) Q ↔ (gk g a = 22 ∧ am_in i (gn g a) = true) ∧ X d y ops ls st (am_u2 ci a i.toNatClampNeg x.toInt8.toInt32, cj, g) Q := X_stepIf rfl rfl rfl rfl
theorem X_lastore (x : Int64) (i : Int32) (a : Nat) : X d y (.inr .lastore :: ops) ls (.long x :: .int i :: .ref a :: st) (ci, cj, g) Q ↔ (gk g a = 21 ∧ am_in i (gn g a) = true) ∧ X d y ops ls st (ci, am_u2 cj a i.toNatClampNeg x, g) Q := X_stepIf rfl rfl rfl rfl
theorem X_aastore (x : Nat) (i : Int32) (a : Nat) : X d y (.inr .aastore :: ops) ls (.ref x :: .int i :: .ref a :: st) (ci, cj, g) Q ↔ (gk g a = 23 ∧ am_in i (gn g a) = true ∧ 5 ≤ gk g x ∧ gk g x ≤ 11) ∧ X d y ops ls st (ci, cj, am_u2 g.1 a i.toNatClampNeg x, g.2) Q := X_stepIf rfl rfl rfl rfl
theorem X_arraylength (a : Nat) : X d y (.inr .arraylength :: ops) ls (.ref a :: st) (ci, cj, g) Q ↔ (20 ≤ gk g a ∧ gk g a ≤ 31) ∧ X d y ops ls (.int (Int32.ofNat (gn g a)) :: st) (ci, cj, g) Q := X_stepIf rfl rfl rfl rfl
theorem G_0 (a : Nat) : X d y (.inr (.getfield 0) :: ops) ls (.ref a :: st) (ci, cj, g) Q ↔ (gk g a = 1) ∧ X d y ops ls (.ref (gr g a 0) :: st) (ci, cj, g) Q := (X_stepIf (p := 1 ≤ gk g a ∧ gk g a ≤ 1) rfl rfl rfl rfl).trans (and_congr_left' ⟨fun z => Nat.le_antisymm z.2 z.1, fun z => ⟨Nat.le_of_eq z.symm, Nat.le_of_eq z⟩⟩)
theorem P_0 (x : Nat) (a : Nat) : X d y (.inr (.putfield 0) :: ops) ls (.ref x :: .ref a :: st) (ci, cj, g) Q ↔ (2 = 2 ∧ 1 ≤ gk g a ∧ gk g a ≤ 1) ∧ X d y ops ls st (ci, cj, am_u2 g.1 a 0 x, g.2) Q := X_stepIf rfl rfl rfl rfl
theorem G_1 (a : Nat) : X d y (.inr (.getfield 1) :: ops) ls (.ref a :: st) (ci, cj, g) Q ↔ (gk g a = 1) ∧ X d y ops ls (.ref (gr g a 1) :: st) (ci, cj, g) Q := (X_stepIf (p := 1 ≤ gk g a ∧ gk g a ≤ 1) rfl rfl rfl rfl).trans (and_congr_left' ⟨fun z => Nat.le_antisymm z.2 z.1, fun z => ⟨Nat.le_of_eq z.symm, Nat.le_of_eq z⟩⟩)
theorem P_1 (x : Nat) (a : Nat) : X d y (.inr (.putfield 1) :: ops) ls (.ref x :: .ref a :: st) (ci, cj, g) Q ↔ (2 = 2 ∧ 1 ≤ gk g a ∧ gk g a ≤ 1) ∧ X d y ops ls st (ci, cj, am_u2 g.1 a 1 x, g.2) Q := X_stepIf rfl rfl rfl rfl
theorem G_2 (a : Nat) : X d y (.inr (.getfield 2) :: ops) ls (.ref a :: st) (ci, cj, g) Q ↔ (gk g a = 1) ∧ X d y ops ls (.ref (gr g a 2) :: st) (ci, cj, g) Q := (X_stepIf (p := 1 ≤ gk g a ∧ gk g a ≤ 1) rfl rfl rfl rfl).trans (and_congr_left' ⟨fun z => Nat.le_antisymm z.2 z.1, fun z => ⟨Nat.le_of_eq z.symm, Nat.le_of_eq z⟩⟩)
theorem P_2 (x : Nat) (a : Nat) : X d y (.inr (.putfield 2) :: ops) ls (.ref x :: .ref a :: st) (ci, cj, g) Q ↔ (2 = 2 ∧ 1 ≤ gk g a ∧ gk g a ≤ 1) ∧ X d y ops ls st (ci, cj, am_u2 g.1 a 2 x, g.2) Q := X_stepIf rfl rfl rfl rfl
theorem G_3 (a : Nat) : X d y (.inr (.getfield 3) :: ops) ls (.ref a :: st) (ci, cj, g) Q ↔ (gk g a = 1) ∧ X d y ops ls (.ref (gr g a 3) :: st) (ci, cj, g) Q := (X_stepIf (p := 1 ≤ gk g a ∧ gk g a ≤ 1) rfl rfl rfl rfl).trans (and_congr_left' ⟨fun z => Nat.le_antisymm z.2 z.1, fun z => ⟨Nat.le_of_eq z.symm, Nat.le_of_eq z⟩⟩)
theorem P_3 (x : Nat) (a : Nat) : X d y (.inr (.putfield 3) :: ops) ls (.ref x :: .ref a :: st) (ci, cj, g) Q ↔ (2 = 2 ∧ 1 ≤ gk g a ∧ gk g a ≤ 1) ∧ X d y ops ls st (ci, cj, am_u2 g.1 a 3 x, g.2) Q := X_stepIf rfl rfl rfl rfl
theorem G_4 (a : Nat) : X d y (.inr (.getfield 4) :: ops) ls (.ref a :: st) (ci, cj, g) Q ↔ (gk g a = 1) ∧ X d y ops ls (.ref (gr g a 4) :: st) (ci, cj, g) Q := (X_stepIf (p := 1 ≤ gk g a ∧ gk g a ≤ 1) rfl rfl rfl rfl).trans (and_congr_left' ⟨fun z => Nat.le_antisymm z.2 z.1, fun z => ⟨Nat.le_of_eq z.symm, Nat.le_of_eq z⟩⟩)
theorem P_4 (x : Nat) (a : Nat) : X d y (.inr (.putfield 4) :: ops) ls (.ref x :: .ref a :: st) (ci, cj, g) Q ↔ (2 = 2 ∧ 1 ≤ gk g a ∧ gk g a ≤ 1) ∧ X d y ops ls st (ci, cj, am_u2 g.1 a 4 x, g.2) Q := X_stepIf rfl rfl rfl rfl
theorem G_5 (a : Nat) : X d y (.inr (.getfield 5) :: ops) ls (.ref a :: st) (ci, cj, g) Q ↔ (gk g a = 1) ∧ X d y ops ls (.ref (gr g a 5) :: st) (ci, cj, g) Q := (X_stepIf (p := 1 ≤ gk g a ∧ gk g a ≤ 1) rfl rfl rfl rfl).trans (and_congr_left' ⟨fun z => Nat.le_antisymm z.2 z.1, fun z => ⟨Nat.le_of_eq z.symm, Nat.le_of_eq z⟩⟩)
theorem P_5 (x : Nat) (a : Nat) : X d y (.inr (.putfield 5) :: ops) ls (.ref x :: .ref a :: st) (ci, cj, g) Q ↔ (2 = 2 ∧ 1 ≤ gk g a ∧ gk g a ≤ 1) ∧ X d y ops ls st (ci, cj, am_u2 g.1 a 5 x, g.2) Q := X_stepIf rfl rfl rfl rfl
theorem G_6 (a : Nat) : X d y (.inr (.getfield 6) :: ops) ls (.ref a :: st) (ci, cj, g) Q ↔ (gk g a = 1) ∧ X d y ops ls (.ref (gr g a 6) :: st) (ci, cj, g) Q := (X_stepIf (p := 1 ≤ gk g a ∧ gk g a ≤ 1) rfl rfl rfl rfl).trans (and_congr_left' ⟨fun z => Nat.le_antisymm z.2 z.1, fun z => ⟨Nat.le_of_eq z.symm, Nat.le_of_eq z⟩⟩)
theorem P_6 (x : Nat) (a : Nat) : X d y (.inr (.putfield 6) :: ops) ls (.ref x :: .ref a :: st) (ci, cj, g) Q ↔ (2 = 2 ∧ 1 ≤ gk g a ∧ gk g a ≤ 1) ∧ X d y ops ls st (ci, cj, am_u2 g.1 a 6 x, g.2) Q := X_stepIf rfl rfl rfl rfl
theorem G_7 (a : Nat) : X d y (.inr (.getfield 7) :: ops) ls (.ref a :: st) (ci, cj, g) Q ↔ (gk g a = 1) ∧ X d y ops ls (.int (ci a 7) :: st) (ci, cj, g) Q := (X_stepIf (p := 1 ≤ gk g a ∧ gk g a ≤ 1) rfl rfl rfl rfl).trans (and_congr_left' ⟨fun z => Nat.le_antisymm z.2 z.1, fun z => ⟨Nat.le_of_eq z.symm, Nat.le_of_eq z⟩⟩)
theorem P_7 (x : Int32) (a : Nat) : X d y (.inr (.putfield 7) :: ops) ls (.int x :: .ref a :: st) (ci, cj, g) Q ↔ ((3 = 0 ∨ 3 = 3 ∧ (x = 0 ∨ x = 1)) ∧ 1 ≤ gk g a ∧ gk g a ≤ 1) ∧ X d y ops ls st (am_u2 ci a 7 x, cj, g) Q := X_stepIf rfl rfl rfl rfl
theorem G_8 (a : Nat) : X d y (.inr (.getfield 8) :: ops) ls (.ref a :: st) (ci, cj, g) Q ↔ (gk g a = 2) ∧ X d y ops ls (.ref (gr g a 0) :: st) (ci, cj, g) Q := (X_stepIf (p := 2 ≤ gk g a ∧ gk g a ≤ 2) rfl rfl rfl rfl).trans (and_congr_left' ⟨fun z => Nat.le_antisymm z.2 z.1, fun z => ⟨Nat.le_of_eq z.symm, Nat.le_of_eq z⟩⟩)
theorem P_8 (x : Nat) (a : Nat) : X d y (.inr (.putfield 8) :: ops) ls (.ref x :: .ref a :: st) (ci, cj, g) Q ↔ (2 = 2 ∧ 2 ≤ gk g a ∧ gk g a ≤ 2) ∧ X d y ops ls st (ci, cj, am_u2 g.1 a 0 x, g.2) Q := X_stepIf rfl rfl rfl rfl
theorem G_9 (a : Nat) : X d y (.inr (.getfield 9) :: ops) ls (.ref a :: st) (ci, cj, g) Q ↔ (gk g a = 2) ∧ X d y ops ls (.ref (gr g a 1) :: st) (ci, cj, g) Q := (X_stepIf (p := 2 ≤ gk g a ∧ gk g a ≤ 2) rfl rfl rfl rfl).trans (and_congr_left' ⟨fun z => Nat.le_antisymm z.2 z.1, fun z => ⟨Nat.le_of_eq z.symm, Nat.le_of_eq z⟩⟩)
theorem P_9 (x : Nat) (a : Nat) : X d y (.inr (.putfield 9) :: ops) ls (.ref x :: .ref a :: st) (ci, cj, g) Q ↔ (2 = 2 ∧ 2 ≤ gk g a ∧ gk g a ≤ 2) ∧ X d y ops ls st (ci, cj, am_u2 g.1 a 1 x, g.2) Q := X_stepIf rfl rfl rfl rfl
theorem G_10 (a : Nat) : X d y (.inr (.getfield 10) :: ops) ls (.ref a :: st) (ci, cj, g) Q ↔ (gk g a = 2) ∧ X d y ops ls (.ref (gr g a 2) :: st) (ci, cj, g) Q := (X_stepIf (p := 2 ≤ gk g a ∧ gk g a ≤ 2) rfl rfl rfl rfl).trans (and_congr_left' ⟨fun z => Nat.le_antisymm z.2 z.1, fun z => ⟨Nat.le_of_eq z.symm, Nat.le_of_eq z⟩⟩)
theorem P_10 (x : Nat) (a : Nat) : X d y (.inr (.putfield 10) :: ops) ls (.ref x :: .ref a :: st) (ci, cj, g) Q ↔ (2 = 2 ∧ 2 ≤ gk g a ∧ gk g a ≤ 2) ∧ X d y ops ls st (ci, cj, am_u2 g.1 a 2 x, g.2) Q := X_stepIf rfl rfl rfl rfl
theorem G_11 (a : Nat) : X d y (.inr (.getfield 11) :: ops) ls (.ref a :: st) (ci, cj, g) Q ↔ (gk g a = 2) ∧ X d y ops ls (.ref (gr g a 3) :: st) (ci, cj, g) Q := (X_stepIf (p := 2 ≤ gk g a ∧ gk g a ≤ 2) rfl rfl rfl rfl).trans (and_congr_left' ⟨fun z => Nat.le_antisymm z.2 z.1, fun z => ⟨Nat.le_of_eq z.symm, Nat.le_of_eq z⟩⟩)
theorem P_11 (x : Nat) (a : Nat) : X d y (.inr (.putfield 11) :: ops) ls (.ref x :: .ref a :: st) (ci, cj, g) Q ↔ (2 = 2 ∧ 2 ≤ gk g a ∧ gk g a ≤ 2) ∧ X d y ops ls st (ci, cj, am_u2 g.1 a 3 x, g.2) Q := X_stepIf rfl rfl rfl rfl
theorem G_12 (a : Nat) : X d y (.inr (.getfield 12) :: ops) ls (.ref a :: st) (ci, cj, g) Q ↔ (gk g a = 2) ∧ X d y ops ls (.ref (gr g a 4) :: st) (ci, cj, g) Q := (X_stepIf (p := 2 ≤ gk g a ∧ gk g a ≤ 2) rfl rfl rfl rfl).trans (and_congr_left' ⟨fun z => Nat.le_antisymm z.2 z.1, fun z => ⟨Nat.le_of_eq z.symm, Nat.le_of_eq z⟩⟩)
theorem P_12 (x : Nat) (a : Nat) : X d y (.inr (.putfield 12) :: ops) ls (.ref x :: .ref a :: st) (ci, cj, g) Q ↔ (2 = 2 ∧ 2 ≤ gk g a ∧ gk g a ≤ 2) ∧ X d y ops ls st (ci, cj, am_u2 g.1 a 4 x, g.2) Q := X_stepIf rfl rfl rfl rfl
theorem G_13 (a : Nat) : X d y (.inr (.getfield 13) :: ops) ls (.ref a :: st) (ci, cj, g) Q ↔ (gk g a = 2) ∧ X d y ops ls (.ref (gr g a 5) :: st) (ci, cj, g) Q := (X_stepIf (p := 2 ≤ gk g a ∧ gk g a ≤ 2) rfl rfl rfl rfl).trans (and_congr_left' ⟨fun z => Nat.le_antisymm z.2 z.1, fun z => ⟨Nat.le_of_eq z.symm, Nat.le_of_eq z⟩⟩)
theorem P_13 (x : Nat) (a : Nat) : X d y (.inr (.putfield 13) :: ops) ls (.ref x :: .ref a :: st) (ci, cj, g) Q ↔ (2 = 2 ∧ 2 ≤ gk g a ∧ gk g a ≤ 2) ∧ X d y ops ls st (ci, cj, am_u2 g.1 a 5 x, g.2) Q := X_stepIf rfl rfl rfl rfl
theorem G_14 (a : Nat) : X d y (.inr (.getfield 14) :: ops) ls (.ref a :: st) (ci, cj, g) Q ↔ (gk g a = 2) ∧ X d y ops ls (.ref (gr g a 6) :: st) (ci, cj, g) Q := (X_stepIf (p := 2 ≤ gk g a ∧ gk g a ≤ 2) rfl rfl rfl rfl).trans (and_congr_left' ⟨fun z => Nat.le_antisymm z.2 z.1, fun z => ⟨Nat.le_of_eq z.symm, Nat.le_of_eq z⟩⟩)
theorem P_14 (x : Nat) (a : Nat) : X d y (.inr (.putfield 14) :: ops) ls (.ref x :: .ref a :: st) (ci, cj, g) Q ↔ (2 = 2 ∧ 2 ≤ gk g a ∧ gk g a ≤ 2) ∧ X d y ops ls st (ci, cj, am_u2 g.1 a 6 x, g.2) Q := X_stepIf rfl rfl rfl rfl
theorem G_15 (a : Nat) : X d y (.inr (.getfield 15) :: ops) ls (.ref a :: st) (ci, cj, g) Q ↔ (gk g a = 2) ∧ X d y ops ls (.ref (gr g a 7) :: st) (ci, cj, g) Q := (X_stepIf (p := 2 ≤ gk g a ∧ gk g a ≤ 2) rfl rfl rfl rfl).trans (and_congr_left' ⟨fun z => Nat.le_antisymm z.2 z.1, fun z => ⟨Nat.le_of_eq z.symm, Nat.le_of_eq z⟩⟩)
theorem P_15 (x : Nat) (a : Nat) : X d y (.inr (.putfield 15) :: ops) ls (.ref x :: .ref a :: st) (ci, cj, g) Q ↔ (2 = 2 ∧ 2 ≤ gk g a ∧ gk g a ≤ 2) ∧ X d y ops ls st (ci, cj, am_u2 g.1 a 7 x, g.2) Q := X_stepIf rfl rfl rfl rfl
theorem G_16 (a : Nat) : X d y (.inr (.getfield 16) :: ops) ls (.ref a :: st) (ci, cj, g) Q ↔ (gk g a = 2) ∧ X d y ops ls (.int (ci a 8) :: st) (ci, cj, g) Q := (X_stepIf (p := 2 ≤ gk g a ∧ gk g a ≤ 2) rfl rfl rfl rfl).trans (and_congr_left' ⟨fun z => Nat.le_antisymm z.2 z.1, fun z => ⟨Nat.le_of_eq z.symm, Nat.le_of_eq z⟩⟩)
theorem P_16 (x : Int32) (a : Nat) : X d y (.inr (.putfield 16) :: ops) ls (.int x :: .ref a :: st) (ci, cj, g) Q ↔ ((0 = 0 ∨ 0 = 3 ∧ (x = 0 ∨ x = 1)) ∧ 2 ≤ gk g a ∧ gk g a ≤ 2) ∧ X d y ops ls st (am_u2 ci a 8 x, cj, g) Q := X_stepIf rfl rfl rfl rfl
theorem G_17 (a : Nat) : X d y (.inr (.getfield 17) :: ops) ls (.ref a :: st) (ci, cj, g) Q ↔ (gk g a = 2) ∧ X d y ops ls (.int (ci a 9) :: st) (ci, cj, g) Q := (X_stepIf (p := 2 ≤ gk g a ∧ gk g a ≤ 2) rfl rfl rfl rfl).trans (and_congr_left' ⟨fun z => Nat.le_antisymm z.2 z.1, fun z => ⟨Nat.le_of_eq z.symm, Nat.le_of_eq z⟩⟩)
theorem P_17 (x : Int32) (a : Nat) : X d y (.inr (.putfield 17) :: ops) ls (.int x :: .ref a :: st) (ci, cj, g) Q ↔ ((0 = 0 ∨ 0 = 3 ∧ (x = 0 ∨ x = 1)) ∧ 2 ≤ gk g a ∧ gk g a ≤ 2) ∧ X d y ops ls st (am_u2 ci a 9 x, cj, g) Q := X_stepIf rfl rfl rfl rfl
theorem G_18 (a : Nat) : X d y (.inr (.getfield 18) :: ops) ls (.ref a :: st) (ci, cj, g) Q ↔ (gk g a = 2) ∧ X d y ops ls (.int (ci a 10) :: st) (ci, cj, g) Q := (X_stepIf (p := 2 ≤ gk g a ∧ gk g a ≤ 2) rfl rfl rfl rfl).trans (and_congr_left' ⟨fun z => Nat.le_antisymm z.2 z.1, fun z => ⟨Nat.le_of_eq z.symm, Nat.le_of_eq z⟩⟩)
theorem P_18 (x : Int32) (a : Nat) : X d y (.inr (.putfield 18) :: ops) ls (.int x :: .ref a :: st) (ci, cj, g) Q ↔ ((0 = 0 ∨ 0 = 3 ∧ (x = 0 ∨ x = 1)) ∧ 2 ≤ gk g a ∧ gk g a ≤ 2) ∧ X d y ops ls st (am_u2 ci a 10 x, cj, g) Q := X_stepIf rfl rfl rfl rfl
theorem G_19 (a : Nat) : X d y (.inr (.getfield 19) :: ops) ls (.ref a :: st) (ci, cj, g) Q ↔ (gk g a = 2) ∧ X d y ops ls (.int (ci a 11) :: st) (ci, cj, g) Q := (X_stepIf (p := 2 ≤ gk g a ∧ gk g a ≤ 2) rfl rfl rfl rfl).trans (and_congr_left' ⟨fun z => Nat.le_antisymm z.2 z.1, fun z => ⟨Nat.le_of_eq z.symm, Nat.le_of_eq z⟩⟩)
theorem P_19 (x : Int32) (a : Nat) : X d y (.inr (.putfield 19) :: ops) ls (.int x :: .ref a :: st) (ci, cj, g) Q ↔ ((0 = 0 ∨ 0 = 3 ∧ (x = 0 ∨ x = 1)) ∧ 2 ≤ gk g a ∧ gk g a ≤ 2) ∧ X d y ops ls st (am_u2 ci a 11 x, cj, g) Q := X_stepIf rfl rfl rfl rfl
theorem G_20 (a : Nat) : X d y (.inr (.getfield 20) :: ops) ls (.ref a :: st) (ci, cj, g) Q ↔ (gk g a = 3) ∧ X d y ops ls (.ref (gr g a 0) :: st) (ci, cj, g) Q := (X_stepIf (p := 3 ≤ gk g a ∧ gk g a ≤ 3) rfl rfl rfl rfl).trans (and_congr_left' ⟨fun z => Nat.le_antisymm z.2 z.1, fun z => ⟨Nat.le_of_eq z.symm, Nat.le_of_eq z⟩⟩)
theorem P_20 (x : Nat) (a : Nat) : X d y (.inr (.putfield 20) :: ops) ls (.ref x :: .ref a :: st) (ci, cj, g) Q ↔ (2 = 2 ∧ 3 ≤ gk g a ∧ gk g a ≤ 3) ∧ X d y ops ls st (ci, cj, am_u2 g.1 a 0 x, g.2) Q := X_stepIf rfl rfl rfl rfl
theorem G_21 (a : Nat) : X d y (.inr (.getfield 21) :: ops) ls (.ref a :: st) (ci, cj, g) Q ↔ (gk g a = 3) ∧ X d y ops ls (.ref (gr g a 1) :: st) (ci, cj, g) Q := (X_stepIf (p := 3 ≤ gk g a ∧ gk g a ≤ 3) rfl rfl rfl rfl).trans (and_congr_left' ⟨fun z => Nat.le_antisymm z.2 z.1, fun z => ⟨Nat.le_of_eq z.symm, Nat.le_of_eq z⟩⟩)
theorem P_21 (x : Nat) (a : Nat) : X d y (.inr (.putfield 21) :: ops) ls (.ref x :: .ref a :: st) (ci, cj, g) Q ↔ (2 = 2 ∧ 3 ≤ gk g a ∧ gk g a ≤ 3) ∧ X d y ops ls st (ci, cj, am_u2 g.1 a 1 x, g.2) Q := X_stepIf rfl rfl rfl rfl
theorem G_22 (a : Nat) : X d y (.inr (.getfield 22) :: ops) ls (.ref a :: st) (ci, cj, g) Q ↔ (gk g a = 3) ∧ X d y ops ls (.ref (gr g a 2) :: st) (ci, cj, g) Q := (X_stepIf (p := 3 ≤ gk g a ∧ gk g a ≤ 3) rfl rfl rfl rfl).trans (and_congr_left' ⟨fun z => Nat.le_antisymm z.2 z.1, fun z => ⟨Nat.le_of_eq z.symm, Nat.le_of_eq z⟩⟩)
theorem P_22 (x : Nat) (a : Nat) : X d y (.inr (.putfield 22) :: ops) ls (.ref x :: .ref a :: st) (ci, cj, g) Q ↔ (2 = 2 ∧ 3 ≤ gk g a ∧ gk g a ≤ 3) ∧ X d y ops ls st (ci, cj, am_u2 g.1 a 2 x, g.2) Q := X_stepIf rfl rfl rfl rfl
theorem G_23 (a : Nat) : X d y (.inr (.getfield 23) :: ops) ls (.ref a :: st) (ci, cj, g) Q ↔ (gk g a = 3) ∧ X d y ops ls (.ref (gr g a 3) :: st) (ci, cj, g) Q := (X_stepIf (p := 3 ≤ gk g a ∧ gk g a ≤ 3) rfl rfl rfl rfl).trans (and_congr_left' ⟨fun z => Nat.le_antisymm z.2 z.1, fun z => ⟨Nat.le_of_eq z.symm, Nat.le_of_eq z⟩⟩)
theorem P_23 (x : Nat) (a : Nat) : X d y (.inr (.putfield 23) :: ops) ls (.ref x :: .ref a :: st) (ci, cj, g) Q ↔ (2 = 2 ∧ 3 ≤ gk g a ∧ gk g a ≤ 3) ∧ X d y ops ls st (ci, cj, am_u2 g.1 a 3 x, g.2) Q := X_stepIf rfl rfl rfl rfl
theorem G_24 (a : Nat) : X d y (.inr (.getfield 24) :: ops) ls (.ref a :: st) (ci, cj, g) Q ↔ (gk g a = 3) ∧ X d y ops ls (.ref (gr g a 4) :: st) (ci, cj, g) Q := (X_stepIf (p := 3 ≤ gk g a ∧ gk g a ≤ 3) rfl rfl rfl rfl).trans (and_congr_left' ⟨fun z => Nat.le_antisymm z.2 z.1, fun z => ⟨Nat.le_of_eq z.symm, Nat.le_of_eq z⟩⟩)
theorem P_24 (x : Nat) (a : Nat) : X d y (.inr (.putfield 24) :: ops) ls (.ref x :: .ref a :: st) (ci, cj, g) Q ↔ (2 = 2 ∧ 3 ≤ gk g a ∧ gk g a ≤ 3) ∧ X d y ops ls st (ci, cj, am_u2 g.1 a 4 x, g.2) Q := X_stepIf rfl rfl rfl rfl
theorem G_25 (a : Nat) : X d y (.inr (.getfield 25) :: ops) ls (.ref a :: st) (ci, cj, g) Q ↔ (gk g a = 3) ∧ X d y ops ls (.int (ci a 5) :: st) (ci, cj, g) Q := (X_stepIf (p := 3 ≤ gk g a ∧ gk g a ≤ 3) rfl rfl rfl rfl).trans (and_congr_left' ⟨fun z => Nat.le_antisymm z.2 z.1, fun z => ⟨Nat.le_of_eq z.symm, Nat.le_of_eq z⟩⟩)
theorem P_25 (x : Int32) (a : Nat) : X d y (.inr (.putfield 25) :: ops) ls (.int x :: .ref a :: st) (ci, cj, g) Q ↔ ((0 = 0 ∨ 0 = 3 ∧ (x = 0 ∨ x = 1)) ∧ 3 ≤ gk g a ∧ gk g a ≤ 3) ∧ X d y ops ls st (am_u2 ci a 5 x, cj, g) Q := X_stepIf rfl rfl rfl rfl
theorem G_26 (a : Nat) : X d y (.inr (.getfield 26) :: ops) ls (.ref a :: st) (ci, cj, g) Q ↔ (gk g a = 3) ∧ X d y ops ls (.ref (gr g a 6) :: st) (ci, cj, g) Q := (X_stepIf (p := 3 ≤ gk g a ∧ gk g a ≤ 3) rfl rfl rfl rfl).trans (and_congr_left' ⟨fun z => Nat.le_antisymm z.2 z.1, fun z => ⟨Nat.le_of_eq z.symm, Nat.le_of_eq z⟩⟩)
theorem P_26 (x : Nat) (a : Nat) : X d y (.inr (.putfield 26) :: ops) ls (.ref x :: .ref a :: st) (ci, cj, g) Q ↔ (2 = 2 ∧ 3 ≤ gk g a ∧ gk g a ≤ 3) ∧ X d y ops ls st (ci, cj, am_u2 g.1 a 6 x, g.2) Q := X_stepIf rfl rfl rfl rfl
theorem G_27 (a : Nat) : X d y (.inr (.getfield 27) :: ops) ls (.ref a :: st) (ci, cj, g) Q ↔ (gk g a = 3) ∧ X d y ops ls (.ref (gr g a 7) :: st) (ci, cj, g) Q := (X_stepIf (p := 3 ≤ gk g a ∧ gk g a ≤ 3) rfl rfl rfl rfl).trans (and_congr_left' ⟨fun z => Nat.le_antisymm z.2 z.1, fun z => ⟨Nat.le_of_eq z.symm, Nat.le_of_eq z⟩⟩)
theorem P_27 (x : Nat) (a : Nat) : X d y (.inr (.putfield 27) :: ops) ls (.ref x :: .ref a :: st) (ci, cj, g) Q ↔ (2 = 2 ∧ 3 ≤ gk g a ∧ gk g a ≤ 3) ∧ X d y ops ls st (ci, cj, am_u2 g.1 a 7 x, g.2) Q := X_stepIf rfl rfl rfl rfl
theorem G_28 (a : Nat) : X d y (.inr (.getfield 28) :: ops) ls (.ref a :: st) (ci, cj, g) Q ↔ (gk g a = 3) ∧ X d y ops ls (.ref (gr g a 8) :: st) (ci, cj, g) Q := (X_stepIf (p := 3 ≤ gk g a ∧ gk g a ≤ 3) rfl rfl rfl rfl).trans (and_congr_left' ⟨fun z => Nat.le_antisymm z.2 z.1, fun z => ⟨Nat.le_of_eq z.symm, Nat.le_of_eq z⟩⟩)
theorem P_28 (x : Nat) (a : Nat) : X d y (.inr (.putfield 28) :: ops) ls (.ref x :: .ref a :: st) (ci, cj, g) Q ↔ (2 = 2 ∧ 3 ≤ gk g a ∧ gk g a ≤ 3) ∧ X d y ops ls st (ci, cj, am_u2 g.1 a 8 x, g.2) Q := X_stepIf rfl rfl rfl rfl
theorem G_29 (a : Nat) : X d y (.inr (.getfield 29) :: ops) ls (.ref a :: st) (ci, cj, g) Q ↔ (gk g a = 4) ∧ X d y ops ls (.int (ci a 0) :: st) (ci, cj, g) Q := (X_stepIf (p := 4 ≤ gk g a ∧ gk g a ≤ 4) rfl rfl rfl rfl).trans (and_congr_left' ⟨fun z => Nat.le_antisymm z.2 z.1, fun z => ⟨Nat.le_of_eq z.symm, Nat.le_of_eq z⟩⟩)
theorem P_29 (x : Int32) (a : Nat) : X d y (.inr (.putfield 29) :: ops) ls (.int x :: .ref a :: st) (ci, cj, g) Q ↔ ((0 = 0 ∨ 0 = 3 ∧ (x = 0 ∨ x = 1)) ∧ 4 ≤ gk g a ∧ gk g a ≤ 4) ∧ X d y ops ls st (am_u2 ci a 0 x, cj, g) Q := X_stepIf rfl rfl rfl rfl
theorem G_30 (a : Nat) : X d y (.inr (.getfield 30) :: ops) ls (.ref a :: st) (ci, cj, g) Q ↔ (gk g a = 4) ∧ X d y ops ls (.ref (gr g a 1) :: st) (ci, cj, g) Q := (X_stepIf (p := 4 ≤ gk g a ∧ gk g a ≤ 4) rfl rfl rfl rfl).trans (and_congr_left' ⟨fun z => Nat.le_antisymm z.2 z.1, fun z => ⟨Nat.le_of_eq z.symm, Nat.le_of_eq z⟩⟩)
theorem P_30 (x : Nat) (a : Nat) : X d y (.inr (.putfield 30) :: ops) ls (.ref x :: .ref a :: st) (ci, cj, g) Q ↔ (2 = 2 ∧ 4 ≤ gk g a ∧ gk g a ≤ 4) ∧ X d y ops ls st (ci, cj, am_u2 g.1 a 1 x, g.2) Q := X_stepIf rfl rfl rfl rfl
theorem G_31 (a : Nat) : X d y (.inr (.getfield 31) :: ops) ls (.ref a :: st) (ci, cj, g) Q ↔ (gk g a = 4) ∧ X d y ops ls (.int (ci a 2) :: st) (ci, cj, g) Q := (X_stepIf (p := 4 ≤ gk g a ∧ gk g a ≤ 4) rfl rfl rfl rfl).trans (and_congr_left' ⟨fun z => Nat.le_antisymm z.2 z.1, fun z => ⟨Nat.le_of_eq z.symm, Nat.le_of_eq z⟩⟩)
theorem P_31 (x : Int32) (a : Nat) : X d y (.inr (.putfield 31) :: ops) ls (.int x :: .ref a :: st) (ci, cj, g) Q ↔ ((0 = 0 ∨ 0 = 3 ∧ (x = 0 ∨ x = 1)) ∧ 4 ≤ gk g a ∧ gk g a ≤ 4) ∧ X d y ops ls st (am_u2 ci a 2 x, cj, g) Q := X_stepIf rfl rfl rfl rfl
theorem G_32 (a : Nat) : X d y (.inr (.getfield 32) :: ops) ls (.ref a :: st) (ci, cj, g) Q ↔ (gk g a = 4) ∧ X d y ops ls (.int (ci a 3) :: st) (ci, cj, g) Q := (X_stepIf (p := 4 ≤ gk g a ∧ gk g a ≤ 4) rfl rfl rfl rfl).trans (and_congr_left' ⟨fun z => Nat.le_antisymm z.2 z.1, fun z => ⟨Nat.le_of_eq z.symm, Nat.le_of_eq z⟩⟩)
theorem P_32 (x : Int32) (a : Nat) : X d y (.inr (.putfield 32) :: ops) ls (.int x :: .ref a :: st) (ci, cj, g) Q ↔ ((0 = 0 ∨ 0 = 3 ∧ (x = 0 ∨ x = 1)) ∧ 4 ≤ gk g a ∧ gk g a ≤ 4) ∧ X d y ops ls st (am_u2 ci a 3 x, cj, g) Q := X_stepIf rfl rfl rfl rfl
theorem G_33 (a : Nat) : X d y (.inr (.getfield 33) :: ops) ls (.ref a :: st) (ci, cj, g) Q ↔ (gk g a = 4) ∧ X d y ops ls (.int (ci a 4) :: st) (ci, cj, g) Q := (X_stepIf (p := 4 ≤ gk g a ∧ gk g a ≤ 4) rfl rfl rfl rfl).trans (and_congr_left' ⟨fun z => Nat.le_antisymm z.2 z.1, fun z => ⟨Nat.le_of_eq z.symm, Nat.le_of_eq z⟩⟩)
theorem P_33 (x : Int32) (a : Nat) : X d y (.inr (.putfield 33) :: ops) ls (.int x :: .ref a :: st) (ci, cj, g) Q ↔ ((0 = 0 ∨ 0 = 3 ∧ (x = 0 ∨ x = 1)) ∧ 4 ≤ gk g a ∧ gk g a ≤ 4) ∧ X d y ops ls st (am_u2 ci a 4 x, cj, g) Q := X_stepIf rfl rfl rfl rfl
theorem G_34 (a : Nat) : X d y (.inr (.getfield 34) :: ops) ls (.ref a :: st) (ci, cj, g) Q ↔ (gk g a = 4) ∧ X d y ops ls (.int (ci a 5) :: st) (ci, cj, g) Q := (X_stepIf (p := 4 ≤ gk g a ∧ gk g a ≤ 4) rfl rfl rfl rfl).trans (and_congr_left' ⟨fun z => Nat.le_antisymm z.2 z.1, fun z => ⟨Nat.le_of_eq z.symm, Nat.le_of_eq z⟩⟩)
theorem P_34 (x : Int32) (a : Nat) : X d y (.inr (.putfield 34) :: ops) ls (.int x :: .ref a :: st) (ci, cj, g) Q ↔ ((0 = 0 ∨ 0 = 3 ∧ (x = 0 ∨ x = 1)) ∧ 4 ≤ gk g a ∧ gk g a ≤ 4) ∧ X d y ops ls st (am_u2 ci a 5 x, cj, g) Q := X_stepIf rfl rfl rfl rfl
theorem G_35 (a : Nat) : X d y (.inr (.getfield 35) :: ops) ls (.ref a :: st) (ci, cj, g) Q ↔ (gk g a = 5) ∧ X d y ops ls (.int (ci a 0) :: st) (ci, cj, g) Q := (X_stepIf (p := 5 ≤ gk g a ∧ gk g a ≤ 5) rfl rfl rfl rfl).trans (and_congr_left' ⟨fun z => Nat.le_antisymm z.2 z.1, fun z => ⟨Nat.le_of_eq z.symm, Nat.le_of_eq z⟩⟩)
theorem P_35 (x : Int32) (a : Nat) : X d y (.inr (.putfield 35) :: ops) ls (.int x :: .ref a :: st) (ci, cj, g) Q ↔ ((0 = 0 ∨ 0 = 3 ∧ (x = 0 ∨ x = 1)) ∧ 5 ≤ gk g a ∧ gk g a ≤ 5) ∧ X d y ops ls st (am_u2 ci a 0 x, cj, g) Q := X_stepIf rfl rfl rfl rfl
theorem G_36 (a : Nat) : X d y (.inr (.getfield 36) :: ops) ls (.ref a :: st) (ci, cj, g) Q ↔ (gk g a = 5) ∧ X d y ops ls (.ref (gr g a 1) :: st) (ci, cj, g) Q := (X_stepIf (p := 5 ≤ gk g a ∧ gk g a ≤ 5) rfl rfl rfl rfl).trans (and_congr_left' ⟨fun z => Nat.le_antisymm z.2 z.1, fun z => ⟨Nat.le_of_eq z.symm, Nat.le_of_eq z⟩⟩)
theorem P_36 (x : Nat) (a : Nat) : X d y (.inr (.putfield 36) :: ops) ls (.ref x :: .ref a :: st) (ci, cj, g) Q ↔ (2 = 2 ∧ 5 ≤ gk g a ∧ gk g a ≤ 5) ∧ X d y ops ls st (ci, cj, am_u2 g.1 a 1 x, g.2) Q := X_stepIf rfl rfl rfl rfl
theorem G_37 (a : Nat) : X d y (.inr (.getfield 37) :: ops) ls (.ref a :: st) (ci, cj, g) Q ↔ (gk g a = 12) ∧ X d y ops ls (.ref (gr g a 0) :: st) (ci, cj, g) Q := (X_stepIf (p := 12 ≤ gk g a ∧ gk g a ≤ 12) rfl rfl rfl rfl).trans (and_congr_left' ⟨fun z => Nat.le_antisymm z.2 z.1, fun z => ⟨Nat.le_of_eq z.symm, Nat.le_of_eq z⟩⟩)
theorem P_37 (x : Nat) (a : Nat) : X d y (.inr (.putfield 37) :: ops) ls (.ref x :: .ref a :: st) (ci, cj, g) Q ↔ (2 = 2 ∧ 12 ≤ gk g a ∧ gk g a ≤ 12) ∧ X d y ops ls st (ci, cj, am_u2 g.1 a 0 x, g.2) Q := X_stepIf rfl rfl rfl rfl
theorem G_38 (a : Nat) : X d y (.inr (.getfield 38) :: ops) ls (.ref a :: st) (ci, cj, g) Q ↔ (gk g a = 12) ∧ X d y ops ls (.ref (gr g a 1) :: st) (ci, cj, g) Q := (X_stepIf (p := 12 ≤ gk g a ∧ gk g a ≤ 12) rfl rfl rfl rfl).trans (and_congr_left' ⟨fun z => Nat.le_antisymm z.2 z.1, fun z => ⟨Nat.le_of_eq z.symm, Nat.le_of_eq z⟩⟩)
theorem P_38 (x : Nat) (a : Nat) : X d y (.inr (.putfield 38) :: ops) ls (.ref x :: .ref a :: st) (ci, cj, g) Q ↔ (2 = 2 ∧ 12 ≤ gk g a ∧ gk g a ≤ 12) ∧ X d y ops ls st (ci, cj, am_u2 g.1 a 1 x, g.2) Q := X_stepIf rfl rfl rfl rfl
theorem G_39 (a : Nat) : X d y (.inr (.getfield 39) :: ops) ls (.ref a :: st) (ci, cj, g) Q ↔ (gk g a = 12) ∧ X d y ops ls (.ref (gr g a 2) :: st) (ci, cj, g) Q := (X_stepIf (p := 12 ≤ gk g a ∧ gk g a ≤ 12) rfl rfl rfl rfl).trans (and_congr_left' ⟨fun z => Nat.le_antisymm z.2 z.1, fun z => ⟨Nat.le_of_eq z.symm, Nat.le_of_eq z⟩⟩)
theorem P_39 (x : Nat) (a : Nat) : X d y (.inr (.putfield 39) :: ops) ls (.ref x :: .ref a :: st) (ci, cj, g) Q ↔ (2 = 2 ∧ 12 ≤ gk g a ∧ gk g a ≤ 12) ∧ X d y ops ls st (ci, cj, am_u2 g.1 a 2 x, g.2) Q := X_stepIf rfl rfl rfl rfl
theorem G_40 (a : Nat) : X d y (.inr (.getfield 40) :: ops) ls (.ref a :: st) (ci, cj, g) Q ↔ (gk g a = 12) ∧ X d y ops ls (.ref (gr g a 3) :: st) (ci, cj, g) Q := (X_stepIf (p := 12 ≤ gk g a ∧ gk g a ≤ 12) rfl rfl rfl rfl).trans (and_congr_left' ⟨fun z => Nat.le_antisymm z.2 z.1, fun z => ⟨Nat.le_of_eq z.symm, Nat.le_of_eq z⟩⟩)
theorem P_40 (x : Nat) (a : Nat) : X d y (.inr (.putfield 40) :: ops) ls (.ref x :: .ref a :: st) (ci, cj, g) Q ↔ (2 = 2 ∧ 12 ≤ gk g a ∧ gk g a ≤ 12) ∧ X d y ops ls st (ci, cj, am_u2 g.1 a 3 x, g.2) Q := X_stepIf rfl rfl rfl rfl
theorem G_41 (a : Nat) : X d y (.inr (.getfield 41) :: ops) ls (.ref a :: st) (ci, cj, g) Q ↔ (gk g a = 12) ∧ X d y ops ls (.ref (gr g a 4) :: st) (ci, cj, g) Q := (X_stepIf (p := 12 ≤ gk g a ∧ gk g a ≤ 12) rfl rfl rfl rfl).trans (and_congr_left' ⟨fun z => Nat.le_antisymm z.2 z.1, fun z => ⟨Nat.le_of_eq z.symm, Nat.le_of_eq z⟩⟩)
theorem P_41 (x : Nat) (a : Nat) : X d y (.inr (.putfield 41) :: ops) ls (.ref x :: .ref a :: st) (ci, cj, g) Q ↔ (2 = 2 ∧ 12 ≤ gk g a ∧ gk g a ≤ 12) ∧ X d y ops ls st (ci, cj, am_u2 g.1 a 4 x, g.2) Q := X_stepIf rfl rfl rfl rfl
theorem G_42 (a : Nat) : X d y (.inr (.getfield 42) :: ops) ls (.ref a :: st) (ci, cj, g) Q ↔ (gk g a = 12) ∧ X d y ops ls (.ref (gr g a 5) :: st) (ci, cj, g) Q := (X_stepIf (p := 12 ≤ gk g a ∧ gk g a ≤ 12) rfl rfl rfl rfl).trans (and_congr_left' ⟨fun z => Nat.le_antisymm z.2 z.1, fun z => ⟨Nat.le_of_eq z.symm, Nat.le_of_eq z⟩⟩)
theorem P_42 (x : Nat) (a : Nat) : X d y (.inr (.putfield 42) :: ops) ls (.ref x :: .ref a :: st) (ci, cj, g) Q ↔ (2 = 2 ∧ 12 ≤ gk g a ∧ gk g a ≤ 12) ∧ X d y ops ls st (ci, cj, am_u2 g.1 a 5 x, g.2) Q := X_stepIf rfl rfl rfl rfl
theorem G_43 (a : Nat) : X d y (.inr (.getfield 43) :: ops) ls (.ref a :: st) (ci, cj, g) Q ↔ (gk g a = 12) ∧ X d y ops ls (.ref (gr g a 6) :: st) (ci, cj, g) Q := (X_stepIf (p := 12 ≤ gk g a ∧ gk g a ≤ 12) rfl rfl rfl rfl).trans (and_congr_left' ⟨fun z => Nat.le_antisymm z.2 z.1, fun z => ⟨Nat.le_of_eq z.symm, Nat.le_of_eq z⟩⟩)
theorem P_43 (x : Nat) (a : Nat) : X d y (.inr (.putfield 43) :: ops) ls (.ref x :: .ref a :: st) (ci, cj, g) Q ↔ (2 = 2 ∧ 12 ≤ gk g a ∧ gk g a ≤ 12) ∧ X d y ops ls st (ci, cj, am_u2 g.1 a 6 x, g.2) Q := X_stepIf rfl rfl rfl rfl
theorem G_44 (a : Nat) : X d y (.inr (.getfield 44) :: ops) ls (.ref a :: st) (ci, cj, g) Q ↔ (gk g a = 12) ∧ X d y ops ls (.ref (gr g a 7) :: st) (ci, cj, g) Q := (X_stepIf (p := 12 ≤ gk g a ∧ gk g a ≤ 12) rfl rfl rfl rfl).trans (and_congr_left' ⟨fun z => Nat.le_antisymm z.2 z.1, fun z => ⟨Nat.le_of_eq z.symm, Nat.le_of_eq z⟩⟩)
theorem P_44 (x : Nat) (a : Nat) : X d y (.inr (.putfield 44) :: ops) ls (.ref x :: .ref a :: st) (ci, cj, g) Q ↔ (2 = 2 ∧ 12 ≤ gk g a ∧ gk g a ≤ 12) ∧ X d y ops ls st (ci, cj, am_u2 g.1 a 7 x, g.2) Q := X_stepIf rfl rfl rfl rfl
theorem G_45 (a : Nat) : X d y (.inr (.getfield 45) :: ops) ls (.ref a :: st) (ci, cj, g) Q ↔ (gk g a = 12) ∧ X d y ops ls (.int (ci a 8) :: st) (ci, cj, g) Q := (X_stepIf (p := 12 ≤ gk g a ∧ gk g a ≤ 12) rfl rfl rfl rfl).trans (and_congr_left' ⟨fun z => Nat.le_antisymm z.2 z.1, fun z => ⟨Nat.le_of_eq z.symm, Nat.le_of_eq z⟩⟩)
theorem P_45 (x : Int32) (a : Nat) : X d y (.inr (.putfield 45) :: ops) ls (.int x :: .ref a :: st) (ci, cj, g) Q ↔ ((0 = 0 ∨ 0 = 3 ∧ (x = 0 ∨ x = 1)) ∧ 12 ≤ gk g a ∧ gk g a ≤ 12) ∧ X d y ops ls st (am_u2 ci a 8 x, cj, g) Q := X_stepIf rfl rfl rfl rfl
theorem G_46 (a : Nat) : X d y (.inr (.getfield 46) :: ops) ls (.ref a :: st) (ci, cj, g) Q ↔ (gk g a = 12) ∧ X d y ops ls (.ref (gr g a 9) :: st) (ci, cj, g) Q := (X_stepIf (p := 12 ≤ gk g a ∧ gk g a ≤ 12) rfl rfl rfl rfl).trans (and_congr_left' ⟨fun z => Nat.le_antisymm z.2 z.1, fun z => ⟨Nat.le_of_eq z.symm, Nat.le_of_eq z⟩⟩)
theorem P_46 (x : Nat) (a : Nat) : X d y (.inr (.putfield 46) :: ops) ls (.ref x :: .ref a :: st) (ci, cj, g) Q ↔ (2 = 2 ∧ 12 ≤ gk g a ∧ gk g a ≤ 12) ∧ X d y ops ls st (ci, cj, am_u2 g.1 a 9 x, g.2) Q := X_stepIf rfl rfl rfl rfl
theorem G_47 (a : Nat) : X d y (.inr (.getfield 47) :: ops) ls (.ref a :: st) (ci, cj, g) Q ↔ (gk g a = 12) ∧ X d y ops ls (.ref (gr g a 10) :: st) (ci, cj, g) Q := (X_stepIf (p := 12 ≤ gk g a ∧ gk g a ≤ 12) rfl rfl rfl rfl).trans (and_congr_left' ⟨fun z => Nat.le_antisymm z.2 z.1, fun z => ⟨Nat.le_of_eq z.symm, Nat.le_of_eq z⟩⟩)
theorem P_47 (x : Nat) (a : Nat) : X d y (.inr (.putfield 47) :: ops) ls (.ref x :: .ref a :: st) (ci, cj, g) Q ↔ (2 = 2 ∧ 12 ≤ gk g a ∧ gk g a ≤ 12) ∧ X d y ops ls st (ci, cj, am_u2 g.1 a 10 x, g.2) Q := X_stepIf rfl rfl rfl rfl
theorem G_48 (a : Nat) : X d y (.inr (.getfield 48) :: ops) ls (.ref a :: st) (ci, cj, g) Q ↔ (gk g a = 12) ∧ X d y ops ls (.ref (gr g a 11) :: st) (ci, cj, g) Q := (X_stepIf (p := 12 ≤ gk g a ∧ gk g a ≤ 12) rfl rfl rfl rfl).trans (and_congr_left' ⟨fun z => Nat.le_antisymm z.2 z.1, fun z => ⟨Nat.le_of_eq z.symm, Nat.le_of_eq z⟩⟩)
theorem P_48 (x : Nat) (a : Nat) : X d y (.inr (.putfield 48) :: ops) ls (.ref x :: .ref a :: st) (ci, cj, g) Q ↔ (2 = 2 ∧ 12 ≤ gk g a ∧ gk g a ≤ 12) ∧ X d y ops ls st (ci, cj, am_u2 g.1 a 11 x, g.2) Q := X_stepIf rfl rfl rfl rfl
theorem G_49 (a : Nat) : X d y (.inr (.getfield 49) :: ops) ls (.ref a :: st) (ci, cj, g) Q ↔ (gk g a = 12) ∧ X d y ops ls (.ref (gr g a 12) :: st) (ci, cj, g) Q := (X_stepIf (p := 12 ≤ gk g a ∧ gk g a ≤ 12) rfl rfl rfl rfl).trans (and_congr_left' ⟨fun z => Nat.le_antisymm z.2 z.1, fun z => ⟨Nat.le_of_eq z.symm, Nat.le_of_eq z⟩⟩)
theorem P_49 (x : Nat) (a : Nat) : X d y (.inr (.putfield 49) :: ops) ls (.ref x :: .ref a :: st) (ci, cj, g) Q ↔ (2 = 2 ∧ 12 ≤ gk g a ∧ gk g a ≤ 12) ∧ X d y ops ls st (ci, cj, am_u2 g.1 a 12 x, g.2) Q := X_stepIf rfl rfl rfl rfl
theorem G_50 (a : Nat) : X d y (.inr (.getfield 50) :: ops) ls (.ref a :: st) (ci, cj, g) Q ↔ (gk g a = 12) ∧ X d y ops ls (.int (ci a 13) :: st) (ci, cj, g) Q := (X_stepIf (p := 12 ≤ gk g a ∧ gk g a ≤ 12) rfl rfl rfl rfl).trans (and_congr_left' ⟨fun z => Nat.le_antisymm z.2 z.1, fun z => ⟨Nat.le_of_eq z.symm, Nat.le_of_eq z⟩⟩)
theorem P_50 (x : Int32) (a : Nat) : X d y (.inr (.putfield 50) :: ops) ls (.int x :: .ref a :: st) (ci, cj, g) Q ↔ ((0 = 0 ∨ 0 = 3 ∧ (x = 0 ∨ x = 1)) ∧ 12 ≤ gk g a ∧ gk g a ≤ 12) ∧ X d y ops ls st (am_u2 ci a 13 x, cj, g) Q := X_stepIf rfl rfl rfl rfl
theorem G_51 (a : Nat) : X d y (.inr (.getfield 51) :: ops) ls (.ref a :: st) (ci, cj, g) Q ↔ (gk g a = 12) ∧ X d y ops ls (.ref (gr g a 14) :: st) (ci, cj, g) Q := (X_stepIf (p := 12 ≤ gk g a ∧ gk g a ≤ 12) rfl rfl rfl rfl).trans (and_congr_left' ⟨fun z => Nat.le_antisymm z.2 z.1, fun z => ⟨Nat.le_of_eq z.symm, Nat.le_of_eq z⟩⟩)
theorem P_51 (x : Nat) (a : Nat) : X d y (.inr (.putfield 51) :: ops) ls (.ref x :: .ref a :: st) (ci, cj, g) Q ↔ (2 = 2 ∧ 12 ≤ gk g a ∧ gk g a ≤ 12) ∧ X d y ops ls st (ci, cj, am_u2 g.1 a 14 x, g.2) Q := X_stepIf rfl rfl rfl rfl
theorem G_52 (a : Nat) : X d y (.inr (.getfield 52) :: ops) ls (.ref a :: st) (ci, cj, g) Q ↔ (gk g a = 12) ∧ X d y ops ls (.ref (gr g a 15) :: st) (ci, cj, g) Q := (X_stepIf (p := 12 ≤ gk g a ∧ gk g a ≤ 12) rfl rfl rfl rfl).trans (and_congr_left' ⟨fun z => Nat.le_antisymm z.2 z.1, fun z => ⟨Nat.le_of_eq z.symm, Nat.le_of_eq z⟩⟩)
theorem P_52 (x : Nat) (a : Nat) : X d y (.inr (.putfield 52) :: ops) ls (.ref x :: .ref a :: st) (ci, cj, g) Q ↔ (2 = 2 ∧ 12 ≤ gk g a ∧ gk g a ≤ 12) ∧ X d y ops ls st (ci, cj, am_u2 g.1 a 15 x, g.2) Q := X_stepIf rfl rfl rfl rfl
theorem G_53 (a : Nat) : X d y (.inr (.getfield 53) :: ops) ls (.ref a :: st) (ci, cj, g) Q ↔ (gk g a = 12) ∧ X d y ops ls (.ref (gr g a 16) :: st) (ci, cj, g) Q := (X_stepIf (p := 12 ≤ gk g a ∧ gk g a ≤ 12) rfl rfl rfl rfl).trans (and_congr_left' ⟨fun z => Nat.le_antisymm z.2 z.1, fun z => ⟨Nat.le_of_eq z.symm, Nat.le_of_eq z⟩⟩)
theorem P_53 (x : Nat) (a : Nat) : X d y (.inr (.putfield 53) :: ops) ls (.ref x :: .ref a :: st) (ci, cj, g) Q ↔ (2 = 2 ∧ 12 ≤ gk g a ∧ gk g a ≤ 12) ∧ X d y ops ls st (ci, cj, am_u2 g.1 a 16 x, g.2) Q := X_stepIf rfl rfl rfl rfl
theorem G_54 (a : Nat) : X d y (.inr (.getfield 54) :: ops) ls (.ref a :: st) (ci, cj, g) Q ↔ (gk g a = 12) ∧ X d y ops ls (.int (ci a 17) :: st) (ci, cj, g) Q := (X_stepIf (p := 12 ≤ gk g a ∧ gk g a ≤ 12) rfl rfl rfl rfl).trans (and_congr_left' ⟨fun z => Nat.le_antisymm z.2 z.1, fun z => ⟨Nat.le_of_eq z.symm, Nat.le_of_eq z⟩⟩)
theorem P_54 (x : Int32) (a : Nat) : X d y (.inr (.putfield 54) :: ops) ls (.int x :: .ref a :: st) (ci, cj, g) Q ↔ ((0 = 0 ∨ 0 = 3 ∧ (x = 0 ∨ x = 1)) ∧ 12 ≤ gk g a ∧ gk g a ≤ 12) ∧ X d y ops ls st (am_u2 ci a 17 x, cj, g) Q := X_stepIf rfl rfl rfl rfl
theorem G_55 (a : Nat) : X d y (.inr (.getfield 55) :: ops) ls (.ref a :: st) (ci, cj, g) Q ↔ (gk g a = 12) ∧ X d y ops ls (.ref (gr g a 18) :: st) (ci, cj, g) Q := (X_stepIf (p := 12 ≤ gk g a ∧ gk g a ≤ 12) rfl rfl rfl rfl).trans (and_congr_left' ⟨fun z => Nat.le_antisymm z.2 z.1, fun z => ⟨Nat.le_of_eq z.symm, Nat.le_of_eq z⟩⟩)
theorem P_55 (x : Nat) (a : Nat) : X d y (.inr (.putfield 55) :: ops) ls (.ref x :: .ref a :: st) (ci, cj, g) Q ↔ (2 = 2 ∧ 12 ≤ gk g a ∧ gk g a ≤ 12) ∧ X d y ops ls st (ci, cj, am_u2 g.1 a 18 x, g.2) Q := X_stepIf rfl rfl rfl rfl
theorem G_56 (a : Nat) : X d y (.inr (.getfield 56) :: ops) ls (.ref a :: st) (ci, cj, g) Q ↔ (gk g a = 12) ∧ X d y ops ls (.ref (gr g a 19) :: st) (ci, cj, g) Q := (X_stepIf (p := 12 ≤ gk g a ∧ gk g a ≤ 12) rfl rfl rfl rfl).trans (and_congr_left' ⟨fun z => Nat.le_antisymm z.2 z.1, fun z => ⟨Nat.le_of_eq z.symm, Nat.le_of_eq z⟩⟩)
theorem P_56 (x : Nat) (a : Nat) : X d y (.inr (.putfield 56) :: ops) ls (.ref x :: .ref a :: st) (ci, cj, g) Q ↔ (2 = 2 ∧ 12 ≤ gk g a ∧ gk g a ≤ 12) ∧ X d y ops ls st (ci, cj, am_u2 g.1 a 19 x, g.2) Q := X_stepIf rfl rfl rfl rfl
theorem G_57 (a : Nat) : X d y (.inr (.getfield 57) :: ops) ls (.ref a :: st) (ci, cj, g) Q ↔ (gk g a = 12) ∧ X d y ops ls (.int (ci a 20) :: st) (ci, cj, g) Q := (X_stepIf (p := 12 ≤ gk g a ∧ gk g a ≤ 12) rfl rfl rfl rfl).trans (and_congr_left' ⟨fun z => Nat.le_antisymm z.2 z.1, fun z => ⟨Nat.le_of_eq z.symm, Nat.le_of_eq z⟩⟩)
theorem P_57 (x : Int32) (a : Nat) : X d y (.inr (.putfield 57) :: ops) ls (.int x :: .ref a :: st) (ci, cj, g) Q ↔ ((0 = 0 ∨ 0 = 3 ∧ (x = 0 ∨ x = 1)) ∧ 12 ≤ gk g a ∧ gk g a ≤ 12) ∧ X d y ops ls st (am_u2 ci a 20 x, cj, g) Q := X_stepIf rfl rfl rfl rfl
theorem G_58 (a : Nat) : X d y (.inr (.getfield 58) :: ops) ls (.ref a :: st) (ci, cj, g) Q ↔ (gk g a = 12) ∧ X d y ops ls (.int (ci a 21) :: st) (ci, cj, g) Q := (X_stepIf (p := 12 ≤ gk g a ∧ gk g a ≤ 12) rfl rfl rfl rfl).trans (and_congr_left' ⟨fun z => Nat.le_antisymm z.2 z.1, fun z => ⟨Nat.le_of_eq z.symm, Nat.le_of_eq z⟩⟩)
theorem P_58 (x : Int32) (a : Nat) : X d y (.inr (.putfield 58) :: ops) ls (.int x :: .ref a :: st) (ci, cj, g) Q ↔ ((0 = 0 ∨ 0 = 3 ∧ (x = 0 ∨ x = 1)) ∧ 12 ≤ gk g a ∧ gk g a ≤ 12) ∧ X d y ops ls st (am_u2 ci a 21 x, cj, g) Q := X_stepIf rfl rfl rfl rfl
theorem G_59 (a : Nat) : X d y (.inr (.getfield 59) :: ops) ls (.ref a :: st) (ci, cj, g) Q ↔ (gk g a = 12) ∧ X d y ops ls (.int (ci a 22) :: st) (ci, cj, g) Q := (X_stepIf (p := 12 ≤ gk g a ∧ gk g a ≤ 12) rfl rfl rfl rfl).trans (and_congr_left' ⟨fun z => Nat.le_antisymm z.2 z.1, fun z => ⟨Nat.le_of_eq z.symm, Nat.le_of_eq z⟩⟩)
theorem P_59 (x : Int32) (a : Nat) : X d y (.inr (.putfield 59) :: ops) ls (.int x :: .ref a :: st) (ci, cj, g) Q ↔ ((0 = 0 ∨ 0 = 3 ∧ (x = 0 ∨ x = 1)) ∧ 12 ≤ gk g a ∧ gk g a ≤ 12) ∧ X d y ops ls st (am_u2 ci a 22 x, cj, g) Q := X_stepIf rfl rfl rfl rfl
theorem G_60 (a : Nat) : X d y (.inr (.getfield 60) :: ops) ls (.ref a :: st) (ci, cj, g) Q ↔ (gk g a = 12) ∧ X d y ops ls (.long (cj a 23) :: st) (ci, cj, g) Q := (X_stepIf (p := 12 ≤ gk g a ∧ gk g a ≤ 12) rfl rfl rfl rfl).trans (and_congr_left' ⟨fun z => Nat.le_antisymm z.2 z.1, fun z => ⟨Nat.le_of_eq z.symm, Nat.le_of_eq z⟩⟩)
theorem P_60 (x : Int64) (a : Nat) : X d y (.inr (.putfield 60) :: ops) ls (.long x :: .ref a :: st) (ci, cj, g) Q ↔ (1 = 1 ∧ 12 ≤ gk g a ∧ gk g a ≤ 12) ∧ X d y ops ls st (ci, am_u2 cj a 23 x, g) Q := X_stepIf rfl rfl rfl rfl
theorem G_61 (a : Nat) : X d y (.inr (.getfield 61) :: ops) ls (.ref a :: st) (ci, cj, g) Q ↔ (gk g a = 12) ∧ X d y ops ls (.int (ci a 24) :: st) (ci, cj, g) Q := (X_stepIf (p := 12 ≤ gk g a ∧ gk g a ≤ 12) rfl rfl rfl rfl).trans (and_congr_left' ⟨fun z => Nat.le_antisymm z.2 z.1, fun z => ⟨Nat.le_of_eq z.symm, Nat.le_of_eq z⟩⟩)
theorem P_61 (x : Int32) (a : Nat) : X d y (.inr (.putfield 61) :: ops) ls (.int x :: .ref a :: st) (ci, cj, g) Q ↔ ((0 = 0 ∨ 0 = 3 ∧ (x = 0 ∨ x = 1)) ∧ 12 ≤ gk g a ∧ gk g a ≤ 12) ∧ X d y ops ls st (am_u2 ci a 24 x, cj, g) Q := X_stepIf rfl rfl rfl rfl
theorem G_62 (a : Nat) : X d y (.inr (.getfield 62) :: ops) ls (.ref a :: st) (ci, cj, g) Q ↔ (gk g a = 12) ∧ X d y ops ls (.ref (gr g a 25) :: st) (ci, cj, g) Q := (X_stepIf (p := 12 ≤ gk g a ∧ gk g a ≤ 12) rfl rfl rfl rfl).trans (and_congr_left' ⟨fun z => Nat.le_antisymm z.2 z.1, fun z => ⟨Nat.le_of_eq z.symm, Nat.le_of_eq z⟩⟩)
theorem P_62 (x : Nat) (a : Nat) : X d y (.inr (.putfield 62) :: ops) ls (.ref x :: .ref a :: st) (ci, cj, g) Q ↔ (2 = 2 ∧ 12 ≤ gk g a ∧ gk g a ≤ 12) ∧ X d y ops ls st (ci, cj, am_u2 g.1 a 25 x, g.2) Q := X_stepIf rfl rfl rfl rfl
theorem G_63 (a : Nat) : X d y (.inr (.getfield 63) :: ops) ls (.ref a :: st) (ci, cj, g) Q ↔ (gk g a = 12) ∧ X d y ops ls (.int (ci a 26) :: st) (ci, cj, g) Q := (X_stepIf (p := 12 ≤ gk g a ∧ gk g a ≤ 12) rfl rfl rfl rfl).trans (and_congr_left' ⟨fun z => Nat.le_antisymm z.2 z.1, fun z => ⟨Nat.le_of_eq z.symm, Nat.le_of_eq z⟩⟩)
theorem P_63 (x : Int32) (a : Nat) : X d y (.inr (.putfield 63) :: ops) ls (.int x :: .ref a :: st) (ci, cj, g) Q ↔ ((0 = 0 ∨ 0 = 3 ∧ (x = 0 ∨ x = 1)) ∧ 12 ≤ gk g a ∧ gk g a ≤ 12) ∧ X d y ops ls st (am_u2 ci a 26 x, cj, g) Q := X_stepIf rfl rfl rfl rfl
theorem G_64 (a : Nat) : X d y (.inr (.getfield 64) :: ops) ls (.ref a :: st) (ci, cj, g) Q ↔ (gk g a = 12) ∧ X d y ops ls (.ref (gr g a 27) :: st) (ci, cj, g) Q := (X_stepIf (p := 12 ≤ gk g a ∧ gk g a ≤ 12) rfl rfl rfl rfl).trans (and_congr_left' ⟨fun z => Nat.le_antisymm z.2 z.1, fun z => ⟨Nat.le_of_eq z.symm, Nat.le_of_eq z⟩⟩)
theorem P_64 (x : Nat) (a : Nat) : X d y (.inr (.putfield 64) :: ops) ls (.ref x :: .ref a :: st) (ci, cj, g) Q ↔ (2 = 2 ∧ 12 ≤ gk g a ∧ gk g a ≤ 12) ∧ X d y ops ls st (ci, cj, am_u2 g.1 a 27 x, g.2) Q := X_stepIf rfl rfl rfl rfl
theorem G_65 (a : Nat) : X d y (.inr (.getfield 65) :: ops) ls (.ref a :: st) (ci, cj, g) Q ↔ (gk g a = 12) ∧ X d y ops ls (.ref (gr g a 28) :: st) (ci, cj, g) Q := (X_stepIf (p := 12 ≤ gk g a ∧ gk g a ≤ 12) rfl rfl rfl rfl).trans (and_congr_left' ⟨fun z => Nat.le_antisymm z.2 z.1, fun z => ⟨Nat.le_of_eq z.symm, Nat.le_of_eq z⟩⟩)
theorem P_65 (x : Nat) (a : Nat) : X d y (.inr (.putfield 65) :: ops) ls (.ref x :: .ref a :: st) (ci, cj, g) Q ↔ (2 = 2 ∧ 12 ≤ gk g a ∧ gk g a ≤ 12) ∧ X d y ops ls st (ci, cj, am_u2 g.1 a 28 x, g.2) Q := X_stepIf rfl rfl rfl rfl
theorem G_66 (a : Nat) : X d y (.inr (.getfield 66) :: ops) ls (.ref a :: st) (ci, cj, g) Q ↔ (gk g a = 12) ∧ X d y ops ls (.ref (gr g a 29) :: st) (ci, cj, g) Q := (X_stepIf (p := 12 ≤ gk g a ∧ gk g a ≤ 12) rfl rfl rfl rfl).trans (and_congr_left' ⟨fun z => Nat.le_antisymm z.2 z.1, fun z => ⟨Nat.le_of_eq z.symm, Nat.le_of_eq z⟩⟩)
theorem P_66 (x : Nat) (a : Nat) : X d y (.inr (.putfield 66) :: ops) ls (.ref x :: .ref a :: st) (ci, cj, g) Q ↔ (2 = 2 ∧ 12 ≤ gk g a ∧ gk g a ≤ 12) ∧ X d y ops ls st (ci, cj, am_u2 g.1 a 29 x, g.2) Q := X_stepIf rfl rfl rfl rfl
theorem G_67 (a : Nat) : X d y (.inr (.getfield 67) :: ops) ls (.ref a :: st) (ci, cj, g) Q ↔ (gk g a = 12) ∧ X d y ops ls (.ref (gr g a 30) :: st) (ci, cj, g) Q := (X_stepIf (p := 12 ≤ gk g a ∧ gk g a ≤ 12) rfl rfl rfl rfl).trans (and_congr_left' ⟨fun z => Nat.le_antisymm z.2 z.1, fun z => ⟨Nat.le_of_eq z.symm, Nat.le_of_eq z⟩⟩)
theorem P_67 (x : Nat) (a : Nat) : X d y (.inr (.putfield 67) :: ops) ls (.ref x :: .ref a :: st) (ci, cj, g) Q ↔ (2 = 2 ∧ 12 ≤ gk g a ∧ gk g a ≤ 12) ∧ X d y ops ls st (ci, cj, am_u2 g.1 a 30 x, g.2) Q := X_stepIf rfl rfl rfl rfl
theorem G_68 (a : Nat) : X d y (.inr (.getfield 68) :: ops) ls (.ref a :: st) (ci, cj, g) Q ↔ (gk g a = 12) ∧ X d y ops ls (.ref (gr g a 31) :: st) (ci, cj, g) Q := (X_stepIf (p := 12 ≤ gk g a ∧ gk g a ≤ 12) rfl rfl rfl rfl).trans (and_congr_left' ⟨fun z => Nat.le_antisymm z.2 z.1, fun z => ⟨Nat.le_of_eq z.symm, Nat.le_of_eq z⟩⟩)
theorem P_68 (x : Nat) (a : Nat) : X d y (.inr (.putfield 68) :: ops) ls (.ref x :: .ref a :: st) (ci, cj, g) Q ↔ (2 = 2 ∧ 12 ≤ gk g a ∧ gk g a ≤ 12) ∧ X d y ops ls st (ci, cj, am_u2 g.1 a 31 x, g.2) Q := X_stepIf rfl rfl rfl rfl
theorem G_69 (a : Nat) : X d y (.inr (.getfield 69) :: ops) ls (.ref a :: st) (ci, cj, g) Q ↔ (gk g a = 12) ∧ X d y ops ls (.ref (gr g a 32) :: st) (ci, cj, g) Q := (X_stepIf (p := 12 ≤ gk g a ∧ gk g a ≤ 12) rfl rfl rfl rfl).trans (and_congr_left' ⟨fun z => Nat.le_antisymm z.2 z.1, fun z => ⟨Nat.le_of_eq z.symm, Nat.le_of_eq z⟩⟩)
theorem P_69 (x : Nat) (a : Nat) : X d y (.inr (.putfield 69) :: ops) ls (.ref x :: .ref a :: st) (ci, cj, g) Q ↔ (2 = 2 ∧ 12 ≤ gk g a ∧ gk g a ≤ 12) ∧ X d y ops ls st (ci, cj, am_u2 g.1 a 32 x, g.2) Q := X_stepIf rfl rfl rfl rfl
theorem G_70 (a : Nat) : X d y (.inr (.getfield 70) :: ops) ls (.ref a :: st) (ci, cj, g) Q ↔ (gk g a = 12) ∧ X d y ops ls (.long (cj a 33) :: st) (ci, cj, g) Q := (X_stepIf (p := 12 ≤ gk g a ∧ gk g a ≤ 12) rfl rfl rfl rfl).trans (and_congr_left' ⟨fun z => Nat.le_antisymm z.2 z.1, fun z => ⟨Nat.le_of_eq z.symm, Nat.le_of_eq z⟩⟩)
theorem P_70 (x : Int64) (a : Nat) : X d y (.inr (.putfield 70) :: ops) ls (.long x :: .ref a :: st) (ci, cj, g) Q ↔ (1 = 1 ∧ 12 ≤ gk g a ∧ gk g a ≤ 12) ∧ X d y ops ls st (ci, am_u2 cj a 33 x, g) Q := X_stepIf rfl rfl rfl rfl
theorem G_71 (a : Nat) : X d y (.inr (.getfield 71) :: ops) ls (.ref a :: st) (ci, cj, g) Q ↔ (gk g a = 12) ∧ X d y ops ls (.int (ci a 34) :: st) (ci, cj, g) Q := (X_stepIf (p := 12 ≤ gk g a ∧ gk g a ≤ 12) rfl rfl rfl rfl).trans (and_congr_left' ⟨fun z => Nat.le_antisymm z.2 z.1, fun z => ⟨Nat.le_of_eq z.symm, Nat.le_of_eq z⟩⟩)
theorem P_71 (x : Int32) (a : Nat) : X d y (.inr (.putfield 71) :: ops) ls (.int x :: .ref a :: st) (ci, cj, g) Q ↔ ((3 = 0 ∨ 3 = 3 ∧ (x = 0 ∨ x = 1)) ∧ 12 ≤ gk g a ∧ gk g a ≤ 12) ∧ X d y ops ls st (am_u2 ci a 34 x, cj, g) Q := X_stepIf rfl rfl rfl rfl
theorem G_72 (a : Nat) : X d y (.inr (.getfield 72) :: ops) ls (.ref a :: st) (ci, cj, g) Q ↔ (gk g a = 12) ∧ X d y ops ls (.int (ci a 35) :: st) (ci, cj, g) Q := (X_stepIf (p := 12 ≤ gk g a ∧ gk g a ≤ 12) rfl rfl rfl rfl).trans (and_congr_left' ⟨fun z => Nat.le_antisymm z.2 z.1, fun z => ⟨Nat.le_of_eq z.symm, Nat.le_of_eq z⟩⟩)
theorem P_72 (x : Int32) (a : Nat) : X d y (.inr (.putfield 72) :: ops) ls (.int x :: .ref a :: st) (ci, cj, g) Q ↔ ((0 = 0 ∨ 0 = 3 ∧ (x = 0 ∨ x = 1)) ∧ 12 ≤ gk g a ∧ gk g a ≤ 12) ∧ X d y ops ls st (am_u2 ci a 35 x, cj, g) Q := X_stepIf rfl rfl rfl rfl
theorem G_73 (a : Nat) : X d y (.inr (.getfield 73) :: ops) ls (.ref a :: st) (ci, cj, g) Q ↔ (gk g a = 12) ∧ X d y ops ls (.int (ci a 36) :: st) (ci, cj, g) Q := (X_stepIf (p := 12 ≤ gk g a ∧ gk g a ≤ 12) rfl rfl rfl rfl).trans (and_congr_left' ⟨fun z => Nat.le_antisymm z.2 z.1, fun z => ⟨Nat.le_of_eq z.symm, Nat.le_of_eq z⟩⟩)
theorem P_73 (x : Int32) (a : Nat) : X d y (.inr (.putfield 73) :: ops) ls (.int x :: .ref a :: st) (ci, cj, g) Q ↔ ((0 = 0 ∨ 0 = 3 ∧ (x = 0 ∨ x = 1)) ∧ 12 ≤ gk g a ∧ gk g a ≤ 12) ∧ X d y ops ls st (am_u2 ci a 36 x, cj, g) Q := X_stepIf rfl rfl rfl rfl
theorem G_74 (a : Nat) : X d y (.inr (.getfield 74) :: ops) ls (.ref a :: st) (ci, cj, g) Q ↔ (gk g a = 12) ∧ X d y ops ls (.int (ci a 37) :: st) (ci, cj, g) Q := (X_stepIf (p := 12 ≤ gk g a ∧ gk g a ≤ 12) rfl rfl rfl rfl).trans (and_congr_left' ⟨fun z => Nat.le_antisymm z.2 z.1, fun z => ⟨Nat.le_of_eq z.symm, Nat.le_of_eq z⟩⟩)
theorem P_74 (x : Int32) (a : Nat) : X d y (.inr (.putfield 74) :: ops) ls (.int x :: .ref a :: st) (ci, cj, g) Q ↔ ((0 = 0 ∨ 0 = 3 ∧ (x = 0 ∨ x = 1)) ∧ 12 ≤ gk g a ∧ gk g a ≤ 12) ∧ X d y ops ls st (am_u2 ci a 37 x, cj, g) Q := X_stepIf rfl rfl rfl rfl
theorem G_75 (a : Nat) : X d y (.inr (.getfield 75) :: ops) ls (.ref a :: st) (ci, cj, g) Q ↔ (6 ≤ gk g a ∧ gk g a ≤ 11) ∧ X d y ops ls (.int (ci a 0) :: st) (ci, cj, g) Q := (X_stepIf (p := 6 ≤ gk g a ∧ gk g a ≤ 11) rfl rfl rfl rfl)
theorem P_75 (x : Int32) (a : Nat) : X d y (.inr (.putfield 75) :: ops) ls (.int x :: .ref a :: st) (ci, cj, g) Q ↔ ((0 = 0 ∨ 0 = 3 ∧ (x = 0 ∨ x = 1)) ∧ 6 ≤ gk g a ∧ gk g a ≤ 11) ∧ X d y ops ls st (am_u2 ci a 0 x, cj, g) Q := X_stepIf rfl rfl rfl rfl
theorem X_strv (a : Nat) : X d y (.inr (.getstatic 0) :: ops) ls (.ref a :: st) (ci, cj, g) Q ↔ gk g a = 40 ∧ X d y ops ls (.ref (gr g a 0) :: st) (ci, cj, g) Q := X_stepIf rfl rfl rfl rfl
theorem X_strc (a : Nat) : X d y (.inr (.getstatic 1) :: ops) ls (.ref a :: st) (ci, cj, g) Q ↔ gk g a = 40 ∧ X d y ops ls (.int 0 :: st) (ci, cj, g) Q := X_stepIf rfl rfl rfl rfl
def gA (g : am_G) (k n : Nat) : am_G := (am_u1 g.1 (g.2.2.1 + 32) (fun _ => 0), am_u1 g.2.1 (g.2.2.1 + 32) (k, n), g.2.2.1 + 1, g.2.2.2 + n)
def z1 {α : Type} (f : Nat → Nat → α) (z : α) (a : Nat) : Nat → Nat → α := am_u1 f a (fun _ => z)
theorem X_new (c : Nat) : X d y (.inr (.new c) :: ops) ls st (ci, cj, g) Q ↔ (1 ≤ c ∧ c ≤ 12 ∧ g.2.2.1 + 1 ≤ 600000 ∧ g.2.2.2 + am_sz c ≤ 7302250) ∧ X d y ops ls (.ref (g.2.2.1 + 32) :: st) (z1 ci 0 (g.2.2.1 + 32), z1 cj 0 (g.2.2.1 + 32), gA g c (am_sz c)) Q := X_stepIf rfl rfl rfl rfl
theorem X_newa_int (n : Int32) : X d y (.inr (.newarray .int) :: ops) ls (.int n :: st) (ci, cj, g) Q ↔ (0 ≤ n.toInt ∧ n.toInt ≤ 10000 ∧ g.2.2.1 + 1 ≤ 600000 ∧ g.2.2.2 + n.toNatClampNeg ≤ 7302250) ∧ X d y ops ls (.ref (g.2.2.1 + 32) :: st) (z1 ci 0 (g.2.2.1 + 32), z1 cj 0 (g.2.2.1 + 32), gA g 20 n.toNatClampNeg) Q := X_stepIf rfl rfl rfl rfl
theorem X_newa_long (n : Int32) : X d y (.inr (.newarray .long) :: ops) ls (.int n :: st) (ci, cj, g) Q ↔ (0 ≤ n.toInt ∧ n.toInt ≤ 10000 ∧ g.2.2.1 + 1 ≤ 600000 ∧ g.2.2.2 + n.toNatClampNeg ≤ 7302250) ∧ X d y ops ls (.ref (g.2.2.1 + 32) :: st) (z1 ci 0 (g.2.2.1 + 32), z1 cj 0 (g.2.2.1 + 32), gA g 21 n.toNatClampNeg) Q := X_stepIf rfl rfl rfl rfl
theorem X_newa_byte (n : Int32) : X d y (.inr (.newarray .byte) :: ops) ls (.int n :: st) (ci, cj, g) Q ↔ (0 ≤ n.toInt ∧ n.toInt ≤ 10000 ∧ g.2.2.1 + 1 ≤ 600000 ∧ g.2.2.2 + n.toNatClampNeg ≤ 7302250) ∧ X d y ops ls (.ref (g.2.2.1 + 32) :: st) (z1 ci 0 (g.2.2.1 + 32), z1 cj 0 (g.2.2.1 + 32), gA g 22 n.toNatClampNeg) Q := X_stepIf rfl rfl rfl rfl
theorem X_newa_q (z : Nat) (n : Int32) : X d y (.inr (.anewarray z) :: ops) ls (.int n :: st) (ci, cj, g) Q ↔ (0 ≤ n.toInt ∧ n.toInt ≤ 10000 ∧ g.2.2.1 + 1 ≤ 600000 ∧ g.2.2.2 + n.toNatClampNeg ≤ 7302250) ∧ X d y ops ls (.ref (g.2.2.1 + 32) :: st) (z1 ci 0 (g.2.2.1 + 32), z1 cj 0 (g.2.2.1 + 32), gA g 23 n.toNatClampNeg) Q := X_stepIf rfl rfl rfl rfl
def z2 {α : Type} (f : Nat → Nat → α) (z : α) (a n : Nat) : Nat → Nat → α := fun b => if a ≤ b ∧ b ≤ a + n then fun _ => z else f b
def gA2 (g : am_G) (k k1 n m : Nat) : am_G :=
  (fun b => if b = g.2.2.1 + 32 then (fun j => if j < n then g.2.2.1 + 33 + j else 0) else if g.2.2.1 + 32 ≤ b ∧ b ≤ g.2.2.1 + 32 + n then fun _ => 0 else g.1 b,
   fun b => if b = g.2.2.1 + 32 then (k, n) else if g.2.2.1 + 32 ≤ b ∧ b ≤ g.2.2.1 + 32 + n then (k1, m) else g.2.1 b, g.2.2.1 + (1 + n), g.2.2.2 + (n + n * m))
theorem X_mna0 (z : Nat) (n m : Int32) : X d y (.inr (.multianewarray 0 z) :: ops) ls (.int m :: .int n :: st) (ci, cj, g) Q ↔ (0 ≤ n.toInt ∧ n.toInt ≤ 10000 ∧ 0 ≤ m.toInt ∧ m.toInt ≤ 10000 ∧ g.2.2.1 + (1 + n.toNatClampNeg) ≤ 600000 ∧ g.2.2.2 + (n.toNatClampNeg + n.toNatClampNeg * m.toNatClampNeg) ≤ 7302250) ∧ X d y ops ls (.ref (g.2.2.1 + 32) :: st) (z2 ci 0 (g.2.2.1 + 32) n.toNatClampNeg, z2 cj 0 (g.2.2.1 + 32) n.toNatClampNeg, gA2 g 24 20 n.toNatClampNeg m.toNatClampNeg) Q := X_stepIf rfl rfl rfl rfl
theorem X_mna1 (z : Nat) (n m : Int32) : X d y (.inr (.multianewarray 1 z) :: ops) ls (.int m :: .int n :: st) (ci, cj, g) Q ↔ (0 ≤ n.toInt ∧ n.toInt ≤ 10000 ∧ 0 ≤ m.toInt ∧ m.toInt ≤ 10000 ∧ g.2.2.1 + (1 + n.toNatClampNeg) ≤ 600000 ∧ g.2.2.2 + (n.toNatClampNeg + n.toNatClampNeg * m.toNatClampNeg) ≤ 7302250) ∧ X d y ops ls (.ref (g.2.2.1 + 32) :: st) (z2 ci 0 (g.2.2.1 + 32) n.toNatClampNeg, z2 cj 0 (g.2.2.1 + 32) n.toNatClampNeg, gA2 g 25 21 n.toNatClampNeg m.toNatClampNeg) Q := X_stepIf rfl rfl rfl rfl
theorem N_0 (a : Nat) : X d y (.inr (.instanceof 0) :: ops) ls (.ref a :: st) (ci, cj, g) Q ↔ (a = 0 ∨ 5 ≤ gk g a ∧ gk g a ≤ 11) ∧ X d y ops ls (.int (if a ≠ 0 ∧ 5 ≤ gk g a ∧ gk g a ≤ 5 then 1 else 0) :: st) (ci, cj, g) Q := X_stepIf rfl rfl rfl rfl
theorem K_0 (a : Nat) : X d y (.inr (.checkcast 0) :: ops) ls (.ref a :: st) (ci, cj, g) Q ↔ (5 ≤ gk g a ∧ gk g a ≤ 5 ∧ 5 ≤ gk g a ∧ gk g a ≤ 11) ∧ X d y ops ls (.ref a :: st) (ci, cj, g) Q := X_stepIf rfl rfl rfl rfl
theorem N_1 (a : Nat) : X d y (.inr (.instanceof 1) :: ops) ls (.ref a :: st) (ci, cj, g) Q ↔ (a = 0 ∨ 5 ≤ gk g a ∧ gk g a ≤ 11) ∧ X d y ops ls (.int (if a ≠ 0 ∧ 6 ≤ gk g a ∧ gk g a ≤ 11 then 1 else 0) :: st) (ci, cj, g) Q := X_stepIf rfl rfl rfl rfl
theorem K_1 (a : Nat) : X d y (.inr (.checkcast 1) :: ops) ls (.ref a :: st) (ci, cj, g) Q ↔ (6 ≤ gk g a ∧ gk g a ≤ 11 ∧ 5 ≤ gk g a ∧ gk g a ≤ 11) ∧ X d y ops ls (.ref a :: st) (ci, cj, g) Q := X_stepIf rfl rfl rfl rfl
theorem N_2 (a : Nat) : X d y (.inr (.instanceof 2) :: ops) ls (.ref a :: st) (ci, cj, g) Q ↔ (a = 0 ∨ 5 ≤ gk g a ∧ gk g a ≤ 11) ∧ X d y ops ls (.int (if a ≠ 0 ∧ 6 ≤ gk g a ∧ gk g a ≤ 8 then 1 else 0) :: st) (ci, cj, g) Q := X_stepIf rfl rfl rfl rfl
theorem K_2 (a : Nat) : X d y (.inr (.checkcast 2) :: ops) ls (.ref a :: st) (ci, cj, g) Q ↔ (6 ≤ gk g a ∧ gk g a ≤ 8 ∧ 5 ≤ gk g a ∧ gk g a ≤ 11) ∧ X d y ops ls (.ref a :: st) (ci, cj, g) Q := X_stepIf rfl rfl rfl rfl
theorem N_3 (a : Nat) : X d y (.inr (.instanceof 3) :: ops) ls (.ref a :: st) (ci, cj, g) Q ↔ (a = 0 ∨ 5 ≤ gk g a ∧ gk g a ≤ 11) ∧ X d y ops ls (.int (if a ≠ 0 ∧ 7 ≤ gk g a ∧ gk g a ≤ 7 then 1 else 0) :: st) (ci, cj, g) Q := X_stepIf rfl rfl rfl rfl
theorem K_3 (a : Nat) : X d y (.inr (.checkcast 3) :: ops) ls (.ref a :: st) (ci, cj, g) Q ↔ (7 ≤ gk g a ∧ gk g a ≤ 7 ∧ 5 ≤ gk g a ∧ gk g a ≤ 11) ∧ X d y ops ls (.ref a :: st) (ci, cj, g) Q := X_stepIf rfl rfl rfl rfl
theorem N_4 (a : Nat) : X d y (.inr (.instanceof 4) :: ops) ls (.ref a :: st) (ci, cj, g) Q ↔ (a = 0 ∨ 5 ≤ gk g a ∧ gk g a ≤ 11) ∧ X d y ops ls (.int (if a ≠ 0 ∧ 8 ≤ gk g a ∧ gk g a ≤ 8 then 1 else 0) :: st) (ci, cj, g) Q := X_stepIf rfl rfl rfl rfl
theorem K_4 (a : Nat) : X d y (.inr (.checkcast 4) :: ops) ls (.ref a :: st) (ci, cj, g) Q ↔ (8 ≤ gk g a ∧ gk g a ≤ 8 ∧ 5 ≤ gk g a ∧ gk g a ≤ 11) ∧ X d y ops ls (.ref a :: st) (ci, cj, g) Q := X_stepIf rfl rfl rfl rfl
theorem N_5 (a : Nat) : X d y (.inr (.instanceof 5) :: ops) ls (.ref a :: st) (ci, cj, g) Q ↔ (a = 0 ∨ 5 ≤ gk g a ∧ gk g a ≤ 11) ∧ X d y ops ls (.int (if a ≠ 0 ∧ 9 ≤ gk g a ∧ gk g a ≤ 10 then 1 else 0) :: st) (ci, cj, g) Q := X_stepIf rfl rfl rfl rfl
theorem K_5 (a : Nat) : X d y (.inr (.checkcast 5) :: ops) ls (.ref a :: st) (ci, cj, g) Q ↔ (9 ≤ gk g a ∧ gk g a ≤ 10 ∧ 5 ≤ gk g a ∧ gk g a ≤ 11) ∧ X d y ops ls (.ref a :: st) (ci, cj, g) Q := X_stepIf rfl rfl rfl rfl
theorem N_6 (a : Nat) : X d y (.inr (.instanceof 6) :: ops) ls (.ref a :: st) (ci, cj, g) Q ↔ (a = 0 ∨ 5 ≤ gk g a ∧ gk g a ≤ 11) ∧ X d y ops ls (.int (if a ≠ 0 ∧ 10 ≤ gk g a ∧ gk g a ≤ 10 then 1 else 0) :: st) (ci, cj, g) Q := X_stepIf rfl rfl rfl rfl
theorem K_6 (a : Nat) : X d y (.inr (.checkcast 6) :: ops) ls (.ref a :: st) (ci, cj, g) Q ↔ (10 ≤ gk g a ∧ gk g a ≤ 10 ∧ 5 ≤ gk g a ∧ gk g a ≤ 11) ∧ X d y ops ls (.ref a :: st) (ci, cj, g) Q := X_stepIf rfl rfl rfl rfl
theorem N_7 (a : Nat) : X d y (.inr (.instanceof 7) :: ops) ls (.ref a :: st) (ci, cj, g) Q ↔ (a = 0 ∨ 5 ≤ gk g a ∧ gk g a ≤ 11) ∧ X d y ops ls (.int (if a ≠ 0 ∧ 11 ≤ gk g a ∧ gk g a ≤ 11 then 1 else 0) :: st) (ci, cj, g) Q := X_stepIf rfl rfl rfl rfl
theorem K_7 (a : Nat) : X d y (.inr (.checkcast 7) :: ops) ls (.ref a :: st) (ci, cj, g) Q ↔ (11 ≤ gk g a ∧ gk g a ≤ 11 ∧ 5 ≤ gk g a ∧ gk g a ≤ 11) ∧ X d y ops ls (.ref a :: st) (ci, cj, g) Q := X_stepIf rfl rfl rfl rfl
theorem X_objInit (a : Nat) : X d y (.inr .fadd :: ops) ls (.ref a :: st) (ci, cj, g) Q ↔ (a ≠ 0 ∧ am_wt st ≤ 8) ∧ X d y ops ls st (ci, cj, g) Q := X_stepIf rfl rfl rfl rfl
theorem X_cpyi (n dp sp : Int32) (a b : Nat) (ha : gk g a = 20) (hb : gk g b = 20) : X d y (.inr .dadd :: ops) ls (.int n :: .int dp :: .ref b :: .int sp :: .ref a :: st) (ci, cj, g) Q ↔ (am_wt st ≤ 8 ∧ 0 ≤ n.toInt ∧ 0 ≤ dp.toInt ∧ 0 ≤ sp.toInt ∧ sp.toNatClampNeg + n.toNatClampNeg ≤ gn g a ∧ dp.toNatClampNeg + n.toNatClampNeg ≤ gn g b) ∧ X d y ops ls st (am_u1 ci b (va_cpy (ci a) (ci b) sp.toNatClampNeg dp.toNatClampNeg n.toNatClampNeg), cj, g) Q := X_stepIf (D := inferInstance) (by
  simp only [am_s, am_k_t, am_n_t, ha, hb, and_self, if_true]) rfl rfl rfl
theorem X_cpyj (n dp sp : Int32) (a b : Nat) (ha : gk g a = 21) (hb : gk g b = 21) : X d y (.inr .dadd :: ops) ls (.int n :: .int dp :: .ref b :: .int sp :: .ref a :: st) (ci, cj, g) Q ↔ (am_wt st ≤ 8 ∧ 0 ≤ n.toInt ∧ 0 ≤ dp.toInt ∧ 0 ≤ sp.toInt ∧ sp.toNatClampNeg + n.toNatClampNeg ≤ gn g a ∧ dp.toNatClampNeg + n.toNatClampNeg ≤ gn g b) ∧ X d y ops ls st (ci, am_u1 cj b (va_cpy (cj a) (cj b) sp.toNatClampNeg dp.toNatClampNeg n.toNatClampNeg), g) Q := X_stepIf (D := inferInstance) (by
  simp only [am_s, am_k_t, am_n_t, ha, hb, and_self, if_true, Nat.reduceEqDiff, if_false]) rfl rfl rfl
theorem X_call {i : Instr} {k : Nat} {as st' : List Value} {h : am_H} (e : am_cl i st h = some (k, as, st')) (e1 : am_j i st = none) (e2 : am_r i st = none) : X (d + 1) y (.inr i :: ops) ls st h Q ↔ X d k (am_bk k 0) (am_ent k as) [] h (fun r h' => X (d + 1) y ops ls (r.toList ++ st') h' Q) := by
  constructor
  · rintro ⟨n, r, h2, h3, h4⟩
    cases n with
    | zero => simp [am_x] at h3
    | succ n =>
      simp only [am_x, e, e1, e2] at h3
      split at h3
      · rename_i r1 h1 h5
        exact ⟨n, r1, h1, h5, n, r, h2, h3, h4⟩
      · cases h3
  · rintro ⟨n, r1, h1, h5, m, r, h2, h3, h4⟩
    refine ⟨max n m + 1, r, h2, ?_, h4⟩
    simp only [am_x, e, e1, e2, am_mono (Nat.le_max_left n m) h5]
    exact am_mono (Nat.le_max_right n m) h3
theorem X_callIf {i : Instr} {k : Nat} {p : Prop} {D : Decidable p} {as st' : List Value} {h : am_H} (e : am_cl i st h = @ite _ p D (some (k, as, st')) none) (e1 : am_j i st = none) (e2 : am_r i st = none) (e3 : ∀ ls, am_s i ls st h = none) : X (d + 1) y (.inr i :: ops) ls st h Q ↔ p ∧ X d k (am_bk k 0) (am_ent k as) [] h (fun r h' => X (d + 1) y ops ls (r.toList ++ st') h' Q) := by
  by_cases hp : p
  · rw [if_pos hp] at e
    rw [X_call e e1 e2]
    exact ⟨fun q => ⟨hp, q⟩, fun q => q.2⟩
  · rw [if_neg hp] at e
    rw [X_no (fun n => by simp only [am_x, e, e1, e2, e3])]
    exact ⟨False.elim, fun q => hp q.1⟩
theorem X_callV {k t a c : Nat} {as st' : List Value} (hp : am_pop (am_na k) [] st = some (.ref a :: as, st')) (hc : gk g a = c) (ht : am_vt k c = t) (h0 : t ≠ 0) (hl : (am_lay (.ref a :: as)).length ≤ am_mx t) : X (d + 1) y (.inr (.invokevirtual k) :: ops) ls st (ci, cj, g) Q ↔ am_wt st' ≤ 8 ∧ X d t (am_bk t 0) (am_ent t (.ref a :: as)) [] (ci, cj, g) (fun r h' => X (d + 1) y ops ls (r.toList ++ st') h' Q) := by
  refine X_callIf (D := inferInstance) ?_ rfl rfl (fun _ => rfl)
  simp only [am_cl, hp, am_k_t, hc, ht]
  by_cases hw : am_wt st' ≤ 8
  · rw [if_pos hw, if_pos ⟨h0, hw, hl⟩]
  · rw [if_neg hw, if_neg (fun z => hw z.2.1)]
theorem C_0 (a : Nat) : X (d + 1) y (.inr (.invokespecial 0) :: ops) ls (.ref a :: st) (ci, cj, g) Q ↔ (a ≠ 0 ∧ am_wt st ≤ 8) ∧ X d 0 (am_bk 0 0) [.ref a] [] (ci, cj, g) (fun r h' => X (d + 1) y ops ls (r.toList ++ st) h' Q) := (X_callIf (p := a ≠ 0 ∧ am_wt st ≤ 8 ∧ 1 ≤ 1) (as := [.ref a]) rfl rfl rfl (fun _ => rfl)).trans (and_congr_left' ⟨fun z => ⟨z.1, z.2.1⟩, fun z => ⟨z.1, z.2, by decide⟩⟩)
theorem C_1 (a : Nat) (x0 : Int32) (x1 : Int32) (x2 : Int32) (hk : gk g a = 1) : X (d + 1) y (.inr (.invokevirtual 1) :: ops) ls (.int x2 :: .int x1 :: .int x0 :: .ref a :: st) (ci, cj, g) Q ↔ am_wt st ≤ 8 ∧ X d 1 (am_bk 1 0) [.ref a, .int x0, .int x1, .int x2] [] (ci, cj, g) (fun r h' => X (d + 1) y ops ls (r.toList ++ st) h' Q) := X_callV (t := 1) (c := 1) (as := [.int x0, .int x1, .int x2]) rfl hk rfl (by decide) (Nat.le_of_ble_eq_true rfl)
theorem C_2 (a : Nat) (x0 : Int32) (x1 : Int32) (x2 : Int64) (hk : gk g a = 1) : X (d + 1) y (.inr (.invokevirtual 2) :: ops) ls (.long x2 :: .int x1 :: .int x0 :: .ref a :: st) (ci, cj, g) Q ↔ am_wt st ≤ 8 ∧ X d 2 (am_bk 2 0) [.ref a, .int x0, .int x1, .long x2, .null, .null] [] (ci, cj, g) (fun r h' => X (d + 1) y ops ls (r.toList ++ st) h' Q) := X_callV (t := 2) (c := 1) (as := [.int x0, .int x1, .long x2]) rfl hk rfl (by decide) (Nat.le_of_ble_eq_true rfl)
theorem C_3 (a : Nat) (x0 : Int32) (x1 : Int32) (x2 : Int32) (x3 : Int32) (x4 : Int32) (hk : gk g a = 1) : X (d + 1) y (.inr (.invokevirtual 3) :: ops) ls (.int x4 :: .int x3 :: .int x2 :: .int x1 :: .int x0 :: .ref a :: st) (ci, cj, g) Q ↔ am_wt st ≤ 8 ∧ X d 3 (am_bk 3 0) [.ref a, .int x0, .int x1, .int x2, .int x3, .int x4, .null, .null, .null] [] (ci, cj, g) (fun r h' => X (d + 1) y ops ls (r.toList ++ st) h' Q) := X_callV (t := 3) (c := 1) (as := [.int x0, .int x1, .int x2, .int x3, .int x4]) rfl hk rfl (by decide) (Nat.le_of_ble_eq_true rfl)
theorem C_4 (a : Nat) (x0 : Int32) (x1 : Int32) (hk : gk g a = 1) : X (d + 1) y (.inr (.invokevirtual 4) :: ops) ls (.int x1 :: .int x0 :: .ref a :: st) (ci, cj, g) Q ↔ am_wt st ≤ 8 ∧ X d 4 (am_bk 4 0) [.ref a, .int x0, .int x1, .null] [] (ci, cj, g) (fun r h' => X (d + 1) y ops ls (r.toList ++ st) h' Q) := X_callV (t := 4) (c := 1) (as := [.int x0, .int x1]) rfl hk rfl (by decide) (Nat.le_of_ble_eq_true rfl)
theorem C_5 (a : Nat) (x0 : Int32) (hk : gk g a = 1) : X (d + 1) y (.inr (.invokevirtual 5) :: ops) ls (.int x0 :: .ref a :: st) (ci, cj, g) Q ↔ am_wt st ≤ 8 ∧ X d 5 (am_bk 5 0) [.ref a, .int x0, .null] [] (ci, cj, g) (fun r h' => X (d + 1) y ops ls (r.toList ++ st) h' Q) := X_callV (t := 5) (c := 1) (as := [.int x0]) rfl hk rfl (by decide) (Nat.le_of_ble_eq_true rfl)
theorem C_6 (a : Nat) (x0 : Int32) (x1 : Int32) (x2 : Int32) (hk : gk g a = 1) : X (d + 1) y (.inr (.invokevirtual 6) :: ops) ls (.int x2 :: .int x1 :: .int x0 :: .ref a :: st) (ci, cj, g) Q ↔ am_wt st ≤ 8 ∧ X d 6 (am_bk 6 0) [.ref a, .int x0, .int x1, .int x2, .null] [] (ci, cj, g) (fun r h' => X (d + 1) y ops ls (r.toList ++ st) h' Q) := X_callV (t := 6) (c := 1) (as := [.int x0, .int x1, .int x2]) rfl hk rfl (by decide) (Nat.le_of_ble_eq_true rfl)
theorem C_7 (a : Nat) (x0 : Int32) (x1 : Int32) (hk : gk g a = 1) : X (d + 1) y (.inr (.invokevirtual 7) :: ops) ls (.int x1 :: .int x0 :: .ref a :: st) (ci, cj, g) Q ↔ am_wt st ≤ 8 ∧ X d 7 (am_bk 7 0) [.ref a, .int x0, .int x1, .null] [] (ci, cj, g) (fun r h' => X (d + 1) y ops ls (r.toList ++ st) h' Q) := X_callV (t := 7) (c := 1) (as := [.int x0, .int x1]) rfl hk rfl (by decide) (Nat.le_of_ble_eq_true rfl)
theorem C_8 (a : Nat) (x0 : Int32) (x1 : Int32) (x2 : Int32) (hk : gk g a = 1) : X (d + 1) y (.inr (.invokevirtual 8) :: ops) ls (.int x2 :: .int x1 :: .int x0 :: .ref a :: st) (ci, cj, g) Q ↔ am_wt st ≤ 8 ∧ X d 8 (am_bk 8 0) [.ref a, .int x0, .int x1, .int x2, .null, .null] [] (ci, cj, g) (fun r h' => X (d + 1) y ops ls (r.toList ++ st) h' Q) := X_callV (t := 8) (c := 1) (as := [.int x0, .int x1, .int x2]) rfl hk rfl (by decide) (Nat.le_of_ble_eq_true rfl)
theorem C_9 (a : Nat) (x0 : Int32) (x1 : Int32) (x2 : Int32) (x3 : Int32) (hk : gk g a = 1) : X (d + 1) y (.inr (.invokevirtual 9) :: ops) ls (.int x3 :: .int x2 :: .int x1 :: .int x0 :: .ref a :: st) (ci, cj, g) Q ↔ am_wt st ≤ 8 ∧ X d 9 (am_bk 9 0) [.ref a, .int x0, .int x1, .int x2, .int x3, .null] [] (ci, cj, g) (fun r h' => X (d + 1) y ops ls (r.toList ++ st) h' Q) := X_callV (t := 9) (c := 1) (as := [.int x0, .int x1, .int x2, .int x3]) rfl hk rfl (by decide) (Nat.le_of_ble_eq_true rfl)
theorem C_10 (a : Nat) (x0 : Int32) (x1 : Int32) (hk : gk g a = 1) : X (d + 1) y (.inr (.invokevirtual 10) :: ops) ls (.int x1 :: .int x0 :: .ref a :: st) (ci, cj, g) Q ↔ am_wt st ≤ 8 ∧ X d 10 (am_bk 10 0) [.ref a, .int x0, .int x1, .null, .null, .null, .null] [] (ci, cj, g) (fun r h' => X (d + 1) y ops ls (r.toList ++ st) h' Q) := X_callV (t := 10) (c := 1) (as := [.int x0, .int x1]) rfl hk rfl (by decide) (Nat.le_of_ble_eq_true rfl)
theorem C_11 (a : Nat) (x0 : Int32) (x1 : Int32) (hk : gk g a = 1) : X (d + 1) y (.inr (.invokevirtual 11) :: ops) ls (.int x1 :: .int x0 :: .ref a :: st) (ci, cj, g) Q ↔ am_wt st ≤ 8 ∧ X d 11 (am_bk 11 0) [.ref a, .int x0, .int x1] [] (ci, cj, g) (fun r h' => X (d + 1) y ops ls (r.toList ++ st) h' Q) := X_callV (t := 11) (c := 1) (as := [.int x0, .int x1]) rfl hk rfl (by decide) (Nat.le_of_ble_eq_true rfl)
theorem C_12 (a : Nat) (x0 : Int32) (x1 : Int32) (hk : gk g a = 1) : X (d + 1) y (.inr (.invokevirtual 12) :: ops) ls (.int x1 :: .int x0 :: .ref a :: st) (ci, cj, g) Q ↔ am_wt st ≤ 8 ∧ X d 12 (am_bk 12 0) [.ref a, .int x0, .int x1, .null] [] (ci, cj, g) (fun r h' => X (d + 1) y ops ls (r.toList ++ st) h' Q) := X_callV (t := 12) (c := 1) (as := [.int x0, .int x1]) rfl hk rfl (by decide) (Nat.le_of_ble_eq_true rfl)
theorem C_13 (a : Nat) (x0 : Int32) (x1 : Int32) (hk : gk g a = 1) : X (d + 1) y (.inr (.invokevirtual 13) :: ops) ls (.int x1 :: .int x0 :: .ref a :: st) (ci, cj, g) Q ↔ am_wt st ≤ 8 ∧ X d 13 (am_bk 13 0) [.ref a, .int x0, .int x1] [] (ci, cj, g) (fun r h' => X (d + 1) y ops ls (r.toList ++ st) h' Q) := X_callV (t := 13) (c := 1) (as := [.int x0, .int x1]) rfl hk rfl (by decide) (Nat.le_of_ble_eq_true rfl)
theorem C_14 (a : Nat) (hk : gk g a = 1) : X (d + 1) y (.inr (.invokevirtual 14) :: ops) ls (.ref a :: st) (ci, cj, g) Q ↔ am_wt st ≤ 8 ∧ X d 14 (am_bk 14 0) [.ref a, .null] [] (ci, cj, g) (fun r h' => X (d + 1) y ops ls (r.toList ++ st) h' Q) := X_callV (t := 14) (c := 1) (as := []) rfl hk rfl (by decide) (Nat.le_of_ble_eq_true rfl)
theorem C_15 (a : Nat) (hk : gk g a = 1) : X (d + 1) y (.inr (.invokevirtual 15) :: ops) ls (.ref a :: st) (ci, cj, g) Q ↔ am_wt st ≤ 8 ∧ X d 15 (am_bk 15 0) [.ref a, .null] [] (ci, cj, g) (fun r h' => X (d + 1) y ops ls (r.toList ++ st) h' Q) := X_callV (t := 15) (c := 1) (as := []) rfl hk rfl (by decide) (Nat.le_of_ble_eq_true rfl)
theorem C_16 (a : Nat) (x0 : Int32) (hk : gk g a = 1) : X (d + 1) y (.inr (.invokevirtual 16) :: ops) ls (.int x0 :: .ref a :: st) (ci, cj, g) Q ↔ am_wt st ≤ 8 ∧ X d 16 (am_bk 16 0) [.ref a, .int x0] [] (ci, cj, g) (fun r h' => X (d + 1) y ops ls (r.toList ++ st) h' Q) := X_callV (t := 16) (c := 1) (as := [.int x0]) rfl hk rfl (by decide) (Nat.le_of_ble_eq_true rfl)
theorem C_17 (a : Nat) (x0 : Int32) (x1 : Int32) (x2 : Int32) (hk : gk g a = 1) : X (d + 1) y (.inr (.invokevirtual 17) :: ops) ls (.int x2 :: .int x1 :: .int x0 :: .ref a :: st) (ci, cj, g) Q ↔ am_wt st ≤ 8 ∧ X d 17 (am_bk 17 0) [.ref a, .int x0, .int x1, .int x2, .null] [] (ci, cj, g) (fun r h' => X (d + 1) y ops ls (r.toList ++ st) h' Q) := X_callV (t := 17) (c := 1) (as := [.int x0, .int x1, .int x2]) rfl hk rfl (by decide) (Nat.le_of_ble_eq_true rfl)
theorem C_18 (a : Nat) (x0 : Int32) (hk : gk g a = 1) : X (d + 1) y (.inr (.invokevirtual 18) :: ops) ls (.int x0 :: .ref a :: st) (ci, cj, g) Q ↔ am_wt st ≤ 8 ∧ X d 18 (am_bk 18 0) [.ref a, .int x0] [] (ci, cj, g) (fun r h' => X (d + 1) y ops ls (r.toList ++ st) h' Q) := X_callV (t := 18) (c := 1) (as := [.int x0]) rfl hk rfl (by decide) (Nat.le_of_ble_eq_true rfl)
theorem C_19 (a : Nat) (x0 : Int32) (x1 : Int32) (hk : gk g a = 1) : X (d + 1) y (.inr (.invokevirtual 19) :: ops) ls (.int x1 :: .int x0 :: .ref a :: st) (ci, cj, g) Q ↔ am_wt st ≤ 8 ∧ X d 19 (am_bk 19 0) [.ref a, .int x0, .int x1, .null] [] (ci, cj, g) (fun r h' => X (d + 1) y ops ls (r.toList ++ st) h' Q) := X_callV (t := 19) (c := 1) (as := [.int x0, .int x1]) rfl hk rfl (by decide) (Nat.le_of_ble_eq_true rfl)
theorem C_20 (a : Nat) (x0 : Int32) (hk : gk g a = 1) : X (d + 1) y (.inr (.invokevirtual 20) :: ops) ls (.int x0 :: .ref a :: st) (ci, cj, g) Q ↔ am_wt st ≤ 8 ∧ X d 20 (am_bk 20 0) [.ref a, .int x0] [] (ci, cj, g) (fun r h' => X (d + 1) y ops ls (r.toList ++ st) h' Q) := X_callV (t := 20) (c := 1) (as := [.int x0]) rfl hk rfl (by decide) (Nat.le_of_ble_eq_true rfl)
theorem C_21 (a : Nat) (x0 : Int32) (x1 : Int32) (hk : gk g a = 1) : X (d + 1) y (.inr (.invokevirtual 21) :: ops) ls (.int x1 :: .int x0 :: .ref a :: st) (ci, cj, g) Q ↔ am_wt st ≤ 8 ∧ X d 21 (am_bk 21 0) [.ref a, .int x0, .int x1] [] (ci, cj, g) (fun r h' => X (d + 1) y ops ls (r.toList ++ st) h' Q) := X_callV (t := 21) (c := 1) (as := [.int x0, .int x1]) rfl hk rfl (by decide) (Nat.le_of_ble_eq_true rfl)
theorem C_22 (a : Nat) (x0 : Int32) (x1 : Int32) (hk : gk g a = 1) : X (d + 1) y (.inr (.invokevirtual 22) :: ops) ls (.int x1 :: .int x0 :: .ref a :: st) (ci, cj, g) Q ↔ am_wt st ≤ 8 ∧ X d 22 (am_bk 22 0) [.ref a, .int x0, .int x1, .null] [] (ci, cj, g) (fun r h' => X (d + 1) y ops ls (r.toList ++ st) h' Q) := X_callV (t := 22) (c := 1) (as := [.int x0, .int x1]) rfl hk rfl (by decide) (Nat.le_of_ble_eq_true rfl)
theorem C_23 (a : Nat) (x0 : Int32) (hk : gk g a = 1) : X (d + 1) y (.inr (.invokevirtual 23) :: ops) ls (.int x0 :: .ref a :: st) (ci, cj, g) Q ↔ am_wt st ≤ 8 ∧ X d 23 (am_bk 23 0) [.ref a, .int x0, .null, .null, .null, .null, .null, .null, .null] [] (ci, cj, g) (fun r h' => X (d + 1) y ops ls (r.toList ++ st) h' Q) := X_callV (t := 23) (c := 1) (as := [.int x0]) rfl hk rfl (by decide) (Nat.le_of_ble_eq_true rfl)
theorem C_24 (a : Nat) (x0 : Int32) (hk : gk g a = 1) : X (d + 1) y (.inr (.invokevirtual 24) :: ops) ls (.int x0 :: .ref a :: st) (ci, cj, g) Q ↔ am_wt st ≤ 8 ∧ X d 24 (am_bk 24 0) [.ref a, .int x0, .null, .null, .null, .null, .null, .null] [] (ci, cj, g) (fun r h' => X (d + 1) y ops ls (r.toList ++ st) h' Q) := X_callV (t := 24) (c := 1) (as := [.int x0]) rfl hk rfl (by decide) (Nat.le_of_ble_eq_true rfl)
theorem C_25 (a : Nat) (x0 : Int32) (x1 : Int32) (x2 : Int32) (x3 : Int32) (hk : gk g a = 1) : X (d + 1) y (.inr (.invokevirtual 25) :: ops) ls (.int x3 :: .int x2 :: .int x1 :: .int x0 :: .ref a :: st) (ci, cj, g) Q ↔ am_wt st ≤ 8 ∧ X d 25 (am_bk 25 0) [.ref a, .int x0, .int x1, .int x2, .int x3, .null, .null] [] (ci, cj, g) (fun r h' => X (d + 1) y ops ls (r.toList ++ st) h' Q) := X_callV (t := 25) (c := 1) (as := [.int x0, .int x1, .int x2, .int x3]) rfl hk rfl (by decide) (Nat.le_of_ble_eq_true rfl)
theorem C_26 (a : Nat) (x0 : Int32) (x1 : Int32) (x2 : Int32) (hk : gk g a = 1) : X (d + 1) y (.inr (.invokevirtual 26) :: ops) ls (.int x2 :: .int x1 :: .int x0 :: .ref a :: st) (ci, cj, g) Q ↔ am_wt st ≤ 8 ∧ X d 26 (am_bk 26 0) [.ref a, .int x0, .int x1, .int x2, .null] [] (ci, cj, g) (fun r h' => X (d + 1) y ops ls (r.toList ++ st) h' Q) := X_callV (t := 26) (c := 1) (as := [.int x0, .int x1, .int x2]) rfl hk rfl (by decide) (Nat.le_of_ble_eq_true rfl)
theorem C_27 (a : Nat) (x0 : Int32) (x1 : Int32) (x2 : Int32) (hk : gk g a = 1) : X (d + 1) y (.inr (.invokevirtual 27) :: ops) ls (.int x2 :: .int x1 :: .int x0 :: .ref a :: st) (ci, cj, g) Q ↔ am_wt st ≤ 8 ∧ X d 27 (am_bk 27 0) [.ref a, .int x0, .int x1, .int x2, .null, .null, .null, .null, .null] [] (ci, cj, g) (fun r h' => X (d + 1) y ops ls (r.toList ++ st) h' Q) := X_callV (t := 27) (c := 1) (as := [.int x0, .int x1, .int x2]) rfl hk rfl (by decide) (Nat.le_of_ble_eq_true rfl)
theorem C_28 (a : Nat) (x0 : Int32) (x1 : Int32) (x2 : Int32) (hk : gk g a = 1) : X (d + 1) y (.inr (.invokevirtual 28) :: ops) ls (.int x2 :: .int x1 :: .int x0 :: .ref a :: st) (ci, cj, g) Q ↔ am_wt st ≤ 8 ∧ X d 28 (am_bk 28 0) [.ref a, .int x0, .int x1, .int x2, .null, .null, .null, .null, .null, .null] [] (ci, cj, g) (fun r h' => X (d + 1) y ops ls (r.toList ++ st) h' Q) := X_callV (t := 28) (c := 1) (as := [.int x0, .int x1, .int x2]) rfl hk rfl (by decide) (Nat.le_of_ble_eq_true rfl)
theorem C_29 (a : Nat) (x0 : Int32) (x1 : Int32) (hk : gk g a = 1) : X (d + 1) y (.inr (.invokevirtual 29) :: ops) ls (.int x1 :: .int x0 :: .ref a :: st) (ci, cj, g) Q ↔ am_wt st ≤ 8 ∧ X d 29 (am_bk 29 0) [.ref a, .int x0, .int x1] [] (ci, cj, g) (fun r h' => X (d + 1) y ops ls (r.toList ++ st) h' Q) := X_callV (t := 29) (c := 1) (as := [.int x0, .int x1]) rfl hk rfl (by decide) (Nat.le_of_ble_eq_true rfl)
theorem C_30 (a : Nat) (x0 : Int32) (x1 : Int32) (hk : gk g a = 1) : X (d + 1) y (.inr (.invokevirtual 30) :: ops) ls (.int x1 :: .int x0 :: .ref a :: st) (ci, cj, g) Q ↔ am_wt st ≤ 8 ∧ X d 30 (am_bk 30 0) [.ref a, .int x0, .int x1, .null] [] (ci, cj, g) (fun r h' => X (d + 1) y ops ls (r.toList ++ st) h' Q) := X_callV (t := 30) (c := 1) (as := [.int x0, .int x1]) rfl hk rfl (by decide) (Nat.le_of_ble_eq_true rfl)
theorem C_31 (a : Nat) (x0 : Int32) (x1 : Int32) (hk : gk g a = 1) : X (d + 1) y (.inr (.invokevirtual 31) :: ops) ls (.int x1 :: .int x0 :: .ref a :: st) (ci, cj, g) Q ↔ am_wt st ≤ 8 ∧ X d 31 (am_bk 31 0) [.ref a, .int x0, .int x1] [] (ci, cj, g) (fun r h' => X (d + 1) y ops ls (r.toList ++ st) h' Q) := X_callV (t := 31) (c := 1) (as := [.int x0, .int x1]) rfl hk rfl (by decide) (Nat.le_of_ble_eq_true rfl)
theorem C_32 (a : Nat) (x0 : Int32) (hk : gk g a = 1) : X (d + 1) y (.inr (.invokevirtual 32) :: ops) ls (.int x0 :: .ref a :: st) (ci, cj, g) Q ↔ am_wt st ≤ 8 ∧ X d 32 (am_bk 32 0) [.ref a, .int x0, .null, .null] [] (ci, cj, g) (fun r h' => X (d + 1) y ops ls (r.toList ++ st) h' Q) := X_callV (t := 32) (c := 1) (as := [.int x0]) rfl hk rfl (by decide) (Nat.le_of_ble_eq_true rfl)
theorem C_33 (a : Nat) (x0 : Int32) (hk : gk g a = 1) : X (d + 1) y (.inr (.invokevirtual 33) :: ops) ls (.int x0 :: .ref a :: st) (ci, cj, g) Q ↔ am_wt st ≤ 8 ∧ X d 33 (am_bk 33 0) [.ref a, .int x0] [] (ci, cj, g) (fun r h' => X (d + 1) y ops ls (r.toList ++ st) h' Q) := X_callV (t := 33) (c := 1) (as := [.int x0]) rfl hk rfl (by decide) (Nat.le_of_ble_eq_true rfl)
theorem C_34 (a : Nat) (x0 : Int32) (hk : gk g a = 1) : X (d + 1) y (.inr (.invokevirtual 34) :: ops) ls (.int x0 :: .ref a :: st) (ci, cj, g) Q ↔ am_wt st ≤ 8 ∧ X d 34 (am_bk 34 0) [.ref a, .int x0] [] (ci, cj, g) (fun r h' => X (d + 1) y ops ls (r.toList ++ st) h' Q) := X_callV (t := 34) (c := 1) (as := [.int x0]) rfl hk rfl (by decide) (Nat.le_of_ble_eq_true rfl)
theorem C_35 (a : Nat) (x0 : Int32) (x1 : Int32) (hk : gk g a = 1) : X (d + 1) y (.inr (.invokevirtual 35) :: ops) ls (.int x1 :: .int x0 :: .ref a :: st) (ci, cj, g) Q ↔ am_wt st ≤ 8 ∧ X d 35 (am_bk 35 0) [.ref a, .int x0, .int x1] [] (ci, cj, g) (fun r h' => X (d + 1) y ops ls (r.toList ++ st) h' Q) := X_callV (t := 35) (c := 1) (as := [.int x0, .int x1]) rfl hk rfl (by decide) (Nat.le_of_ble_eq_true rfl)
theorem C_36 (a : Nat) (x0 : Int32) (hk : gk g a = 1) : X (d + 1) y (.inr (.invokevirtual 36) :: ops) ls (.int x0 :: .ref a :: st) (ci, cj, g) Q ↔ am_wt st ≤ 8 ∧ X d 36 (am_bk 36 0) [.ref a, .int x0, .null, .null, .null, .null, .null, .null] [] (ci, cj, g) (fun r h' => X (d + 1) y ops ls (r.toList ++ st) h' Q) := X_callV (t := 36) (c := 1) (as := [.int x0]) rfl hk rfl (by decide) (Nat.le_of_ble_eq_true rfl)
theorem C_37 (a : Nat) (x0 : Int32) (x1 : Int32) (hk : gk g a = 1) : X (d + 1) y (.inr (.invokevirtual 37) :: ops) ls (.int x1 :: .int x0 :: .ref a :: st) (ci, cj, g) Q ↔ am_wt st ≤ 8 ∧ X d 37 (am_bk 37 0) [.ref a, .int x0, .int x1, .null] [] (ci, cj, g) (fun r h' => X (d + 1) y ops ls (r.toList ++ st) h' Q) := X_callV (t := 37) (c := 1) (as := [.int x0, .int x1]) rfl hk rfl (by decide) (Nat.le_of_ble_eq_true rfl)
theorem C_38 (a : Nat) (x0 : Int32) (x1 : Int32) (hk : gk g a = 1) : X (d + 1) y (.inr (.invokevirtual 38) :: ops) ls (.int x1 :: .int x0 :: .ref a :: st) (ci, cj, g) Q ↔ am_wt st ≤ 8 ∧ X d 38 (am_bk 38 0) [.ref a, .int x0, .int x1, .null, .null, .null] [] (ci, cj, g) (fun r h' => X (d + 1) y ops ls (r.toList ++ st) h' Q) := X_callV (t := 38) (c := 1) (as := [.int x0, .int x1]) rfl hk rfl (by decide) (Nat.le_of_ble_eq_true rfl)
theorem C_39 (a : Nat) (x0 : Int32) (hk : gk g a = 1) : X (d + 1) y (.inr (.invokevirtual 39) :: ops) ls (.int x0 :: .ref a :: st) (ci, cj, g) Q ↔ am_wt st ≤ 8 ∧ X d 39 (am_bk 39 0) [.ref a, .int x0] [] (ci, cj, g) (fun r h' => X (d + 1) y ops ls (r.toList ++ st) h' Q) := X_callV (t := 39) (c := 1) (as := [.int x0]) rfl hk rfl (by decide) (Nat.le_of_ble_eq_true rfl)
theorem C_40 (a : Nat) (x0 : Int32) (hk : gk g a = 1) : X (d + 1) y (.inr (.invokevirtual 40) :: ops) ls (.int x0 :: .ref a :: st) (ci, cj, g) Q ↔ am_wt st ≤ 8 ∧ X d 40 (am_bk 40 0) [.ref a, .int x0, .null] [] (ci, cj, g) (fun r h' => X (d + 1) y ops ls (r.toList ++ st) h' Q) := X_callV (t := 40) (c := 1) (as := [.int x0]) rfl hk rfl (by decide) (Nat.le_of_ble_eq_true rfl)
theorem C_41 (a : Nat) (hk : gk g a = 1) : X (d + 1) y (.inr (.invokevirtual 41) :: ops) ls (.ref a :: st) (ci, cj, g) Q ↔ am_wt st ≤ 8 ∧ X d 41 (am_bk 41 0) [.ref a] [] (ci, cj, g) (fun r h' => X (d + 1) y ops ls (r.toList ++ st) h' Q) := X_callV (t := 41) (c := 1) (as := []) rfl hk rfl (by decide) (Nat.le_of_ble_eq_true rfl)
theorem C_42 (a : Nat) (hk : gk g a = 1) : X (d + 1) y (.inr (.invokevirtual 42) :: ops) ls (.ref a :: st) (ci, cj, g) Q ↔ am_wt st ≤ 8 ∧ X d 42 (am_bk 42 0) [.ref a] [] (ci, cj, g) (fun r h' => X (d + 1) y ops ls (r.toList ++ st) h' Q) := X_callV (t := 42) (c := 1) (as := []) rfl hk rfl (by decide) (Nat.le_of_ble_eq_true rfl)
theorem C_43 (a : Nat) (x0 : Int32) (hk : gk g a = 1) : X (d + 1) y (.inr (.invokevirtual 43) :: ops) ls (.int x0 :: .ref a :: st) (ci, cj, g) Q ↔ am_wt st ≤ 8 ∧ X d 43 (am_bk 43 0) [.ref a, .int x0] [] (ci, cj, g) (fun r h' => X (d + 1) y ops ls (r.toList ++ st) h' Q) := X_callV (t := 43) (c := 1) (as := [.int x0]) rfl hk rfl (by decide) (Nat.le_of_ble_eq_true rfl)
theorem C_44 (a : Nat) (x0 : Int32) (hk : gk g a = 1) : X (d + 1) y (.inr (.invokevirtual 44) :: ops) ls (.int x0 :: .ref a :: st) (ci, cj, g) Q ↔ am_wt st ≤ 8 ∧ X d 44 (am_bk 44 0) [.ref a, .int x0, .null] [] (ci, cj, g) (fun r h' => X (d + 1) y ops ls (r.toList ++ st) h' Q) := X_callV (t := 44) (c := 1) (as := [.int x0]) rfl hk rfl (by decide) (Nat.le_of_ble_eq_true rfl)
theorem C_45 (a : Nat) (x0 : Int32) (hk : gk g a = 1) : X (d + 1) y (.inr (.invokevirtual 45) :: ops) ls (.int x0 :: .ref a :: st) (ci, cj, g) Q ↔ am_wt st ≤ 8 ∧ X d 45 (am_bk 45 0) [.ref a, .int x0] [] (ci, cj, g) (fun r h' => X (d + 1) y ops ls (r.toList ++ st) h' Q) := X_callV (t := 45) (c := 1) (as := [.int x0]) rfl hk rfl (by decide) (Nat.le_of_ble_eq_true rfl)
theorem C_46 (x0 : Int32) : X (d + 1) y (.inr (.invokestatic 46) :: ops) ls (.int x0 :: st) (ci, cj, g) Q ↔ am_wt st ≤ 8 ∧ X d 46 (am_bk 46 0) [.int x0] [] (ci, cj, g) (fun r h' => X (d + 1) y ops ls (r.toList ++ st) h' Q) := (X_callIf (p := am_wt st ≤ 8 ∧ 1 ≤ 1) (as := [.int x0]) rfl rfl rfl (fun _ => rfl)).trans (and_congr_left' ⟨fun z => z.1, fun z => ⟨z, by decide⟩⟩)
theorem C_47 (x0 : Int32) : X (d + 1) y (.inr (.invokestatic 47) :: ops) ls (.int x0 :: st) (ci, cj, g) Q ↔ am_wt st ≤ 8 ∧ X d 47 (am_bk 47 0) [.int x0] [] (ci, cj, g) (fun r h' => X (d + 1) y ops ls (r.toList ++ st) h' Q) := (X_callIf (p := am_wt st ≤ 8 ∧ 1 ≤ 1) (as := [.int x0]) rfl rfl rfl (fun _ => rfl)).trans (and_congr_left' ⟨fun z => z.1, fun z => ⟨z, by decide⟩⟩)
theorem C_48 (x0 : Int32) : X (d + 1) y (.inr (.invokestatic 48) :: ops) ls (.int x0 :: st) (ci, cj, g) Q ↔ am_wt st ≤ 8 ∧ X d 48 (am_bk 48 0) [.int x0] [] (ci, cj, g) (fun r h' => X (d + 1) y ops ls (r.toList ++ st) h' Q) := (X_callIf (p := am_wt st ≤ 8 ∧ 1 ≤ 1) (as := [.int x0]) rfl rfl rfl (fun _ => rfl)).trans (and_congr_left' ⟨fun z => z.1, fun z => ⟨z, by decide⟩⟩)
theorem C_49 (x0 : Int32) : X (d + 1) y (.inr (.invokestatic 49) :: ops) ls (.int x0 :: st) (ci, cj, g) Q ↔ am_wt st ≤ 8 ∧ X d 49 (am_bk 49 0) [.int x0] [] (ci, cj, g) (fun r h' => X (d + 1) y ops ls (r.toList ++ st) h' Q) := (X_callIf (p := am_wt st ≤ 8 ∧ 1 ≤ 1) (as := [.int x0]) rfl rfl rfl (fun _ => rfl)).trans (and_congr_left' ⟨fun z => z.1, fun z => ⟨z, by decide⟩⟩)
theorem C_50 (a : Nat) (x0 : Int32) (hk : gk g a = 1) : X (d + 1) y (.inr (.invokevirtual 50) :: ops) ls (.int x0 :: .ref a :: st) (ci, cj, g) Q ↔ am_wt st ≤ 8 ∧ X d 50 (am_bk 50 0) [.ref a, .int x0, .null, .null] [] (ci, cj, g) (fun r h' => X (d + 1) y ops ls (r.toList ++ st) h' Q) := X_callV (t := 50) (c := 1) (as := [.int x0]) rfl hk rfl (by decide) (Nat.le_of_ble_eq_true rfl)
theorem C_51 (a : Nat) (x0 : Int32) (hk : gk g a = 1) : X (d + 1) y (.inr (.invokevirtual 51) :: ops) ls (.int x0 :: .ref a :: st) (ci, cj, g) Q ↔ am_wt st ≤ 8 ∧ X d 51 (am_bk 51 0) [.ref a, .int x0, .null, .null] [] (ci, cj, g) (fun r h' => X (d + 1) y ops ls (r.toList ++ st) h' Q) := X_callV (t := 51) (c := 1) (as := [.int x0]) rfl hk rfl (by decide) (Nat.le_of_ble_eq_true rfl)
theorem C_52 (a : Nat) (x0 : Int32) (hk : gk g a = 1) : X (d + 1) y (.inr (.invokevirtual 52) :: ops) ls (.int x0 :: .ref a :: st) (ci, cj, g) Q ↔ am_wt st ≤ 8 ∧ X d 52 (am_bk 52 0) [.ref a, .int x0] [] (ci, cj, g) (fun r h' => X (d + 1) y ops ls (r.toList ++ st) h' Q) := X_callV (t := 52) (c := 1) (as := [.int x0]) rfl hk rfl (by decide) (Nat.le_of_ble_eq_true rfl)
theorem C_53 (a : Nat) (x0 : Int32) (hk : gk g a = 1) : X (d + 1) y (.inr (.invokevirtual 53) :: ops) ls (.int x0 :: .ref a :: st) (ci, cj, g) Q ↔ am_wt st ≤ 8 ∧ X d 53 (am_bk 53 0) [.ref a, .int x0] [] (ci, cj, g) (fun r h' => X (d + 1) y ops ls (r.toList ++ st) h' Q) := X_callV (t := 53) (c := 1) (as := [.int x0]) rfl hk rfl (by decide) (Nat.le_of_ble_eq_true rfl)
theorem C_54 (a : Nat) (x0 : Int32) (x1 : Int32) (hk : gk g a = 1) : X (d + 1) y (.inr (.invokevirtual 54) :: ops) ls (.int x1 :: .int x0 :: .ref a :: st) (ci, cj, g) Q ↔ am_wt st ≤ 8 ∧ X d 54 (am_bk 54 0) [.ref a, .int x0, .int x1, .null, .null] [] (ci, cj, g) (fun r h' => X (d + 1) y ops ls (r.toList ++ st) h' Q) := X_callV (t := 54) (c := 1) (as := [.int x0, .int x1]) rfl hk rfl (by decide) (Nat.le_of_ble_eq_true rfl)
theorem C_55 (a : Nat) (x0 : Int32) (x1 : Int32) (x2 : Int32) (hk : gk g a = 1) : X (d + 1) y (.inr (.invokevirtual 55) :: ops) ls (.int x2 :: .int x1 :: .int x0 :: .ref a :: st) (ci, cj, g) Q ↔ am_wt st ≤ 8 ∧ X d 55 (am_bk 55 0) [.ref a, .int x0, .int x1, .int x2, .null, .null] [] (ci, cj, g) (fun r h' => X (d + 1) y ops ls (r.toList ++ st) h' Q) := X_callV (t := 55) (c := 1) (as := [.int x0, .int x1, .int x2]) rfl hk rfl (by decide) (Nat.le_of_ble_eq_true rfl)
theorem C_56 (a : Nat) (x0 : Nat) (x1 : Int32) (hk : gk g a = 1) : X (d + 1) y (.inr (.invokevirtual 56) :: ops) ls (.int x1 :: .ref x0 :: .ref a :: st) (ci, cj, g) Q ↔ am_wt st ≤ 8 ∧ X d 56 (am_bk 56 0) [.ref a, .ref x0, .int x1, .null] [] (ci, cj, g) (fun r h' => X (d + 1) y ops ls (r.toList ++ st) h' Q) := X_callV (t := 56) (c := 1) (as := [.ref x0, .int x1]) rfl hk rfl (by decide) (Nat.le_of_ble_eq_true rfl)
theorem C_57 (a : Nat) (x0 : Nat) (x1 : Nat) (x2 : Int32) (hk : gk g a = 1) : X (d + 1) y (.inr (.invokevirtual 57) :: ops) ls (.int x2 :: .ref x1 :: .ref x0 :: .ref a :: st) (ci, cj, g) Q ↔ am_wt st ≤ 8 ∧ X d 57 (am_bk 57 0) [.ref a, .ref x0, .ref x1, .int x2, .null, .null, .null] [] (ci, cj, g) (fun r h' => X (d + 1) y ops ls (r.toList ++ st) h' Q) := X_callV (t := 57) (c := 1) (as := [.ref x0, .ref x1, .int x2]) rfl hk rfl (by decide) (Nat.le_of_ble_eq_true rfl)
theorem C_58 (x0 : Int32) (x1 : Int32) : X (d + 1) y (.inr (.invokestatic 58) :: ops) ls (.int x1 :: .int x0 :: st) (ci, cj, g) Q ↔ am_wt st ≤ 8 ∧ X d 58 (am_bk 58 0) [.int x0, .int x1] [] (ci, cj, g) (fun r h' => X (d + 1) y ops ls (r.toList ++ st) h' Q) := (X_callIf (p := am_wt st ≤ 8 ∧ 2 ≤ 2) (as := [.int x0, .int x1]) rfl rfl rfl (fun _ => rfl)).trans (and_congr_left' ⟨fun z => z.1, fun z => ⟨z, by decide⟩⟩)
theorem C_59 (a : Nat) (x0 : Nat) (x1 : Int32) (x2 : Int32) (hk : gk g a = 1) : X (d + 1) y (.inr (.invokevirtual 59) :: ops) ls (.int x2 :: .int x1 :: .ref x0 :: .ref a :: st) (ci, cj, g) Q ↔ am_wt st ≤ 8 ∧ X d 59 (am_bk 59 0) [.ref a, .ref x0, .int x1, .int x2] [] (ci, cj, g) (fun r h' => X (d + 1) y ops ls (r.toList ++ st) h' Q) := X_callV (t := 59) (c := 1) (as := [.ref x0, .int x1, .int x2]) rfl hk rfl (by decide) (Nat.le_of_ble_eq_true rfl)
theorem C_60 (a : Nat) (x0 : Nat) (x1 : Int32) (hk : gk g a = 1) : X (d + 1) y (.inr (.invokevirtual 60) :: ops) ls (.int x1 :: .ref x0 :: .ref a :: st) (ci, cj, g) Q ↔ am_wt st ≤ 8 ∧ X d 60 (am_bk 60 0) [.ref a, .ref x0, .int x1] [] (ci, cj, g) (fun r h' => X (d + 1) y ops ls (r.toList ++ st) h' Q) := X_callV (t := 60) (c := 1) (as := [.ref x0, .int x1]) rfl hk rfl (by decide) (Nat.le_of_ble_eq_true rfl)
theorem C_61 (a : Nat) (x0 : Nat) (x1 : Int32) (hk : gk g a = 1) : X (d + 1) y (.inr (.invokevirtual 61) :: ops) ls (.int x1 :: .ref x0 :: .ref a :: st) (ci, cj, g) Q ↔ am_wt st ≤ 8 ∧ X d 61 (am_bk 61 0) [.ref a, .ref x0, .int x1] [] (ci, cj, g) (fun r h' => X (d + 1) y ops ls (r.toList ++ st) h' Q) := X_callV (t := 61) (c := 1) (as := [.ref x0, .int x1]) rfl hk rfl (by decide) (Nat.le_of_ble_eq_true rfl)
theorem C_62 (a : Nat) (x0 : Int32) (hk : gk g a = 1) : X (d + 1) y (.inr (.invokevirtual 62) :: ops) ls (.int x0 :: .ref a :: st) (ci, cj, g) Q ↔ am_wt st ≤ 8 ∧ X d 62 (am_bk 62 0) [.ref a, .int x0, .null] [] (ci, cj, g) (fun r h' => X (d + 1) y ops ls (r.toList ++ st) h' Q) := X_callV (t := 62) (c := 1) (as := [.int x0]) rfl hk rfl (by decide) (Nat.le_of_ble_eq_true rfl)
theorem C_63 (a : Nat) (hk : gk g a = 1) : X (d + 1) y (.inr (.invokevirtual 63) :: ops) ls (.ref a :: st) (ci, cj, g) Q ↔ am_wt st ≤ 8 ∧ X d 63 (am_bk 63 0) [.ref a, .null, .null] [] (ci, cj, g) (fun r h' => X (d + 1) y ops ls (r.toList ++ st) h' Q) := X_callV (t := 63) (c := 1) (as := []) rfl hk rfl (by decide) (Nat.le_of_ble_eq_true rfl)
theorem C_64 (a : Nat) : X (d + 1) y (.inr (.invokespecial 64) :: ops) ls (.ref a :: st) (ci, cj, g) Q ↔ (a ≠ 0 ∧ am_wt st ≤ 8) ∧ X d 64 (am_bk 64 0) [.ref a] [] (ci, cj, g) (fun r h' => X (d + 1) y ops ls (r.toList ++ st) h' Q) := (X_callIf (p := a ≠ 0 ∧ am_wt st ≤ 8 ∧ 1 ≤ 1) (as := [.ref a]) rfl rfl rfl (fun _ => rfl)).trans (and_congr_left' ⟨fun z => ⟨z.1, z.2.1⟩, fun z => ⟨z.1, z.2, by decide⟩⟩)
theorem C_65 (a : Nat) (x0 : Nat) (hk : gk g a = 2) : X (d + 1) y (.inr (.invokevirtual 65) :: ops) ls (.ref x0 :: .ref a :: st) (ci, cj, g) Q ↔ am_wt st ≤ 8 ∧ X d 65 (am_bk 65 0) [.ref a, .ref x0] [] (ci, cj, g) (fun r h' => X (d + 1) y ops ls (r.toList ++ st) h' Q) := X_callV (t := 65) (c := 2) (as := [.ref x0]) rfl hk rfl (by decide) (Nat.le_of_ble_eq_true rfl)
theorem C_66 (x0 : Int32) (x1 : Int32) : X (d + 1) y (.inr (.invokestatic 66) :: ops) ls (.int x1 :: .int x0 :: st) (ci, cj, g) Q ↔ am_wt st ≤ 8 ∧ X d 66 (am_bk 66 0) [.int x0, .int x1] [] (ci, cj, g) (fun r h' => X (d + 1) y ops ls (r.toList ++ st) h' Q) := (X_callIf (p := am_wt st ≤ 8 ∧ 2 ≤ 2) (as := [.int x0, .int x1]) rfl rfl rfl (fun _ => rfl)).trans (and_congr_left' ⟨fun z => z.1, fun z => ⟨z, by decide⟩⟩)
theorem C_67 (x0 : Int32) : X (d + 1) y (.inr (.invokestatic 67) :: ops) ls (.int x0 :: st) (ci, cj, g) Q ↔ am_wt st ≤ 8 ∧ X d 67 (am_bk 67 0) [.int x0] [] (ci, cj, g) (fun r h' => X (d + 1) y ops ls (r.toList ++ st) h' Q) := (X_callIf (p := am_wt st ≤ 8 ∧ 1 ≤ 1) (as := [.int x0]) rfl rfl rfl (fun _ => rfl)).trans (and_congr_left' ⟨fun z => z.1, fun z => ⟨z, by decide⟩⟩)
theorem C_68 (a : Nat) (x0 : Int32) (hk : gk g a = 2) : X (d + 1) y (.inr (.invokevirtual 68) :: ops) ls (.int x0 :: .ref a :: st) (ci, cj, g) Q ↔ am_wt st ≤ 8 ∧ X d 68 (am_bk 68 0) [.ref a, .int x0] [] (ci, cj, g) (fun r h' => X (d + 1) y ops ls (r.toList ++ st) h' Q) := X_callV (t := 68) (c := 2) (as := [.int x0]) rfl hk rfl (by decide) (Nat.le_of_ble_eq_true rfl)
theorem C_69 (a : Nat) (hk : gk g a = 2) : X (d + 1) y (.inr (.invokevirtual 69) :: ops) ls (.ref a :: st) (ci, cj, g) Q ↔ am_wt st ≤ 8 ∧ X d 69 (am_bk 69 0) [.ref a] [] (ci, cj, g) (fun r h' => X (d + 1) y ops ls (r.toList ++ st) h' Q) := X_callV (t := 69) (c := 2) (as := []) rfl hk rfl (by decide) (Nat.le_of_ble_eq_true rfl)
theorem C_70 (a : Nat) (x0 : Int32) (hk : gk g a = 2) : X (d + 1) y (.inr (.invokevirtual 70) :: ops) ls (.int x0 :: .ref a :: st) (ci, cj, g) Q ↔ am_wt st ≤ 8 ∧ X d 70 (am_bk 70 0) [.ref a, .int x0] [] (ci, cj, g) (fun r h' => X (d + 1) y ops ls (r.toList ++ st) h' Q) := X_callV (t := 70) (c := 2) (as := [.int x0]) rfl hk rfl (by decide) (Nat.le_of_ble_eq_true rfl)
theorem C_71 (a : Nat) (hk : gk g a = 2) : X (d + 1) y (.inr (.invokevirtual 71) :: ops) ls (.ref a :: st) (ci, cj, g) Q ↔ am_wt st ≤ 8 ∧ X d 71 (am_bk 71 0) [.ref a, .null] [] (ci, cj, g) (fun r h' => X (d + 1) y ops ls (r.toList ++ st) h' Q) := X_callV (t := 71) (c := 2) (as := []) rfl hk rfl (by decide) (Nat.le_of_ble_eq_true rfl)
theorem C_72 (a : Nat) (x0 : Int32) (hk : gk g a = 2) : X (d + 1) y (.inr (.invokevirtual 72) :: ops) ls (.int x0 :: .ref a :: st) (ci, cj, g) Q ↔ am_wt st ≤ 8 ∧ X d 72 (am_bk 72 0) [.ref a, .int x0, .null] [] (ci, cj, g) (fun r h' => X (d + 1) y ops ls (r.toList ++ st) h' Q) := X_callV (t := 72) (c := 2) (as := [.int x0]) rfl hk rfl (by decide) (Nat.le_of_ble_eq_true rfl)
theorem C_73 (a : Nat) (x0 : Int64) (hk : gk g a = 2) : X (d + 1) y (.inr (.invokevirtual 73) :: ops) ls (.long x0 :: .ref a :: st) (ci, cj, g) Q ↔ am_wt st ≤ 8 ∧ X d 73 (am_bk 73 0) [.ref a, .long x0, .null] [] (ci, cj, g) (fun r h' => X (d + 1) y ops ls (r.toList ++ st) h' Q) := X_callV (t := 73) (c := 2) (as := [.long x0]) rfl hk rfl (by decide) (Nat.le_of_ble_eq_true rfl)
theorem C_74 (a : Nat) (hk : gk g a = 2) : X (d + 1) y (.inr (.invokevirtual 74) :: ops) ls (.ref a :: st) (ci, cj, g) Q ↔ am_wt st ≤ 8 ∧ X d 74 (am_bk 74 0) [.ref a, .null, .null] [] (ci, cj, g) (fun r h' => X (d + 1) y ops ls (r.toList ++ st) h' Q) := X_callV (t := 74) (c := 2) (as := []) rfl hk rfl (by decide) (Nat.le_of_ble_eq_true rfl)
theorem C_75 (a : Nat) (x0 : Int64) (x1 : Int64) (x2 : Int64) (x3 : Int64) (hk : gk g a = 2) : X (d + 1) y (.inr (.invokevirtual 75) :: ops) ls (.long x3 :: .long x2 :: .long x1 :: .long x0 :: .ref a :: st) (ci, cj, g) Q ↔ am_wt st ≤ 8 ∧ X d 75 (am_bk 75 0) [.ref a, .long x0, .null, .long x1, .null, .long x2, .null, .long x3, .null] [] (ci, cj, g) (fun r h' => X (d + 1) y ops ls (r.toList ++ st) h' Q) := X_callV (t := 75) (c := 2) (as := [.long x0, .long x1, .long x2, .long x3]) rfl hk rfl (by decide) (Nat.le_of_ble_eq_true rfl)
theorem C_76 (a : Nat) (x0 : Int32) (x1 : Int32) (x2 : Int32) (x3 : Int32) (hk : gk g a = 2) : X (d + 1) y (.inr (.invokevirtual 76) :: ops) ls (.int x3 :: .int x2 :: .int x1 :: .int x0 :: .ref a :: st) (ci, cj, g) Q ↔ am_wt st ≤ 8 ∧ X d 76 (am_bk 76 0) [.ref a, .int x0, .int x1, .int x2, .int x3] [] (ci, cj, g) (fun r h' => X (d + 1) y ops ls (r.toList ++ st) h' Q) := X_callV (t := 76) (c := 2) (as := [.int x0, .int x1, .int x2, .int x3]) rfl hk rfl (by decide) (Nat.le_of_ble_eq_true rfl)
theorem C_77 (a : Nat) (x0 : Int32) (hk : gk g a = 2) : X (d + 1) y (.inr (.invokevirtual 77) :: ops) ls (.int x0 :: .ref a :: st) (ci, cj, g) Q ↔ am_wt st ≤ 8 ∧ X d 77 (am_bk 77 0) [.ref a, .int x0] [] (ci, cj, g) (fun r h' => X (d + 1) y ops ls (r.toList ++ st) h' Q) := X_callV (t := 77) (c := 2) (as := [.int x0]) rfl hk rfl (by decide) (Nat.le_of_ble_eq_true rfl)
theorem C_78 (a : Nat) (x0 : Int32) (hk : gk g a = 2) : X (d + 1) y (.inr (.invokevirtual 78) :: ops) ls (.int x0 :: .ref a :: st) (ci, cj, g) Q ↔ am_wt st ≤ 8 ∧ X d 78 (am_bk 78 0) [.ref a, .int x0] [] (ci, cj, g) (fun r h' => X (d + 1) y ops ls (r.toList ++ st) h' Q) := X_callV (t := 78) (c := 2) (as := [.int x0]) rfl hk rfl (by decide) (Nat.le_of_ble_eq_true rfl)
theorem C_79 (a : Nat) (x0 : Int32) (x1 : Int32) (x2 : Int32) (x3 : Nat) (x4 : Int32) (hk : gk g a = 2) : X (d + 1) y (.inr (.invokevirtual 79) :: ops) ls (.int x4 :: .ref x3 :: .int x2 :: .int x1 :: .int x0 :: .ref a :: st) (ci, cj, g) Q ↔ am_wt st ≤ 8 ∧ X d 79 (am_bk 79 0) [.ref a, .int x0, .int x1, .int x2, .ref x3, .int x4] [] (ci, cj, g) (fun r h' => X (d + 1) y ops ls (r.toList ++ st) h' Q) := X_callV (t := 79) (c := 2) (as := [.int x0, .int x1, .int x2, .ref x3, .int x4]) rfl hk rfl (by decide) (Nat.le_of_ble_eq_true rfl)
theorem C_80 (a : Nat) (x0 : Int32) (x1 : Int32) (x2 : Nat) (x3 : Int32) (hk : gk g a = 2) : X (d + 1) y (.inr (.invokevirtual 80) :: ops) ls (.int x3 :: .ref x2 :: .int x1 :: .int x0 :: .ref a :: st) (ci, cj, g) Q ↔ am_wt st ≤ 8 ∧ X d 80 (am_bk 80 0) [.ref a, .int x0, .int x1, .ref x2, .int x3, .null, .null, .null, .null, .null, .null] [] (ci, cj, g) (fun r h' => X (d + 1) y ops ls (r.toList ++ st) h' Q) := X_callV (t := 80) (c := 2) (as := [.int x0, .int x1, .ref x2, .int x3]) rfl hk rfl (by decide) (Nat.le_of_ble_eq_true rfl)
theorem C_81 (a : Nat) (x0 : Int32) (hk : gk g a = 2) : X (d + 1) y (.inr (.invokevirtual 81) :: ops) ls (.int x0 :: .ref a :: st) (ci, cj, g) Q ↔ am_wt st ≤ 8 ∧ X d 81 (am_bk 81 0) [.ref a, .int x0] [] (ci, cj, g) (fun r h' => X (d + 1) y ops ls (r.toList ++ st) h' Q) := X_callV (t := 81) (c := 2) (as := [.int x0]) rfl hk rfl (by decide) (Nat.le_of_ble_eq_true rfl)
theorem C_82 (a : Nat) (x0 : Nat) (hk : gk g a = 2) : X (d + 1) y (.inr (.invokevirtual 82) :: ops) ls (.ref x0 :: .ref a :: st) (ci, cj, g) Q ↔ am_wt st ≤ 8 ∧ X d 82 (am_bk 82 0) [.ref a, .ref x0, .null, .null] [] (ci, cj, g) (fun r h' => X (d + 1) y ops ls (r.toList ++ st) h' Q) := X_callV (t := 82) (c := 2) (as := [.ref x0]) rfl hk rfl (by decide) (Nat.le_of_ble_eq_true rfl)
theorem C_83 (a : Nat) (hk : gk g a = 2) : X (d + 1) y (.inr (.invokevirtual 83) :: ops) ls (.ref a :: st) (ci, cj, g) Q ↔ am_wt st ≤ 8 ∧ X d 83 (am_bk 83 0) [.ref a, .null, .null] [] (ci, cj, g) (fun r h' => X (d + 1) y ops ls (r.toList ++ st) h' Q) := X_callV (t := 83) (c := 2) (as := []) rfl hk rfl (by decide) (Nat.le_of_ble_eq_true rfl)
theorem C_84 (a : Nat) (x0 : Int32) (x1 : Int32) (hk : gk g a = 2) : X (d + 1) y (.inr (.invokevirtual 84) :: ops) ls (.int x1 :: .int x0 :: .ref a :: st) (ci, cj, g) Q ↔ am_wt st ≤ 8 ∧ X d 84 (am_bk 84 0) [.ref a, .int x0, .int x1] [] (ci, cj, g) (fun r h' => X (d + 1) y ops ls (r.toList ++ st) h' Q) := X_callV (t := 84) (c := 2) (as := [.int x0, .int x1]) rfl hk rfl (by decide) (Nat.le_of_ble_eq_true rfl)
theorem C_85 (a : Nat) : X (d + 1) y (.inr (.invokespecial 85) :: ops) ls (.ref a :: st) (ci, cj, g) Q ↔ (a ≠ 0 ∧ am_wt st ≤ 8) ∧ X d 85 (am_bk 85 0) [.ref a] [] (ci, cj, g) (fun r h' => X (d + 1) y ops ls (r.toList ++ st) h' Q) := (X_callIf (p := a ≠ 0 ∧ am_wt st ≤ 8 ∧ 1 ≤ 1) (as := [.ref a]) rfl rfl rfl (fun _ => rfl)).trans (and_congr_left' ⟨fun z => ⟨z.1, z.2.1⟩, fun z => ⟨z.1, z.2, by decide⟩⟩)
theorem C_86 (a : Nat) (x0 : Nat) (hk : gk g a = 3) : X (d + 1) y (.inr (.invokevirtual 86) :: ops) ls (.ref x0 :: .ref a :: st) (ci, cj, g) Q ↔ am_wt st ≤ 8 ∧ X d 86 (am_bk 86 0) [.ref a, .ref x0, .null] [] (ci, cj, g) (fun r h' => X (d + 1) y ops ls (r.toList ++ st) h' Q) := X_callV (t := 86) (c := 3) (as := [.ref x0]) rfl hk rfl (by decide) (Nat.le_of_ble_eq_true rfl)
theorem C_87 (a : Nat) (x0 : Nat) (x1 : Int32) (hk : gk g a = 3) : X (d + 1) y (.inr (.invokevirtual 87) :: ops) ls (.int x1 :: .ref x0 :: .ref a :: st) (ci, cj, g) Q ↔ am_wt st ≤ 8 ∧ X d 87 (am_bk 87 0) [.ref a, .ref x0, .int x1, .null] [] (ci, cj, g) (fun r h' => X (d + 1) y ops ls (r.toList ++ st) h' Q) := X_callV (t := 87) (c := 3) (as := [.ref x0, .int x1]) rfl hk rfl (by decide) (Nat.le_of_ble_eq_true rfl)
theorem C_88 (a : Nat) (x0 : Nat) (x1 : Int32) (hk : gk g a = 3) : X (d + 1) y (.inr (.invokevirtual 88) :: ops) ls (.int x1 :: .ref x0 :: .ref a :: st) (ci, cj, g) Q ↔ am_wt st ≤ 8 ∧ X d 88 (am_bk 88 0) [.ref a, .ref x0, .int x1] [] (ci, cj, g) (fun r h' => X (d + 1) y ops ls (r.toList ++ st) h' Q) := X_callV (t := 88) (c := 3) (as := [.ref x0, .int x1]) rfl hk rfl (by decide) (Nat.le_of_ble_eq_true rfl)
theorem C_89 (a : Nat) (x0 : Nat) (x1 : Nat) (hk : gk g a = 3) : X (d + 1) y (.inr (.invokevirtual 89) :: ops) ls (.ref x1 :: .ref x0 :: .ref a :: st) (ci, cj, g) Q ↔ am_wt st ≤ 8 ∧ X d 89 (am_bk 89 0) [.ref a, .ref x0, .ref x1, .null, .null, .null] [] (ci, cj, g) (fun r h' => X (d + 1) y ops ls (r.toList ++ st) h' Q) := X_callV (t := 89) (c := 3) (as := [.ref x0, .ref x1]) rfl hk rfl (by decide) (Nat.le_of_ble_eq_true rfl)
theorem C_90 (a : Nat) (x0 : Nat) (x1 : Int32) (hk : gk g a = 3) : X (d + 1) y (.inr (.invokevirtual 90) :: ops) ls (.int x1 :: .ref x0 :: .ref a :: st) (ci, cj, g) Q ↔ am_wt st ≤ 8 ∧ X d 90 (am_bk 90 0) [.ref a, .ref x0, .int x1, .null] [] (ci, cj, g) (fun r h' => X (d + 1) y ops ls (r.toList ++ st) h' Q) := X_callV (t := 90) (c := 3) (as := [.ref x0, .int x1]) rfl hk rfl (by decide) (Nat.le_of_ble_eq_true rfl)
theorem C_91 (a : Nat) (x0 : Nat) (hk : gk g a = 3) : X (d + 1) y (.inr (.invokevirtual 91) :: ops) ls (.ref x0 :: .ref a :: st) (ci, cj, g) Q ↔ am_wt st ≤ 8 ∧ X d 91 (am_bk 91 0) [.ref a, .ref x0, .null, .null, .null, .null, .null, .null, .null, .null, .null, .null, .null, .null, .null, .null] [] (ci, cj, g) (fun r h' => X (d + 1) y ops ls (r.toList ++ st) h' Q) := X_callV (t := 91) (c := 3) (as := [.ref x0]) rfl hk rfl (by decide) (Nat.le_of_ble_eq_true rfl)
theorem C_92 (a : Nat) (x0 : Int32) (hk : gk g a = 3) : X (d + 1) y (.inr (.invokevirtual 92) :: ops) ls (.int x0 :: .ref a :: st) (ci, cj, g) Q ↔ am_wt st ≤ 8 ∧ X d 92 (am_bk 92 0) [.ref a, .int x0, .null, .null, .null] [] (ci, cj, g) (fun r h' => X (d + 1) y ops ls (r.toList ++ st) h' Q) := X_callV (t := 92) (c := 3) (as := [.int x0]) rfl hk rfl (by decide) (Nat.le_of_ble_eq_true rfl)
theorem C_93 (a : Nat) (x0 : Nat) (hk : gk g a = 3) : X (d + 1) y (.inr (.invokevirtual 93) :: ops) ls (.ref x0 :: .ref a :: st) (ci, cj, g) Q ↔ am_wt st ≤ 8 ∧ X d 93 (am_bk 93 0) [.ref a, .ref x0, .null, .null, .null, .null, .null, .null, .null, .null, .null, .null] [] (ci, cj, g) (fun r h' => X (d + 1) y ops ls (r.toList ++ st) h' Q) := X_callV (t := 93) (c := 3) (as := [.ref x0]) rfl hk rfl (by decide) (Nat.le_of_ble_eq_true rfl)
theorem C_94 (a : Nat) (x0 : Nat) (hk : gk g a = 3) : X (d + 1) y (.inr (.invokevirtual 94) :: ops) ls (.ref x0 :: .ref a :: st) (ci, cj, g) Q ↔ am_wt st ≤ 8 ∧ X d 94 (am_bk 94 0) [.ref a, .ref x0, .null] [] (ci, cj, g) (fun r h' => X (d + 1) y ops ls (r.toList ++ st) h' Q) := X_callV (t := 94) (c := 3) (as := [.ref x0]) rfl hk rfl (by decide) (Nat.le_of_ble_eq_true rfl)
theorem C_95 (a : Nat) (x0 : Nat) (x1 : Int32) (hk : gk g a = 3) : X (d + 1) y (.inr (.invokevirtual 95) :: ops) ls (.int x1 :: .ref x0 :: .ref a :: st) (ci, cj, g) Q ↔ am_wt st ≤ 8 ∧ X d 95 (am_bk 95 0) [.ref a, .ref x0, .int x1, .null, .null, .null, .null, .null] [] (ci, cj, g) (fun r h' => X (d + 1) y ops ls (r.toList ++ st) h' Q) := X_callV (t := 95) (c := 3) (as := [.ref x0, .int x1]) rfl hk rfl (by decide) (Nat.le_of_ble_eq_true rfl)
theorem C_96 (a : Nat) (hk : gk g a = 3) : X (d + 1) y (.inr (.invokevirtual 96) :: ops) ls (.ref a :: st) (ci, cj, g) Q ↔ am_wt st ≤ 8 ∧ X d 96 (am_bk 96 0) [.ref a, .null] [] (ci, cj, g) (fun r h' => X (d + 1) y ops ls (r.toList ++ st) h' Q) := X_callV (t := 96) (c := 3) (as := []) rfl hk rfl (by decide) (Nat.le_of_ble_eq_true rfl)
theorem C_97 (a : Nat) (x0 : Nat) (x1 : Nat) (x2 : Int32) (hk : gk g a = 3) : X (d + 1) y (.inr (.invokevirtual 97) :: ops) ls (.int x2 :: .ref x1 :: .ref x0 :: .ref a :: st) (ci, cj, g) Q ↔ am_wt st ≤ 8 ∧ X d 97 (am_bk 97 0) [.ref a, .ref x0, .ref x1, .int x2, .null, .null, .null, .null, .null, .null] [] (ci, cj, g) (fun r h' => X (d + 1) y ops ls (r.toList ++ st) h' Q) := X_callV (t := 97) (c := 3) (as := [.ref x0, .ref x1, .int x2]) rfl hk rfl (by decide) (Nat.le_of_ble_eq_true rfl)
theorem C_98 (a : Nat) (x0 : Nat) (x1 : Nat) (x2 : Int32) (x3 : Int32) (hk : gk g a = 3) : X (d + 1) y (.inr (.invokevirtual 98) :: ops) ls (.int x3 :: .int x2 :: .ref x1 :: .ref x0 :: .ref a :: st) (ci, cj, g) Q ↔ am_wt st ≤ 8 ∧ X d 98 (am_bk 98 0) [.ref a, .ref x0, .ref x1, .int x2, .int x3, .null, .null] [] (ci, cj, g) (fun r h' => X (d + 1) y ops ls (r.toList ++ st) h' Q) := X_callV (t := 98) (c := 3) (as := [.ref x0, .ref x1, .int x2, .int x3]) rfl hk rfl (by decide) (Nat.le_of_ble_eq_true rfl)
theorem C_99 (a : Nat) (hk : gk g a = 3) : X (d + 1) y (.inr (.invokevirtual 99) :: ops) ls (.ref a :: st) (ci, cj, g) Q ↔ am_wt st ≤ 8 ∧ X d 99 (am_bk 99 0) [.ref a, .null, .null] [] (ci, cj, g) (fun r h' => X (d + 1) y ops ls (r.toList ++ st) h' Q) := X_callV (t := 99) (c := 3) (as := []) rfl hk rfl (by decide) (Nat.le_of_ble_eq_true rfl)
theorem C_100 (a : Nat) : X (d + 1) y (.inr (.invokespecial 100) :: ops) ls (.ref a :: st) (ci, cj, g) Q ↔ (a ≠ 0 ∧ am_wt st ≤ 8) ∧ X d 100 (am_bk 100 0) [.ref a] [] (ci, cj, g) (fun r h' => X (d + 1) y ops ls (r.toList ++ st) h' Q) := (X_callIf (p := a ≠ 0 ∧ am_wt st ≤ 8 ∧ 1 ≤ 1) (as := [.ref a]) rfl rfl rfl (fun _ => rfl)).trans (and_congr_left' ⟨fun z => ⟨z.1, z.2.1⟩, fun z => ⟨z.1, z.2, by decide⟩⟩)
theorem C_101 (a : Nat) (x0 : Int32) (x1 : Int32) (hk : gk g a = 4) : X (d + 1) y (.inr (.invokevirtual 101) :: ops) ls (.int x1 :: .int x0 :: .ref a :: st) (ci, cj, g) Q ↔ am_wt st ≤ 8 ∧ X d 101 (am_bk 101 0) [.ref a, .int x0, .int x1, .null] [] (ci, cj, g) (fun r h' => X (d + 1) y ops ls (r.toList ++ st) h' Q) := X_callV (t := 101) (c := 4) (as := [.int x0, .int x1]) rfl hk rfl (by decide) (Nat.le_of_ble_eq_true rfl)
theorem C_102 (a : Nat) (x0 : Nat) (hk : gk g a = 4) : X (d + 1) y (.inr (.invokevirtual 102) :: ops) ls (.ref x0 :: .ref a :: st) (ci, cj, g) Q ↔ am_wt st ≤ 8 ∧ X d 102 (am_bk 102 0) [.ref a, .ref x0, .null] [] (ci, cj, g) (fun r h' => X (d + 1) y ops ls (r.toList ++ st) h' Q) := X_callV (t := 102) (c := 4) (as := [.ref x0]) rfl hk rfl (by decide) (Nat.le_of_ble_eq_true rfl)
theorem C_103 (a : Nat) (x0 : Nat) (hk : gk g a = 4) : X (d + 1) y (.inr (.invokevirtual 103) :: ops) ls (.ref x0 :: .ref a :: st) (ci, cj, g) Q ↔ am_wt st ≤ 8 ∧ X d 103 (am_bk 103 0) [.ref a, .ref x0, .null, .null] [] (ci, cj, g) (fun r h' => X (d + 1) y ops ls (r.toList ++ st) h' Q) := X_callV (t := 103) (c := 4) (as := [.ref x0]) rfl hk rfl (by decide) (Nat.le_of_ble_eq_true rfl)
theorem C_104 (a : Nat) (x0 : Nat) (hk : gk g a = 4) : X (d + 1) y (.inr (.invokevirtual 104) :: ops) ls (.ref x0 :: .ref a :: st) (ci, cj, g) Q ↔ am_wt st ≤ 8 ∧ X d 104 (am_bk 104 0) [.ref a, .ref x0, .null, .null, .null, .null] [] (ci, cj, g) (fun r h' => X (d + 1) y ops ls (r.toList ++ st) h' Q) := X_callV (t := 104) (c := 4) (as := [.ref x0]) rfl hk rfl (by decide) (Nat.le_of_ble_eq_true rfl)
theorem C_105 (a : Nat) (hk : gk g a = 4) : X (d + 1) y (.inr (.invokevirtual 105) :: ops) ls (.ref a :: st) (ci, cj, g) Q ↔ am_wt st ≤ 8 ∧ X d 105 (am_bk 105 0) [.ref a] [] (ci, cj, g) (fun r h' => X (d + 1) y ops ls (r.toList ++ st) h' Q) := X_callV (t := 105) (c := 4) (as := []) rfl hk rfl (by decide) (Nat.le_of_ble_eq_true rfl)
theorem C_106 (a : Nat) (hk : gk g a = 4) : X (d + 1) y (.inr (.invokevirtual 106) :: ops) ls (.ref a :: st) (ci, cj, g) Q ↔ am_wt st ≤ 8 ∧ X d 106 (am_bk 106 0) [.ref a] [] (ci, cj, g) (fun r h' => X (d + 1) y ops ls (r.toList ++ st) h' Q) := X_callV (t := 106) (c := 4) (as := []) rfl hk rfl (by decide) (Nat.le_of_ble_eq_true rfl)
theorem C_107 (x0 : Int32) : X (d + 1) y (.inr (.invokestatic 107) :: ops) ls (.int x0 :: st) (ci, cj, g) Q ↔ am_wt st ≤ 8 ∧ X d 107 (am_bk 107 0) [.int x0] [] (ci, cj, g) (fun r h' => X (d + 1) y ops ls (r.toList ++ st) h' Q) := (X_callIf (p := am_wt st ≤ 8 ∧ 1 ≤ 1) (as := [.int x0]) rfl rfl rfl (fun _ => rfl)).trans (and_congr_left' ⟨fun z => z.1, fun z => ⟨z, by decide⟩⟩)
theorem C_108 (a : Nat) (x0 : Nat) (hk : gk g a = 4) : X (d + 1) y (.inr (.invokevirtual 108) :: ops) ls (.ref x0 :: .ref a :: st) (ci, cj, g) Q ↔ am_wt st ≤ 8 ∧ X d 108 (am_bk 108 0) [.ref a, .ref x0, .null] [] (ci, cj, g) (fun r h' => X (d + 1) y ops ls (r.toList ++ st) h' Q) := X_callV (t := 108) (c := 4) (as := [.ref x0]) rfl hk rfl (by decide) (Nat.le_of_ble_eq_true rfl)
theorem C_109 (a : Nat) (x0 : Int32) (x1 : Int32) (hk : gk g a = 4) : X (d + 1) y (.inr (.invokevirtual 109) :: ops) ls (.int x1 :: .int x0 :: .ref a :: st) (ci, cj, g) Q ↔ am_wt st ≤ 8 ∧ X d 109 (am_bk 109 0) [.ref a, .int x0, .int x1, .null, .null] [] (ci, cj, g) (fun r h' => X (d + 1) y ops ls (r.toList ++ st) h' Q) := X_callV (t := 109) (c := 4) (as := [.int x0, .int x1]) rfl hk rfl (by decide) (Nat.le_of_ble_eq_true rfl)
theorem C_110 (a : Nat) (x0 : Nat) (x1 : Int32) (x2 : Int32) (hk : gk g a = 4) : X (d + 1) y (.inr (.invokevirtual 110) :: ops) ls (.int x2 :: .int x1 :: .ref x0 :: .ref a :: st) (ci, cj, g) Q ↔ am_wt st ≤ 8 ∧ X d 110 (am_bk 110 0) [.ref a, .ref x0, .int x1, .int x2] [] (ci, cj, g) (fun r h' => X (d + 1) y ops ls (r.toList ++ st) h' Q) := X_callV (t := 110) (c := 4) (as := [.ref x0, .int x1, .int x2]) rfl hk rfl (by decide) (Nat.le_of_ble_eq_true rfl)
theorem C_111 (a : Nat) (x0 : Int32) (x1 : Int32) : X (d + 1) y (.inr (.invokespecial 111) :: ops) ls (.int x1 :: .int x0 :: .ref a :: st) (ci, cj, g) Q ↔ (a ≠ 0 ∧ am_wt st ≤ 8) ∧ X d 111 (am_bk 111 0) [.ref a, .int x0, .int x1] [] (ci, cj, g) (fun r h' => X (d + 1) y ops ls (r.toList ++ st) h' Q) := (X_callIf (p := a ≠ 0 ∧ am_wt st ≤ 8 ∧ 3 ≤ 3) (as := [.ref a, .int x0, .int x1]) rfl rfl rfl (fun _ => rfl)).trans (and_congr_left' ⟨fun z => ⟨z.1, z.2.1⟩, fun z => ⟨z.1, z.2, by decide⟩⟩)
theorem C_113 (a : Nat) (x0 : Int32) (hk : gk g a = 5) : X (d + 1) y (.inr (.invokevirtual 113) :: ops) ls (.int x0 :: .ref a :: st) (ci, cj, g) Q ↔ am_wt st ≤ 8 ∧ X d 113 (am_bk 113 0) [.ref a, .int x0] [] (ci, cj, g) (fun r h' => X (d + 1) y ops ls (r.toList ++ st) h' Q) := X_callV (t := 113) (c := 5) (as := [.int x0]) rfl hk rfl (by decide) (Nat.le_of_ble_eq_true rfl)
theorem C_114 (a : Nat) (x0 : Int32) (x1 : Int32) (hk : gk g a = 5) : X (d + 1) y (.inr (.invokevirtual 114) :: ops) ls (.int x1 :: .int x0 :: .ref a :: st) (ci, cj, g) Q ↔ am_wt st ≤ 8 ∧ X d 114 (am_bk 114 0) [.ref a, .int x0, .int x1] [] (ci, cj, g) (fun r h' => X (d + 1) y ops ls (r.toList ++ st) h' Q) := X_callV (t := 114) (c := 5) (as := [.int x0, .int x1]) rfl hk rfl (by decide) (Nat.le_of_ble_eq_true rfl)
theorem C_115 (a : Nat) (x0 : Int32) (x1 : Int64) (hk : gk g a = 5) : X (d + 1) y (.inr (.invokevirtual 115) :: ops) ls (.long x1 :: .int x0 :: .ref a :: st) (ci, cj, g) Q ↔ am_wt st ≤ 8 ∧ X d 115 (am_bk 115 0) [.ref a, .int x0, .long x1, .null] [] (ci, cj, g) (fun r h' => X (d + 1) y ops ls (r.toList ++ st) h' Q) := X_callV (t := 115) (c := 5) (as := [.int x0, .long x1]) rfl hk rfl (by decide) (Nat.le_of_ble_eq_true rfl)
theorem C_116 (a : Nat) (x0 : Int32) (hk : gk g a = 5) : X (d + 1) y (.inr (.invokevirtual 116) :: ops) ls (.int x0 :: .ref a :: st) (ci, cj, g) Q ↔ am_wt st ≤ 8 ∧ X d 116 (am_bk 116 0) [.ref a, .int x0, .null, .null] [] (ci, cj, g) (fun r h' => X (d + 1) y ops ls (r.toList ++ st) h' Q) := X_callV (t := 116) (c := 5) (as := [.int x0]) rfl hk rfl (by decide) (Nat.le_of_ble_eq_true rfl)
theorem C_117 (a : Nat) (x0 : Int32) : X (d + 1) y (.inr (.invokespecial 117) :: ops) ls (.int x0 :: .ref a :: st) (ci, cj, g) Q ↔ (a ≠ 0 ∧ am_wt st ≤ 8) ∧ X d 117 (am_bk 117 0) [.ref a, .int x0] [] (ci, cj, g) (fun r h' => X (d + 1) y ops ls (r.toList ++ st) h' Q) := (X_callIf (p := a ≠ 0 ∧ am_wt st ≤ 8 ∧ 2 ≤ 2) (as := [.ref a, .int x0]) rfl rfl rfl (fun _ => rfl)).trans (and_congr_left' ⟨fun z => ⟨z.1, z.2.1⟩, fun z => ⟨z.1, z.2, by decide⟩⟩)
theorem C_119_super (a : Nat) (x0 : Nat) (x1 : Int32) (x2 : Int32) (x3 : Nat) : X (d + 1) y (.inr (.invokedynamic 119) :: ops) ls (.ref x3 :: .int x2 :: .int x1 :: .ref x0 :: .ref a :: st) (ci, cj, g) Q ↔ (gk g a = 8 ∧ am_wt st ≤ 8) ∧ X d 119 (am_bk 119 0) [.ref a, .ref x0, .int x1, .int x2, .ref x3, .null] [] (ci, cj, g) (fun r h' => X (d + 1) y ops ls (r.toList ++ st) h' Q) := (X_callIf (p := gk g a = 8 ∧ am_wt st ≤ 8 ∧ 5 ≤ 6) (as := [.ref a, .ref x0, .int x1, .int x2, .ref x3]) rfl rfl rfl (fun _ => rfl)).trans (and_congr_left' ⟨fun z => ⟨z.1, z.2.1⟩, fun z => ⟨z.1, z.2, by decide⟩⟩)
theorem C_120 (a : Nat) (x0 : Int32) : X (d + 1) y (.inr (.invokespecial 120) :: ops) ls (.int x0 :: .ref a :: st) (ci, cj, g) Q ↔ (a ≠ 0 ∧ am_wt st ≤ 8) ∧ X d 120 (am_bk 120 0) [.ref a, .int x0] [] (ci, cj, g) (fun r h' => X (d + 1) y ops ls (r.toList ++ st) h' Q) := (X_callIf (p := a ≠ 0 ∧ am_wt st ≤ 8 ∧ 2 ≤ 2) (as := [.ref a, .int x0]) rfl rfl rfl (fun _ => rfl)).trans (and_congr_left' ⟨fun z => ⟨z.1, z.2.1⟩, fun z => ⟨z.1, z.2, by decide⟩⟩)
theorem C_123 (a : Nat) (x0 : Int32) : X (d + 1) y (.inr (.invokespecial 123) :: ops) ls (.int x0 :: .ref a :: st) (ci, cj, g) Q ↔ (a ≠ 0 ∧ am_wt st ≤ 8) ∧ X d 123 (am_bk 123 0) [.ref a, .int x0] [] (ci, cj, g) (fun r h' => X (d + 1) y ops ls (r.toList ++ st) h' Q) := (X_callIf (p := a ≠ 0 ∧ am_wt st ≤ 8 ∧ 2 ≤ 2) (as := [.ref a, .int x0]) rfl rfl rfl (fun _ => rfl)).trans (and_congr_left' ⟨fun z => ⟨z.1, z.2.1⟩, fun z => ⟨z.1, z.2, by decide⟩⟩)
theorem C_126 (a : Nat) (x0 : Int32) : X (d + 1) y (.inr (.invokespecial 126) :: ops) ls (.int x0 :: .ref a :: st) (ci, cj, g) Q ↔ (a ≠ 0 ∧ am_wt st ≤ 8) ∧ X d 126 (am_bk 126 0) [.ref a, .int x0] [] (ci, cj, g) (fun r h' => X (d + 1) y ops ls (r.toList ++ st) h' Q) := (X_callIf (p := a ≠ 0 ∧ am_wt st ≤ 8 ∧ 2 ≤ 2) (as := [.ref a, .int x0]) rfl rfl rfl (fun _ => rfl)).trans (and_congr_left' ⟨fun z => ⟨z.1, z.2.1⟩, fun z => ⟨z.1, z.2, by decide⟩⟩)
theorem C_129 (a : Nat) (x0 : Int32) : X (d + 1) y (.inr (.invokespecial 129) :: ops) ls (.int x0 :: .ref a :: st) (ci, cj, g) Q ↔ (a ≠ 0 ∧ am_wt st ≤ 8) ∧ X d 129 (am_bk 129 0) [.ref a, .int x0] [] (ci, cj, g) (fun r h' => X (d + 1) y ops ls (r.toList ++ st) h' Q) := (X_callIf (p := a ≠ 0 ∧ am_wt st ≤ 8 ∧ 2 ≤ 2) (as := [.ref a, .int x0]) rfl rfl rfl (fun _ => rfl)).trans (and_congr_left' ⟨fun z => ⟨z.1, z.2.1⟩, fun z => ⟨z.1, z.2, by decide⟩⟩)
theorem C_132 (a : Nat) (x0 : Int32) : X (d + 1) y (.inr (.invokespecial 132) :: ops) ls (.int x0 :: .ref a :: st) (ci, cj, g) Q ↔ (a ≠ 0 ∧ am_wt st ≤ 8) ∧ X d 132 (am_bk 132 0) [.ref a, .int x0] [] (ci, cj, g) (fun r h' => X (d + 1) y ops ls (r.toList ++ st) h' Q) := (X_callIf (p := a ≠ 0 ∧ am_wt st ≤ 8 ∧ 2 ≤ 2) (as := [.ref a, .int x0]) rfl rfl rfl (fun _ => rfl)).trans (and_congr_left' ⟨fun z => ⟨z.1, z.2.1⟩, fun z => ⟨z.1, z.2, by decide⟩⟩)
theorem C_136 (a : Nat) : X (d + 1) y (.inr (.invokespecial 136) :: ops) ls (.ref a :: st) (ci, cj, g) Q ↔ (a ≠ 0 ∧ am_wt st ≤ 8) ∧ X d 136 (am_bk 136 0) [.ref a] [] (ci, cj, g) (fun r h' => X (d + 1) y ops ls (r.toList ++ st) h' Q) := (X_callIf (p := a ≠ 0 ∧ am_wt st ≤ 8 ∧ 1 ≤ 1) (as := [.ref a]) rfl rfl rfl (fun _ => rfl)).trans (and_congr_left' ⟨fun z => ⟨z.1, z.2.1⟩, fun z => ⟨z.1, z.2, by decide⟩⟩)
theorem C_137 (a : Nat) (x0 : Int32) (hk : gk g a = 12) : X (d + 1) y (.inr (.invokevirtual 137) :: ops) ls (.int x0 :: .ref a :: st) (ci, cj, g) Q ↔ am_wt st ≤ 8 ∧ X d 137 (am_bk 137 0) [.ref a, .int x0] [] (ci, cj, g) (fun r h' => X (d + 1) y ops ls (r.toList ++ st) h' Q) := X_callV (t := 137) (c := 12) (as := [.int x0]) rfl hk rfl (by decide) (Nat.le_of_ble_eq_true rfl)
theorem C_138 (x0 : Int64) (x1 : Int64) (x2 : Int64) : X (d + 1) y (.inr (.invokestatic 138) :: ops) ls (.long x2 :: .long x1 :: .long x0 :: st) (ci, cj, g) Q ↔ am_wt st ≤ 8 ∧ X d 138 (am_bk 138 0) [.long x0, .null, .long x1, .null, .long x2, .null] [] (ci, cj, g) (fun r h' => X (d + 1) y ops ls (r.toList ++ st) h' Q) := (X_callIf (p := am_wt st ≤ 8 ∧ 6 ≤ 6) (as := [.long x0, .long x1, .long x2]) rfl rfl rfl (fun _ => rfl)).trans (and_congr_left' ⟨fun z => z.1, fun z => ⟨z, by decide⟩⟩)
theorem C_139 (a : Nat) (x0 : Int64) (hk : gk g a = 12) : X (d + 1) y (.inr (.invokevirtual 139) :: ops) ls (.long x0 :: .ref a :: st) (ci, cj, g) Q ↔ am_wt st ≤ 8 ∧ X d 139 (am_bk 139 0) [.ref a, .long x0, .null] [] (ci, cj, g) (fun r h' => X (d + 1) y ops ls (r.toList ++ st) h' Q) := X_callV (t := 139) (c := 12) (as := [.long x0]) rfl hk rfl (by decide) (Nat.le_of_ble_eq_true rfl)
theorem C_140 (x0 : Int32) : X (d + 1) y (.inr (.invokestatic 140) :: ops) ls (.int x0 :: st) (ci, cj, g) Q ↔ am_wt st ≤ 8 ∧ X d 140 (am_bk 140 0) [.int x0] [] (ci, cj, g) (fun r h' => X (d + 1) y ops ls (r.toList ++ st) h' Q) := (X_callIf (p := am_wt st ≤ 8 ∧ 1 ≤ 1) (as := [.int x0]) rfl rfl rfl (fun _ => rfl)).trans (and_congr_left' ⟨fun z => z.1, fun z => ⟨z, by decide⟩⟩)
theorem C_141 (a : Nat) (hk : gk g a = 12) : X (d + 1) y (.inr (.invokevirtual 141) :: ops) ls (.ref a :: st) (ci, cj, g) Q ↔ am_wt st ≤ 8 ∧ X d 141 (am_bk 141 0) [.ref a, .null, .null] [] (ci, cj, g) (fun r h' => X (d + 1) y ops ls (r.toList ++ st) h' Q) := X_callV (t := 141) (c := 12) (as := []) rfl hk rfl (by decide) (Nat.le_of_ble_eq_true rfl)
theorem C_142 (x0 : Int32) (x1 : Int32) (x2 : Int32) : X (d + 1) y (.inr (.invokestatic 142) :: ops) ls (.int x2 :: .int x1 :: .int x0 :: st) (ci, cj, g) Q ↔ am_wt st ≤ 8 ∧ X d 142 (am_bk 142 0) [.int x0, .int x1, .int x2] [] (ci, cj, g) (fun r h' => X (d + 1) y ops ls (r.toList ++ st) h' Q) := (X_callIf (p := am_wt st ≤ 8 ∧ 3 ≤ 3) (as := [.int x0, .int x1, .int x2]) rfl rfl rfl (fun _ => rfl)).trans (and_congr_left' ⟨fun z => z.1, fun z => ⟨z, by decide⟩⟩)
theorem C_143 (x0 : Int32) (x1 : Int32) : X (d + 1) y (.inr (.invokestatic 143) :: ops) ls (.int x1 :: .int x0 :: st) (ci, cj, g) Q ↔ am_wt st ≤ 8 ∧ X d 143 (am_bk 143 0) [.int x0, .int x1] [] (ci, cj, g) (fun r h' => X (d + 1) y ops ls (r.toList ++ st) h' Q) := (X_callIf (p := am_wt st ≤ 8 ∧ 2 ≤ 2) (as := [.int x0, .int x1]) rfl rfl rfl (fun _ => rfl)).trans (and_congr_left' ⟨fun z => z.1, fun z => ⟨z, by decide⟩⟩)
theorem C_144 (x0 : Int32) : X (d + 1) y (.inr (.invokestatic 144) :: ops) ls (.int x0 :: st) (ci, cj, g) Q ↔ am_wt st ≤ 8 ∧ X d 144 (am_bk 144 0) [.int x0] [] (ci, cj, g) (fun r h' => X (d + 1) y ops ls (r.toList ++ st) h' Q) := (X_callIf (p := am_wt st ≤ 8 ∧ 1 ≤ 1) (as := [.int x0]) rfl rfl rfl (fun _ => rfl)).trans (and_congr_left' ⟨fun z => z.1, fun z => ⟨z, by decide⟩⟩)
theorem C_145 (a : Nat) (hk : gk g a = 12) : X (d + 1) y (.inr (.invokevirtual 145) :: ops) ls (.ref a :: st) (ci, cj, g) Q ↔ am_wt st ≤ 8 ∧ X d 145 (am_bk 145 0) [.ref a] [] (ci, cj, g) (fun r h' => X (d + 1) y ops ls (r.toList ++ st) h' Q) := X_callV (t := 145) (c := 12) (as := []) rfl hk rfl (by decide) (Nat.le_of_ble_eq_true rfl)
theorem C_146 (a : Nat) (x0 : Int32) (hk : gk g a = 12) : X (d + 1) y (.inr (.invokevirtual 146) :: ops) ls (.int x0 :: .ref a :: st) (ci, cj, g) Q ↔ am_wt st ≤ 8 ∧ X d 146 (am_bk 146 0) [.ref a, .int x0] [] (ci, cj, g) (fun r h' => X (d + 1) y ops ls (r.toList ++ st) h' Q) := X_callV (t := 146) (c := 12) (as := [.int x0]) rfl hk rfl (by decide) (Nat.le_of_ble_eq_true rfl)
theorem C_147 (a : Nat) (x0 : Int32) (x1 : Int32) (x2 : Int32) (hk : gk g a = 12) : X (d + 1) y (.inr (.invokevirtual 147) :: ops) ls (.int x2 :: .int x1 :: .int x0 :: .ref a :: st) (ci, cj, g) Q ↔ am_wt st ≤ 8 ∧ X d 147 (am_bk 147 0) [.ref a, .int x0, .int x1, .int x2, .null] [] (ci, cj, g) (fun r h' => X (d + 1) y ops ls (r.toList ++ st) h' Q) := X_callV (t := 147) (c := 12) (as := [.int x0, .int x1, .int x2]) rfl hk rfl (by decide) (Nat.le_of_ble_eq_true rfl)
theorem C_148 (x0 : Int32) (x1 : Int64) : X (d + 1) y (.inr (.invokestatic 148) :: ops) ls (.long x1 :: .int x0 :: st) (ci, cj, g) Q ↔ am_wt st ≤ 8 ∧ X d 148 (am_bk 148 0) [.int x0, .long x1, .null] [] (ci, cj, g) (fun r h' => X (d + 1) y ops ls (r.toList ++ st) h' Q) := (X_callIf (p := am_wt st ≤ 8 ∧ 3 ≤ 3) (as := [.int x0, .long x1]) rfl rfl rfl (fun _ => rfl)).trans (and_congr_left' ⟨fun z => z.1, fun z => ⟨z, by decide⟩⟩)
theorem C_149 (a : Nat) (x0 : Int32) (x1 : Int32) (x2 : Int64) (hk : gk g a = 12) : X (d + 1) y (.inr (.invokevirtual 149) :: ops) ls (.long x2 :: .int x1 :: .int x0 :: .ref a :: st) (ci, cj, g) Q ↔ am_wt st ≤ 8 ∧ X d 149 (am_bk 149 0) [.ref a, .int x0, .int x1, .long x2, .null] [] (ci, cj, g) (fun r h' => X (d + 1) y ops ls (r.toList ++ st) h' Q) := X_callV (t := 149) (c := 12) (as := [.int x0, .int x1, .long x2]) rfl hk rfl (by decide) (Nat.le_of_ble_eq_true rfl)
theorem C_150 (a : Nat) (x0 : Int32) (x1 : Int32) (x2 : Int32) (x3 : Int32) (x4 : Int32) (hk : gk g a = 12) : X (d + 1) y (.inr (.invokevirtual 150) :: ops) ls (.int x4 :: .int x3 :: .int x2 :: .int x1 :: .int x0 :: .ref a :: st) (ci, cj, g) Q ↔ am_wt st ≤ 8 ∧ X d 150 (am_bk 150 0) [.ref a, .int x0, .int x1, .int x2, .int x3, .int x4, .null] [] (ci, cj, g) (fun r h' => X (d + 1) y ops ls (r.toList ++ st) h' Q) := X_callV (t := 150) (c := 12) (as := [.int x0, .int x1, .int x2, .int x3, .int x4]) rfl hk rfl (by decide) (Nat.le_of_ble_eq_true rfl)
theorem C_151 (a : Nat) (x0 : Int32) (x1 : Int32) (hk : gk g a = 12) : X (d + 1) y (.inr (.invokevirtual 151) :: ops) ls (.int x1 :: .int x0 :: .ref a :: st) (ci, cj, g) Q ↔ am_wt st ≤ 8 ∧ X d 151 (am_bk 151 0) [.ref a, .int x0, .int x1] [] (ci, cj, g) (fun r h' => X (d + 1) y ops ls (r.toList ++ st) h' Q) := X_callV (t := 151) (c := 12) (as := [.int x0, .int x1]) rfl hk rfl (by decide) (Nat.le_of_ble_eq_true rfl)
theorem C_152 (a : Nat) (x0 : Int32) (hk : gk g a = 12) : X (d + 1) y (.inr (.invokevirtual 152) :: ops) ls (.int x0 :: .ref a :: st) (ci, cj, g) Q ↔ am_wt st ≤ 8 ∧ X d 152 (am_bk 152 0) [.ref a, .int x0] [] (ci, cj, g) (fun r h' => X (d + 1) y ops ls (r.toList ++ st) h' Q) := X_callV (t := 152) (c := 12) (as := [.int x0]) rfl hk rfl (by decide) (Nat.le_of_ble_eq_true rfl)
theorem C_153 (a : Nat) (x0 : Int32) (x1 : Int32) (x2 : Int32) (hk : gk g a = 12) : X (d + 1) y (.inr (.invokevirtual 153) :: ops) ls (.int x2 :: .int x1 :: .int x0 :: .ref a :: st) (ci, cj, g) Q ↔ am_wt st ≤ 8 ∧ X d 153 (am_bk 153 0) [.ref a, .int x0, .int x1, .int x2] [] (ci, cj, g) (fun r h' => X (d + 1) y ops ls (r.toList ++ st) h' Q) := X_callV (t := 153) (c := 12) (as := [.int x0, .int x1, .int x2]) rfl hk rfl (by decide) (Nat.le_of_ble_eq_true rfl)
theorem C_154 (x0 : Int32) (x1 : Int32) : X (d + 1) y (.inr (.invokestatic 154) :: ops) ls (.int x1 :: .int x0 :: st) (ci, cj, g) Q ↔ am_wt st ≤ 8 ∧ X d 154 (am_bk 154 0) [.int x0, .int x1] [] (ci, cj, g) (fun r h' => X (d + 1) y ops ls (r.toList ++ st) h' Q) := (X_callIf (p := am_wt st ≤ 8 ∧ 2 ≤ 2) (as := [.int x0, .int x1]) rfl rfl rfl (fun _ => rfl)).trans (and_congr_left' ⟨fun z => z.1, fun z => ⟨z, by decide⟩⟩)
theorem C_155 (a : Nat) (x0 : Int32) (x1 : Int32) (hk : gk g a = 12) : X (d + 1) y (.inr (.invokevirtual 155) :: ops) ls (.int x1 :: .int x0 :: .ref a :: st) (ci, cj, g) Q ↔ am_wt st ≤ 8 ∧ X d 155 (am_bk 155 0) [.ref a, .int x0, .int x1] [] (ci, cj, g) (fun r h' => X (d + 1) y ops ls (r.toList ++ st) h' Q) := X_callV (t := 155) (c := 12) (as := [.int x0, .int x1]) rfl hk rfl (by decide) (Nat.le_of_ble_eq_true rfl)
theorem C_156 (a : Nat) (x0 : Int32) (hk : gk g a = 12) : X (d + 1) y (.inr (.invokevirtual 156) :: ops) ls (.int x0 :: .ref a :: st) (ci, cj, g) Q ↔ am_wt st ≤ 8 ∧ X d 156 (am_bk 156 0) [.ref a, .int x0] [] (ci, cj, g) (fun r h' => X (d + 1) y ops ls (r.toList ++ st) h' Q) := X_callV (t := 156) (c := 12) (as := [.int x0]) rfl hk rfl (by decide) (Nat.le_of_ble_eq_true rfl)
theorem C_157 (a : Nat) (x0 : Int32) (x1 : Int32) (x2 : Int32) (hk : gk g a = 12) : X (d + 1) y (.inr (.invokevirtual 157) :: ops) ls (.int x2 :: .int x1 :: .int x0 :: .ref a :: st) (ci, cj, g) Q ↔ am_wt st ≤ 8 ∧ X d 157 (am_bk 157 0) [.ref a, .int x0, .int x1, .int x2, .null, .null] [] (ci, cj, g) (fun r h' => X (d + 1) y ops ls (r.toList ++ st) h' Q) := X_callV (t := 157) (c := 12) (as := [.int x0, .int x1, .int x2]) rfl hk rfl (by decide) (Nat.le_of_ble_eq_true rfl)
theorem C_158 (a : Nat) (x0 : Int64) (x1 : Int64) (x2 : Int64) (x3 : Int64) (hk : gk g a = 12) : X (d + 1) y (.inr (.invokevirtual 158) :: ops) ls (.long x3 :: .long x2 :: .long x1 :: .long x0 :: .ref a :: st) (ci, cj, g) Q ↔ am_wt st ≤ 8 ∧ X d 158 (am_bk 158 0) [.ref a, .long x0, .null, .long x1, .null, .long x2, .null, .long x3, .null] [] (ci, cj, g) (fun r h' => X (d + 1) y ops ls (r.toList ++ st) h' Q) := X_callV (t := 158) (c := 12) (as := [.long x0, .long x1, .long x2, .long x3]) rfl hk rfl (by decide) (Nat.le_of_ble_eq_true rfl)
theorem C_159 (a : Nat) (x0 : Int32) (x1 : Int32) (x2 : Int32) (x3 : Int32) (hk : gk g a = 12) : X (d + 1) y (.inr (.invokevirtual 159) :: ops) ls (.int x3 :: .int x2 :: .int x1 :: .int x0 :: .ref a :: st) (ci, cj, g) Q ↔ am_wt st ≤ 8 ∧ X d 159 (am_bk 159 0) [.ref a, .int x0, .int x1, .int x2, .int x3, .null] [] (ci, cj, g) (fun r h' => X (d + 1) y ops ls (r.toList ++ st) h' Q) := X_callV (t := 159) (c := 12) (as := [.int x0, .int x1, .int x2, .int x3]) rfl hk rfl (by decide) (Nat.le_of_ble_eq_true rfl)
theorem C_160 (a : Nat) (x0 : Int32) (x1 : Int32) (hk : gk g a = 12) : X (d + 1) y (.inr (.invokevirtual 160) :: ops) ls (.int x1 :: .int x0 :: .ref a :: st) (ci, cj, g) Q ↔ am_wt st ≤ 8 ∧ X d 160 (am_bk 160 0) [.ref a, .int x0, .int x1, .null, .null, .null] [] (ci, cj, g) (fun r h' => X (d + 1) y ops ls (r.toList ++ st) h' Q) := X_callV (t := 160) (c := 12) (as := [.int x0, .int x1]) rfl hk rfl (by decide) (Nat.le_of_ble_eq_true rfl)
theorem C_161 (a : Nat) (x0 : Int32) (hk : gk g a = 12) : X (d + 1) y (.inr (.invokevirtual 161) :: ops) ls (.int x0 :: .ref a :: st) (ci, cj, g) Q ↔ am_wt st ≤ 8 ∧ X d 161 (am_bk 161 0) [.ref a, .int x0] [] (ci, cj, g) (fun r h' => X (d + 1) y ops ls (r.toList ++ st) h' Q) := X_callV (t := 161) (c := 12) (as := [.int x0]) rfl hk rfl (by decide) (Nat.le_of_ble_eq_true rfl)
theorem C_162 (a : Nat) (x0 : Int32) (x1 : Int32) (hk : gk g a = 12) : X (d + 1) y (.inr (.invokevirtual 162) :: ops) ls (.int x1 :: .int x0 :: .ref a :: st) (ci, cj, g) Q ↔ am_wt st ≤ 8 ∧ X d 162 (am_bk 162 0) [.ref a, .int x0, .int x1] [] (ci, cj, g) (fun r h' => X (d + 1) y ops ls (r.toList ++ st) h' Q) := X_callV (t := 162) (c := 12) (as := [.int x0, .int x1]) rfl hk rfl (by decide) (Nat.le_of_ble_eq_true rfl)
theorem C_163 (a : Nat) (x0 : Int32) (x1 : Int32) (hk : gk g a = 12) : X (d + 1) y (.inr (.invokevirtual 163) :: ops) ls (.int x1 :: .int x0 :: .ref a :: st) (ci, cj, g) Q ↔ am_wt st ≤ 8 ∧ X d 163 (am_bk 163 0) [.ref a, .int x0, .int x1, .null] [] (ci, cj, g) (fun r h' => X (d + 1) y ops ls (r.toList ++ st) h' Q) := X_callV (t := 163) (c := 12) (as := [.int x0, .int x1]) rfl hk rfl (by decide) (Nat.le_of_ble_eq_true rfl)
theorem C_164 (a : Nat) (x0 : Int32) (x1 : Int32) (hk : gk g a = 12) : X (d + 1) y (.inr (.invokevirtual 164) :: ops) ls (.int x1 :: .int x0 :: .ref a :: st) (ci, cj, g) Q ↔ am_wt st ≤ 8 ∧ X d 164 (am_bk 164 0) [.ref a, .int x0, .int x1, .null] [] (ci, cj, g) (fun r h' => X (d + 1) y ops ls (r.toList ++ st) h' Q) := X_callV (t := 164) (c := 12) (as := [.int x0, .int x1]) rfl hk rfl (by decide) (Nat.le_of_ble_eq_true rfl)
theorem C_165 (a : Nat) (hk : gk g a = 12) : X (d + 1) y (.inr (.invokevirtual 165) :: ops) ls (.ref a :: st) (ci, cj, g) Q ↔ am_wt st ≤ 8 ∧ X d 165 (am_bk 165 0) [.ref a, .null] [] (ci, cj, g) (fun r h' => X (d + 1) y ops ls (r.toList ++ st) h' Q) := X_callV (t := 165) (c := 12) (as := []) rfl hk rfl (by decide) (Nat.le_of_ble_eq_true rfl)
theorem C_166 (x0 : Int32) : X (d + 1) y (.inr (.invokestatic 166) :: ops) ls (.int x0 :: st) (ci, cj, g) Q ↔ am_wt st ≤ 8 ∧ X d 166 (am_bk 166 0) [.int x0] [] (ci, cj, g) (fun r h' => X (d + 1) y ops ls (r.toList ++ st) h' Q) := (X_callIf (p := am_wt st ≤ 8 ∧ 1 ≤ 1) (as := [.int x0]) rfl rfl rfl (fun _ => rfl)).trans (and_congr_left' ⟨fun z => z.1, fun z => ⟨z, by decide⟩⟩)
theorem C_167 (x0 : Int32) : X (d + 1) y (.inr (.invokestatic 167) :: ops) ls (.int x0 :: st) (ci, cj, g) Q ↔ am_wt st ≤ 8 ∧ X d 167 (am_bk 167 0) [.int x0] [] (ci, cj, g) (fun r h' => X (d + 1) y ops ls (r.toList ++ st) h' Q) := (X_callIf (p := am_wt st ≤ 8 ∧ 1 ≤ 1) (as := [.int x0]) rfl rfl rfl (fun _ => rfl)).trans (and_congr_left' ⟨fun z => z.1, fun z => ⟨z, by decide⟩⟩)
theorem C_168 (a : Nat) (hk : gk g a = 12) : X (d + 1) y (.inr (.invokevirtual 168) :: ops) ls (.ref a :: st) (ci, cj, g) Q ↔ am_wt st ≤ 8 ∧ X d 168 (am_bk 168 0) [.ref a] [] (ci, cj, g) (fun r h' => X (d + 1) y ops ls (r.toList ++ st) h' Q) := X_callV (t := 168) (c := 12) (as := []) rfl hk rfl (by decide) (Nat.le_of_ble_eq_true rfl)
theorem C_169 (a : Nat) (hk : gk g a = 12) : X (d + 1) y (.inr (.invokevirtual 169) :: ops) ls (.ref a :: st) (ci, cj, g) Q ↔ am_wt st ≤ 8 ∧ X d 169 (am_bk 169 0) [.ref a] [] (ci, cj, g) (fun r h' => X (d + 1) y ops ls (r.toList ++ st) h' Q) := X_callV (t := 169) (c := 12) (as := []) rfl hk rfl (by decide) (Nat.le_of_ble_eq_true rfl)
theorem C_170 (a : Nat) (x0 : Nat) (hk : gk g a = 12) : X (d + 1) y (.inr (.invokevirtual 170) :: ops) ls (.ref x0 :: .ref a :: st) (ci, cj, g) Q ↔ am_wt st ≤ 8 ∧ X d 170 (am_bk 170 0) [.ref a, .ref x0, .null] [] (ci, cj, g) (fun r h' => X (d + 1) y ops ls (r.toList ++ st) h' Q) := X_callV (t := 170) (c := 12) (as := [.ref x0]) rfl hk rfl (by decide) (Nat.le_of_ble_eq_true rfl)
theorem C_171 (a : Nat) (x0 : Nat) (x1 : Int32) (x2 : Int32) (x3 : Int32) (hk : gk g a = 12) : X (d + 1) y (.inr (.invokevirtual 171) :: ops) ls (.int x3 :: .int x2 :: .int x1 :: .ref x0 :: .ref a :: st) (ci, cj, g) Q ↔ am_wt st ≤ 8 ∧ X d 171 (am_bk 171 0) [.ref a, .ref x0, .int x1, .int x2, .int x3] [] (ci, cj, g) (fun r h' => X (d + 1) y ops ls (r.toList ++ st) h' Q) := X_callV (t := 171) (c := 12) (as := [.ref x0, .int x1, .int x2, .int x3]) rfl hk rfl (by decide) (Nat.le_of_ble_eq_true rfl)
theorem C_172 (a : Nat) (x0 : Nat) (x1 : Nat) (x2 : Int32) (x3 : Int32) (x4 : Int32) (hk : gk g a = 12) : X (d + 1) y (.inr (.invokevirtual 172) :: ops) ls (.int x4 :: .int x3 :: .int x2 :: .ref x1 :: .ref x0 :: .ref a :: st) (ci, cj, g) Q ↔ am_wt st ≤ 8 ∧ X d 172 (am_bk 172 0) [.ref a, .ref x0, .ref x1, .int x2, .int x3, .int x4] [] (ci, cj, g) (fun r h' => X (d + 1) y ops ls (r.toList ++ st) h' Q) := X_callV (t := 172) (c := 12) (as := [.ref x0, .ref x1, .int x2, .int x3, .int x4]) rfl hk rfl (by decide) (Nat.le_of_ble_eq_true rfl)
theorem C_173 (a : Nat) (x0 : Nat) (x1 : Nat) (x2 : Int32) (x3 : Int32) (x4 : Int32) (hk : gk g a = 12) : X (d + 1) y (.inr (.invokevirtual 173) :: ops) ls (.int x4 :: .int x3 :: .int x2 :: .ref x1 :: .ref x0 :: .ref a :: st) (ci, cj, g) Q ↔ am_wt st ≤ 8 ∧ X d 173 (am_bk 173 0) [.ref a, .ref x0, .ref x1, .int x2, .int x3, .int x4] [] (ci, cj, g) (fun r h' => X (d + 1) y ops ls (r.toList ++ st) h' Q) := X_callV (t := 173) (c := 12) (as := [.ref x0, .ref x1, .int x2, .int x3, .int x4]) rfl hk rfl (by decide) (Nat.le_of_ble_eq_true rfl)
theorem C_174 (a : Nat) (hk : gk g a = 12) : X (d + 1) y (.inr (.invokevirtual 174) :: ops) ls (.ref a :: st) (ci, cj, g) Q ↔ am_wt st ≤ 8 ∧ X d 174 (am_bk 174 0) [.ref a, .null, .null] [] (ci, cj, g) (fun r h' => X (d + 1) y ops ls (r.toList ++ st) h' Q) := X_callV (t := 174) (c := 12) (as := []) rfl hk rfl (by decide) (Nat.le_of_ble_eq_true rfl)
theorem C_175 (a : Nat) (hk : gk g a = 12) : X (d + 1) y (.inr (.invokevirtual 175) :: ops) ls (.ref a :: st) (ci, cj, g) Q ↔ am_wt st ≤ 8 ∧ X d 175 (am_bk 175 0) [.ref a] [] (ci, cj, g) (fun r h' => X (d + 1) y ops ls (r.toList ++ st) h' Q) := X_callV (t := 175) (c := 12) (as := []) rfl hk rfl (by decide) (Nat.le_of_ble_eq_true rfl)
theorem C_176 (a : Nat) (hk : gk g a = 12) : X (d + 1) y (.inr (.invokevirtual 176) :: ops) ls (.ref a :: st) (ci, cj, g) Q ↔ am_wt st ≤ 8 ∧ X d 176 (am_bk 176 0) [.ref a, .null, .null] [] (ci, cj, g) (fun r h' => X (d + 1) y ops ls (r.toList ++ st) h' Q) := X_callV (t := 176) (c := 12) (as := []) rfl hk rfl (by decide) (Nat.le_of_ble_eq_true rfl)
theorem C_177 (a : Nat) (x0 : Int32) (hk : gk g a = 12) : X (d + 1) y (.inr (.invokevirtual 177) :: ops) ls (.int x0 :: .ref a :: st) (ci, cj, g) Q ↔ am_wt st ≤ 8 ∧ X d 177 (am_bk 177 0) [.ref a, .int x0] [] (ci, cj, g) (fun r h' => X (d + 1) y ops ls (r.toList ++ st) h' Q) := X_callV (t := 177) (c := 12) (as := [.int x0]) rfl hk rfl (by decide) (Nat.le_of_ble_eq_true rfl)
theorem C_178 (x0 : Int32) : X (d + 1) y (.inr (.invokestatic 178) :: ops) ls (.int x0 :: st) (ci, cj, g) Q ↔ am_wt st ≤ 8 ∧ X d 178 (am_bk 178 0) [.int x0] [] (ci, cj, g) (fun r h' => X (d + 1) y ops ls (r.toList ++ st) h' Q) := (X_callIf (p := am_wt st ≤ 8 ∧ 1 ≤ 1) (as := [.int x0]) rfl rfl rfl (fun _ => rfl)).trans (and_congr_left' ⟨fun z => z.1, fun z => ⟨z, by decide⟩⟩)
theorem C_179 (a : Nat) (x0 : Int32) (hk : gk g a = 12) : X (d + 1) y (.inr (.invokevirtual 179) :: ops) ls (.int x0 :: .ref a :: st) (ci, cj, g) Q ↔ am_wt st ≤ 8 ∧ X d 179 (am_bk 179 0) [.ref a, .int x0] [] (ci, cj, g) (fun r h' => X (d + 1) y ops ls (r.toList ++ st) h' Q) := X_callV (t := 179) (c := 12) (as := [.int x0]) rfl hk rfl (by decide) (Nat.le_of_ble_eq_true rfl)
theorem C_180 (a : Nat) (x0 : Int32) (hk : gk g a = 12) : X (d + 1) y (.inr (.invokevirtual 180) :: ops) ls (.int x0 :: .ref a :: st) (ci, cj, g) Q ↔ am_wt st ≤ 8 ∧ X d 180 (am_bk 180 0) [.ref a, .int x0] [] (ci, cj, g) (fun r h' => X (d + 1) y ops ls (r.toList ++ st) h' Q) := X_callV (t := 180) (c := 12) (as := [.int x0]) rfl hk rfl (by decide) (Nat.le_of_ble_eq_true rfl)
theorem C_181 (a : Nat) (x0 : Int32) (x1 : Int32) (x2 : Int32) (hk : gk g a = 12) : X (d + 1) y (.inr (.invokevirtual 181) :: ops) ls (.int x2 :: .int x1 :: .int x0 :: .ref a :: st) (ci, cj, g) Q ↔ am_wt st ≤ 8 ∧ X d 181 (am_bk 181 0) [.ref a, .int x0, .int x1, .int x2] [] (ci, cj, g) (fun r h' => X (d + 1) y ops ls (r.toList ++ st) h' Q) := X_callV (t := 181) (c := 12) (as := [.int x0, .int x1, .int x2]) rfl hk rfl (by decide) (Nat.le_of_ble_eq_true rfl)
theorem C_182 (a : Nat) (x0 : Int32) (x1 : Int32) (x2 : Nat) (hk : gk g a = 12) : X (d + 1) y (.inr (.invokevirtual 182) :: ops) ls (.ref x2 :: .int x1 :: .int x0 :: .ref a :: st) (ci, cj, g) Q ↔ am_wt st ≤ 8 ∧ X d 182 (am_bk 182 0) [.ref a, .int x0, .int x1, .ref x2, .null, .null, .null, .null, .null, .null] [] (ci, cj, g) (fun r h' => X (d + 1) y ops ls (r.toList ++ st) h' Q) := X_callV (t := 182) (c := 12) (as := [.int x0, .int x1, .ref x2]) rfl hk rfl (by decide) (Nat.le_of_ble_eq_true rfl)
theorem C_183 (a : Nat) (x0 : Int32) (x1 : Int32) (x2 : Int32) (x3 : Int32) (hk : gk g a = 12) : X (d + 1) y (.inr (.invokevirtual 183) :: ops) ls (.int x3 :: .int x2 :: .int x1 :: .int x0 :: .ref a :: st) (ci, cj, g) Q ↔ am_wt st ≤ 8 ∧ X d 183 (am_bk 183 0) [.ref a, .int x0, .int x1, .int x2, .int x3, .null, .null, .null, .null] [] (ci, cj, g) (fun r h' => X (d + 1) y ops ls (r.toList ++ st) h' Q) := X_callV (t := 183) (c := 12) (as := [.int x0, .int x1, .int x2, .int x3]) rfl hk rfl (by decide) (Nat.le_of_ble_eq_true rfl)
theorem C_184 (a : Nat) (x0 : Int32) (hk : gk g a = 12) : X (d + 1) y (.inr (.invokevirtual 184) :: ops) ls (.int x0 :: .ref a :: st) (ci, cj, g) Q ↔ am_wt st ≤ 8 ∧ X d 184 (am_bk 184 0) [.ref a, .int x0, .null, .null] [] (ci, cj, g) (fun r h' => X (d + 1) y ops ls (r.toList ++ st) h' Q) := X_callV (t := 184) (c := 12) (as := [.int x0]) rfl hk rfl (by decide) (Nat.le_of_ble_eq_true rfl)
theorem C_185 (a : Nat) (x0 : Int32) (x1 : Int32) (x2 : Int32) (x3 : Int32) (hk : gk g a = 12) : X (d + 1) y (.inr (.invokevirtual 185) :: ops) ls (.int x3 :: .int x2 :: .int x1 :: .int x0 :: .ref a :: st) (ci, cj, g) Q ↔ am_wt st ≤ 8 ∧ X d 185 (am_bk 185 0) [.ref a, .int x0, .int x1, .int x2, .int x3] [] (ci, cj, g) (fun r h' => X (d + 1) y ops ls (r.toList ++ st) h' Q) := X_callV (t := 185) (c := 12) (as := [.int x0, .int x1, .int x2, .int x3]) rfl hk rfl (by decide) (Nat.le_of_ble_eq_true rfl)
theorem C_186 (a : Nat) (x0 : Int32) (x1 : Int32) (x2 : Int32) (hk : gk g a = 12) : X (d + 1) y (.inr (.invokevirtual 186) :: ops) ls (.int x2 :: .int x1 :: .int x0 :: .ref a :: st) (ci, cj, g) Q ↔ am_wt st ≤ 8 ∧ X d 186 (am_bk 186 0) [.ref a, .int x0, .int x1, .int x2, .null] [] (ci, cj, g) (fun r h' => X (d + 1) y ops ls (r.toList ++ st) h' Q) := X_callV (t := 186) (c := 12) (as := [.int x0, .int x1, .int x2]) rfl hk rfl (by decide) (Nat.le_of_ble_eq_true rfl)
theorem C_187 (a : Nat) (x0 : Int32) (x1 : Int32) (x2 : Int32) (x3 : Nat) (hk : gk g a = 12) : X (d + 1) y (.inr (.invokevirtual 187) :: ops) ls (.ref x3 :: .int x2 :: .int x1 :: .int x0 :: .ref a :: st) (ci, cj, g) Q ↔ am_wt st ≤ 8 ∧ X d 187 (am_bk 187 0) [.ref a, .int x0, .int x1, .int x2, .ref x3, .null, .null, .null, .null, .null, .null] [] (ci, cj, g) (fun r h' => X (d + 1) y ops ls (r.toList ++ st) h' Q) := X_callV (t := 187) (c := 12) (as := [.int x0, .int x1, .int x2, .ref x3]) rfl hk rfl (by decide) (Nat.le_of_ble_eq_true rfl)
theorem C_188 (a : Nat) (x0 : Int32) (x1 : Int32) (x2 : Int32) (x3 : Int32) (hk : gk g a = 12) : X (d + 1) y (.inr (.invokevirtual 188) :: ops) ls (.int x3 :: .int x2 :: .int x1 :: .int x0 :: .ref a :: st) (ci, cj, g) Q ↔ am_wt st ≤ 8 ∧ X d 188 (am_bk 188 0) [.ref a, .int x0, .int x1, .int x2, .int x3, .null, .null] [] (ci, cj, g) (fun r h' => X (d + 1) y ops ls (r.toList ++ st) h' Q) := X_callV (t := 188) (c := 12) (as := [.int x0, .int x1, .int x2, .int x3]) rfl hk rfl (by decide) (Nat.le_of_ble_eq_true rfl)
theorem C_189 (a : Nat) (x0 : Int32) (x1 : Int32) (hk : gk g a = 12) : X (d + 1) y (.inr (.invokevirtual 189) :: ops) ls (.int x1 :: .int x0 :: .ref a :: st) (ci, cj, g) Q ↔ am_wt st ≤ 8 ∧ X d 189 (am_bk 189 0) [.ref a, .int x0, .int x1, .null, .null, .null, .null, .null, .null, .null, .null, .null] [] (ci, cj, g) (fun r h' => X (d + 1) y ops ls (r.toList ++ st) h' Q) := X_callV (t := 189) (c := 12) (as := [.int x0, .int x1]) rfl hk rfl (by decide) (Nat.le_of_ble_eq_true rfl)
theorem C_190 (a : Nat) (x0 : Int32) (x1 : Int32) (x2 : Int32) (hk : gk g a = 12) : X (d + 1) y (.inr (.invokevirtual 190) :: ops) ls (.int x2 :: .int x1 :: .int x0 :: .ref a :: st) (ci, cj, g) Q ↔ am_wt st ≤ 8 ∧ X d 190 (am_bk 190 0) [.ref a, .int x0, .int x1, .int x2] [] (ci, cj, g) (fun r h' => X (d + 1) y ops ls (r.toList ++ st) h' Q) := X_callV (t := 190) (c := 12) (as := [.int x0, .int x1, .int x2]) rfl hk rfl (by decide) (Nat.le_of_ble_eq_true rfl)
theorem C_191 (a : Nat) (x0 : Int32) (hk : gk g a = 12) : X (d + 1) y (.inr (.invokevirtual 191) :: ops) ls (.int x0 :: .ref a :: st) (ci, cj, g) Q ↔ am_wt st ≤ 8 ∧ X d 191 (am_bk 191 0) [.ref a, .int x0] [] (ci, cj, g) (fun r h' => X (d + 1) y ops ls (r.toList ++ st) h' Q) := X_callV (t := 191) (c := 12) (as := [.int x0]) rfl hk rfl (by decide) (Nat.le_of_ble_eq_true rfl)
theorem C_192 (a : Nat) (x0 : Int32) (x1 : Int32) (hk : gk g a = 12) : X (d + 1) y (.inr (.invokevirtual 192) :: ops) ls (.int x1 :: .int x0 :: .ref a :: st) (ci, cj, g) Q ↔ am_wt st ≤ 8 ∧ X d 192 (am_bk 192 0) [.ref a, .int x0, .int x1] [] (ci, cj, g) (fun r h' => X (d + 1) y ops ls (r.toList ++ st) h' Q) := X_callV (t := 192) (c := 12) (as := [.int x0, .int x1]) rfl hk rfl (by decide) (Nat.le_of_ble_eq_true rfl)
theorem C_193 (a : Nat) (x0 : Int32) (x1 : Int32) (hk : gk g a = 12) : X (d + 1) y (.inr (.invokevirtual 193) :: ops) ls (.int x1 :: .int x0 :: .ref a :: st) (ci, cj, g) Q ↔ am_wt st ≤ 8 ∧ X d 193 (am_bk 193 0) [.ref a, .int x0, .int x1, .null, .null] [] (ci, cj, g) (fun r h' => X (d + 1) y ops ls (r.toList ++ st) h' Q) := X_callV (t := 193) (c := 12) (as := [.int x0, .int x1]) rfl hk rfl (by decide) (Nat.le_of_ble_eq_true rfl)
theorem C_194 (a : Nat) (x0 : Int32) (hk : gk g a = 12) : X (d + 1) y (.inr (.invokevirtual 194) :: ops) ls (.int x0 :: .ref a :: st) (ci, cj, g) Q ↔ am_wt st ≤ 8 ∧ X d 194 (am_bk 194 0) [.ref a, .int x0] [] (ci, cj, g) (fun r h' => X (d + 1) y ops ls (r.toList ++ st) h' Q) := X_callV (t := 194) (c := 12) (as := [.int x0]) rfl hk rfl (by decide) (Nat.le_of_ble_eq_true rfl)
theorem C_195 (a : Nat) (x0 : Int32) (x1 : Int32) (hk : gk g a = 12) : X (d + 1) y (.inr (.invokevirtual 195) :: ops) ls (.int x1 :: .int x0 :: .ref a :: st) (ci, cj, g) Q ↔ am_wt st ≤ 8 ∧ X d 195 (am_bk 195 0) [.ref a, .int x0, .int x1] [] (ci, cj, g) (fun r h' => X (d + 1) y ops ls (r.toList ++ st) h' Q) := X_callV (t := 195) (c := 12) (as := [.int x0, .int x1]) rfl hk rfl (by decide) (Nat.le_of_ble_eq_true rfl)
theorem C_196 (a : Nat) (x0 : Int32) (x1 : Int32) (hk : gk g a = 12) : X (d + 1) y (.inr (.invokevirtual 196) :: ops) ls (.int x1 :: .int x0 :: .ref a :: st) (ci, cj, g) Q ↔ am_wt st ≤ 8 ∧ X d 196 (am_bk 196 0) [.ref a, .int x0, .int x1, .null, .null] [] (ci, cj, g) (fun r h' => X (d + 1) y ops ls (r.toList ++ st) h' Q) := X_callV (t := 196) (c := 12) (as := [.int x0, .int x1]) rfl hk rfl (by decide) (Nat.le_of_ble_eq_true rfl)
theorem C_197 (a : Nat) (x0 : Int32) (hk : gk g a = 12) : X (d + 1) y (.inr (.invokevirtual 197) :: ops) ls (.int x0 :: .ref a :: st) (ci, cj, g) Q ↔ am_wt st ≤ 8 ∧ X d 197 (am_bk 197 0) [.ref a, .int x0, .null, .null, .null, .null, .null, .null] [] (ci, cj, g) (fun r h' => X (d + 1) y ops ls (r.toList ++ st) h' Q) := X_callV (t := 197) (c := 12) (as := [.int x0]) rfl hk rfl (by decide) (Nat.le_of_ble_eq_true rfl)
theorem C_198 (a : Nat) (x0 : Int32) (hk : gk g a = 12) : X (d + 1) y (.inr (.invokevirtual 198) :: ops) ls (.int x0 :: .ref a :: st) (ci, cj, g) Q ↔ am_wt st ≤ 8 ∧ X d 198 (am_bk 198 0) [.ref a, .int x0, .null, .null, .null, .null, .null, .null] [] (ci, cj, g) (fun r h' => X (d + 1) y ops ls (r.toList ++ st) h' Q) := X_callV (t := 198) (c := 12) (as := [.int x0]) rfl hk rfl (by decide) (Nat.le_of_ble_eq_true rfl)
theorem C_199 (a : Nat) (x0 : Int32) (x1 : Int32) (x2 : Int32) (x3 : Int64) (x4 : Int32) (hk : gk g a = 12) : X (d + 1) y (.inr (.invokevirtual 199) :: ops) ls (.int x4 :: .long x3 :: .int x2 :: .int x1 :: .int x0 :: .ref a :: st) (ci, cj, g) Q ↔ am_wt st ≤ 8 ∧ X d 199 (am_bk 199 0) [.ref a, .int x0, .int x1, .int x2, .long x3, .null, .int x4, .null, .null] [] (ci, cj, g) (fun r h' => X (d + 1) y ops ls (r.toList ++ st) h' Q) := X_callV (t := 199) (c := 12) (as := [.int x0, .int x1, .int x2, .long x3, .int x4]) rfl hk rfl (by decide) (Nat.le_of_ble_eq_true rfl)
theorem C_200 (a : Nat) (x0 : Int32) (x1 : Int32) (hk : gk g a = 12) : X (d + 1) y (.inr (.invokevirtual 200) :: ops) ls (.int x1 :: .int x0 :: .ref a :: st) (ci, cj, g) Q ↔ am_wt st ≤ 8 ∧ X d 200 (am_bk 200 0) [.ref a, .int x0, .int x1, .null] [] (ci, cj, g) (fun r h' => X (d + 1) y ops ls (r.toList ++ st) h' Q) := X_callV (t := 200) (c := 12) (as := [.int x0, .int x1]) rfl hk rfl (by decide) (Nat.le_of_ble_eq_true rfl)
theorem C_201 (a : Nat) (x0 : Int32) (x1 : Int32) (x2 : Int32) (x3 : Int32) (hk : gk g a = 12) : X (d + 1) y (.inr (.invokevirtual 201) :: ops) ls (.int x3 :: .int x2 :: .int x1 :: .int x0 :: .ref a :: st) (ci, cj, g) Q ↔ am_wt st ≤ 8 ∧ X d 201 (am_bk 201 0) [.ref a, .int x0, .int x1, .int x2, .int x3, .null] [] (ci, cj, g) (fun r h' => X (d + 1) y ops ls (r.toList ++ st) h' Q) := X_callV (t := 201) (c := 12) (as := [.int x0, .int x1, .int x2, .int x3]) rfl hk rfl (by decide) (Nat.le_of_ble_eq_true rfl)
theorem C_202 (a : Nat) (x0 : Int32) (x1 : Int32) (hk : gk g a = 12) : X (d + 1) y (.inr (.invokevirtual 202) :: ops) ls (.int x1 :: .int x0 :: .ref a :: st) (ci, cj, g) Q ↔ am_wt st ≤ 8 ∧ X d 202 (am_bk 202 0) [.ref a, .int x0, .int x1, .null, .null] [] (ci, cj, g) (fun r h' => X (d + 1) y ops ls (r.toList ++ st) h' Q) := X_callV (t := 202) (c := 12) (as := [.int x0, .int x1]) rfl hk rfl (by decide) (Nat.le_of_ble_eq_true rfl)
theorem C_203 (a : Nat) (x0 : Int32) (x1 : Int32) (x2 : Int32) (hk : gk g a = 12) : X (d + 1) y (.inr (.invokevirtual 203) :: ops) ls (.int x2 :: .int x1 :: .int x0 :: .ref a :: st) (ci, cj, g) Q ↔ am_wt st ≤ 8 ∧ X d 203 (am_bk 203 0) [.ref a, .int x0, .int x1, .int x2] [] (ci, cj, g) (fun r h' => X (d + 1) y ops ls (r.toList ++ st) h' Q) := X_callV (t := 203) (c := 12) (as := [.int x0, .int x1, .int x2]) rfl hk rfl (by decide) (Nat.le_of_ble_eq_true rfl)
theorem C_204 (a : Nat) (x0 : Int32) (x1 : Int32) (x2 : Int32) (hk : gk g a = 12) : X (d + 1) y (.inr (.invokevirtual 204) :: ops) ls (.int x2 :: .int x1 :: .int x0 :: .ref a :: st) (ci, cj, g) Q ↔ am_wt st ≤ 8 ∧ X d 204 (am_bk 204 0) [.ref a, .int x0, .int x1, .int x2, .null] [] (ci, cj, g) (fun r h' => X (d + 1) y ops ls (r.toList ++ st) h' Q) := X_callV (t := 204) (c := 12) (as := [.int x0, .int x1, .int x2]) rfl hk rfl (by decide) (Nat.le_of_ble_eq_true rfl)
theorem C_205 (a : Nat) (x0 : Int32) (x1 : Int32) (x2 : Int32) (hk : gk g a = 12) : X (d + 1) y (.inr (.invokevirtual 205) :: ops) ls (.int x2 :: .int x1 :: .int x0 :: .ref a :: st) (ci, cj, g) Q ↔ am_wt st ≤ 8 ∧ X d 205 (am_bk 205 0) [.ref a, .int x0, .int x1, .int x2, .null, .null] [] (ci, cj, g) (fun r h' => X (d + 1) y ops ls (r.toList ++ st) h' Q) := X_callV (t := 205) (c := 12) (as := [.int x0, .int x1, .int x2]) rfl hk rfl (by decide) (Nat.le_of_ble_eq_true rfl)
theorem C_206 (a : Nat) (hk : gk g a = 12) : X (d + 1) y (.inr (.invokevirtual 206) :: ops) ls (.ref a :: st) (ci, cj, g) Q ↔ am_wt st ≤ 8 ∧ X d 206 (am_bk 206 0) [.ref a] [] (ci, cj, g) (fun r h' => X (d + 1) y ops ls (r.toList ++ st) h' Q) := X_callV (t := 206) (c := 12) (as := []) rfl hk rfl (by decide) (Nat.le_of_ble_eq_true rfl)
theorem C_207 (a : Nat) (x0 : Int32) (x1 : Int32) (x2 : Int32) (hk : gk g a = 12) : X (d + 1) y (.inr (.invokevirtual 207) :: ops) ls (.int x2 :: .int x1 :: .int x0 :: .ref a :: st) (ci, cj, g) Q ↔ am_wt st ≤ 8 ∧ X d 207 (am_bk 207 0) [.ref a, .int x0, .int x1, .int x2, .null, .null, .null, .null, .null, .null, .null] [] (ci, cj, g) (fun r h' => X (d + 1) y ops ls (r.toList ++ st) h' Q) := X_callV (t := 207) (c := 12) (as := [.int x0, .int x1, .int x2]) rfl hk rfl (by decide) (Nat.le_of_ble_eq_true rfl)
theorem C_208 (x0 : Int32) : X (d + 1) y (.inr (.invokestatic 208) :: ops) ls (.int x0 :: st) (ci, cj, g) Q ↔ am_wt st ≤ 8 ∧ X d 208 (am_bk 208 0) [.int x0] [] (ci, cj, g) (fun r h' => X (d + 1) y ops ls (r.toList ++ st) h' Q) := (X_callIf (p := am_wt st ≤ 8 ∧ 1 ≤ 1) (as := [.int x0]) rfl rfl rfl (fun _ => rfl)).trans (and_congr_left' ⟨fun z => z.1, fun z => ⟨z, by decide⟩⟩)
theorem C_209 (a : Nat) (x0 : Int32) (hk : gk g a = 12) : X (d + 1) y (.inr (.invokevirtual 209) :: ops) ls (.int x0 :: .ref a :: st) (ci, cj, g) Q ↔ am_wt st ≤ 8 ∧ X d 209 (am_bk 209 0) [.ref a, .int x0] [] (ci, cj, g) (fun r h' => X (d + 1) y ops ls (r.toList ++ st) h' Q) := X_callV (t := 209) (c := 12) (as := [.int x0]) rfl hk rfl (by decide) (Nat.le_of_ble_eq_true rfl)
theorem C_210 (a : Nat) (x0 : Int32) (x1 : Int32) (hk : gk g a = 12) : X (d + 1) y (.inr (.invokevirtual 210) :: ops) ls (.int x1 :: .int x0 :: .ref a :: st) (ci, cj, g) Q ↔ am_wt st ≤ 8 ∧ X d 210 (am_bk 210 0) [.ref a, .int x0, .int x1, .null] [] (ci, cj, g) (fun r h' => X (d + 1) y ops ls (r.toList ++ st) h' Q) := X_callV (t := 210) (c := 12) (as := [.int x0, .int x1]) rfl hk rfl (by decide) (Nat.le_of_ble_eq_true rfl)
theorem C_211 (a : Nat) (x0 : Int32) (x1 : Int32) (hk : gk g a = 12) : X (d + 1) y (.inr (.invokevirtual 211) :: ops) ls (.int x1 :: .int x0 :: .ref a :: st) (ci, cj, g) Q ↔ am_wt st ≤ 8 ∧ X d 211 (am_bk 211 0) [.ref a, .int x0, .int x1, .null] [] (ci, cj, g) (fun r h' => X (d + 1) y ops ls (r.toList ++ st) h' Q) := X_callV (t := 211) (c := 12) (as := [.int x0, .int x1]) rfl hk rfl (by decide) (Nat.le_of_ble_eq_true rfl)
theorem C_212 (a : Nat) (x0 : Int32) (x1 : Int32) (hk : gk g a = 12) : X (d + 1) y (.inr (.invokevirtual 212) :: ops) ls (.int x1 :: .int x0 :: .ref a :: st) (ci, cj, g) Q ↔ am_wt st ≤ 8 ∧ X d 212 (am_bk 212 0) [.ref a, .int x0, .int x1, .null] [] (ci, cj, g) (fun r h' => X (d + 1) y ops ls (r.toList ++ st) h' Q) := X_callV (t := 212) (c := 12) (as := [.int x0, .int x1]) rfl hk rfl (by decide) (Nat.le_of_ble_eq_true rfl)
theorem C_213 (a : Nat) (x0 : Int32) (hk : gk g a = 12) : X (d + 1) y (.inr (.invokevirtual 213) :: ops) ls (.int x0 :: .ref a :: st) (ci, cj, g) Q ↔ am_wt st ≤ 8 ∧ X d 213 (am_bk 213 0) [.ref a, .int x0, .null, .null] [] (ci, cj, g) (fun r h' => X (d + 1) y ops ls (r.toList ++ st) h' Q) := X_callV (t := 213) (c := 12) (as := [.int x0]) rfl hk rfl (by decide) (Nat.le_of_ble_eq_true rfl)
theorem C_214 (a : Nat) (x0 : Int32) (hk : gk g a = 12) : X (d + 1) y (.inr (.invokevirtual 214) :: ops) ls (.int x0 :: .ref a :: st) (ci, cj, g) Q ↔ am_wt st ≤ 8 ∧ X d 214 (am_bk 214 0) [.ref a, .int x0, .null, .null] [] (ci, cj, g) (fun r h' => X (d + 1) y ops ls (r.toList ++ st) h' Q) := X_callV (t := 214) (c := 12) (as := [.int x0]) rfl hk rfl (by decide) (Nat.le_of_ble_eq_true rfl)
theorem C_215 (a : Nat) (x0 : Int32) (hk : gk g a = 12) : X (d + 1) y (.inr (.invokevirtual 215) :: ops) ls (.int x0 :: .ref a :: st) (ci, cj, g) Q ↔ am_wt st ≤ 8 ∧ X d 215 (am_bk 215 0) [.ref a, .int x0, .null] [] (ci, cj, g) (fun r h' => X (d + 1) y ops ls (r.toList ++ st) h' Q) := X_callV (t := 215) (c := 12) (as := [.int x0]) rfl hk rfl (by decide) (Nat.le_of_ble_eq_true rfl)
theorem C_216 (a : Nat) (x0 : Int32) (x1 : Int32) (hk : gk g a = 12) : X (d + 1) y (.inr (.invokevirtual 216) :: ops) ls (.int x1 :: .int x0 :: .ref a :: st) (ci, cj, g) Q ↔ am_wt st ≤ 8 ∧ X d 216 (am_bk 216 0) [.ref a, .int x0, .int x1, .null, .null] [] (ci, cj, g) (fun r h' => X (d + 1) y ops ls (r.toList ++ st) h' Q) := X_callV (t := 216) (c := 12) (as := [.int x0, .int x1]) rfl hk rfl (by decide) (Nat.le_of_ble_eq_true rfl)
theorem C_217 (a : Nat) (x0 : Int32) (x1 : Int32) (hk : gk g a = 12) : X (d + 1) y (.inr (.invokevirtual 217) :: ops) ls (.int x1 :: .int x0 :: .ref a :: st) (ci, cj, g) Q ↔ am_wt st ≤ 8 ∧ X d 217 (am_bk 217 0) [.ref a, .int x0, .int x1] [] (ci, cj, g) (fun r h' => X (d + 1) y ops ls (r.toList ++ st) h' Q) := X_callV (t := 217) (c := 12) (as := [.int x0, .int x1]) rfl hk rfl (by decide) (Nat.le_of_ble_eq_true rfl)
theorem C_218 (a : Nat) (x0 : Int32) (hk : gk g a = 12) : X (d + 1) y (.inr (.invokevirtual 218) :: ops) ls (.int x0 :: .ref a :: st) (ci, cj, g) Q ↔ am_wt st ≤ 8 ∧ X d 218 (am_bk 218 0) [.ref a, .int x0, .null, .null, .null, .null, .null, .null] [] (ci, cj, g) (fun r h' => X (d + 1) y ops ls (r.toList ++ st) h' Q) := X_callV (t := 218) (c := 12) (as := [.int x0]) rfl hk rfl (by decide) (Nat.le_of_ble_eq_true rfl)
theorem C_219 (a : Nat) (x0 : Int32) (x1 : Int32) (hk : gk g a = 12) : X (d + 1) y (.inr (.invokevirtual 219) :: ops) ls (.int x1 :: .int x0 :: .ref a :: st) (ci, cj, g) Q ↔ am_wt st ≤ 8 ∧ X d 219 (am_bk 219 0) [.ref a, .int x0, .int x1, .null, .null] [] (ci, cj, g) (fun r h' => X (d + 1) y ops ls (r.toList ++ st) h' Q) := X_callV (t := 219) (c := 12) (as := [.int x0, .int x1]) rfl hk rfl (by decide) (Nat.le_of_ble_eq_true rfl)
theorem C_220 (a : Nat) (x0 : Int32) (hk : gk g a = 12) : X (d + 1) y (.inr (.invokevirtual 220) :: ops) ls (.int x0 :: .ref a :: st) (ci, cj, g) Q ↔ am_wt st ≤ 8 ∧ X d 220 (am_bk 220 0) [.ref a, .int x0] [] (ci, cj, g) (fun r h' => X (d + 1) y ops ls (r.toList ++ st) h' Q) := X_callV (t := 220) (c := 12) (as := [.int x0]) rfl hk rfl (by decide) (Nat.le_of_ble_eq_true rfl)
theorem C_221 (a : Nat) (x0 : Int32) (x1 : Int32) (hk : gk g a = 12) : X (d + 1) y (.inr (.invokevirtual 221) :: ops) ls (.int x1 :: .int x0 :: .ref a :: st) (ci, cj, g) Q ↔ am_wt st ≤ 8 ∧ X d 221 (am_bk 221 0) [.ref a, .int x0, .int x1, .null, .null, .null] [] (ci, cj, g) (fun r h' => X (d + 1) y ops ls (r.toList ++ st) h' Q) := X_callV (t := 221) (c := 12) (as := [.int x0, .int x1]) rfl hk rfl (by decide) (Nat.le_of_ble_eq_true rfl)
theorem C_222 (a : Nat) (x0 : Int32) (x1 : Int32) (hk : gk g a = 12) : X (d + 1) y (.inr (.invokevirtual 222) :: ops) ls (.int x1 :: .int x0 :: .ref a :: st) (ci, cj, g) Q ↔ am_wt st ≤ 8 ∧ X d 222 (am_bk 222 0) [.ref a, .int x0, .int x1, .null, .null, .null, .null] [] (ci, cj, g) (fun r h' => X (d + 1) y ops ls (r.toList ++ st) h' Q) := X_callV (t := 222) (c := 12) (as := [.int x0, .int x1]) rfl hk rfl (by decide) (Nat.le_of_ble_eq_true rfl)
theorem C_223 (a : Nat) (x0 : Int32) (hk : gk g a = 12) : X (d + 1) y (.inr (.invokevirtual 223) :: ops) ls (.int x0 :: .ref a :: st) (ci, cj, g) Q ↔ am_wt st ≤ 8 ∧ X d 223 (am_bk 223 0) [.ref a, .int x0] [] (ci, cj, g) (fun r h' => X (d + 1) y ops ls (r.toList ++ st) h' Q) := X_callV (t := 223) (c := 12) (as := [.int x0]) rfl hk rfl (by decide) (Nat.le_of_ble_eq_true rfl)
theorem C_224 (a : Nat) (x0 : Int32) (hk : gk g a = 12) : X (d + 1) y (.inr (.invokevirtual 224) :: ops) ls (.int x0 :: .ref a :: st) (ci, cj, g) Q ↔ am_wt st ≤ 8 ∧ X d 224 (am_bk 224 0) [.ref a, .int x0, .null] [] (ci, cj, g) (fun r h' => X (d + 1) y ops ls (r.toList ++ st) h' Q) := X_callV (t := 224) (c := 12) (as := [.int x0]) rfl hk rfl (by decide) (Nat.le_of_ble_eq_true rfl)
theorem C_225 (x0 : Nat) (x1 : Nat) : X (d + 1) y (.inr (.invokestatic 225) :: ops) ls (.ref x1 :: .ref x0 :: st) (ci, cj, g) Q ↔ am_wt st ≤ 8 ∧ X d 225 (am_bk 225 0) [.ref x0, .ref x1, .null] [] (ci, cj, g) (fun r h' => X (d + 1) y ops ls (r.toList ++ st) h' Q) := (X_callIf (p := am_wt st ≤ 8 ∧ 2 ≤ 3) (as := [.ref x0, .ref x1]) rfl rfl rfl (fun _ => rfl)).trans (and_congr_left' ⟨fun z => z.1, fun z => ⟨z, by decide⟩⟩)
theorem C_226 (a : Nat) (x0 : Nat) (hk : gk g a = 12) : X (d + 1) y (.inr (.invokevirtual 226) :: ops) ls (.ref x0 :: .ref a :: st) (ci, cj, g) Q ↔ am_wt st ≤ 8 ∧ X d 226 (am_bk 226 0) [.ref a, .ref x0, .null] [] (ci, cj, g) (fun r h' => X (d + 1) y ops ls (r.toList ++ st) h' Q) := X_callV (t := 226) (c := 12) (as := [.ref x0]) rfl hk rfl (by decide) (Nat.le_of_ble_eq_true rfl)
theorem C_227 (a : Nat) (hk : gk g a = 12) : X (d + 1) y (.inr (.invokevirtual 227) :: ops) ls (.ref a :: st) (ci, cj, g) Q ↔ am_wt st ≤ 8 ∧ X d 227 (am_bk 227 0) [.ref a] [] (ci, cj, g) (fun r h' => X (d + 1) y ops ls (r.toList ++ st) h' Q) := X_callV (t := 227) (c := 12) (as := []) rfl hk rfl (by decide) (Nat.le_of_ble_eq_true rfl)
theorem C_228 (a : Nat) (hk : gk g a = 12) : X (d + 1) y (.inr (.invokevirtual 228) :: ops) ls (.ref a :: st) (ci, cj, g) Q ↔ am_wt st ≤ 8 ∧ X d 228 (am_bk 228 0) [.ref a] [] (ci, cj, g) (fun r h' => X (d + 1) y ops ls (r.toList ++ st) h' Q) := X_callV (t := 228) (c := 12) (as := []) rfl hk rfl (by decide) (Nat.le_of_ble_eq_true rfl)
theorem C_229 (a : Nat) (x0 : Int32) (hk : gk g a = 12) : X (d + 1) y (.inr (.invokevirtual 229) :: ops) ls (.int x0 :: .ref a :: st) (ci, cj, g) Q ↔ am_wt st ≤ 8 ∧ X d 229 (am_bk 229 0) [.ref a, .int x0, .null, .null] [] (ci, cj, g) (fun r h' => X (d + 1) y ops ls (r.toList ++ st) h' Q) := X_callV (t := 229) (c := 12) (as := [.int x0]) rfl hk rfl (by decide) (Nat.le_of_ble_eq_true rfl)
theorem C_230 (a : Nat) : X (d + 1) y (.inr (.invokespecial 230) :: ops) ls (.ref a :: st) (ci, cj, g) Q ↔ (a ≠ 0 ∧ am_wt st ≤ 8) ∧ X d 230 (am_bk 230 0) [.ref a] [] (ci, cj, g) (fun r h' => X (d + 1) y ops ls (r.toList ++ st) h' Q) := (X_callIf (p := a ≠ 0 ∧ am_wt st ≤ 8 ∧ 1 ≤ 1) (as := [.ref a]) rfl rfl rfl (fun _ => rfl)).trans (and_congr_left' ⟨fun z => ⟨z.1, z.2.1⟩, fun z => ⟨z.1, z.2, by decide⟩⟩)
theorem C_231 (a : Nat) (x0 : Int32) : X (d + 1) y (.inr (.invokespecial 231) :: ops) ls (.int x0 :: .ref a :: st) (ci, cj, g) Q ↔ (a ≠ 0 ∧ am_wt st ≤ 8) ∧ X d 231 (am_bk 231 0) [.ref a, .int x0] [] (ci, cj, g) (fun r h' => X (d + 1) y ops ls (r.toList ++ st) h' Q) := (X_callIf (p := a ≠ 0 ∧ am_wt st ≤ 8 ∧ 2 ≤ 2) (as := [.ref a, .int x0]) rfl rfl rfl (fun _ => rfl)).trans (and_congr_left' ⟨fun z => ⟨z.1, z.2.1⟩, fun z => ⟨z.1, z.2, by decide⟩⟩)
theorem C_236 (x0 : Int64) (x1 : Int64) : X (d + 1) y (.inr (.invokestatic 236) :: ops) ls (.long x1 :: .long x0 :: st) (ci, cj, g) Q ↔ am_wt st ≤ 8 ∧ X d 236 (am_bk 236 0) [.long x0, .null, .long x1, .null] [] (ci, cj, g) (fun r h' => X (d + 1) y ops ls (r.toList ++ st) h' Q) := (X_callIf (p := am_wt st ≤ 8 ∧ 4 ≤ 4) (as := [.long x0, .long x1]) rfl rfl rfl (fun _ => rfl)).trans (and_congr_left' ⟨fun z => z.1, fun z => ⟨z, by decide⟩⟩)
theorem C_237 (x0 : Int32) (x1 : Int32) : X (d + 1) y (.inr (.invokestatic 237) :: ops) ls (.int x1 :: .int x0 :: st) (ci, cj, g) Q ↔ am_wt st ≤ 8 ∧ X d 237 (am_bk 237 0) [.int x0, .int x1] [] (ci, cj, g) (fun r h' => X (d + 1) y ops ls (r.toList ++ st) h' Q) := (X_callIf (p := am_wt st ≤ 8 ∧ 2 ≤ 2) (as := [.int x0, .int x1]) rfl rfl rfl (fun _ => rfl)).trans (and_congr_left' ⟨fun z => z.1, fun z => ⟨z, by decide⟩⟩)
theorem C_238 (a : Nat) (x0 : Int32) (hk : gk g a = 40) : X (d + 1) y (.inr (.invokevirtual 238) :: ops) ls (.int x0 :: .ref a :: st) (ci, cj, g) Q ↔ am_wt st ≤ 8 ∧ X d 238 (am_bk 238 0) [.ref a, .int x0] [] (ci, cj, g) (fun r h' => X (d + 1) y ops ls (r.toList ++ st) h' Q) := X_callV (t := 238) (c := 40) (as := [.int x0]) rfl hk rfl (by decide) (Nat.le_of_ble_eq_true rfl)
theorem C_239 (x0 : Int32) (x1 : Int32) : X (d + 1) y (.inr (.invokestatic 239) :: ops) ls (.int x1 :: .int x0 :: st) (ci, cj, g) Q ↔ am_wt st ≤ 8 ∧ X d 239 (am_bk 239 0) [.int x0, .int x1] [] (ci, cj, g) (fun r h' => X (d + 1) y ops ls (r.toList ++ st) h' Q) := (X_callIf (p := am_wt st ≤ 8 ∧ 2 ≤ 2) (as := [.int x0, .int x1]) rfl rfl rfl (fun _ => rfl)).trans (and_congr_left' ⟨fun z => z.1, fun z => ⟨z, by decide⟩⟩)
theorem C_240 (a : Nat) (hk : gk g a = 40) : X (d + 1) y (.inr (.invokevirtual 240) :: ops) ls (.ref a :: st) (ci, cj, g) Q ↔ am_wt st ≤ 8 ∧ X d 240 (am_bk 240 0) [.ref a] [] (ci, cj, g) (fun r h' => X (d + 1) y ops ls (r.toList ++ st) h' Q) := X_callV (t := 240) (c := 40) (as := []) rfl hk rfl (by decide) (Nat.le_of_ble_eq_true rfl)
theorem C_241 (a : Nat) (hk : gk g a = 40) : X (d + 1) y (.inr (.invokevirtual 241) :: ops) ls (.ref a :: st) (ci, cj, g) Q ↔ am_wt st ≤ 8 ∧ X d 241 (am_bk 241 0) [.ref a] [] (ci, cj, g) (fun r h' => X (d + 1) y ops ls (r.toList ++ st) h' Q) := X_callV (t := 241) (c := 40) (as := []) rfl hk rfl (by decide) (Nat.le_of_ble_eq_true rfl)
theorem C_242 (a : Nat) (hk : gk g a = 40) : X (d + 1) y (.inr (.invokevirtual 242) :: ops) ls (.ref a :: st) (ci, cj, g) Q ↔ am_wt st ≤ 8 ∧ X d 242 (am_bk 242 0) [.ref a] [] (ci, cj, g) (fun r h' => X (d + 1) y ops ls (r.toList ++ st) h' Q) := X_callV (t := 242) (c := 40) (as := []) rfl hk rfl (by decide) (Nat.le_of_ble_eq_true rfl)
theorem C_243 (x0 : Nat) (x1 : Int32) : X (d + 1) y (.inr (.invokestatic 243) :: ops) ls (.int x1 :: .ref x0 :: st) (ci, cj, g) Q ↔ am_wt st ≤ 8 ∧ X d 243 (am_bk 243 0) [.ref x0, .int x1] [] (ci, cj, g) (fun r h' => X (d + 1) y ops ls (r.toList ++ st) h' Q) := (X_callIf (p := am_wt st ≤ 8 ∧ 2 ≤ 2) (as := [.ref x0, .int x1]) rfl rfl rfl (fun _ => rfl)).trans (and_congr_left' ⟨fun z => z.1, fun z => ⟨z, by decide⟩⟩)
theorem C_244 (x0 : Int32) (x1 : Int32) (x2 : UInt32) : X (d + 1) y (.inr (.invokestatic 244) :: ops) ls (.float x2 :: .int x1 :: .int x0 :: st) (ci, cj, g) Q ↔ am_wt st ≤ 8 ∧ X d 244 (am_bk 244 0) [.int x0, .int x1, .float x2] [] (ci, cj, g) (fun r h' => X (d + 1) y ops ls (r.toList ++ st) h' Q) := (X_callIf (p := am_wt st ≤ 8 ∧ 3 ≤ 3) (as := [.int x0, .int x1, .float x2]) rfl rfl rfl (fun _ => rfl)).trans (and_congr_left' ⟨fun z => z.1, fun z => ⟨z, by decide⟩⟩)
theorem V_0_5 (a : Nat) (hk : gk g a = 5) : X (d + 1) y (.inr (.invokevirtual 500) :: ops) ls (.ref a :: st) (ci, cj, g) Q ↔ am_wt st ≤ 8 ∧ X d 112 (am_bk 112 0) [.ref a] [] (ci, cj, g) (fun r h' => X (d + 1) y ops ls (r.toList ++ st) h' Q) := X_callV (t := 112) (c := 5) (as := []) rfl hk rfl (by decide) (Nat.le_of_ble_eq_true rfl)
theorem V_0_6 (a : Nat) (hk : gk g a = 6) : X (d + 1) y (.inr (.invokevirtual 500) :: ops) ls (.ref a :: st) (ci, cj, g) Q ↔ am_wt st ≤ 8 ∧ X d 233 (am_bk 233 0) [.ref a] [] (ci, cj, g) (fun r h' => X (d + 1) y ops ls (r.toList ++ st) h' Q) := X_callV (t := 233) (c := 6) (as := []) rfl hk rfl (by decide) (Nat.le_of_ble_eq_true rfl)
theorem V_0_7 (a : Nat) (hk : gk g a = 7) : X (d + 1) y (.inr (.invokevirtual 500) :: ops) ls (.ref a :: st) (ci, cj, g) Q ↔ am_wt st ≤ 8 ∧ X d 233 (am_bk 233 0) [.ref a] [] (ci, cj, g) (fun r h' => X (d + 1) y ops ls (r.toList ++ st) h' Q) := X_callV (t := 233) (c := 7) (as := []) rfl hk rfl (by decide) (Nat.le_of_ble_eq_true rfl)
theorem V_0_8 (a : Nat) (hk : gk g a = 8) : X (d + 1) y (.inr (.invokevirtual 500) :: ops) ls (.ref a :: st) (ci, cj, g) Q ↔ am_wt st ≤ 8 ∧ X d 233 (am_bk 233 0) [.ref a] [] (ci, cj, g) (fun r h' => X (d + 1) y ops ls (r.toList ++ st) h' Q) := X_callV (t := 233) (c := 8) (as := []) rfl hk rfl (by decide) (Nat.le_of_ble_eq_true rfl)
theorem V_0_9 (a : Nat) (hk : gk g a = 9) : X (d + 1) y (.inr (.invokevirtual 500) :: ops) ls (.ref a :: st) (ci, cj, g) Q ↔ am_wt st ≤ 8 ∧ X d 233 (am_bk 233 0) [.ref a] [] (ci, cj, g) (fun r h' => X (d + 1) y ops ls (r.toList ++ st) h' Q) := X_callV (t := 233) (c := 9) (as := []) rfl hk rfl (by decide) (Nat.le_of_ble_eq_true rfl)
theorem V_0_10 (a : Nat) (hk : gk g a = 10) : X (d + 1) y (.inr (.invokevirtual 500) :: ops) ls (.ref a :: st) (ci, cj, g) Q ↔ am_wt st ≤ 8 ∧ X d 233 (am_bk 233 0) [.ref a] [] (ci, cj, g) (fun r h' => X (d + 1) y ops ls (r.toList ++ st) h' Q) := X_callV (t := 233) (c := 10) (as := []) rfl hk rfl (by decide) (Nat.le_of_ble_eq_true rfl)
theorem V_0_11 (a : Nat) (hk : gk g a = 11) : X (d + 1) y (.inr (.invokevirtual 500) :: ops) ls (.ref a :: st) (ci, cj, g) Q ↔ am_wt st ≤ 8 ∧ X d 233 (am_bk 233 0) [.ref a] [] (ci, cj, g) (fun r h' => X (d + 1) y ops ls (r.toList ++ st) h' Q) := X_callV (t := 233) (c := 11) (as := []) rfl hk rfl (by decide) (Nat.le_of_ble_eq_true rfl)
theorem V_1_6 (a : Nat) (hk : gk g a = 6) : X (d + 1) y (.inr (.invokevirtual 501) :: ops) ls (.ref a :: st) (ci, cj, g) Q ↔ am_wt st ≤ 8 ∧ X d 118 (am_bk 118 0) [.ref a] [] (ci, cj, g) (fun r h' => X (d + 1) y ops ls (r.toList ++ st) h' Q) := X_callV (t := 118) (c := 6) (as := []) rfl hk rfl (by decide) (Nat.le_of_ble_eq_true rfl)
theorem V_1_7 (a : Nat) (hk : gk g a = 7) : X (d + 1) y (.inr (.invokevirtual 501) :: ops) ls (.ref a :: st) (ci, cj, g) Q ↔ am_wt st ≤ 8 ∧ X d 121 (am_bk 121 0) [.ref a] [] (ci, cj, g) (fun r h' => X (d + 1) y ops ls (r.toList ++ st) h' Q) := X_callV (t := 121) (c := 7) (as := []) rfl hk rfl (by decide) (Nat.le_of_ble_eq_true rfl)
theorem V_1_8 (a : Nat) (hk : gk g a = 8) : X (d + 1) y (.inr (.invokevirtual 501) :: ops) ls (.ref a :: st) (ci, cj, g) Q ↔ am_wt st ≤ 8 ∧ X d 124 (am_bk 124 0) [.ref a] [] (ci, cj, g) (fun r h' => X (d + 1) y ops ls (r.toList ++ st) h' Q) := X_callV (t := 124) (c := 8) (as := []) rfl hk rfl (by decide) (Nat.le_of_ble_eq_true rfl)
theorem V_1_9 (a : Nat) (hk : gk g a = 9) : X (d + 1) y (.inr (.invokevirtual 501) :: ops) ls (.ref a :: st) (ci, cj, g) Q ↔ am_wt st ≤ 8 ∧ X d 127 (am_bk 127 0) [.ref a] [] (ci, cj, g) (fun r h' => X (d + 1) y ops ls (r.toList ++ st) h' Q) := X_callV (t := 127) (c := 9) (as := []) rfl hk rfl (by decide) (Nat.le_of_ble_eq_true rfl)
theorem V_1_10 (a : Nat) (hk : gk g a = 10) : X (d + 1) y (.inr (.invokevirtual 501) :: ops) ls (.ref a :: st) (ci, cj, g) Q ↔ am_wt st ≤ 8 ∧ X d 130 (am_bk 130 0) [.ref a] [] (ci, cj, g) (fun r h' => X (d + 1) y ops ls (r.toList ++ st) h' Q) := X_callV (t := 130) (c := 10) (as := []) rfl hk rfl (by decide) (Nat.le_of_ble_eq_true rfl)
theorem V_1_11 (a : Nat) (hk : gk g a = 11) : X (d + 1) y (.inr (.invokevirtual 501) :: ops) ls (.ref a :: st) (ci, cj, g) Q ↔ am_wt st ≤ 8 ∧ X d 133 (am_bk 133 0) [.ref a] [] (ci, cj, g) (fun r h' => X (d + 1) y ops ls (r.toList ++ st) h' Q) := X_callV (t := 133) (c := 11) (as := []) rfl hk rfl (by decide) (Nat.le_of_ble_eq_true rfl)
theorem V_2_6 (a : Nat) (x0 : Nat) (x1 : Int32) (x2 : Int32) (x3 : Nat) (hk : gk g a = 6) : X (d + 1) y (.inr (.invokevirtual 502) :: ops) ls (.ref x3 :: .int x2 :: .int x1 :: .ref x0 :: .ref a :: st) (ci, cj, g) Q ↔ am_wt st ≤ 8 ∧ X d 119 (am_bk 119 0) [.ref a, .ref x0, .int x1, .int x2, .ref x3, .null] [] (ci, cj, g) (fun r h' => X (d + 1) y ops ls (r.toList ++ st) h' Q) := X_callV (t := 119) (c := 6) (as := [.ref x0, .int x1, .int x2, .ref x3]) rfl hk rfl (by decide) (Nat.le_of_ble_eq_true rfl)
theorem V_2_7 (a : Nat) (x0 : Nat) (x1 : Int32) (x2 : Int32) (x3 : Nat) (hk : gk g a = 7) : X (d + 1) y (.inr (.invokevirtual 502) :: ops) ls (.ref x3 :: .int x2 :: .int x1 :: .ref x0 :: .ref a :: st) (ci, cj, g) Q ↔ am_wt st ≤ 8 ∧ X d 122 (am_bk 122 0) [.ref a, .ref x0, .int x1, .int x2, .ref x3, .null, .null] [] (ci, cj, g) (fun r h' => X (d + 1) y ops ls (r.toList ++ st) h' Q) := X_callV (t := 122) (c := 7) (as := [.ref x0, .int x1, .int x2, .ref x3]) rfl hk rfl (by decide) (Nat.le_of_ble_eq_true rfl)
theorem V_2_8 (a : Nat) (x0 : Nat) (x1 : Int32) (x2 : Int32) (x3 : Nat) (hk : gk g a = 8) : X (d + 1) y (.inr (.invokevirtual 502) :: ops) ls (.ref x3 :: .int x2 :: .int x1 :: .ref x0 :: .ref a :: st) (ci, cj, g) Q ↔ am_wt st ≤ 8 ∧ X d 125 (am_bk 125 0) [.ref a, .ref x0, .int x1, .int x2, .ref x3] [] (ci, cj, g) (fun r h' => X (d + 1) y ops ls (r.toList ++ st) h' Q) := X_callV (t := 125) (c := 8) (as := [.ref x0, .int x1, .int x2, .ref x3]) rfl hk rfl (by decide) (Nat.le_of_ble_eq_true rfl)
theorem V_2_9 (a : Nat) (x0 : Nat) (x1 : Int32) (x2 : Int32) (x3 : Nat) (hk : gk g a = 9) : X (d + 1) y (.inr (.invokevirtual 502) :: ops) ls (.ref x3 :: .int x2 :: .int x1 :: .ref x0 :: .ref a :: st) (ci, cj, g) Q ↔ am_wt st ≤ 8 ∧ X d 128 (am_bk 128 0) [.ref a, .ref x0, .int x1, .int x2, .ref x3, .null] [] (ci, cj, g) (fun r h' => X (d + 1) y ops ls (r.toList ++ st) h' Q) := X_callV (t := 128) (c := 9) (as := [.ref x0, .int x1, .int x2, .ref x3]) rfl hk rfl (by decide) (Nat.le_of_ble_eq_true rfl)
theorem V_2_10 (a : Nat) (x0 : Nat) (x1 : Int32) (x2 : Int32) (x3 : Nat) (hk : gk g a = 10) : X (d + 1) y (.inr (.invokevirtual 502) :: ops) ls (.ref x3 :: .int x2 :: .int x1 :: .ref x0 :: .ref a :: st) (ci, cj, g) Q ↔ am_wt st ≤ 8 ∧ X d 131 (am_bk 131 0) [.ref a, .ref x0, .int x1, .int x2, .ref x3, .null, .null, .null, .null] [] (ci, cj, g) (fun r h' => X (d + 1) y ops ls (r.toList ++ st) h' Q) := X_callV (t := 131) (c := 10) (as := [.ref x0, .int x1, .int x2, .ref x3]) rfl hk rfl (by decide) (Nat.le_of_ble_eq_true rfl)
theorem V_2_11 (a : Nat) (x0 : Nat) (x1 : Int32) (x2 : Int32) (x3 : Nat) (hk : gk g a = 11) : X (d + 1) y (.inr (.invokevirtual 502) :: ops) ls (.ref x3 :: .int x2 :: .int x1 :: .ref x0 :: .ref a :: st) (ci, cj, g) Q ↔ am_wt st ≤ 8 ∧ X d 135 (am_bk 135 0) [.ref a, .ref x0, .int x1, .int x2, .ref x3] [] (ci, cj, g) (fun r h' => X (d + 1) y ops ls (r.toList ++ st) h' Q) := X_callV (t := 135) (c := 11) (as := [.ref x0, .int x1, .int x2, .ref x3]) rfl hk rfl (by decide) (Nat.le_of_ble_eq_true rfl)
theorem V_3_6 (a : Nat) (hk : gk g a = 6) : X (d + 1) y (.inr (.invokevirtual 503) :: ops) ls (.ref a :: st) (ci, cj, g) Q ↔ am_wt st ≤ 8 ∧ X d 232 (am_bk 232 0) [.ref a] [] (ci, cj, g) (fun r h' => X (d + 1) y ops ls (r.toList ++ st) h' Q) := X_callV (t := 232) (c := 6) (as := []) rfl hk rfl (by decide) (Nat.le_of_ble_eq_true rfl)
theorem V_3_7 (a : Nat) (hk : gk g a = 7) : X (d + 1) y (.inr (.invokevirtual 503) :: ops) ls (.ref a :: st) (ci, cj, g) Q ↔ am_wt st ≤ 8 ∧ X d 232 (am_bk 232 0) [.ref a] [] (ci, cj, g) (fun r h' => X (d + 1) y ops ls (r.toList ++ st) h' Q) := X_callV (t := 232) (c := 7) (as := []) rfl hk rfl (by decide) (Nat.le_of_ble_eq_true rfl)
theorem V_3_8 (a : Nat) (hk : gk g a = 8) : X (d + 1) y (.inr (.invokevirtual 503) :: ops) ls (.ref a :: st) (ci, cj, g) Q ↔ am_wt st ≤ 8 ∧ X d 232 (am_bk 232 0) [.ref a] [] (ci, cj, g) (fun r h' => X (d + 1) y ops ls (r.toList ++ st) h' Q) := X_callV (t := 232) (c := 8) (as := []) rfl hk rfl (by decide) (Nat.le_of_ble_eq_true rfl)
theorem V_3_9 (a : Nat) (hk : gk g a = 9) : X (d + 1) y (.inr (.invokevirtual 503) :: ops) ls (.ref a :: st) (ci, cj, g) Q ↔ am_wt st ≤ 8 ∧ X d 232 (am_bk 232 0) [.ref a] [] (ci, cj, g) (fun r h' => X (d + 1) y ops ls (r.toList ++ st) h' Q) := X_callV (t := 232) (c := 9) (as := []) rfl hk rfl (by decide) (Nat.le_of_ble_eq_true rfl)
theorem V_3_10 (a : Nat) (hk : gk g a = 10) : X (d + 1) y (.inr (.invokevirtual 503) :: ops) ls (.ref a :: st) (ci, cj, g) Q ↔ am_wt st ≤ 8 ∧ X d 232 (am_bk 232 0) [.ref a] [] (ci, cj, g) (fun r h' => X (d + 1) y ops ls (r.toList ++ st) h' Q) := X_callV (t := 232) (c := 10) (as := []) rfl hk rfl (by decide) (Nat.le_of_ble_eq_true rfl)
theorem V_3_11 (a : Nat) (hk : gk g a = 11) : X (d + 1) y (.inr (.invokevirtual 503) :: ops) ls (.ref a :: st) (ci, cj, g) Q ↔ am_wt st ≤ 8 ∧ X d 134 (am_bk 134 0) [.ref a] [] (ci, cj, g) (fun r h' => X (d + 1) y ops ls (r.toList ++ st) h' Q) := X_callV (t := 134) (c := 11) (as := []) rfl hk rfl (by decide) (Nat.le_of_ble_eq_true rfl)
theorem V_4_6 (a : Nat) (x0 : Int32) (hk : gk g a = 6) : X (d + 1) y (.inr (.invokevirtual 504) :: ops) ls (.int x0 :: .ref a :: st) (ci, cj, g) Q ↔ am_wt st ≤ 8 ∧ X d 234 (am_bk 234 0) [.ref a, .int x0] [] (ci, cj, g) (fun r h' => X (d + 1) y ops ls (r.toList ++ st) h' Q) := X_callV (t := 234) (c := 6) (as := [.int x0]) rfl hk rfl (by decide) (Nat.le_of_ble_eq_true rfl)
theorem V_4_7 (a : Nat) (x0 : Int32) (hk : gk g a = 7) : X (d + 1) y (.inr (.invokevirtual 504) :: ops) ls (.int x0 :: .ref a :: st) (ci, cj, g) Q ↔ am_wt st ≤ 8 ∧ X d 234 (am_bk 234 0) [.ref a, .int x0] [] (ci, cj, g) (fun r h' => X (d + 1) y ops ls (r.toList ++ st) h' Q) := X_callV (t := 234) (c := 7) (as := [.int x0]) rfl hk rfl (by decide) (Nat.le_of_ble_eq_true rfl)
theorem V_4_8 (a : Nat) (x0 : Int32) (hk : gk g a = 8) : X (d + 1) y (.inr (.invokevirtual 504) :: ops) ls (.int x0 :: .ref a :: st) (ci, cj, g) Q ↔ am_wt st ≤ 8 ∧ X d 234 (am_bk 234 0) [.ref a, .int x0] [] (ci, cj, g) (fun r h' => X (d + 1) y ops ls (r.toList ++ st) h' Q) := X_callV (t := 234) (c := 8) (as := [.int x0]) rfl hk rfl (by decide) (Nat.le_of_ble_eq_true rfl)
theorem V_4_9 (a : Nat) (x0 : Int32) (hk : gk g a = 9) : X (d + 1) y (.inr (.invokevirtual 504) :: ops) ls (.int x0 :: .ref a :: st) (ci, cj, g) Q ↔ am_wt st ≤ 8 ∧ X d 234 (am_bk 234 0) [.ref a, .int x0] [] (ci, cj, g) (fun r h' => X (d + 1) y ops ls (r.toList ++ st) h' Q) := X_callV (t := 234) (c := 9) (as := [.int x0]) rfl hk rfl (by decide) (Nat.le_of_ble_eq_true rfl)
theorem V_4_10 (a : Nat) (x0 : Int32) (hk : gk g a = 10) : X (d + 1) y (.inr (.invokevirtual 504) :: ops) ls (.int x0 :: .ref a :: st) (ci, cj, g) Q ↔ am_wt st ≤ 8 ∧ X d 234 (am_bk 234 0) [.ref a, .int x0] [] (ci, cj, g) (fun r h' => X (d + 1) y ops ls (r.toList ++ st) h' Q) := X_callV (t := 234) (c := 10) (as := [.int x0]) rfl hk rfl (by decide) (Nat.le_of_ble_eq_true rfl)
theorem V_4_11 (a : Nat) (x0 : Int32) (hk : gk g a = 11) : X (d + 1) y (.inr (.invokevirtual 504) :: ops) ls (.int x0 :: .ref a :: st) (ci, cj, g) Q ↔ am_wt st ≤ 8 ∧ X d 234 (am_bk 234 0) [.ref a, .int x0] [] (ci, cj, g) (fun r h' => X (d + 1) y ops ls (r.toList ++ st) h' Q) := X_callV (t := 234) (c := 11) (as := [.int x0]) rfl hk rfl (by decide) (Nat.le_of_ble_eq_true rfl)
end XR
theorem bk_0_0 : am_bk 0 0 = bq_0_0 := rfl
theorem bk_1_0 : am_bk 1 0 = bq_1_0 := rfl
theorem bk_1_1 : am_bk 1 1 = bq_1_1 := rfl
theorem bk_1_2 : am_bk 1 2 = bq_1_2 := rfl
theorem bk_2_0 : am_bk 2 0 = bq_2_0 := rfl
theorem bk_2_1 : am_bk 2 1 = bq_2_1 := rfl
theorem bk_2_2 : am_bk 2 2 = bq_2_2 := rfl
theorem bk_3_0 : am_bk 3 0 = bq_3_0 := rfl
theorem bk_3_1 : am_bk 3 1 = bq_3_1 := rfl
theorem bk_3_2 : am_bk 3 2 = bq_3_2 := rfl
theorem bk_3_3 : am_bk 3 3 = bq_3_3 := rfl
theorem bk_3_4 : am_bk 3 4 = bq_3_4 := rfl
theorem bk_3_5 : am_bk 3 5 = bq_3_5 := rfl
theorem bk_4_0 : am_bk 4 0 = bq_4_0 := rfl
theorem bk_4_1 : am_bk 4 1 = bq_4_1 := rfl
theorem bk_4_2 : am_bk 4 2 = bq_4_2 := rfl
theorem bk_5_0 : am_bk 5 0 = bq_5_0 := rfl
theorem bk_5_1 : am_bk 5 1 = bq_5_1 := rfl
theorem bk_5_2 : am_bk 5 2 = bq_5_2 := rfl
theorem bk_5_3 : am_bk 5 3 = bq_5_3 := rfl
theorem bk_6_0 : am_bk 6 0 = bq_6_0 := rfl
theorem bk_6_1 : am_bk 6 1 = bq_6_1 := rfl
theorem bk_6_2 : am_bk 6 2 = bq_6_2 := rfl
theorem bk_6_3 : am_bk 6 3 = bq_6_3 := rfl
theorem bk_7_0 : am_bk 7 0 = bq_7_0 := rfl
theorem bk_7_1 : am_bk 7 1 = bq_7_1 := rfl
theorem bk_7_2 : am_bk 7 2 = bq_7_2 := rfl
theorem bk_7_3 : am_bk 7 3 = bq_7_3 := rfl
theorem bk_7_4 : am_bk 7 4 = bq_7_4 := rfl
theorem bk_7_5 : am_bk 7 5 = bq_7_5 := rfl
theorem bk_7_6 : am_bk 7 6 = bq_7_6 := rfl
theorem bk_7_7 : am_bk 7 7 = bq_7_7 := rfl
theorem bk_7_8 : am_bk 7 8 = bq_7_8 := rfl
theorem bk_8_0 : am_bk 8 0 = bq_8_0 := rfl
theorem bk_8_1 : am_bk 8 1 = bq_8_1 := rfl
theorem bk_8_2 : am_bk 8 2 = bq_8_2 := rfl
theorem bk_8_3 : am_bk 8 3 = bq_8_3 := rfl
theorem bk_8_4 : am_bk 8 4 = bq_8_4 := rfl
theorem bk_8_5 : am_bk 8 5 = bq_8_5 := rfl
theorem bk_8_6 : am_bk 8 6 = bq_8_6 := rfl
theorem bk_8_7 : am_bk 8 7 = bq_8_7 := rfl
theorem bk_8_8 : am_bk 8 8 = bq_8_8 := rfl
theorem bk_8_9 : am_bk 8 9 = bq_8_9 := rfl
theorem bk_8_10 : am_bk 8 10 = bq_8_10 := rfl
theorem bk_9_0 : am_bk 9 0 = bq_9_0 := rfl
theorem bk_9_1 : am_bk 9 1 = bq_9_1 := rfl
theorem bk_10_0 : am_bk 10 0 = bq_10_0 := rfl
theorem bk_10_1 : am_bk 10 1 = bq_10_1 := rfl
theorem bk_10_2 : am_bk 10 2 = bq_10_2 := rfl
theorem bk_10_3 : am_bk 10 3 = bq_10_3 := rfl
theorem bk_10_4 : am_bk 10 4 = bq_10_4 := rfl
theorem bk_10_5 : am_bk 10 5 = bq_10_5 := rfl
theorem bk_10_6 : am_bk 10 6 = bq_10_6 := rfl
theorem bk_11_0 : am_bk 11 0 = bq_11_0 := rfl
theorem bk_11_1 : am_bk 11 1 = bq_11_1 := rfl
theorem bk_11_2 : am_bk 11 2 = bq_11_2 := rfl
theorem bk_11_3 : am_bk 11 3 = bq_11_3 := rfl
theorem bk_11_4 : am_bk 11 4 = bq_11_4 := rfl
theorem bk_11_5 : am_bk 11 5 = bq_11_5 := rfl
theorem bk_11_6 : am_bk 11 6 = bq_11_6 := rfl
theorem bk_12_0 : am_bk 12 0 = bq_12_0 := rfl
theorem bk_12_1 : am_bk 12 1 = bq_12_1 := rfl
theorem bk_12_2 : am_bk 12 2 = bq_12_2 := rfl
theorem bk_12_3 : am_bk 12 3 = bq_12_3 := rfl
theorem bk_12_4 : am_bk 12 4 = bq_12_4 := rfl
theorem bk_12_5 : am_bk 12 5 = bq_12_5 := rfl
theorem bk_12_6 : am_bk 12 6 = bq_12_6 := rfl
theorem bk_12_7 : am_bk 12 7 = bq_12_7 := rfl
theorem bk_12_8 : am_bk 12 8 = bq_12_8 := rfl
theorem bk_13_0 : am_bk 13 0 = bq_13_0 := rfl
theorem bk_13_1 : am_bk 13 1 = bq_13_1 := rfl
theorem bk_13_2 : am_bk 13 2 = bq_13_2 := rfl
theorem bk_13_3 : am_bk 13 3 = bq_13_3 := rfl
theorem bk_14_0 : am_bk 14 0 = bq_14_0 := rfl
theorem bk_15_0 : am_bk 15 0 = bq_15_0 := rfl
theorem bk_15_1 : am_bk 15 1 = bq_15_1 := rfl
theorem bk_15_2 : am_bk 15 2 = bq_15_2 := rfl
theorem bk_16_0 : am_bk 16 0 = bq_16_0 := rfl
theorem bk_16_1 : am_bk 16 1 = bq_16_1 := rfl
theorem bk_16_2 : am_bk 16 2 = bq_16_2 := rfl
theorem bk_16_3 : am_bk 16 3 = bq_16_3 := rfl
theorem bk_16_4 : am_bk 16 4 = bq_16_4 := rfl
theorem bk_17_0 : am_bk 17 0 = bq_17_0 := rfl
theorem bk_17_1 : am_bk 17 1 = bq_17_1 := rfl
theorem bk_17_2 : am_bk 17 2 = bq_17_2 := rfl
theorem bk_17_3 : am_bk 17 3 = bq_17_3 := rfl
theorem bk_17_4 : am_bk 17 4 = bq_17_4 := rfl
theorem bk_18_0 : am_bk 18 0 = bq_18_0 := rfl
theorem bk_18_1 : am_bk 18 1 = bq_18_1 := rfl
theorem bk_18_2 : am_bk 18 2 = bq_18_2 := rfl
theorem bk_19_0 : am_bk 19 0 = bq_19_0 := rfl
theorem bk_19_1 : am_bk 19 1 = bq_19_1 := rfl
theorem bk_19_2 : am_bk 19 2 = bq_19_2 := rfl
theorem bk_19_3 : am_bk 19 3 = bq_19_3 := rfl
theorem bk_19_4 : am_bk 19 4 = bq_19_4 := rfl
theorem bk_20_0 : am_bk 20 0 = bq_20_0 := rfl
theorem bk_20_1 : am_bk 20 1 = bq_20_1 := rfl
theorem bk_20_2 : am_bk 20 2 = bq_20_2 := rfl
theorem bk_21_0 : am_bk 21 0 = bq_21_0 := rfl
theorem bk_21_1 : am_bk 21 1 = bq_21_1 := rfl
theorem bk_21_2 : am_bk 21 2 = bq_21_2 := rfl
theorem bk_22_0 : am_bk 22 0 = bq_22_0 := rfl
theorem bk_22_1 : am_bk 22 1 = bq_22_1 := rfl
theorem bk_22_2 : am_bk 22 2 = bq_22_2 := rfl
theorem bk_22_3 : am_bk 22 3 = bq_22_3 := rfl
theorem bk_22_4 : am_bk 22 4 = bq_22_4 := rfl
theorem bk_23_0 : am_bk 23 0 = bq_23_0 := rfl
theorem bk_23_1 : am_bk 23 1 = bq_23_1 := rfl
theorem bk_23_2 : am_bk 23 2 = bq_23_2 := rfl
theorem bk_23_3 : am_bk 23 3 = bq_23_3 := rfl
theorem bk_23_4 : am_bk 23 4 = bq_23_4 := rfl
theorem bk_23_5 : am_bk 23 5 = bq_23_5 := rfl
theorem bk_23_6 : am_bk 23 6 = bq_23_6 := rfl
theorem bk_23_7 : am_bk 23 7 = bq_23_7 := rfl
theorem bk_24_0 : am_bk 24 0 = bq_24_0 := rfl
theorem bk_24_1 : am_bk 24 1 = bq_24_1 := rfl
theorem bk_24_2 : am_bk 24 2 = bq_24_2 := rfl
theorem bk_24_3 : am_bk 24 3 = bq_24_3 := rfl
theorem bk_24_4 : am_bk 24 4 = bq_24_4 := rfl
theorem bk_24_5 : am_bk 24 5 = bq_24_5 := rfl
theorem bk_25_0 : am_bk 25 0 = bq_25_0 := rfl
theorem bk_25_1 : am_bk 25 1 = bq_25_1 := rfl
theorem bk_25_2 : am_bk 25 2 = bq_25_2 := rfl
theorem bk_25_3 : am_bk 25 3 = bq_25_3 := rfl
theorem bk_25_4 : am_bk 25 4 = bq_25_4 := rfl
theorem bk_25_5 : am_bk 25 5 = bq_25_5 := rfl
theorem bk_25_6 : am_bk 25 6 = bq_25_6 := rfl
theorem bk_26_0 : am_bk 26 0 = bq_26_0 := rfl
theorem bk_26_1 : am_bk 26 1 = bq_26_1 := rfl
theorem bk_26_2 : am_bk 26 2 = bq_26_2 := rfl
theorem bk_27_0 : am_bk 27 0 = bq_27_0 := rfl
theorem bk_27_1 : am_bk 27 1 = bq_27_1 := rfl
theorem bk_27_2 : am_bk 27 2 = bq_27_2 := rfl
theorem bk_27_3 : am_bk 27 3 = bq_27_3 := rfl
theorem bk_27_4 : am_bk 27 4 = bq_27_4 := rfl
theorem bk_27_5 : am_bk 27 5 = bq_27_5 := rfl
theorem bk_27_6 : am_bk 27 6 = bq_27_6 := rfl
theorem bk_28_0 : am_bk 28 0 = bq_28_0 := rfl
theorem bk_28_1 : am_bk 28 1 = bq_28_1 := rfl
theorem bk_28_2 : am_bk 28 2 = bq_28_2 := rfl
theorem bk_28_3 : am_bk 28 3 = bq_28_3 := rfl
theorem bk_28_4 : am_bk 28 4 = bq_28_4 := rfl
theorem bk_28_5 : am_bk 28 5 = bq_28_5 := rfl
theorem bk_28_6 : am_bk 28 6 = bq_28_6 := rfl
theorem bk_28_7 : am_bk 28 7 = bq_28_7 := rfl
theorem bk_28_8 : am_bk 28 8 = bq_28_8 := rfl
theorem bk_29_0 : am_bk 29 0 = bq_29_0 := rfl
theorem bk_29_1 : am_bk 29 1 = bq_29_1 := rfl
theorem bk_29_2 : am_bk 29 2 = bq_29_2 := rfl
theorem bk_29_3 : am_bk 29 3 = bq_29_3 := rfl
theorem bk_30_0 : am_bk 30 0 = bq_30_0 := rfl
theorem bk_30_1 : am_bk 30 1 = bq_30_1 := rfl
theorem bk_30_2 : am_bk 30 2 = bq_30_2 := rfl
theorem bk_30_3 : am_bk 30 3 = bq_30_3 := rfl
theorem bk_31_0 : am_bk 31 0 = bq_31_0 := rfl
theorem bk_31_1 : am_bk 31 1 = bq_31_1 := rfl
theorem bk_31_2 : am_bk 31 2 = bq_31_2 := rfl
theorem bk_32_0 : am_bk 32 0 = bq_32_0 := rfl
theorem bk_32_1 : am_bk 32 1 = bq_32_1 := rfl
theorem bk_32_2 : am_bk 32 2 = bq_32_2 := rfl
theorem bk_32_3 : am_bk 32 3 = bq_32_3 := rfl
theorem bk_32_4 : am_bk 32 4 = bq_32_4 := rfl
theorem bk_33_0 : am_bk 33 0 = bq_33_0 := rfl
theorem bk_33_1 : am_bk 33 1 = bq_33_1 := rfl
theorem bk_34_0 : am_bk 34 0 = bq_34_0 := rfl
theorem bk_34_1 : am_bk 34 1 = bq_34_1 := rfl
theorem bk_34_2 : am_bk 34 2 = bq_34_2 := rfl
theorem bk_35_0 : am_bk 35 0 = bq_35_0 := rfl
theorem bk_35_1 : am_bk 35 1 = bq_35_1 := rfl
theorem bk_35_2 : am_bk 35 2 = bq_35_2 := rfl
theorem bk_36_0 : am_bk 36 0 = bq_36_0 := rfl
theorem bk_36_1 : am_bk 36 1 = bq_36_1 := rfl
theorem bk_36_2 : am_bk 36 2 = bq_36_2 := rfl
theorem bk_36_3 : am_bk 36 3 = bq_36_3 := rfl
theorem bk_36_4 : am_bk 36 4 = bq_36_4 := rfl
theorem bk_36_5 : am_bk 36 5 = bq_36_5 := rfl
theorem bk_37_0 : am_bk 37 0 = bq_37_0 := rfl
theorem bk_37_1 : am_bk 37 1 = bq_37_1 := rfl
theorem bk_37_2 : am_bk 37 2 = bq_37_2 := rfl
theorem bk_37_3 : am_bk 37 3 = bq_37_3 := rfl
theorem bk_37_4 : am_bk 37 4 = bq_37_4 := rfl
theorem bk_37_5 : am_bk 37 5 = bq_37_5 := rfl
theorem bk_38_0 : am_bk 38 0 = bq_38_0 := rfl
theorem bk_38_1 : am_bk 38 1 = bq_38_1 := rfl
theorem bk_38_2 : am_bk 38 2 = bq_38_2 := rfl
theorem bk_38_3 : am_bk 38 3 = bq_38_3 := rfl
theorem bk_38_4 : am_bk 38 4 = bq_38_4 := rfl
theorem bk_38_5 : am_bk 38 5 = bq_38_5 := rfl
theorem bk_39_0 : am_bk 39 0 = bq_39_0 := rfl
theorem bk_39_1 : am_bk 39 1 = bq_39_1 := rfl
theorem bk_39_2 : am_bk 39 2 = bq_39_2 := rfl
theorem bk_39_3 : am_bk 39 3 = bq_39_3 := rfl
theorem bk_40_0 : am_bk 40 0 = bq_40_0 := rfl
theorem bk_41_0 : am_bk 41 0 = bq_41_0 := rfl
theorem bk_42_0 : am_bk 42 0 = bq_42_0 := rfl
theorem bk_42_1 : am_bk 42 1 = bq_42_1 := rfl
theorem bk_43_0 : am_bk 43 0 = bq_43_0 := rfl
theorem bk_43_1 : am_bk 43 1 = bq_43_1 := rfl
theorem bk_43_2 : am_bk 43 2 = bq_43_2 := rfl
theorem bk_43_3 : am_bk 43 3 = bq_43_3 := rfl
theorem bk_43_4 : am_bk 43 4 = bq_43_4 := rfl
theorem bk_43_5 : am_bk 43 5 = bq_43_5 := rfl
theorem bk_43_6 : am_bk 43 6 = bq_43_6 := rfl
theorem bk_43_7 : am_bk 43 7 = bq_43_7 := rfl
theorem bk_43_8 : am_bk 43 8 = bq_43_8 := rfl
theorem bk_43_9 : am_bk 43 9 = bq_43_9 := rfl
theorem bk_43_10 : am_bk 43 10 = bq_43_10 := rfl
theorem bk_44_0 : am_bk 44 0 = bq_44_0 := rfl
theorem bk_44_1 : am_bk 44 1 = bq_44_1 := rfl
theorem bk_45_0 : am_bk 45 0 = bq_45_0 := rfl
theorem bk_46_0 : am_bk 46 0 = bq_46_0 := rfl
theorem bk_46_1 : am_bk 46 1 = bq_46_1 := rfl
theorem bk_46_2 : am_bk 46 2 = bq_46_2 := rfl
theorem bk_47_0 : am_bk 47 0 = bq_47_0 := rfl
theorem bk_47_1 : am_bk 47 1 = bq_47_1 := rfl
theorem bk_47_2 : am_bk 47 2 = bq_47_2 := rfl
theorem bk_48_0 : am_bk 48 0 = bq_48_0 := rfl
theorem bk_48_1 : am_bk 48 1 = bq_48_1 := rfl
theorem bk_48_2 : am_bk 48 2 = bq_48_2 := rfl
theorem bk_49_0 : am_bk 49 0 = bq_49_0 := rfl
theorem bk_49_1 : am_bk 49 1 = bq_49_1 := rfl
theorem bk_49_2 : am_bk 49 2 = bq_49_2 := rfl
theorem bk_50_0 : am_bk 50 0 = bq_50_0 := rfl
theorem bk_50_1 : am_bk 50 1 = bq_50_1 := rfl
theorem bk_50_2 : am_bk 50 2 = bq_50_2 := rfl
theorem bk_51_0 : am_bk 51 0 = bq_51_0 := rfl
theorem bk_51_1 : am_bk 51 1 = bq_51_1 := rfl
theorem bk_51_2 : am_bk 51 2 = bq_51_2 := rfl
theorem bk_52_0 : am_bk 52 0 = bq_52_0 := rfl
theorem bk_52_1 : am_bk 52 1 = bq_52_1 := rfl
theorem bk_52_2 : am_bk 52 2 = bq_52_2 := rfl
theorem bk_52_3 : am_bk 52 3 = bq_52_3 := rfl
theorem bk_52_4 : am_bk 52 4 = bq_52_4 := rfl
theorem bk_53_0 : am_bk 53 0 = bq_53_0 := rfl
theorem bk_53_1 : am_bk 53 1 = bq_53_1 := rfl
theorem bk_53_2 : am_bk 53 2 = bq_53_2 := rfl
theorem bk_53_3 : am_bk 53 3 = bq_53_3 := rfl
theorem bk_53_4 : am_bk 53 4 = bq_53_4 := rfl
theorem bk_54_0 : am_bk 54 0 = bq_54_0 := rfl
theorem bk_54_1 : am_bk 54 1 = bq_54_1 := rfl
theorem bk_54_2 : am_bk 54 2 = bq_54_2 := rfl
theorem bk_54_3 : am_bk 54 3 = bq_54_3 := rfl
theorem bk_54_4 : am_bk 54 4 = bq_54_4 := rfl
theorem bk_54_5 : am_bk 54 5 = bq_54_5 := rfl
theorem bk_54_6 : am_bk 54 6 = bq_54_6 := rfl
theorem bk_55_0 : am_bk 55 0 = bq_55_0 := rfl
theorem bk_55_1 : am_bk 55 1 = bq_55_1 := rfl
theorem bk_55_2 : am_bk 55 2 = bq_55_2 := rfl
theorem bk_55_3 : am_bk 55 3 = bq_55_3 := rfl
theorem bk_55_4 : am_bk 55 4 = bq_55_4 := rfl
theorem bk_56_0 : am_bk 56 0 = bq_56_0 := rfl
theorem bk_56_1 : am_bk 56 1 = bq_56_1 := rfl
theorem bk_56_2 : am_bk 56 2 = bq_56_2 := rfl
theorem bk_56_3 : am_bk 56 3 = bq_56_3 := rfl
theorem bk_56_4 : am_bk 56 4 = bq_56_4 := rfl
theorem bk_56_5 : am_bk 56 5 = bq_56_5 := rfl
theorem bk_57_0 : am_bk 57 0 = bq_57_0 := rfl
theorem bk_57_1 : am_bk 57 1 = bq_57_1 := rfl
theorem bk_57_2 : am_bk 57 2 = bq_57_2 := rfl
theorem bk_57_3 : am_bk 57 3 = bq_57_3 := rfl
theorem bk_57_4 : am_bk 57 4 = bq_57_4 := rfl
theorem bk_57_5 : am_bk 57 5 = bq_57_5 := rfl
theorem bk_57_6 : am_bk 57 6 = bq_57_6 := rfl
theorem bk_57_7 : am_bk 57 7 = bq_57_7 := rfl
theorem bk_58_0 : am_bk 58 0 = bq_58_0 := rfl
theorem bk_58_1 : am_bk 58 1 = bq_58_1 := rfl
theorem bk_58_2 : am_bk 58 2 = bq_58_2 := rfl
theorem bk_58_3 : am_bk 58 3 = bq_58_3 := rfl
theorem bk_58_4 : am_bk 58 4 = bq_58_4 := rfl
theorem bk_58_5 : am_bk 58 5 = bq_58_5 := rfl
theorem bk_58_6 : am_bk 58 6 = bq_58_6 := rfl
theorem bk_58_7 : am_bk 58 7 = bq_58_7 := rfl
theorem bk_59_0 : am_bk 59 0 = bq_59_0 := rfl
theorem bk_60_0 : am_bk 60 0 = bq_60_0 := rfl
theorem bk_61_0 : am_bk 61 0 = bq_61_0 := rfl
theorem bk_62_0 : am_bk 62 0 = bq_62_0 := rfl
theorem bk_63_0 : am_bk 63 0 = bq_63_0 := rfl
theorem bk_63_1 : am_bk 63 1 = bq_63_1 := rfl
theorem bk_63_2 : am_bk 63 2 = bq_63_2 := rfl
theorem bk_63_3 : am_bk 63 3 = bq_63_3 := rfl
theorem bk_64_0 : am_bk 64 0 = bq_64_0 := rfl
theorem bk_65_0 : am_bk 65 0 = bq_65_0 := rfl
theorem bk_66_0 : am_bk 66 0 = bq_66_0 := rfl
theorem bk_67_0 : am_bk 67 0 = bq_67_0 := rfl
theorem bk_68_0 : am_bk 68 0 = bq_68_0 := rfl
theorem bk_69_0 : am_bk 69 0 = bq_69_0 := rfl
theorem bk_70_0 : am_bk 70 0 = bq_70_0 := rfl
theorem bk_70_1 : am_bk 70 1 = bq_70_1 := rfl
theorem bk_70_2 : am_bk 70 2 = bq_70_2 := rfl
theorem bk_71_0 : am_bk 71 0 = bq_71_0 := rfl
theorem bk_71_1 : am_bk 71 1 = bq_71_1 := rfl
theorem bk_71_2 : am_bk 71 2 = bq_71_2 := rfl
theorem bk_72_0 : am_bk 72 0 = bq_72_0 := rfl
theorem bk_72_1 : am_bk 72 1 = bq_72_1 := rfl
theorem bk_72_2 : am_bk 72 2 = bq_72_2 := rfl
theorem bk_73_0 : am_bk 73 0 = bq_73_0 := rfl
theorem bk_73_1 : am_bk 73 1 = bq_73_1 := rfl
theorem bk_73_2 : am_bk 73 2 = bq_73_2 := rfl
theorem bk_74_0 : am_bk 74 0 = bq_74_0 := rfl
theorem bk_74_1 : am_bk 74 1 = bq_74_1 := rfl
theorem bk_74_2 : am_bk 74 2 = bq_74_2 := rfl
theorem bk_75_0 : am_bk 75 0 = bq_75_0 := rfl
theorem bk_75_1 : am_bk 75 1 = bq_75_1 := rfl
theorem bk_75_2 : am_bk 75 2 = bq_75_2 := rfl
theorem bk_75_3 : am_bk 75 3 = bq_75_3 := rfl
theorem bk_75_4 : am_bk 75 4 = bq_75_4 := rfl
theorem bk_75_5 : am_bk 75 5 = bq_75_5 := rfl
theorem bk_76_0 : am_bk 76 0 = bq_76_0 := rfl
theorem bk_76_1 : am_bk 76 1 = bq_76_1 := rfl
theorem bk_77_0 : am_bk 77 0 = bq_77_0 := rfl
theorem bk_78_0 : am_bk 78 0 = bq_78_0 := rfl
theorem bk_79_0 : am_bk 79 0 = bq_79_0 := rfl
theorem bk_79_1 : am_bk 79 1 = bq_79_1 := rfl
theorem bk_79_2 : am_bk 79 2 = bq_79_2 := rfl
theorem bk_80_0 : am_bk 80 0 = bq_80_0 := rfl
theorem bk_80_1 : am_bk 80 1 = bq_80_1 := rfl
theorem bk_80_2 : am_bk 80 2 = bq_80_2 := rfl
theorem bk_80_3 : am_bk 80 3 = bq_80_3 := rfl
theorem bk_81_0 : am_bk 81 0 = bq_81_0 := rfl
theorem bk_81_1 : am_bk 81 1 = bq_81_1 := rfl
theorem bk_81_2 : am_bk 81 2 = bq_81_2 := rfl
theorem bk_82_0 : am_bk 82 0 = bq_82_0 := rfl
theorem bk_82_1 : am_bk 82 1 = bq_82_1 := rfl
theorem bk_82_2 : am_bk 82 2 = bq_82_2 := rfl
theorem bk_82_3 : am_bk 82 3 = bq_82_3 := rfl
theorem bk_82_4 : am_bk 82 4 = bq_82_4 := rfl
theorem bk_82_5 : am_bk 82 5 = bq_82_5 := rfl
theorem bk_83_0 : am_bk 83 0 = bq_83_0 := rfl
theorem bk_83_1 : am_bk 83 1 = bq_83_1 := rfl
theorem bk_83_2 : am_bk 83 2 = bq_83_2 := rfl
theorem bk_83_3 : am_bk 83 3 = bq_83_3 := rfl
theorem bk_84_0 : am_bk 84 0 = bq_84_0 := rfl
theorem bk_84_1 : am_bk 84 1 = bq_84_1 := rfl
theorem bk_84_2 : am_bk 84 2 = bq_84_2 := rfl
theorem bk_85_0 : am_bk 85 0 = bq_85_0 := rfl
theorem bk_86_0 : am_bk 86 0 = bq_86_0 := rfl
theorem bk_86_1 : am_bk 86 1 = bq_86_1 := rfl
theorem bk_86_2 : am_bk 86 2 = bq_86_2 := rfl
theorem bk_86_3 : am_bk 86 3 = bq_86_3 := rfl
theorem bk_86_4 : am_bk 86 4 = bq_86_4 := rfl
theorem bk_86_5 : am_bk 86 5 = bq_86_5 := rfl
theorem bk_87_0 : am_bk 87 0 = bq_87_0 := rfl
theorem bk_87_1 : am_bk 87 1 = bq_87_1 := rfl
theorem bk_87_2 : am_bk 87 2 = bq_87_2 := rfl
theorem bk_88_0 : am_bk 88 0 = bq_88_0 := rfl
theorem bk_89_0 : am_bk 89 0 = bq_89_0 := rfl
theorem bk_89_1 : am_bk 89 1 = bq_89_1 := rfl
theorem bk_89_2 : am_bk 89 2 = bq_89_2 := rfl
theorem bk_89_3 : am_bk 89 3 = bq_89_3 := rfl
theorem bk_89_4 : am_bk 89 4 = bq_89_4 := rfl
theorem bk_90_0 : am_bk 90 0 = bq_90_0 := rfl
theorem bk_90_1 : am_bk 90 1 = bq_90_1 := rfl
theorem bk_90_2 : am_bk 90 2 = bq_90_2 := rfl
theorem bk_91_0 : am_bk 91 0 = bq_91_0 := rfl
theorem bk_91_1 : am_bk 91 1 = bq_91_1 := rfl
theorem bk_91_2 : am_bk 91 2 = bq_91_2 := rfl
theorem bk_91_3 : am_bk 91 3 = bq_91_3 := rfl
theorem bk_91_4 : am_bk 91 4 = bq_91_4 := rfl
theorem bk_91_5 : am_bk 91 5 = bq_91_5 := rfl
theorem bk_91_6 : am_bk 91 6 = bq_91_6 := rfl
theorem bk_92_0 : am_bk 92 0 = bq_92_0 := rfl
theorem bk_92_1 : am_bk 92 1 = bq_92_1 := rfl
theorem bk_92_2 : am_bk 92 2 = bq_92_2 := rfl
theorem bk_92_3 : am_bk 92 3 = bq_92_3 := rfl
theorem bk_92_4 : am_bk 92 4 = bq_92_4 := rfl
theorem bk_93_0 : am_bk 93 0 = bq_93_0 := rfl
theorem bk_93_1 : am_bk 93 1 = bq_93_1 := rfl
theorem bk_93_2 : am_bk 93 2 = bq_93_2 := rfl
theorem bk_93_3 : am_bk 93 3 = bq_93_3 := rfl
theorem bk_93_4 : am_bk 93 4 = bq_93_4 := rfl
theorem bk_93_5 : am_bk 93 5 = bq_93_5 := rfl
theorem bk_93_6 : am_bk 93 6 = bq_93_6 := rfl
theorem bk_94_0 : am_bk 94 0 = bq_94_0 := rfl
theorem bk_94_1 : am_bk 94 1 = bq_94_1 := rfl
theorem bk_94_2 : am_bk 94 2 = bq_94_2 := rfl
theorem bk_95_0 : am_bk 95 0 = bq_95_0 := rfl
theorem bk_95_1 : am_bk 95 1 = bq_95_1 := rfl
theorem bk_95_2 : am_bk 95 2 = bq_95_2 := rfl
theorem bk_95_3 : am_bk 95 3 = bq_95_3 := rfl
theorem bk_95_4 : am_bk 95 4 = bq_95_4 := rfl
theorem bk_96_0 : am_bk 96 0 = bq_96_0 := rfl
theorem bk_96_1 : am_bk 96 1 = bq_96_1 := rfl
theorem bk_96_2 : am_bk 96 2 = bq_96_2 := rfl
theorem bk_97_0 : am_bk 97 0 = bq_97_0 := rfl
theorem bk_97_1 : am_bk 97 1 = bq_97_1 := rfl
theorem bk_97_2 : am_bk 97 2 = bq_97_2 := rfl
theorem bk_97_3 : am_bk 97 3 = bq_97_3 := rfl
theorem bk_97_4 : am_bk 97 4 = bq_97_4 := rfl
theorem bk_98_0 : am_bk 98 0 = bq_98_0 := rfl
theorem bk_98_1 : am_bk 98 1 = bq_98_1 := rfl
theorem bk_98_2 : am_bk 98 2 = bq_98_2 := rfl
theorem bk_98_3 : am_bk 98 3 = bq_98_3 := rfl
theorem bk_99_0 : am_bk 99 0 = bq_99_0 := rfl
theorem bk_99_1 : am_bk 99 1 = bq_99_1 := rfl
theorem bk_99_2 : am_bk 99 2 = bq_99_2 := rfl
theorem bk_99_3 : am_bk 99 3 = bq_99_3 := rfl
theorem bk_100_0 : am_bk 100 0 = bq_100_0 := rfl
theorem bk_101_0 : am_bk 101 0 = bq_101_0 := rfl
theorem bk_101_1 : am_bk 101 1 = bq_101_1 := rfl
theorem bk_101_2 : am_bk 101 2 = bq_101_2 := rfl
theorem bk_102_0 : am_bk 102 0 = bq_102_0 := rfl
theorem bk_102_1 : am_bk 102 1 = bq_102_1 := rfl
theorem bk_102_2 : am_bk 102 2 = bq_102_2 := rfl
theorem bk_102_3 : am_bk 102 3 = bq_102_3 := rfl
theorem bk_102_4 : am_bk 102 4 = bq_102_4 := rfl
theorem bk_102_5 : am_bk 102 5 = bq_102_5 := rfl
theorem bk_103_0 : am_bk 103 0 = bq_103_0 := rfl
theorem bk_103_1 : am_bk 103 1 = bq_103_1 := rfl
theorem bk_103_2 : am_bk 103 2 = bq_103_2 := rfl
theorem bk_103_3 : am_bk 103 3 = bq_103_3 := rfl
theorem bk_103_4 : am_bk 103 4 = bq_103_4 := rfl
theorem bk_103_5 : am_bk 103 5 = bq_103_5 := rfl
theorem bk_103_6 : am_bk 103 6 = bq_103_6 := rfl
theorem bk_103_7 : am_bk 103 7 = bq_103_7 := rfl
theorem bk_103_8 : am_bk 103 8 = bq_103_8 := rfl
theorem bk_103_9 : am_bk 103 9 = bq_103_9 := rfl
theorem bk_103_10 : am_bk 103 10 = bq_103_10 := rfl
theorem bk_104_0 : am_bk 104 0 = bq_104_0 := rfl
theorem bk_104_1 : am_bk 104 1 = bq_104_1 := rfl
theorem bk_104_2 : am_bk 104 2 = bq_104_2 := rfl
theorem bk_104_3 : am_bk 104 3 = bq_104_3 := rfl
theorem bk_104_4 : am_bk 104 4 = bq_104_4 := rfl
theorem bk_105_0 : am_bk 105 0 = bq_105_0 := rfl
theorem bk_105_1 : am_bk 105 1 = bq_105_1 := rfl
theorem bk_106_0 : am_bk 106 0 = bq_106_0 := rfl
theorem bk_106_1 : am_bk 106 1 = bq_106_1 := rfl
theorem bk_106_2 : am_bk 106 2 = bq_106_2 := rfl
theorem bk_106_3 : am_bk 106 3 = bq_106_3 := rfl
theorem bk_106_4 : am_bk 106 4 = bq_106_4 := rfl
theorem bk_106_5 : am_bk 106 5 = bq_106_5 := rfl
theorem bk_106_6 : am_bk 106 6 = bq_106_6 := rfl
theorem bk_106_7 : am_bk 106 7 = bq_106_7 := rfl
theorem bk_106_8 : am_bk 106 8 = bq_106_8 := rfl
theorem bk_106_9 : am_bk 106 9 = bq_106_9 := rfl
theorem bk_106_10 : am_bk 106 10 = bq_106_10 := rfl
theorem bk_107_0 : am_bk 107 0 = bq_107_0 := rfl
theorem bk_107_1 : am_bk 107 1 = bq_107_1 := rfl
theorem bk_107_2 : am_bk 107 2 = bq_107_2 := rfl
theorem bk_107_3 : am_bk 107 3 = bq_107_3 := rfl
theorem bk_107_4 : am_bk 107 4 = bq_107_4 := rfl
theorem bk_108_0 : am_bk 108 0 = bq_108_0 := rfl
theorem bk_108_1 : am_bk 108 1 = bq_108_1 := rfl
theorem bk_108_2 : am_bk 108 2 = bq_108_2 := rfl
theorem bk_108_3 : am_bk 108 3 = bq_108_3 := rfl
theorem bk_108_4 : am_bk 108 4 = bq_108_4 := rfl
theorem bk_108_5 : am_bk 108 5 = bq_108_5 := rfl
theorem bk_109_0 : am_bk 109 0 = bq_109_0 := rfl
theorem bk_109_1 : am_bk 109 1 = bq_109_1 := rfl
theorem bk_109_2 : am_bk 109 2 = bq_109_2 := rfl
theorem bk_109_3 : am_bk 109 3 = bq_109_3 := rfl
theorem bk_109_4 : am_bk 109 4 = bq_109_4 := rfl
theorem bk_109_5 : am_bk 109 5 = bq_109_5 := rfl
theorem bk_109_6 : am_bk 109 6 = bq_109_6 := rfl
theorem bk_110_0 : am_bk 110 0 = bq_110_0 := rfl
theorem bk_110_1 : am_bk 110 1 = bq_110_1 := rfl
theorem bk_111_0 : am_bk 111 0 = bq_111_0 := rfl
theorem bk_111_1 : am_bk 111 1 = bq_111_1 := rfl
theorem bk_111_2 : am_bk 111 2 = bq_111_2 := rfl
theorem bk_112_0 : am_bk 112 0 = bq_112_0 := rfl
theorem bk_113_0 : am_bk 113 0 = bq_113_0 := rfl
theorem bk_113_1 : am_bk 113 1 = bq_113_1 := rfl
theorem bk_113_2 : am_bk 113 2 = bq_113_2 := rfl
theorem bk_114_0 : am_bk 114 0 = bq_114_0 := rfl
theorem bk_114_1 : am_bk 114 1 = bq_114_1 := rfl
theorem bk_114_2 : am_bk 114 2 = bq_114_2 := rfl
theorem bk_115_0 : am_bk 115 0 = bq_115_0 := rfl
theorem bk_115_1 : am_bk 115 1 = bq_115_1 := rfl
theorem bk_115_2 : am_bk 115 2 = bq_115_2 := rfl
theorem bk_115_3 : am_bk 115 3 = bq_115_3 := rfl
theorem bk_115_4 : am_bk 115 4 = bq_115_4 := rfl
theorem bk_115_5 : am_bk 115 5 = bq_115_5 := rfl
theorem bk_115_6 : am_bk 115 6 = bq_115_6 := rfl
theorem bk_115_7 : am_bk 115 7 = bq_115_7 := rfl
theorem bk_115_8 : am_bk 115 8 = bq_115_8 := rfl
theorem bk_116_0 : am_bk 116 0 = bq_116_0 := rfl
theorem bk_116_1 : am_bk 116 1 = bq_116_1 := rfl
theorem bk_116_2 : am_bk 116 2 = bq_116_2 := rfl
theorem bk_117_0 : am_bk 117 0 = bq_117_0 := rfl
theorem bk_118_0 : am_bk 118 0 = bq_118_0 := rfl
theorem bk_119_0 : am_bk 119 0 = bq_119_0 := rfl
theorem bk_119_1 : am_bk 119 1 = bq_119_1 := rfl
theorem bk_119_2 : am_bk 119 2 = bq_119_2 := rfl
theorem bk_119_3 : am_bk 119 3 = bq_119_3 := rfl
theorem bk_120_0 : am_bk 120 0 = bq_120_0 := rfl
theorem bk_121_0 : am_bk 121 0 = bq_121_0 := rfl
theorem bk_122_0 : am_bk 122 0 = bq_122_0 := rfl
theorem bk_122_1 : am_bk 122 1 = bq_122_1 := rfl
theorem bk_122_2 : am_bk 122 2 = bq_122_2 := rfl
theorem bk_122_3 : am_bk 122 3 = bq_122_3 := rfl
theorem bk_122_4 : am_bk 122 4 = bq_122_4 := rfl
theorem bk_122_5 : am_bk 122 5 = bq_122_5 := rfl
theorem bk_123_0 : am_bk 123 0 = bq_123_0 := rfl
theorem bk_124_0 : am_bk 124 0 = bq_124_0 := rfl
theorem bk_125_0 : am_bk 125 0 = bq_125_0 := rfl
theorem bk_125_1 : am_bk 125 1 = bq_125_1 := rfl
theorem bk_125_2 : am_bk 125 2 = bq_125_2 := rfl
theorem bk_126_0 : am_bk 126 0 = bq_126_0 := rfl
theorem bk_127_0 : am_bk 127 0 = bq_127_0 := rfl
theorem bk_128_0 : am_bk 128 0 = bq_128_0 := rfl
theorem bk_128_1 : am_bk 128 1 = bq_128_1 := rfl
theorem bk_128_2 : am_bk 128 2 = bq_128_2 := rfl
theorem bk_128_3 : am_bk 128 3 = bq_128_3 := rfl
theorem bk_129_0 : am_bk 129 0 = bq_129_0 := rfl
theorem bk_130_0 : am_bk 130 0 = bq_130_0 := rfl
theorem bk_131_0 : am_bk 131 0 = bq_131_0 := rfl
theorem bk_131_1 : am_bk 131 1 = bq_131_1 := rfl
theorem bk_131_2 : am_bk 131 2 = bq_131_2 := rfl
theorem bk_131_3 : am_bk 131 3 = bq_131_3 := rfl
theorem bk_132_0 : am_bk 132 0 = bq_132_0 := rfl
theorem bk_133_0 : am_bk 133 0 = bq_133_0 := rfl
theorem bk_134_0 : am_bk 134 0 = bq_134_0 := rfl
theorem bk_135_0 : am_bk 135 0 = bq_135_0 := rfl
theorem bk_136_0 : am_bk 136 0 = bq_136_0 := rfl
theorem bk_137_0 : am_bk 137 0 = bq_137_0 := rfl
theorem bk_138_0 : am_bk 138 0 = bq_138_0 := rfl
theorem bk_138_1 : am_bk 138 1 = bq_138_1 := rfl
theorem bk_138_2 : am_bk 138 2 = bq_138_2 := rfl
theorem bk_139_0 : am_bk 139 0 = bq_139_0 := rfl
theorem bk_140_0 : am_bk 140 0 = bq_140_0 := rfl
theorem bk_141_0 : am_bk 141 0 = bq_141_0 := rfl
theorem bk_141_1 : am_bk 141 1 = bq_141_1 := rfl
theorem bk_141_2 : am_bk 141 2 = bq_141_2 := rfl
theorem bk_142_0 : am_bk 142 0 = bq_142_0 := rfl
theorem bk_143_0 : am_bk 143 0 = bq_143_0 := rfl
theorem bk_143_1 : am_bk 143 1 = bq_143_1 := rfl
theorem bk_143_2 : am_bk 143 2 = bq_143_2 := rfl
theorem bk_143_3 : am_bk 143 3 = bq_143_3 := rfl
theorem bk_144_0 : am_bk 144 0 = bq_144_0 := rfl
theorem bk_144_1 : am_bk 144 1 = bq_144_1 := rfl
theorem bk_144_2 : am_bk 144 2 = bq_144_2 := rfl
theorem bk_144_3 : am_bk 144 3 = bq_144_3 := rfl
theorem bk_145_0 : am_bk 145 0 = bq_145_0 := rfl
theorem bk_146_0 : am_bk 146 0 = bq_146_0 := rfl
theorem bk_146_1 : am_bk 146 1 = bq_146_1 := rfl
theorem bk_146_2 : am_bk 146 2 = bq_146_2 := rfl
theorem bk_147_0 : am_bk 147 0 = bq_147_0 := rfl
theorem bk_147_1 : am_bk 147 1 = bq_147_1 := rfl
theorem bk_147_2 : am_bk 147 2 = bq_147_2 := rfl
theorem bk_147_3 : am_bk 147 3 = bq_147_3 := rfl
theorem bk_147_4 : am_bk 147 4 = bq_147_4 := rfl
theorem bk_148_0 : am_bk 148 0 = bq_148_0 := rfl
theorem bk_148_1 : am_bk 148 1 = bq_148_1 := rfl
theorem bk_148_2 : am_bk 148 2 = bq_148_2 := rfl
theorem bk_148_3 : am_bk 148 3 = bq_148_3 := rfl
theorem bk_148_4 : am_bk 148 4 = bq_148_4 := rfl
theorem bk_148_5 : am_bk 148 5 = bq_148_5 := rfl
theorem bk_148_6 : am_bk 148 6 = bq_148_6 := rfl
theorem bk_148_7 : am_bk 148 7 = bq_148_7 := rfl
theorem bk_149_0 : am_bk 149 0 = bq_149_0 := rfl
theorem bk_149_1 : am_bk 149 1 = bq_149_1 := rfl
theorem bk_149_2 : am_bk 149 2 = bq_149_2 := rfl
theorem bk_149_3 : am_bk 149 3 = bq_149_3 := rfl
theorem bk_149_4 : am_bk 149 4 = bq_149_4 := rfl
theorem bk_150_0 : am_bk 150 0 = bq_150_0 := rfl
theorem bk_150_1 : am_bk 150 1 = bq_150_1 := rfl
theorem bk_150_2 : am_bk 150 2 = bq_150_2 := rfl
theorem bk_150_3 : am_bk 150 3 = bq_150_3 := rfl
theorem bk_150_4 : am_bk 150 4 = bq_150_4 := rfl
theorem bk_150_5 : am_bk 150 5 = bq_150_5 := rfl
theorem bk_150_6 : am_bk 150 6 = bq_150_6 := rfl
theorem bk_150_7 : am_bk 150 7 = bq_150_7 := rfl
theorem bk_150_8 : am_bk 150 8 = bq_150_8 := rfl
theorem bk_150_9 : am_bk 150 9 = bq_150_9 := rfl
theorem bk_150_10 : am_bk 150 10 = bq_150_10 := rfl
theorem bk_150_11 : am_bk 150 11 = bq_150_11 := rfl
theorem bk_150_12 : am_bk 150 12 = bq_150_12 := rfl
theorem bk_151_0 : am_bk 151 0 = bq_151_0 := rfl
theorem bk_151_1 : am_bk 151 1 = bq_151_1 := rfl
theorem bk_151_2 : am_bk 151 2 = bq_151_2 := rfl
theorem bk_152_0 : am_bk 152 0 = bq_152_0 := rfl
theorem bk_152_1 : am_bk 152 1 = bq_152_1 := rfl
theorem bk_152_2 : am_bk 152 2 = bq_152_2 := rfl
theorem bk_152_3 : am_bk 152 3 = bq_152_3 := rfl
theorem bk_152_4 : am_bk 152 4 = bq_152_4 := rfl
theorem bk_153_0 : am_bk 153 0 = bq_153_0 := rfl
theorem bk_153_1 : am_bk 153 1 = bq_153_1 := rfl
theorem bk_153_2 : am_bk 153 2 = bq_153_2 := rfl
theorem bk_154_0 : am_bk 154 0 = bq_154_0 := rfl
theorem bk_154_1 : am_bk 154 1 = bq_154_1 := rfl
theorem bk_154_2 : am_bk 154 2 = bq_154_2 := rfl
theorem bk_154_3 : am_bk 154 3 = bq_154_3 := rfl
theorem bk_154_4 : am_bk 154 4 = bq_154_4 := rfl
theorem bk_155_0 : am_bk 155 0 = bq_155_0 := rfl
theorem bk_155_1 : am_bk 155 1 = bq_155_1 := rfl
theorem bk_155_2 : am_bk 155 2 = bq_155_2 := rfl
theorem bk_155_3 : am_bk 155 3 = bq_155_3 := rfl
theorem bk_155_4 : am_bk 155 4 = bq_155_4 := rfl
theorem bk_155_5 : am_bk 155 5 = bq_155_5 := rfl
theorem bk_155_6 : am_bk 155 6 = bq_155_6 := rfl
theorem bk_155_7 : am_bk 155 7 = bq_155_7 := rfl
theorem bk_155_8 : am_bk 155 8 = bq_155_8 := rfl
theorem bk_155_9 : am_bk 155 9 = bq_155_9 := rfl
theorem bk_156_0 : am_bk 156 0 = bq_156_0 := rfl
theorem bk_156_1 : am_bk 156 1 = bq_156_1 := rfl
theorem bk_156_2 : am_bk 156 2 = bq_156_2 := rfl
theorem bk_156_3 : am_bk 156 3 = bq_156_3 := rfl
theorem bk_156_4 : am_bk 156 4 = bq_156_4 := rfl
theorem bk_157_0 : am_bk 157 0 = bq_157_0 := rfl
theorem bk_157_1 : am_bk 157 1 = bq_157_1 := rfl
theorem bk_157_2 : am_bk 157 2 = bq_157_2 := rfl
theorem bk_157_3 : am_bk 157 3 = bq_157_3 := rfl
theorem bk_157_4 : am_bk 157 4 = bq_157_4 := rfl
theorem bk_157_5 : am_bk 157 5 = bq_157_5 := rfl
theorem bk_157_6 : am_bk 157 6 = bq_157_6 := rfl
theorem bk_157_7 : am_bk 157 7 = bq_157_7 := rfl
theorem bk_157_8 : am_bk 157 8 = bq_157_8 := rfl
theorem bk_157_9 : am_bk 157 9 = bq_157_9 := rfl
theorem bk_157_10 : am_bk 157 10 = bq_157_10 := rfl
theorem bk_158_0 : am_bk 158 0 = bq_158_0 := rfl
theorem bk_158_1 : am_bk 158 1 = bq_158_1 := rfl
theorem bk_158_2 : am_bk 158 2 = bq_158_2 := rfl
theorem bk_158_3 : am_bk 158 3 = bq_158_3 := rfl
theorem bk_158_4 : am_bk 158 4 = bq_158_4 := rfl
theorem bk_159_0 : am_bk 159 0 = bq_159_0 := rfl
theorem bk_159_1 : am_bk 159 1 = bq_159_1 := rfl
theorem bk_159_2 : am_bk 159 2 = bq_159_2 := rfl
theorem bk_160_0 : am_bk 160 0 = bq_160_0 := rfl
theorem bk_160_1 : am_bk 160 1 = bq_160_1 := rfl
theorem bk_160_2 : am_bk 160 2 = bq_160_2 := rfl
theorem bk_160_3 : am_bk 160 3 = bq_160_3 := rfl
theorem bk_160_4 : am_bk 160 4 = bq_160_4 := rfl
theorem bk_160_5 : am_bk 160 5 = bq_160_5 := rfl
theorem bk_160_6 : am_bk 160 6 = bq_160_6 := rfl
theorem bk_161_0 : am_bk 161 0 = bq_161_0 := rfl
theorem bk_161_1 : am_bk 161 1 = bq_161_1 := rfl
theorem bk_161_2 : am_bk 161 2 = bq_161_2 := rfl
theorem bk_161_3 : am_bk 161 3 = bq_161_3 := rfl
theorem bk_161_4 : am_bk 161 4 = bq_161_4 := rfl
theorem bk_162_0 : am_bk 162 0 = bq_162_0 := rfl
theorem bk_162_1 : am_bk 162 1 = bq_162_1 := rfl
theorem bk_162_2 : am_bk 162 2 = bq_162_2 := rfl
theorem bk_163_0 : am_bk 163 0 = bq_163_0 := rfl
theorem bk_163_1 : am_bk 163 1 = bq_163_1 := rfl
theorem bk_163_2 : am_bk 163 2 = bq_163_2 := rfl
theorem bk_163_3 : am_bk 163 3 = bq_163_3 := rfl
theorem bk_163_4 : am_bk 163 4 = bq_163_4 := rfl
theorem bk_164_0 : am_bk 164 0 = bq_164_0 := rfl
theorem bk_164_1 : am_bk 164 1 = bq_164_1 := rfl
theorem bk_164_2 : am_bk 164 2 = bq_164_2 := rfl
theorem bk_164_3 : am_bk 164 3 = bq_164_3 := rfl
theorem bk_164_4 : am_bk 164 4 = bq_164_4 := rfl
theorem bk_165_0 : am_bk 165 0 = bq_165_0 := rfl
theorem bk_166_0 : am_bk 166 0 = bq_166_0 := rfl
theorem bk_166_1 : am_bk 166 1 = bq_166_1 := rfl
theorem bk_166_2 : am_bk 166 2 = bq_166_2 := rfl
theorem bk_167_0 : am_bk 167 0 = bq_167_0 := rfl
theorem bk_167_1 : am_bk 167 1 = bq_167_1 := rfl
theorem bk_167_2 : am_bk 167 2 = bq_167_2 := rfl
theorem bk_168_0 : am_bk 168 0 = bq_168_0 := rfl
theorem bk_168_1 : am_bk 168 1 = bq_168_1 := rfl
theorem bk_168_2 : am_bk 168 2 = bq_168_2 := rfl
theorem bk_168_3 : am_bk 168 3 = bq_168_3 := rfl
theorem bk_168_4 : am_bk 168 4 = bq_168_4 := rfl
theorem bk_168_5 : am_bk 168 5 = bq_168_5 := rfl
theorem bk_168_6 : am_bk 168 6 = bq_168_6 := rfl
theorem bk_168_7 : am_bk 168 7 = bq_168_7 := rfl
theorem bk_168_8 : am_bk 168 8 = bq_168_8 := rfl
theorem bk_168_9 : am_bk 168 9 = bq_168_9 := rfl
theorem bk_168_10 : am_bk 168 10 = bq_168_10 := rfl
theorem bk_168_11 : am_bk 168 11 = bq_168_11 := rfl
theorem bk_169_0 : am_bk 169 0 = bq_169_0 := rfl
theorem bk_170_0 : am_bk 170 0 = bq_170_0 := rfl
theorem bk_170_1 : am_bk 170 1 = bq_170_1 := rfl
theorem bk_170_2 : am_bk 170 2 = bq_170_2 := rfl
theorem bk_170_3 : am_bk 170 3 = bq_170_3 := rfl
theorem bk_170_4 : am_bk 170 4 = bq_170_4 := rfl
theorem bk_170_5 : am_bk 170 5 = bq_170_5 := rfl
theorem bk_171_0 : am_bk 171 0 = bq_171_0 := rfl
theorem bk_171_1 : am_bk 171 1 = bq_171_1 := rfl
theorem bk_171_2 : am_bk 171 2 = bq_171_2 := rfl
theorem bk_172_0 : am_bk 172 0 = bq_172_0 := rfl
theorem bk_172_1 : am_bk 172 1 = bq_172_1 := rfl
theorem bk_173_0 : am_bk 173 0 = bq_173_0 := rfl
theorem bk_173_1 : am_bk 173 1 = bq_173_1 := rfl
theorem bk_173_2 : am_bk 173 2 = bq_173_2 := rfl
theorem bk_173_3 : am_bk 173 3 = bq_173_3 := rfl
theorem bk_174_0 : am_bk 174 0 = bq_174_0 := rfl
theorem bk_174_1 : am_bk 174 1 = bq_174_1 := rfl
theorem bk_174_2 : am_bk 174 2 = bq_174_2 := rfl
theorem bk_174_3 : am_bk 174 3 = bq_174_3 := rfl
theorem bk_174_4 : am_bk 174 4 = bq_174_4 := rfl
theorem bk_174_5 : am_bk 174 5 = bq_174_5 := rfl
theorem bk_174_6 : am_bk 174 6 = bq_174_6 := rfl
theorem bk_174_7 : am_bk 174 7 = bq_174_7 := rfl
theorem bk_174_8 : am_bk 174 8 = bq_174_8 := rfl
theorem bk_174_9 : am_bk 174 9 = bq_174_9 := rfl
theorem bk_174_10 : am_bk 174 10 = bq_174_10 := rfl
theorem bk_174_11 : am_bk 174 11 = bq_174_11 := rfl
theorem bk_174_12 : am_bk 174 12 = bq_174_12 := rfl
theorem bk_174_13 : am_bk 174 13 = bq_174_13 := rfl
theorem bk_175_0 : am_bk 175 0 = bq_175_0 := rfl
theorem bk_175_1 : am_bk 175 1 = bq_175_1 := rfl
theorem bk_175_2 : am_bk 175 2 = bq_175_2 := rfl
theorem bk_175_3 : am_bk 175 3 = bq_175_3 := rfl
theorem bk_175_4 : am_bk 175 4 = bq_175_4 := rfl
theorem bk_176_0 : am_bk 176 0 = bq_176_0 := rfl
theorem bk_176_1 : am_bk 176 1 = bq_176_1 := rfl
theorem bk_177_0 : am_bk 177 0 = bq_177_0 := rfl
theorem bk_177_1 : am_bk 177 1 = bq_177_1 := rfl
theorem bk_177_2 : am_bk 177 2 = bq_177_2 := rfl
theorem bk_177_3 : am_bk 177 3 = bq_177_3 := rfl
theorem bk_177_4 : am_bk 177 4 = bq_177_4 := rfl
theorem bk_178_0 : am_bk 178 0 = bq_178_0 := rfl
theorem bk_178_1 : am_bk 178 1 = bq_178_1 := rfl
theorem bk_178_2 : am_bk 178 2 = bq_178_2 := rfl
theorem bk_179_0 : am_bk 179 0 = bq_179_0 := rfl
theorem bk_180_0 : am_bk 180 0 = bq_180_0 := rfl
theorem bk_180_1 : am_bk 180 1 = bq_180_1 := rfl
theorem bk_180_2 : am_bk 180 2 = bq_180_2 := rfl
theorem bk_181_0 : am_bk 181 0 = bq_181_0 := rfl
theorem bk_181_1 : am_bk 181 1 = bq_181_1 := rfl
theorem bk_181_2 : am_bk 181 2 = bq_181_2 := rfl
theorem bk_182_0 : am_bk 182 0 = bq_182_0 := rfl
theorem bk_182_1 : am_bk 182 1 = bq_182_1 := rfl
theorem bk_182_2 : am_bk 182 2 = bq_182_2 := rfl
theorem bk_182_3 : am_bk 182 3 = bq_182_3 := rfl
theorem bk_183_0 : am_bk 183 0 = bq_183_0 := rfl
theorem bk_183_1 : am_bk 183 1 = bq_183_1 := rfl
theorem bk_183_2 : am_bk 183 2 = bq_183_2 := rfl
theorem bk_183_3 : am_bk 183 3 = bq_183_3 := rfl
theorem bk_183_4 : am_bk 183 4 = bq_183_4 := rfl
theorem bk_183_5 : am_bk 183 5 = bq_183_5 := rfl
theorem bk_183_6 : am_bk 183 6 = bq_183_6 := rfl
theorem bk_183_7 : am_bk 183 7 = bq_183_7 := rfl
theorem bk_183_8 : am_bk 183 8 = bq_183_8 := rfl
theorem bk_183_9 : am_bk 183 9 = bq_183_9 := rfl
theorem bk_183_10 : am_bk 183 10 = bq_183_10 := rfl
theorem bk_183_11 : am_bk 183 11 = bq_183_11 := rfl
theorem bk_183_12 : am_bk 183 12 = bq_183_12 := rfl
theorem bk_183_13 : am_bk 183 13 = bq_183_13 := rfl
theorem bk_183_14 : am_bk 183 14 = bq_183_14 := rfl
theorem bk_183_15 : am_bk 183 15 = bq_183_15 := rfl
theorem bk_183_16 : am_bk 183 16 = bq_183_16 := rfl
theorem bk_183_17 : am_bk 183 17 = bq_183_17 := rfl
theorem bk_183_18 : am_bk 183 18 = bq_183_18 := rfl
theorem bk_184_0 : am_bk 184 0 = bq_184_0 := rfl
theorem bk_184_1 : am_bk 184 1 = bq_184_1 := rfl
theorem bk_184_2 : am_bk 184 2 = bq_184_2 := rfl
theorem bk_184_3 : am_bk 184 3 = bq_184_3 := rfl
theorem bk_184_4 : am_bk 184 4 = bq_184_4 := rfl
theorem bk_184_5 : am_bk 184 5 = bq_184_5 := rfl
theorem bk_184_6 : am_bk 184 6 = bq_184_6 := rfl
theorem bk_185_0 : am_bk 185 0 = bq_185_0 := rfl
theorem bk_185_1 : am_bk 185 1 = bq_185_1 := rfl
theorem bk_186_0 : am_bk 186 0 = bq_186_0 := rfl
theorem bk_186_1 : am_bk 186 1 = bq_186_1 := rfl
theorem bk_186_2 : am_bk 186 2 = bq_186_2 := rfl
theorem bk_186_3 : am_bk 186 3 = bq_186_3 := rfl
theorem bk_186_4 : am_bk 186 4 = bq_186_4 := rfl
theorem bk_187_0 : am_bk 187 0 = bq_187_0 := rfl
theorem bk_187_1 : am_bk 187 1 = bq_187_1 := rfl
theorem bk_187_2 : am_bk 187 2 = bq_187_2 := rfl
theorem bk_187_3 : am_bk 187 3 = bq_187_3 := rfl
theorem bk_187_4 : am_bk 187 4 = bq_187_4 := rfl
theorem bk_187_5 : am_bk 187 5 = bq_187_5 := rfl
theorem bk_187_6 : am_bk 187 6 = bq_187_6 := rfl
theorem bk_188_0 : am_bk 188 0 = bq_188_0 := rfl
theorem bk_188_1 : am_bk 188 1 = bq_188_1 := rfl
theorem bk_188_2 : am_bk 188 2 = bq_188_2 := rfl
theorem bk_188_3 : am_bk 188 3 = bq_188_3 := rfl
theorem bk_188_4 : am_bk 188 4 = bq_188_4 := rfl
theorem bk_188_5 : am_bk 188 5 = bq_188_5 := rfl
theorem bk_188_6 : am_bk 188 6 = bq_188_6 := rfl
theorem bk_188_7 : am_bk 188 7 = bq_188_7 := rfl
theorem bk_188_8 : am_bk 188 8 = bq_188_8 := rfl
theorem bk_188_9 : am_bk 188 9 = bq_188_9 := rfl
theorem bk_188_10 : am_bk 188 10 = bq_188_10 := rfl
theorem bk_188_11 : am_bk 188 11 = bq_188_11 := rfl
theorem bk_188_12 : am_bk 188 12 = bq_188_12 := rfl
theorem bk_188_13 : am_bk 188 13 = bq_188_13 := rfl
theorem bk_188_14 : am_bk 188 14 = bq_188_14 := rfl
theorem bk_189_0 : am_bk 189 0 = bq_189_0 := rfl
theorem bk_189_1 : am_bk 189 1 = bq_189_1 := rfl
theorem bk_189_2 : am_bk 189 2 = bq_189_2 := rfl
theorem bk_189_3 : am_bk 189 3 = bq_189_3 := rfl
theorem bk_189_4 : am_bk 189 4 = bq_189_4 := rfl
theorem bk_189_5 : am_bk 189 5 = bq_189_5 := rfl
theorem bk_189_6 : am_bk 189 6 = bq_189_6 := rfl
theorem bk_189_7 : am_bk 189 7 = bq_189_7 := rfl
theorem bk_189_8 : am_bk 189 8 = bq_189_8 := rfl
theorem bk_189_9 : am_bk 189 9 = bq_189_9 := rfl
theorem bk_189_10 : am_bk 189 10 = bq_189_10 := rfl
theorem bk_189_11 : am_bk 189 11 = bq_189_11 := rfl
theorem bk_189_12 : am_bk 189 12 = bq_189_12 := rfl
theorem bk_189_13 : am_bk 189 13 = bq_189_13 := rfl
theorem bk_189_14 : am_bk 189 14 = bq_189_14 := rfl
theorem bk_189_15 : am_bk 189 15 = bq_189_15 := rfl
theorem bk_189_16 : am_bk 189 16 = bq_189_16 := rfl
theorem bk_189_17 : am_bk 189 17 = bq_189_17 := rfl
theorem bk_190_0 : am_bk 190 0 = bq_190_0 := rfl
theorem bk_190_1 : am_bk 190 1 = bq_190_1 := rfl
theorem bk_191_0 : am_bk 191 0 = bq_191_0 := rfl
theorem bk_192_0 : am_bk 192 0 = bq_192_0 := rfl
theorem bk_192_1 : am_bk 192 1 = bq_192_1 := rfl
theorem bk_192_2 : am_bk 192 2 = bq_192_2 := rfl
theorem bk_193_0 : am_bk 193 0 = bq_193_0 := rfl
theorem bk_193_1 : am_bk 193 1 = bq_193_1 := rfl
theorem bk_193_2 : am_bk 193 2 = bq_193_2 := rfl
theorem bk_194_0 : am_bk 194 0 = bq_194_0 := rfl
theorem bk_194_1 : am_bk 194 1 = bq_194_1 := rfl
theorem bk_194_2 : am_bk 194 2 = bq_194_2 := rfl
theorem bk_195_0 : am_bk 195 0 = bq_195_0 := rfl
theorem bk_195_1 : am_bk 195 1 = bq_195_1 := rfl
theorem bk_195_2 : am_bk 195 2 = bq_195_2 := rfl
theorem bk_196_0 : am_bk 196 0 = bq_196_0 := rfl
theorem bk_196_1 : am_bk 196 1 = bq_196_1 := rfl
theorem bk_196_2 : am_bk 196 2 = bq_196_2 := rfl
theorem bk_197_0 : am_bk 197 0 = bq_197_0 := rfl
theorem bk_197_1 : am_bk 197 1 = bq_197_1 := rfl
theorem bk_197_2 : am_bk 197 2 = bq_197_2 := rfl
theorem bk_197_3 : am_bk 197 3 = bq_197_3 := rfl
theorem bk_197_4 : am_bk 197 4 = bq_197_4 := rfl
theorem bk_197_5 : am_bk 197 5 = bq_197_5 := rfl
theorem bk_197_6 : am_bk 197 6 = bq_197_6 := rfl
theorem bk_197_7 : am_bk 197 7 = bq_197_7 := rfl
theorem bk_198_0 : am_bk 198 0 = bq_198_0 := rfl
theorem bk_198_1 : am_bk 198 1 = bq_198_1 := rfl
theorem bk_198_2 : am_bk 198 2 = bq_198_2 := rfl
theorem bk_198_3 : am_bk 198 3 = bq_198_3 := rfl
theorem bk_198_4 : am_bk 198 4 = bq_198_4 := rfl
theorem bk_199_0 : am_bk 199 0 = bq_199_0 := rfl
theorem bk_199_1 : am_bk 199 1 = bq_199_1 := rfl
theorem bk_199_2 : am_bk 199 2 = bq_199_2 := rfl
theorem bk_199_3 : am_bk 199 3 = bq_199_3 := rfl
theorem bk_199_4 : am_bk 199 4 = bq_199_4 := rfl
theorem bk_199_5 : am_bk 199 5 = bq_199_5 := rfl
theorem bk_199_6 : am_bk 199 6 = bq_199_6 := rfl
theorem bk_200_0 : am_bk 200 0 = bq_200_0 := rfl
theorem bk_200_1 : am_bk 200 1 = bq_200_1 := rfl
theorem bk_200_2 : am_bk 200 2 = bq_200_2 := rfl
theorem bk_200_3 : am_bk 200 3 = bq_200_3 := rfl
theorem bk_200_4 : am_bk 200 4 = bq_200_4 := rfl
theorem bk_201_0 : am_bk 201 0 = bq_201_0 := rfl
theorem bk_201_1 : am_bk 201 1 = bq_201_1 := rfl
theorem bk_201_2 : am_bk 201 2 = bq_201_2 := rfl
theorem bk_201_3 : am_bk 201 3 = bq_201_3 := rfl
theorem bk_201_4 : am_bk 201 4 = bq_201_4 := rfl
theorem bk_201_5 : am_bk 201 5 = bq_201_5 := rfl
theorem bk_201_6 : am_bk 201 6 = bq_201_6 := rfl
theorem bk_202_0 : am_bk 202 0 = bq_202_0 := rfl
theorem bk_202_1 : am_bk 202 1 = bq_202_1 := rfl
theorem bk_202_2 : am_bk 202 2 = bq_202_2 := rfl
theorem bk_202_3 : am_bk 202 3 = bq_202_3 := rfl
theorem bk_202_4 : am_bk 202 4 = bq_202_4 := rfl
theorem bk_203_0 : am_bk 203 0 = bq_203_0 := rfl
theorem bk_203_1 : am_bk 203 1 = bq_203_1 := rfl
theorem bk_203_2 : am_bk 203 2 = bq_203_2 := rfl
theorem bk_203_3 : am_bk 203 3 = bq_203_3 := rfl
theorem bk_203_4 : am_bk 203 4 = bq_203_4 := rfl
theorem bk_203_5 : am_bk 203 5 = bq_203_5 := rfl
theorem bk_203_6 : am_bk 203 6 = bq_203_6 := rfl
theorem bk_203_7 : am_bk 203 7 = bq_203_7 := rfl
theorem bk_203_8 : am_bk 203 8 = bq_203_8 := rfl
theorem bk_204_0 : am_bk 204 0 = bq_204_0 := rfl
theorem bk_204_1 : am_bk 204 1 = bq_204_1 := rfl
theorem bk_205_0 : am_bk 205 0 = bq_205_0 := rfl
theorem bk_205_1 : am_bk 205 1 = bq_205_1 := rfl
theorem bk_205_2 : am_bk 205 2 = bq_205_2 := rfl
theorem bk_205_3 : am_bk 205 3 = bq_205_3 := rfl
theorem bk_205_4 : am_bk 205 4 = bq_205_4 := rfl
theorem bk_206_0 : am_bk 206 0 = bq_206_0 := rfl
theorem bk_206_1 : am_bk 206 1 = bq_206_1 := rfl
theorem bk_207_0 : am_bk 207 0 = bq_207_0 := rfl
theorem bk_207_1 : am_bk 207 1 = bq_207_1 := rfl
theorem bk_207_2 : am_bk 207 2 = bq_207_2 := rfl
theorem bk_207_3 : am_bk 207 3 = bq_207_3 := rfl
theorem bk_207_4 : am_bk 207 4 = bq_207_4 := rfl
theorem bk_207_5 : am_bk 207 5 = bq_207_5 := rfl
theorem bk_207_6 : am_bk 207 6 = bq_207_6 := rfl
theorem bk_207_7 : am_bk 207 7 = bq_207_7 := rfl
theorem bk_207_8 : am_bk 207 8 = bq_207_8 := rfl
theorem bk_207_9 : am_bk 207 9 = bq_207_9 := rfl
theorem bk_207_10 : am_bk 207 10 = bq_207_10 := rfl
theorem bk_208_0 : am_bk 208 0 = bq_208_0 := rfl
theorem bk_209_0 : am_bk 209 0 = bq_209_0 := rfl
theorem bk_209_1 : am_bk 209 1 = bq_209_1 := rfl
theorem bk_209_2 : am_bk 209 2 = bq_209_2 := rfl
theorem bk_210_0 : am_bk 210 0 = bq_210_0 := rfl
theorem bk_210_1 : am_bk 210 1 = bq_210_1 := rfl
theorem bk_210_2 : am_bk 210 2 = bq_210_2 := rfl
theorem bk_210_3 : am_bk 210 3 = bq_210_3 := rfl
theorem bk_211_0 : am_bk 211 0 = bq_211_0 := rfl
theorem bk_211_1 : am_bk 211 1 = bq_211_1 := rfl
theorem bk_211_2 : am_bk 211 2 = bq_211_2 := rfl
theorem bk_211_3 : am_bk 211 3 = bq_211_3 := rfl
theorem bk_212_0 : am_bk 212 0 = bq_212_0 := rfl
theorem bk_212_1 : am_bk 212 1 = bq_212_1 := rfl
theorem bk_212_2 : am_bk 212 2 = bq_212_2 := rfl
theorem bk_213_0 : am_bk 213 0 = bq_213_0 := rfl
theorem bk_213_1 : am_bk 213 1 = bq_213_1 := rfl
theorem bk_213_2 : am_bk 213 2 = bq_213_2 := rfl
theorem bk_213_3 : am_bk 213 3 = bq_213_3 := rfl
theorem bk_213_4 : am_bk 213 4 = bq_213_4 := rfl
theorem bk_213_5 : am_bk 213 5 = bq_213_5 := rfl
theorem bk_214_0 : am_bk 214 0 = bq_214_0 := rfl
theorem bk_214_1 : am_bk 214 1 = bq_214_1 := rfl
theorem bk_214_2 : am_bk 214 2 = bq_214_2 := rfl
theorem bk_214_3 : am_bk 214 3 = bq_214_3 := rfl
theorem bk_214_4 : am_bk 214 4 = bq_214_4 := rfl
theorem bk_214_5 : am_bk 214 5 = bq_214_5 := rfl
theorem bk_215_0 : am_bk 215 0 = bq_215_0 := rfl
theorem bk_215_1 : am_bk 215 1 = bq_215_1 := rfl
theorem bk_215_2 : am_bk 215 2 = bq_215_2 := rfl
theorem bk_215_3 : am_bk 215 3 = bq_215_3 := rfl
theorem bk_215_4 : am_bk 215 4 = bq_215_4 := rfl
theorem bk_216_0 : am_bk 216 0 = bq_216_0 := rfl
theorem bk_217_0 : am_bk 217 0 = bq_217_0 := rfl
theorem bk_217_1 : am_bk 217 1 = bq_217_1 := rfl
theorem bk_217_2 : am_bk 217 2 = bq_217_2 := rfl
theorem bk_218_0 : am_bk 218 0 = bq_218_0 := rfl
theorem bk_218_1 : am_bk 218 1 = bq_218_1 := rfl
theorem bk_218_2 : am_bk 218 2 = bq_218_2 := rfl
theorem bk_218_3 : am_bk 218 3 = bq_218_3 := rfl
theorem bk_218_4 : am_bk 218 4 = bq_218_4 := rfl
theorem bk_219_0 : am_bk 219 0 = bq_219_0 := rfl
theorem bk_219_1 : am_bk 219 1 = bq_219_1 := rfl
theorem bk_219_2 : am_bk 219 2 = bq_219_2 := rfl
theorem bk_219_3 : am_bk 219 3 = bq_219_3 := rfl
theorem bk_219_4 : am_bk 219 4 = bq_219_4 := rfl
theorem bk_219_5 : am_bk 219 5 = bq_219_5 := rfl
theorem bk_220_0 : am_bk 220 0 = bq_220_0 := rfl
theorem bk_221_0 : am_bk 221 0 = bq_221_0 := rfl
theorem bk_221_1 : am_bk 221 1 = bq_221_1 := rfl
theorem bk_221_2 : am_bk 221 2 = bq_221_2 := rfl
theorem bk_221_3 : am_bk 221 3 = bq_221_3 := rfl
theorem bk_221_4 : am_bk 221 4 = bq_221_4 := rfl
theorem bk_221_5 : am_bk 221 5 = bq_221_5 := rfl
theorem bk_221_6 : am_bk 221 6 = bq_221_6 := rfl
theorem bk_221_7 : am_bk 221 7 = bq_221_7 := rfl
theorem bk_221_8 : am_bk 221 8 = bq_221_8 := rfl
theorem bk_222_0 : am_bk 222 0 = bq_222_0 := rfl
theorem bk_222_1 : am_bk 222 1 = bq_222_1 := rfl
theorem bk_222_2 : am_bk 222 2 = bq_222_2 := rfl
theorem bk_222_3 : am_bk 222 3 = bq_222_3 := rfl
theorem bk_222_4 : am_bk 222 4 = bq_222_4 := rfl
theorem bk_222_5 : am_bk 222 5 = bq_222_5 := rfl
theorem bk_222_6 : am_bk 222 6 = bq_222_6 := rfl
theorem bk_223_0 : am_bk 223 0 = bq_223_0 := rfl
theorem bk_223_1 : am_bk 223 1 = bq_223_1 := rfl
theorem bk_223_2 : am_bk 223 2 = bq_223_2 := rfl
theorem bk_224_0 : am_bk 224 0 = bq_224_0 := rfl
theorem bk_225_0 : am_bk 225 0 = bq_225_0 := rfl
theorem bk_225_1 : am_bk 225 1 = bq_225_1 := rfl
theorem bk_225_2 : am_bk 225 2 = bq_225_2 := rfl
theorem bk_226_0 : am_bk 226 0 = bq_226_0 := rfl
theorem bk_226_1 : am_bk 226 1 = bq_226_1 := rfl
theorem bk_226_2 : am_bk 226 2 = bq_226_2 := rfl
theorem bk_227_0 : am_bk 227 0 = bq_227_0 := rfl
theorem bk_227_1 : am_bk 227 1 = bq_227_1 := rfl
theorem bk_228_0 : am_bk 228 0 = bq_228_0 := rfl
theorem bk_228_1 : am_bk 228 1 = bq_228_1 := rfl
theorem bk_229_0 : am_bk 229 0 = bq_229_0 := rfl
theorem bk_229_1 : am_bk 229 1 = bq_229_1 := rfl
theorem bk_229_2 : am_bk 229 2 = bq_229_2 := rfl
theorem bk_229_3 : am_bk 229 3 = bq_229_3 := rfl
theorem bk_229_4 : am_bk 229 4 = bq_229_4 := rfl
theorem bk_229_5 : am_bk 229 5 = bq_229_5 := rfl
theorem bk_229_6 : am_bk 229 6 = bq_229_6 := rfl
theorem bk_229_7 : am_bk 229 7 = bq_229_7 := rfl
theorem bk_229_8 : am_bk 229 8 = bq_229_8 := rfl
theorem bk_229_9 : am_bk 229 9 = bq_229_9 := rfl
theorem bk_229_10 : am_bk 229 10 = bq_229_10 := rfl
theorem bk_229_11 : am_bk 229 11 = bq_229_11 := rfl
theorem bk_229_12 : am_bk 229 12 = bq_229_12 := rfl
theorem bk_229_13 : am_bk 229 13 = bq_229_13 := rfl
theorem bk_229_14 : am_bk 229 14 = bq_229_14 := rfl
theorem bk_230_0 : am_bk 230 0 = bq_230_0 := rfl
theorem bk_231_0 : am_bk 231 0 = bq_231_0 := rfl
theorem bk_232_0 : am_bk 232 0 = bq_232_0 := rfl
theorem bk_233_0 : am_bk 233 0 = bq_233_0 := rfl
theorem bk_234_0 : am_bk 234 0 = bq_234_0 := rfl
theorem bk_234_1 : am_bk 234 1 = bq_234_1 := rfl
theorem bk_234_2 : am_bk 234 2 = bq_234_2 := rfl
theorem bk_234_3 : am_bk 234 3 = bq_234_3 := rfl
theorem bk_234_4 : am_bk 234 4 = bq_234_4 := rfl
theorem bk_234_5 : am_bk 234 5 = bq_234_5 := rfl
theorem bk_234_6 : am_bk 234 6 = bq_234_6 := rfl
theorem bk_234_7 : am_bk 234 7 = bq_234_7 := rfl
theorem bk_234_8 : am_bk 234 8 = bq_234_8 := rfl
theorem bk_235_0 : am_bk 235 0 = bq_235_0 := rfl
theorem bk_235_1 : am_bk 235 1 = bq_235_1 := rfl
theorem bk_235_2 : am_bk 235 2 = bq_235_2 := rfl
theorem bk_235_3 : am_bk 235 3 = bq_235_3 := rfl
theorem bk_235_4 : am_bk 235 4 = bq_235_4 := rfl
theorem bk_235_5 : am_bk 235 5 = bq_235_5 := rfl
theorem bk_235_6 : am_bk 235 6 = bq_235_6 := rfl
theorem bk_235_7 : am_bk 235 7 = bq_235_7 := rfl
theorem bk_235_8 : am_bk 235 8 = bq_235_8 := rfl
theorem bk_235_9 : am_bk 235 9 = bq_235_9 := rfl
theorem bk_235_10 : am_bk 235 10 = bq_235_10 := rfl
theorem bk_235_11 : am_bk 235 11 = bq_235_11 := rfl
theorem bk_235_12 : am_bk 235 12 = bq_235_12 := rfl
theorem bk_235_13 : am_bk 235 13 = bq_235_13 := rfl
theorem bk_235_14 : am_bk 235 14 = bq_235_14 := rfl
theorem bk_235_15 : am_bk 235 15 = bq_235_15 := rfl
theorem bk_235_16 : am_bk 235 16 = bq_235_16 := rfl
theorem bk_235_17 : am_bk 235 17 = bq_235_17 := rfl
theorem bk_235_18 : am_bk 235 18 = bq_235_18 := rfl
theorem bk_235_19 : am_bk 235 19 = bq_235_19 := rfl
theorem bk_235_20 : am_bk 235 20 = bq_235_20 := rfl
theorem bk_235_21 : am_bk 235 21 = bq_235_21 := rfl
theorem bk_235_22 : am_bk 235 22 = bq_235_22 := rfl
theorem bk_235_23 : am_bk 235 23 = bq_235_23 := rfl
theorem bk_235_24 : am_bk 235 24 = bq_235_24 := rfl
theorem bk_235_25 : am_bk 235 25 = bq_235_25 := rfl
theorem bk_235_26 : am_bk 235 26 = bq_235_26 := rfl
theorem bk_235_27 : am_bk 235 27 = bq_235_27 := rfl
theorem bk_235_28 : am_bk 235 28 = bq_235_28 := rfl
theorem bk_235_29 : am_bk 235 29 = bq_235_29 := rfl
theorem bk_235_30 : am_bk 235 30 = bq_235_30 := rfl
theorem bk_235_31 : am_bk 235 31 = bq_235_31 := rfl
theorem bk_235_32 : am_bk 235 32 = bq_235_32 := rfl
theorem bk_235_33 : am_bk 235 33 = bq_235_33 := rfl
theorem bk_235_34 : am_bk 235 34 = bq_235_34 := rfl
theorem bk_235_35 : am_bk 235 35 = bq_235_35 := rfl
theorem bk_235_36 : am_bk 235 36 = bq_235_36 := rfl
theorem bk_235_37 : am_bk 235 37 = bq_235_37 := rfl
theorem bk_235_38 : am_bk 235 38 = bq_235_38 := rfl
theorem bk_235_39 : am_bk 235 39 = bq_235_39 := rfl
theorem bk_235_40 : am_bk 235 40 = bq_235_40 := rfl
theorem bk_235_41 : am_bk 235 41 = bq_235_41 := rfl
theorem bk_235_42 : am_bk 235 42 = bq_235_42 := rfl
theorem bk_235_43 : am_bk 235 43 = bq_235_43 := rfl
theorem bk_235_44 : am_bk 235 44 = bq_235_44 := rfl
theorem bk_235_45 : am_bk 235 45 = bq_235_45 := rfl
theorem bk_235_46 : am_bk 235 46 = bq_235_46 := rfl
theorem bk_236_0 : am_bk 236 0 = bq_236_0 := rfl
theorem bk_236_1 : am_bk 236 1 = bq_236_1 := rfl
theorem bk_236_2 : am_bk 236 2 = bq_236_2 := rfl
theorem bk_237_0 : am_bk 237 0 = bq_237_0 := rfl
theorem bk_237_1 : am_bk 237 1 = bq_237_1 := rfl
theorem bk_237_2 : am_bk 237 2 = bq_237_2 := rfl
theorem bk_238_0 : am_bk 238 0 = bq_238_0 := rfl
theorem bk_238_1 : am_bk 238 1 = bq_238_1 := rfl
theorem bk_239_0 : am_bk 239 0 = bq_239_0 := rfl
theorem bk_240_0 : am_bk 240 0 = bq_240_0 := rfl
theorem bk_240_1 : am_bk 240 1 = bq_240_1 := rfl
theorem bk_240_2 : am_bk 240 2 = bq_240_2 := rfl
theorem bk_241_0 : am_bk 241 0 = bq_241_0 := rfl
theorem bk_241_1 : am_bk 241 1 = bq_241_1 := rfl
theorem bk_241_2 : am_bk 241 2 = bq_241_2 := rfl
theorem bk_242_0 : am_bk 242 0 = bq_242_0 := rfl
theorem bk_243_0 : am_bk 243 0 = bq_243_0 := rfl
theorem bk_244_0 : am_bk 244 0 = bq_244_0 := rfl
theorem bk_244_1 : am_bk 244 1 = bq_244_1 := rfl
theorem bk_244_2 : am_bk 244 2 = bq_244_2 := rfl
theorem am_wt_0 : am_wt [] = 0 := rfl
theorem am_wt_int (x : Int32) (st : List Value) : am_wt (.int x :: st) = 1 + am_wt st := rfl
theorem am_wt_long (x : Int64) (st : List Value) : am_wt (.long x :: st) = 2 + am_wt st := rfl
theorem am_wt_ref (x : Nat) (st : List Value) : am_wt (.ref x :: st) = 1 + am_wt st := rfl
