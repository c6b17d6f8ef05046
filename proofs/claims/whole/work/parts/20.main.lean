section INV
variable {n d y k : Nat} {ops : List am_O} {ls st : List Value} {h : am_H} {R0 : Option Value × am_H}
theorem am_inv_if {c : ClassFile.Cond} {b : Int} (ex : am_x (n + 1) d y (.inr (.ifCond c b) :: ops) ls st h = some R0) : ∃ x st', st = .int x :: st' ∧ (am_cd c x 0 = true → am_x n d y (am_bk y b.toNat) ls st' h = some R0) ∧ (am_cd c x 0 = false → am_x n d y ops ls st' h = some R0) := by
  match st with
  | .int x :: st =>
    refine ⟨x, st, rfl, fun z => ?_, fun z => ?_⟩
    · exact am_x_jump ex (by simp only [am_j, z]; rfl)
    · exact am_x_on ex (by simp only [am_j, z]; rfl)
  | [] => exact (am_x_stuck ex rfl rfl rfl rfl).elim
  | .long _ :: _ => exact (am_x_stuck ex rfl rfl rfl rfl).elim
  | .ref _ :: _ => exact (am_x_stuck ex rfl rfl rfl rfl).elim
  | .float _ :: _ => exact (am_x_stuck ex rfl rfl rfl rfl).elim
  | .double _ :: _ => exact (am_x_stuck ex rfl rfl rfl rfl).elim
  | .null :: _ => exact (am_x_stuck ex rfl rfl rfl rfl).elim
  | .retAddr _ :: _ => exact (am_x_stuck ex rfl rfl rfl rfl).elim
theorem am_inv_ic {c : ClassFile.Cond} {b : Int} (ex : am_x (n + 1) d y (.inr (.if_icmp c b) :: ops) ls st h = some R0) : ∃ x y1 st', st = .int y1 :: .int x :: st' ∧ (am_cd c x y1 = true → am_x n d y (am_bk y b.toNat) ls st' h = some R0) ∧ (am_cd c x y1 = false → am_x n d y ops ls st' h = some R0) := by
  cases hj : am_j (.if_icmp c b) st with
  | none => exact (am_x_stuck ex hj rfl rfl rfl).elim
  | some w =>
    simp only [am_j] at hj
    split at hj
    · rename_i y1 x st'
      refine ⟨x, y1, st', rfl, fun z => ?_, fun z => ?_⟩
      · exact am_x_jump ex (by simp only [am_j, z]; rfl)
      · exact am_x_on ex (by simp only [am_j, z]; rfl)
    · cases hj
theorem am_inv_nu {b : Int} (ex : am_x (n + 1) d y (.inr (.ifnull b) :: ops) ls st h = some R0) : ∃ x st', st = .ref x :: st' ∧ (x = 0 → am_x n d y (am_bk y b.toNat) ls st' h = some R0) ∧ (¬ x = 0 → am_x n d y ops ls st' h = some R0) := by
  cases hj : am_j (.ifnull b) st with
  | none => exact (am_x_stuck ex hj rfl rfl rfl).elim
  | some w =>
    simp only [am_j] at hj
    split at hj
    · rename_i x st'
      refine ⟨x, st', rfl, fun z => ?_, fun z => ?_⟩
      · exact am_x_jump ex (by simp only [am_j, if_pos z])
      · exact am_x_on ex (by simp only [am_j, if_neg z])
    · cases hj
theorem am_inv_nn {b : Int} (ex : am_x (n + 1) d y (.inr (.ifnonnull b) :: ops) ls st h = some R0) : ∃ x st', st = .ref x :: st' ∧ (x = 0 → am_x n d y ops ls st' h = some R0) ∧ (¬ x = 0 → am_x n d y (am_bk y b.toNat) ls st' h = some R0) := by
  cases hj : am_j (.ifnonnull b) st with
  | none => exact (am_x_stuck ex hj rfl rfl rfl).elim
  | some w =>
    simp only [am_j] at hj
    split at hj
    · rename_i x st'
      refine ⟨x, st', rfl, fun z => ?_, fun z => ?_⟩
      · exact am_x_on ex (by simp only [am_j, if_pos z])
      · exact am_x_jump ex (by simp only [am_j, if_neg z])
    · cases hj
theorem am_inv_sw {b lo hi : Int} {offs : Array Int} (ex : am_x (n + 1) d y (.inr (.tableswitch b lo hi offs) :: ops) ls st h = some R0) : ∃ x st', st = .int x :: st' ∧ am_x n d y (am_bk y (am_sw b lo hi offs x)) ls st' h = some R0 := by
  cases hj : am_j (.tableswitch b lo hi offs) st with
  | none => exact (am_x_stuck ex hj rfl rfl rfl).elim
  | some w =>
    simp only [am_j] at hj
    split at hj
    · rename_i x st'
      exact ⟨x, st', rfl, am_x_jump ex rfl⟩
    · cases hj
theorem am_inv_rt {i : Instr} (e1 : am_j i st = none) (e3 : am_cl i st h = none) (e4 : am_s i ls st h = none) (ex : am_x (n + 1) d y (.inr i :: ops) ls st h = some R0) : ∃ r, am_r i st = some r ∧ R0 = (r, h) := by
  cases hr : am_r i st with
  | none => exact (am_x_stuck ex e1 hr e3 e4).elim
  | some r =>
    obtain ⟨r', h'⟩ := R0
    obtain ⟨rfl, rfl⟩ := am_x_ret ex e1 hr
    exact ⟨r', rfl, rfl⟩
theorem am_inv_cl {i : Instr} (e1 : am_j i st = none) (e2 : am_r i st = none) (e4 : am_s i ls st h = none) (ex : am_x (n + 1) d y (.inr i :: ops) ls st h = some R0) : ∃ k as st', am_cl i st h = some (k, as, st') ∧ ∃ d' r1 h1, d = d' + 1 ∧ am_x n d' k (am_bk k 0) (am_ent k as) [] h = some (r1, h1) ∧ am_x n d y ops ls (r1.toList ++ st') h1 = some R0 := by
  cases hc : am_cl i st h with
  | none => exact (am_x_stuck ex e1 e2 hc e4).elim
  | some w =>
    obtain ⟨k, as, st'⟩ := w
    exact ⟨k, as, st', rfl, am_x_call ex e1 e2 hc⟩
end INV
set_option maxHeartbeats 8000000 in
set_option maxRecDepth 20000 in
/-- one step of the machine, whatever it is, is the JVM's -/
theorem sd_one {l : Launch} {dC : Nat → ClassId} {dI : Nat → Nat → Nat} {dA : Nat → ClassId} {s0 : Nat} {sv : Nat → Value} {n d y : Nat} {r : Option Value} {hF : am_H} {p : Program} {e : Env} {R : Room} {s : State} {m : MethodId} {args : Array Value} {below : List Frame} {meth : Method} {c : Code} {n0 q0 : Nat} {Z : State → Prop} (ihn : sd_Main l dC dI dA s0 sv n) (hy : y < 245) (C : sd_Cx dC dI dA s0 sv p s m args meth c (am_q y) n0) (hR1 : d + 1 ≤ R.frames) (hR2 : 100 * (d + 1) ≤ R.locals) (hR3 : hF.2.2.2.2.1 - n0 ≤ R.cells) (hR4 : hF.2.2.2.2.2 - q0 ≤ R.slots) (K : sd_K dC dI dA s0 sv p l e R s m args below meth c (am_q y) n0 q0 Z r hF)
    {w : am_O} {ops : List am_O} {ls st : List Value} {h : am_H} {pc len : Nat} {ins : Instr} (ex : am_x (n + 1) d y (w :: ops) ls st h = some (r, hF)) (hd : decode (am_q y).2.1 pc = .ok (ins, len)) (hln : am_ln ins len = true) (hI : okI y pc ins w = true) (hE : am_end w = true ∨ okO y (pc + len) ops = true) : sd_W dC dI dA s0 sv p l e R s m args below meth c (am_q y) n0 q0 Z h pc ls st := by
  have IH := ihn d y r hF p e R s m args below meth c n0 q0 Z hy C hR1 hR2 hR3 hR4 K
  cases ins with
  | iconst i =>
    have hw : some (Sum.inl (Value.int (Int32.ofInt i)) : am_O) = some w := of_decide_eq_true hI
    cases hw
    obtain rfl : len = 1 := of_decide_eq_true hln
    have hE2 : okO y (pc + 1) ops = true := by
      rcases hE with z | z
      · exact absurd (show false = true from z) (by decide)
      · exact z
    exact sd_iconst C hd (IH _ _ _ _ _ ex hE2)
  | bipush b =>
    have hw : some (Sum.inl (Value.int (Int8.ofInt b).toInt32) : am_O) = some w := of_decide_eq_true hI
    cases hw
    obtain rfl : len = 2 := of_decide_eq_true hln
    have hE2 : okO y (pc + 2) ops = true := by
      rcases hE with z | z
      · exact absurd (show false = true from z) (by decide)
      · exact z
    exact sd_bipush C hd (IH _ _ _ _ _ ex hE2)
  | sipush b =>
    have hw : some (Sum.inl (Value.int (Int16.ofInt b).toInt32) : am_O) = some w := of_decide_eq_true hI
    cases hw
    obtain rfl : len = 3 := of_decide_eq_true hln
    have hE2 : okO y (pc + 3) ops = true := by
      rcases hE with z | z
      · exact absurd (show false = true from z) (by decide)
      · exact z
    exact sd_sipush C hd (IH _ _ _ _ _ ex hE2)
  | lconst b =>
    have hw : some (Sum.inl (Value.long (Int64.ofNat (b : Nat))) : am_O) = some w := of_decide_eq_true hI
    cases hw
    obtain rfl : len = 1 := of_decide_eq_true hln
    have hE2 : okO y (pc + 1) ops = true := by
      rcases hE with z | z
      · exact absurd (show false = true from z) (by decide)
      · exact z
    exact sd_lconst C hd (IH _ _ _ _ _ ex hE2)
  | aconst_null =>
    have hw : some (Sum.inl (Value.ref 0) : am_O) = some w := of_decide_eq_true hI
    cases hw
    obtain rfl : len = 1 := of_decide_eq_true hln
    have hE2 : okO y (pc + 1) ops = true := by
      rcases hE with z | z
      · exact absurd (show false = true from z) (by decide)
      · exact z
    exact sd_null C hd (IH _ _ _ _ _ ex hE2)
  | ldc idx =>
    obtain rfl : len = 2 := of_decide_eq_true hln
    have hm := am_lu_mem (of_decide_eq_true hI : am_lu lt_ldc (am_q y).2.2.2.2 idx = some w)
    rcases lf_ldc _ hm with ⟨v, z, hl⟩ | ⟨i, tx, z, hl⟩
    · change w = _ at z
      subst z
      exact sd_ldc C hd hl (IH _ _ _ _ _ ex (by
        rcases hE with z | z
        · exact absurd (show false = true from z) (by decide)
        · exact z))
    · change w = _ at z
      subst z
      exact sd_ldcs C hd hl (IH _ _ _ _ _ ex (by
        rcases hE with z | z
        · exact absurd (show false = true from z) (by decide)
        · exact z))
  | ldc_w idx =>
    obtain rfl : len = 3 := of_decide_eq_true hln
    have hw := (of_decide_eq_true hI : am_tr (am_q y) (.ldc_w idx) = some w)
    simp only [am_tr] at hw
    split at hw
    · rename_i v hv
      cases hw
      rcases lf_ldc _ (am_lu_mem hv) with ⟨v2, z, hl⟩ | ⟨i, tx, z, hl⟩
      · cases z
        exact sd_ldcw C hd hl (IH _ _ _ _ _ ex (by
          rcases hE with z | z
          · exact absurd (show false = true from z) (by decide)
          · exact z))
      · cases z
    · cases hw
  | ldc2_w idx =>
    obtain rfl : len = 3 := of_decide_eq_true hln
    have hm := am_lu_mem (of_decide_eq_true hI : am_lu lt_ldc2 (am_q y).2.2.2.2 idx = some w)
    obtain ⟨v, z, hl⟩ := lf_ldc2 _ hm
    change w = _ at z
    subst z
    exact sd_ldc2 C hd hl (IH _ _ _ _ _ ex (by
      rcases hE with z | z
      · exact absurd (show false = true from z) (by decide)
      · exact z))
  | getstatic idx =>
    obtain rfl : len = 3 := of_decide_eq_true hln
    have hm := am_lu_mem (of_decide_eq_true hI : am_lu lt_gs (am_q y).2.2.2.2 idx = some w)
    rcases lf_gs _ hm with ⟨z, hl⟩ | ⟨z, hl⟩ | ⟨z, hl⟩
    · change w = _ at z
      subst z
      exact sd_gs_step C hd hl (IH _ _ _ _ _ ex (by
        rcases hE with z | z
        · exact absurd (show false = true from z) (by decide)
        · exact z))
    · change w = _ at z
      subst z
      exact sd_gs_comp C hd hl (IH _ _ _ _ _ ex (by
        rcases hE with z | z
        · exact absurd (show false = true from z) (by decide)
        · exact z))
    · change w = _ at z
      subst z
      exact sd_gs_form C hd hl (IH _ _ _ _ _ ex (by
        rcases hE with z | z
        · exact absurd (show false = true from z) (by decide)
        · exact z))
  | iload_n k =>
    have hw : some (Sum.inr (Instr.iload (k : Nat)) : am_O) = some w := of_decide_eq_true hI
    cases hw
    obtain rfl : len = 1 := of_decide_eq_true hln
    have hE2 : okO y (pc + 1) ops = true := by
      rcases hE with z | z
      · exact absurd (show false = true from z) (by decide)
      · exact z
    obtain ⟨ls2, st2, h2, es, e2⟩ := am_x_step ex rfl rfl rfl
    simp only [am_s] at es
    split at es
    · rename_i x hx
      cases es
      exact sd_iload_n C hd hx rfl (IH _ _ _ _ _ e2 hE2)
    · cases es
  | istore_n k =>
    have hw : some (Sum.inr (Instr.istore (k : Nat)) : am_O) = some w := of_decide_eq_true hI
    cases hw
    obtain rfl : len = 1 := of_decide_eq_true hln
    have hE2 : okO y (pc + 1) ops = true := by
      rcases hE with z | z
      · exact absurd (show false = true from z) (by decide)
      · exact z
    obtain ⟨ls2, st2, h2, es, e2⟩ := am_x_step ex rfl rfl rfl
    simp only [am_s] at es
    split at es
    · split at es
      · rename_i hg
        cases es
        exact sd_istore_n C hd rfl hg (IH _ _ _ _ _ e2 hE2)
      · cases es
    · cases es
  | iload k =>
    have hw : some (Sum.inr (Instr.iload k) : am_O) = some w := of_decide_eq_true hI
    cases hw
    obtain rfl : len = 2 := of_decide_eq_true hln
    have hE2 : okO y (pc + 2) ops = true := by
      rcases hE with z | z
      · exact absurd (show false = true from z) (by decide)
      · exact z
    obtain ⟨ls2, st2, h2, es, e2⟩ := am_x_step ex rfl rfl rfl
    simp only [am_s] at es
    split at es
    · rename_i x hx
      cases es
      exact sd_iload C hd hx (IH _ _ _ _ _ e2 hE2)
    · cases es
  | istore k =>
    have hw : some (Sum.inr (Instr.istore k) : am_O) = some w := of_decide_eq_true hI
    cases hw
    obtain rfl : len = 2 := of_decide_eq_true hln
    have hE2 : okO y (pc + 2) ops = true := by
      rcases hE with z | z
      · exact absurd (show false = true from z) (by decide)
      · exact z
    obtain ⟨ls2, st2, h2, es, e2⟩ := am_x_step ex rfl rfl rfl
    simp only [am_s] at es
    split at es
    · split at es
      · rename_i hg
        cases es
        exact sd_istore C hd hg (IH _ _ _ _ _ e2 hE2)
      · cases es
    · cases es
  | lload_n k =>
    have hw : some (Sum.inr (Instr.lload (k : Nat)) : am_O) = some w := of_decide_eq_true hI
    cases hw
    obtain rfl : len = 1 := of_decide_eq_true hln
    have hE2 : okO y (pc + 1) ops = true := by
      rcases hE with z | z
      · exact absurd (show false = true from z) (by decide)
      · exact z
    obtain ⟨ls2, st2, h2, es, e2⟩ := am_x_step ex rfl rfl rfl
    simp only [am_s] at es
    split at es
    · rename_i x hx
      cases es
      exact sd_lload_n C hd hx rfl (IH _ _ _ _ _ e2 hE2)
    · cases es
  | lstore_n k =>
    have hw : some (Sum.inr (Instr.lstore (k : Nat)) : am_O) = some w := of_decide_eq_true hI
    cases hw
    obtain rfl : len = 1 := of_decide_eq_true hln
    have hE2 : okO y (pc + 1) ops = true := by
      rcases hE with z | z
      · exact absurd (show false = true from z) (by decide)
      · exact z
    obtain ⟨ls2, st2, h2, es, e2⟩ := am_x_step ex rfl rfl rfl
    simp only [am_s] at es
    split at es
    · split at es
      · rename_i hg
        cases es
        exact sd_lstore_n C hd rfl hg (IH _ _ _ _ _ e2 hE2)
      · cases es
    · cases es
  | lload k =>
    have hw : some (Sum.inr (Instr.lload k) : am_O) = some w := of_decide_eq_true hI
    cases hw
    obtain rfl : len = 2 := of_decide_eq_true hln
    have hE2 : okO y (pc + 2) ops = true := by
      rcases hE with z | z
      · exact absurd (show false = true from z) (by decide)
      · exact z
    obtain ⟨ls2, st2, h2, es, e2⟩ := am_x_step ex rfl rfl rfl
    simp only [am_s] at es
    split at es
    · rename_i x hx
      cases es
      exact sd_lload C hd hx (IH _ _ _ _ _ e2 hE2)
    · cases es
  | lstore k =>
    have hw : some (Sum.inr (Instr.lstore k) : am_O) = some w := of_decide_eq_true hI
    cases hw
    obtain rfl : len = 2 := of_decide_eq_true hln
    have hE2 : okO y (pc + 2) ops = true := by
      rcases hE with z | z
      · exact absurd (show false = true from z) (by decide)
      · exact z
    obtain ⟨ls2, st2, h2, es, e2⟩ := am_x_step ex rfl rfl rfl
    simp only [am_s] at es
    split at es
    · split at es
      · rename_i hg
        cases es
        exact sd_lstore C hd hg (IH _ _ _ _ _ e2 hE2)
      · cases es
    · cases es
  | aload_n k =>
    have hw : some (Sum.inr (Instr.aload (k : Nat)) : am_O) = some w := of_decide_eq_true hI
    cases hw
    obtain rfl : len = 1 := of_decide_eq_true hln
    have hE2 : okO y (pc + 1) ops = true := by
      rcases hE with z | z
      · exact absurd (show false = true from z) (by decide)
      · exact z
    obtain ⟨ls2, st2, h2, es, e2⟩ := am_x_step ex rfl rfl rfl
    simp only [am_s] at es
    split at es
    · rename_i x hx
      cases es
      exact sd_aload_n C hd hx rfl (IH _ _ _ _ _ e2 hE2)
    · cases es
  | astore_n k =>
    have hw : some (Sum.inr (Instr.astore (k : Nat)) : am_O) = some w := of_decide_eq_true hI
    cases hw
    obtain rfl : len = 1 := of_decide_eq_true hln
    have hE2 : okO y (pc + 1) ops = true := by
      rcases hE with z | z
      · exact absurd (show false = true from z) (by decide)
      · exact z
    obtain ⟨ls2, st2, h2, es, e2⟩ := am_x_step ex rfl rfl rfl
    simp only [am_s] at es
    split at es
    · split at es
      · rename_i hg
        cases es
        exact sd_astore_n C hd rfl hg (IH _ _ _ _ _ e2 hE2)
      · cases es
    · cases es
  | aload k =>
    have hw : some (Sum.inr (Instr.aload k) : am_O) = some w := of_decide_eq_true hI
    cases hw
    obtain rfl : len = 2 := of_decide_eq_true hln
    have hE2 : okO y (pc + 2) ops = true := by
      rcases hE with z | z
      · exact absurd (show false = true from z) (by decide)
      · exact z
    obtain ⟨ls2, st2, h2, es, e2⟩ := am_x_step ex rfl rfl rfl
    simp only [am_s] at es
    split at es
    · rename_i x hx
      cases es
      exact sd_aload C hd hx (IH _ _ _ _ _ e2 hE2)
    · cases es
  | astore k =>
    have hw : some (Sum.inr (Instr.astore k) : am_O) = some w := of_decide_eq_true hI
    cases hw
    obtain rfl : len = 2 := of_decide_eq_true hln
    have hE2 : okO y (pc + 2) ops = true := by
      rcases hE with z | z
      · exact absurd (show false = true from z) (by decide)
      · exact z
    obtain ⟨ls2, st2, h2, es, e2⟩ := am_x_step ex rfl rfl rfl
    simp only [am_s] at es
    split at es
    · split at es
      · rename_i hg
        cases es
        exact sd_astore C hd hg (IH _ _ _ _ _ e2 hE2)
      · cases es
    · cases es
  | iinc k i =>
    have hw : some (Sum.inr (Instr.iinc k i) : am_O) = some w := of_decide_eq_true hI
    cases hw
    obtain rfl : len = 3 := of_decide_eq_true hln
    have hE2 : okO y (pc + 3) ops = true := by
      rcases hE with z | z
      · exact absurd (show false = true from z) (by decide)
      · exact z
    obtain ⟨ls2, st2, h2, es, e2⟩ := am_x_step ex rfl rfl rfl
    simp only [am_s] at es
    split at es
    · rename_i x hx
      cases es
      exact sd_iinc C hd hx (IH _ _ _ _ _ e2 hE2)
    · cases es
  | iadd =>
    have hw : some (Sum.inr Instr.iadd : am_O) = some w := of_decide_eq_true hI
    cases hw
    obtain rfl : len = 1 := of_decide_eq_true hln
    have hE2 : okO y (pc + 1) ops = true := by
      rcases hE with z | z
      · exact absurd (show false = true from z) (by decide)
      · exact z
    obtain ⟨ls2, st2, h2, es, e2⟩ := am_x_step ex rfl rfl rfl
    simp only [am_s] at es
    split at es
    · cases es
      exact sd_iadd C hd (IH _ _ _ _ _ e2 hE2)
    · cases es
  | isub =>
    have hw : some (Sum.inr Instr.isub : am_O) = some w := of_decide_eq_true hI
    cases hw
    obtain rfl : len = 1 := of_decide_eq_true hln
    have hE2 : okO y (pc + 1) ops = true := by
      rcases hE with z | z
      · exact absurd (show false = true from z) (by decide)
      · exact z
    obtain ⟨ls2, st2, h2, es, e2⟩ := am_x_step ex rfl rfl rfl
    simp only [am_s] at es
    split at es
    · cases es
      exact sd_isub C hd (IH _ _ _ _ _ e2 hE2)
    · cases es
  | imul =>
    have hw : some (Sum.inr Instr.imul : am_O) = some w := of_decide_eq_true hI
    cases hw
    obtain rfl : len = 1 := of_decide_eq_true hln
    have hE2 : okO y (pc + 1) ops = true := by
      rcases hE with z | z
      · exact absurd (show false = true from z) (by decide)
      · exact z
    obtain ⟨ls2, st2, h2, es, e2⟩ := am_x_step ex rfl rfl rfl
    simp only [am_s] at es
    split at es
    · cases es
      exact sd_imul C hd (IH _ _ _ _ _ e2 hE2)
    · cases es
  | iand =>
    have hw : some (Sum.inr Instr.iand : am_O) = some w := of_decide_eq_true hI
    cases hw
    obtain rfl : len = 1 := of_decide_eq_true hln
    have hE2 : okO y (pc + 1) ops = true := by
      rcases hE with z | z
      · exact absurd (show false = true from z) (by decide)
      · exact z
    obtain ⟨ls2, st2, h2, es, e2⟩ := am_x_step ex rfl rfl rfl
    simp only [am_s] at es
    split at es
    · cases es
      exact sd_iand C hd (IH _ _ _ _ _ e2 hE2)
    · cases es
  | ior =>
    have hw : some (Sum.inr Instr.ior : am_O) = some w := of_decide_eq_true hI
    cases hw
    obtain rfl : len = 1 := of_decide_eq_true hln
    have hE2 : okO y (pc + 1) ops = true := by
      rcases hE with z | z
      · exact absurd (show false = true from z) (by decide)
      · exact z
    obtain ⟨ls2, st2, h2, es, e2⟩ := am_x_step ex rfl rfl rfl
    simp only [am_s] at es
    split at es
    · cases es
      exact sd_ior C hd (IH _ _ _ _ _ e2 hE2)
    · cases es
  | ishl =>
    have hw : some (Sum.inr Instr.ishl : am_O) = some w := of_decide_eq_true hI
    cases hw
    obtain rfl : len = 1 := of_decide_eq_true hln
    have hE2 : okO y (pc + 1) ops = true := by
      rcases hE with z | z
      · exact absurd (show false = true from z) (by decide)
      · exact z
    obtain ⟨ls2, st2, h2, es, e2⟩ := am_x_step ex rfl rfl rfl
    simp only [am_s] at es
    split at es
    · cases es
      exact sd_ishl C hd (IH _ _ _ _ _ e2 hE2)
    · cases es
  | ishr =>
    have hw : some (Sum.inr Instr.ishr : am_O) = some w := of_decide_eq_true hI
    cases hw
    obtain rfl : len = 1 := of_decide_eq_true hln
    have hE2 : okO y (pc + 1) ops = true := by
      rcases hE with z | z
      · exact absurd (show false = true from z) (by decide)
      · exact z
    obtain ⟨ls2, st2, h2, es, e2⟩ := am_x_step ex rfl rfl rfl
    simp only [am_s] at es
    split at es
    · cases es
      exact sd_ishr C hd (IH _ _ _ _ _ e2 hE2)
    · cases es
  | iushr =>
    have hw : some (Sum.inr Instr.iushr : am_O) = some w := of_decide_eq_true hI
    cases hw
    obtain rfl : len = 1 := of_decide_eq_true hln
    have hE2 : okO y (pc + 1) ops = true := by
      rcases hE with z | z
      · exact absurd (show false = true from z) (by decide)
      · exact z
    obtain ⟨ls2, st2, h2, es, e2⟩ := am_x_step ex rfl rfl rfl
    simp only [am_s] at es
    split at es
    · cases es
      exact sd_iushr C hd (IH _ _ _ _ _ e2 hE2)
    · cases es
  | ineg =>
    have hw : some (Sum.inr Instr.ineg : am_O) = some w := of_decide_eq_true hI
    cases hw
    obtain rfl : len = 1 := of_decide_eq_true hln
    have hE2 : okO y (pc + 1) ops = true := by
      rcases hE with z | z
      · exact absurd (show false = true from z) (by decide)
      · exact z
    obtain ⟨ls2, st2, h2, es, e2⟩ := am_x_step ex rfl rfl rfl
    simp only [am_s] at es
    split at es
    · cases es
      exact sd_ineg C hd (IH _ _ _ _ _ e2 hE2)
    · cases es
  | ladd =>
    have hw : some (Sum.inr Instr.ladd : am_O) = some w := of_decide_eq_true hI
    cases hw
    obtain rfl : len = 1 := of_decide_eq_true hln
    have hE2 : okO y (pc + 1) ops = true := by
      rcases hE with z | z
      · exact absurd (show false = true from z) (by decide)
      · exact z
    obtain ⟨ls2, st2, h2, es, e2⟩ := am_x_step ex rfl rfl rfl
    simp only [am_s] at es
    split at es
    · cases es
      exact sd_ladd C hd (IH _ _ _ _ _ e2 hE2)
    · cases es
  | lsub =>
    have hw : some (Sum.inr Instr.lsub : am_O) = some w := of_decide_eq_true hI
    cases hw
    obtain rfl : len = 1 := of_decide_eq_true hln
    have hE2 : okO y (pc + 1) ops = true := by
      rcases hE with z | z
      · exact absurd (show false = true from z) (by decide)
      · exact z
    obtain ⟨ls2, st2, h2, es, e2⟩ := am_x_step ex rfl rfl rfl
    simp only [am_s] at es
    split at es
    · cases es
      exact sd_lsub C hd (IH _ _ _ _ _ e2 hE2)
    · cases es
  | lmul =>
    have hw : some (Sum.inr Instr.lmul : am_O) = some w := of_decide_eq_true hI
    cases hw
    obtain rfl : len = 1 := of_decide_eq_true hln
    have hE2 : okO y (pc + 1) ops = true := by
      rcases hE with z | z
      · exact absurd (show false = true from z) (by decide)
      · exact z
    obtain ⟨ls2, st2, h2, es, e2⟩ := am_x_step ex rfl rfl rfl
    simp only [am_s] at es
    split at es
    · cases es
      exact sd_lmul C hd (IH _ _ _ _ _ e2 hE2)
    · cases es
  | land =>
    have hw : some (Sum.inr Instr.land : am_O) = some w := of_decide_eq_true hI
    cases hw
    obtain rfl : len = 1 := of_decide_eq_true hln
    have hE2 : okO y (pc + 1) ops = true := by
      rcases hE with z | z
      · exact absurd (show false = true from z) (by decide)
      · exact z
    obtain ⟨ls2, st2, h2, es, e2⟩ := am_x_step ex rfl rfl rfl
    simp only [am_s] at es
    split at es
    · cases es
      exact sd_land C hd (IH _ _ _ _ _ e2 hE2)
    · cases es
  | lor =>
    have hw : some (Sum.inr Instr.lor : am_O) = some w := of_decide_eq_true hI
    cases hw
    obtain rfl : len = 1 := of_decide_eq_true hln
    have hE2 : okO y (pc + 1) ops = true := by
      rcases hE with z | z
      · exact absurd (show false = true from z) (by decide)
      · exact z
    obtain ⟨ls2, st2, h2, es, e2⟩ := am_x_step ex rfl rfl rfl
    simp only [am_s] at es
    split at es
    · cases es
      exact sd_lor C hd (IH _ _ _ _ _ e2 hE2)
    · cases es
  | lshl =>
    have hw : some (Sum.inr Instr.lshl : am_O) = some w := of_decide_eq_true hI
    cases hw
    obtain rfl : len = 1 := of_decide_eq_true hln
    have hE2 : okO y (pc + 1) ops = true := by
      rcases hE with z | z
      · exact absurd (show false = true from z) (by decide)
      · exact z
    obtain ⟨ls2, st2, h2, es, e2⟩ := am_x_step ex rfl rfl rfl
    simp only [am_s] at es
    split at es
    · cases es
      exact sd_lshl C hd (IH _ _ _ _ _ e2 hE2)
    · cases es
  | lcmp =>
    have hw : some (Sum.inr Instr.lcmp : am_O) = some w := of_decide_eq_true hI
    cases hw
    obtain rfl : len = 1 := of_decide_eq_true hln
    have hE2 : okO y (pc + 1) ops = true := by
      rcases hE with z | z
      · exact absurd (show false = true from z) (by decide)
      · exact z
    obtain ⟨ls2, st2, h2, es, e2⟩ := am_x_step ex rfl rfl rfl
    simp only [am_s] at es
    split at es
    · cases es
      exact sd_lcmp C hd (IH _ _ _ _ _ e2 hE2)
    · cases es
  | i2l =>
    have hw : some (Sum.inr Instr.i2l : am_O) = some w := of_decide_eq_true hI
    cases hw
    obtain rfl : len = 1 := of_decide_eq_true hln
    have hE2 : okO y (pc + 1) ops = true := by
      rcases hE with z | z
      · exact absurd (show false = true from z) (by decide)
      · exact z
    obtain ⟨ls2, st2, h2, es, e2⟩ := am_x_step ex rfl rfl rfl
    simp only [am_s] at es
    split at es
    · cases es
      exact sd_i2l C hd (IH _ _ _ _ _ e2 hE2)
    · cases es
  | l2i =>
    have hw : some (Sum.inr Instr.l2i : am_O) = some w := of_decide_eq_true hI
    cases hw
    obtain rfl : len = 1 := of_decide_eq_true hln
    have hE2 : okO y (pc + 1) ops = true := by
      rcases hE with z | z
      · exact absurd (show false = true from z) (by decide)
      · exact z
    obtain ⟨ls2, st2, h2, es, e2⟩ := am_x_step ex rfl rfl rfl
    simp only [am_s] at es
    split at es
    · cases es
      exact sd_l2i C hd (IH _ _ _ _ _ e2 hE2)
    · cases es
  | i2b =>
    have hw : some (Sum.inr Instr.i2b : am_O) = some w := of_decide_eq_true hI
    cases hw
    obtain rfl : len = 1 := of_decide_eq_true hln
    have hE2 : okO y (pc + 1) ops = true := by
      rcases hE with z | z
      · exact absurd (show false = true from z) (by decide)
      · exact z
    obtain ⟨ls2, st2, h2, es, e2⟩ := am_x_step ex rfl rfl rfl
    simp only [am_s] at es
    split at es
    · cases es
      exact sd_i2b C hd (IH _ _ _ _ _ e2 hE2)
    · cases es
  | i2s =>
    have hw : some (Sum.inr Instr.i2s : am_O) = some w := of_decide_eq_true hI
    cases hw
    obtain rfl : len = 1 := of_decide_eq_true hln
    have hE2 : okO y (pc + 1) ops = true := by
      rcases hE with z | z
      · exact absurd (show false = true from z) (by decide)
      · exact z
    obtain ⟨ls2, st2, h2, es, e2⟩ := am_x_step ex rfl rfl rfl
    simp only [am_s] at es
    split at es
    · cases es
      exact sd_i2s C hd (IH _ _ _ _ _ e2 hE2)
    · cases es
  | i2c =>
    have hw : some (Sum.inr Instr.i2c : am_O) = some w := of_decide_eq_true hI
    cases hw
    obtain rfl : len = 1 := of_decide_eq_true hln
    have hE2 : okO y (pc + 1) ops = true := by
      rcases hE with z | z
      · exact absurd (show false = true from z) (by decide)
      · exact z
    obtain ⟨ls2, st2, h2, es, e2⟩ := am_x_step ex rfl rfl rfl
    simp only [am_s] at es
    split at es
    · cases es
      exact sd_i2c C hd (IH _ _ _ _ _ e2 hE2)
    · cases es
  | dup_x1 =>
    have hw : some (Sum.inr Instr.dup_x1 : am_O) = some w := of_decide_eq_true hI
    cases hw
    obtain rfl : len = 1 := of_decide_eq_true hln
    have hE2 : okO y (pc + 1) ops = true := by
      rcases hE with z | z
      · exact absurd (show false = true from z) (by decide)
      · exact z
    obtain ⟨ls2, st2, h2, es, e2⟩ := am_x_step ex rfl rfl rfl
    simp only [am_s] at es
    split at es
    · cases es
      exact sd_dup_x1 C hd (IH _ _ _ _ _ e2 hE2)
    · cases es
  | dup2 =>
    have hw : some (Sum.inr Instr.dup2 : am_O) = some w := of_decide_eq_true hI
    cases hw
    obtain rfl : len = 1 := of_decide_eq_true hln
    have hE2 : okO y (pc + 1) ops = true := by
      rcases hE with z | z
      · exact absurd (show false = true from z) (by decide)
      · exact z
    obtain ⟨ls2, st2, h2, es, e2⟩ := am_x_step ex rfl rfl rfl
    simp only [am_s] at es
    split at es
    · cases es
      exact sd_dup2 C hd (IH _ _ _ _ _ e2 hE2)
    · cases es
  | idiv =>
    have hw : some (Sum.inr Instr.idiv : am_O) = some w := of_decide_eq_true hI
    cases hw
    obtain rfl : len = 1 := of_decide_eq_true hln
    have hE2 : okO y (pc + 1) ops = true := by
      rcases hE with z | z
      · exact absurd (show false = true from z) (by decide)
      · exact z
    obtain ⟨ls2, st2, h2, es, e2⟩ := am_x_step ex rfl rfl rfl
    simp only [am_s] at es
    split at es
    · split at es
      · cases es
      · rename_i hg
        cases es
        exact sd_idiv C hd hg (IH _ _ _ _ _ e2 hE2)
    · cases es
  | irem =>
    have hw : some (Sum.inr Instr.irem : am_O) = some w := of_decide_eq_true hI
    cases hw
    obtain rfl : len = 1 := of_decide_eq_true hln
    have hE2 : okO y (pc + 1) ops = true := by
      rcases hE with z | z
      · exact absurd (show false = true from z) (by decide)
      · exact z
    obtain ⟨ls2, st2, h2, es, e2⟩ := am_x_step ex rfl rfl rfl
    simp only [am_s] at es
    split at es
    · split at es
      · cases es
      · rename_i hg
        cases es
        exact sd_irem C hd hg (IH _ _ _ _ _ e2 hE2)
    · cases es
  | ldiv =>
    have hw : some (Sum.inr Instr.ldiv : am_O) = some w := of_decide_eq_true hI
    cases hw
    obtain rfl : len = 1 := of_decide_eq_true hln
    have hE2 : okO y (pc + 1) ops = true := by
      rcases hE with z | z
      · exact absurd (show false = true from z) (by decide)
      · exact z
    obtain ⟨ls2, st2, h2, es, e2⟩ := am_x_step ex rfl rfl rfl
    simp only [am_s] at es
    split at es
    · split at es
      · cases es
      · rename_i hg
        cases es
        exact sd_ldiv C hd hg (IH _ _ _ _ _ e2 hE2)
    · cases es
  | dup =>
    have hw : some (Sum.inr Instr.dup : am_O) = some w := of_decide_eq_true hI
    cases hw
    obtain rfl : len = 1 := of_decide_eq_true hln
    have hE2 : okO y (pc + 1) ops = true := by
      rcases hE with z | z
      · exact absurd (show false = true from z) (by decide)
      · exact z
    obtain ⟨ls2, st2, h2, es, e2⟩ := am_x_step ex rfl rfl rfl
    simp only [am_s] at es
    split at es
    · cases es
      exact sd_dupr C hd (IH _ _ _ _ _ e2 hE2)
    · cases es
      exact sd_dupi C hd (IH _ _ _ _ _ e2 hE2)
    · cases es
  | pop =>
    have hw : some (Sum.inr Instr.pop : am_O) = some w := of_decide_eq_true hI
    cases hw
    obtain rfl : len = 1 := of_decide_eq_true hln
    have hE2 : okO y (pc + 1) ops = true := by
      rcases hE with z | z
      · exact absurd (show false = true from z) (by decide)
      · exact z
    obtain ⟨ls2, st2, h2, es, e2⟩ := am_x_step ex rfl rfl rfl
    simp only [am_s] at es
    split at es
    · cases es
      exact sd_popi C hd (IH _ _ _ _ _ e2 hE2)
    · cases es
      exact sd_popr C hd (IH _ _ _ _ _ e2 hE2)
    · cases es
  | iaload =>
    have hw : some (Sum.inr Instr.iaload : am_O) = some w := of_decide_eq_true hI
    cases hw
    obtain rfl : len = 1 := of_decide_eq_true hln
    have hE2 : okO y (pc + 1) ops = true := by
      rcases hE with z | z
      · exact absurd (show false = true from z) (by decide)
      · exact z
    obtain ⟨ls2, st2, h2, es, e2⟩ := am_x_step ex rfl rfl rfl
    simp only [am_s] at es
    split at es
    · split at es
      · rename_i hg
        cases es
        exact sd_iaload C hd hg.1 hg.2 (IH _ _ _ _ _ e2 hE2)
      · cases es
    · cases es
  | baload =>
    have hw : some (Sum.inr Instr.baload : am_O) = some w := of_decide_eq_true hI
    cases hw
    obtain rfl : len = 1 := of_decide_eq_true hln
    have hE2 : okO y (pc + 1) ops = true := by
      rcases hE with z | z
      · exact absurd (show false = true from z) (by decide)
      · exact z
    obtain ⟨ls2, st2, h2, es, e2⟩ := am_x_step ex rfl rfl rfl
    simp only [am_s] at es
    split at es
    · split at es
      · rename_i hg
        cases es
        exact sd_baload C hd hg.1 hg.2 (IH _ _ _ _ _ e2 hE2)
      · cases es
    · cases es
  | laload =>
    have hw : some (Sum.inr Instr.laload : am_O) = some w := of_decide_eq_true hI
    cases hw
    obtain rfl : len = 1 := of_decide_eq_true hln
    have hE2 : okO y (pc + 1) ops = true := by
      rcases hE with z | z
      · exact absurd (show false = true from z) (by decide)
      · exact z
    obtain ⟨ls2, st2, h2, es, e2⟩ := am_x_step ex rfl rfl rfl
    simp only [am_s] at es
    split at es
    · split at es
      · rename_i hg
        cases es
        exact sd_laload C hd hg.1 hg.2 (IH _ _ _ _ _ e2 hE2)
      · cases es
    · cases es
  | aaload =>
    have hw : some (Sum.inr Instr.aaload : am_O) = some w := of_decide_eq_true hI
    cases hw
    obtain rfl : len = 1 := of_decide_eq_true hln
    have hE2 : okO y (pc + 1) ops = true := by
      rcases hE with z | z
      · exact absurd (show false = true from z) (by decide)
      · exact z
    obtain ⟨ls2, st2, h2, es, e2⟩ := am_x_step ex rfl rfl rfl
    simp only [am_s] at es
    split at es
    · split at es
      · rename_i hg
        cases es
        exact sd_aaload C hd hg.1 hg.2 (IH _ _ _ _ _ e2 hE2)
      · cases es
    · cases es
  | iastore =>
    have hw : some (Sum.inr Instr.iastore : am_O) = some w := of_decide_eq_true hI
    cases hw
    obtain rfl : len = 1 := of_decide_eq_true hln
    have hE2 : okO y (pc + 1) ops = true := by
      rcases hE with z | z
      · exact absurd (show false = true from z) (by decide)
      · exact z
    obtain ⟨ls2, st2, h2, es, e2⟩ := am_x_step ex rfl rfl rfl
    simp only [am_s] at es
    split at es
    · split at es
      · rename_i hg
        cases es
        exact sd_iastore C hd hg.1 hg.2 (IH _ _ _ _ _ e2 hE2)
      · cases es
    · cases es
  | bastore =>
    have hw : some (Sum.inr Instr.bastore : am_O) = some w := of_decide_eq_true hI
    cases hw
    obtain rfl : len = 1 := of_decide_eq_true hln
    have hE2 : okO y (pc + 1) ops = true := by
      rcases hE with z | z
      · exact absurd (show false = true from z) (by decide)
      · exact z
    obtain ⟨ls2, st2, h2, es, e2⟩ := am_x_step ex rfl rfl rfl
    simp only [am_s] at es
    split at es
    · split at es
      · rename_i hg
        cases es
        exact sd_bastore C hd hg.1 hg.2 (IH _ _ _ _ _ e2 hE2)
      · cases es
    · cases es
  | lastore =>
    have hw : some (Sum.inr Instr.lastore : am_O) = some w := of_decide_eq_true hI
    cases hw
    obtain rfl : len = 1 := of_decide_eq_true hln
    have hE2 : okO y (pc + 1) ops = true := by
      rcases hE with z | z
      · exact absurd (show false = true from z) (by decide)
      · exact z
    obtain ⟨ls2, st2, h2, es, e2⟩ := am_x_step ex rfl rfl rfl
    simp only [am_s] at es
    split at es
    · split at es
      · rename_i hg
        cases es
        exact sd_lastore C hd hg.1 hg.2 (IH _ _ _ _ _ e2 hE2)
      · cases es
    · cases es
  | aastore =>
    have hw : some (Sum.inr Instr.aastore : am_O) = some w := of_decide_eq_true hI
    cases hw
    obtain rfl : len = 1 := of_decide_eq_true hln
    have hE2 : okO y (pc + 1) ops = true := by
      rcases hE with z | z
      · exact absurd (show false = true from z) (by decide)
      · exact z
    obtain ⟨ls2, st2, h2, es, e2⟩ := am_x_step ex rfl rfl rfl
    simp only [am_s] at es
    split at es
    · split at es
      · rename_i hg
        cases es
        exact sd_aastore C hd hg.1 hg.2.1 hg.2.2.1 hg.2.2.2 (IH _ _ _ _ _ e2 hE2)
      · cases es
    · cases es
  | arraylength =>
    have hw : some (Sum.inr Instr.arraylength : am_O) = some w := of_decide_eq_true hI
    cases hw
    obtain rfl : len = 1 := of_decide_eq_true hln
    have hE2 : okO y (pc + 1) ops = true := by
      rcases hE with z | z
      · exact absurd (show false = true from z) (by decide)
      · exact z
    obtain ⟨ls2, st2, h2, es, e2⟩ := am_x_step ex rfl rfl rfl
    simp only [am_s] at es
    split at es
    · split at es
      · rename_i a st1 hg
        cases es
        intro H locs lsC hS hL hz
        have hg3 : am_k h a ≤ 25 ∨ 30 ≤ am_k h a := by
          have h9 := hS.2.2.1 a (by omega)
          rcases Nat.lt_or_ge a 32 with z | z
          · exact Or.inr (h9.2.1 z)
          · exact Or.inl (h9.2.2 z)
        exact sd_arraylength C hd ⟨hg.1, hg.2, hg3⟩ (IH _ _ _ _ _ e2 hE2) H locs lsC hS hL hz
      · cases es
    · cases es
  | goto off =>
    obtain rfl : len = 3 := of_decide_eq_true hln
    simp only [okI] at hI
    split at hI
    · obtain ⟨t, ht, hoff⟩ := am_to_spec hI
      exact sd_goto C hd hoff (IH _ _ _ _ _ (am_x_jump ex rfl) (am_okb hy ht))
    · cases hI
  | ifCond cnd off =>
    obtain rfl : len = 3 := of_decide_eq_true hln
    simp only [okI] at hI
    split at hI
    · rename_i c2 b
      simp only [Bool.and_eq_true, decide_eq_true_eq] at hI
      obtain ⟨rfl, hto⟩ := hI
      obtain ⟨t, ht, hoff⟩ := am_to_spec hto
      have hE2 : okO y (pc + 3) ops = true := by
        rcases hE with z | z
        · exact absurd (show false = true from z) (by decide)
        · exact z
      obtain ⟨x, st2, rfl, j1, j2⟩ := am_inv_if ex
      cases cnd with
      | eq => exact sd_if_eq C hd hoff (fun z => IH _ _ _ _ _ (j1 (decide_eq_true z)) (am_okb hy ht)) (fun z => IH _ _ _ _ _ (j2 (decide_eq_false z)) hE2)
      | ne => exact sd_if_ne C hd hoff (fun z => IH _ _ _ _ _ (j1 (decide_eq_true z)) (am_okb hy ht)) (fun z => IH _ _ _ _ _ (j2 (decide_eq_false z)) hE2)
      | lt => exact sd_if_lt C hd hoff (fun z => IH _ _ _ _ _ (j1 (decide_eq_true z)) (am_okb hy ht)) (fun z => IH _ _ _ _ _ (j2 (decide_eq_false z)) hE2)
      | ge => exact sd_if_ge C hd hoff (fun z => IH _ _ _ _ _ (j1 (decide_eq_true z)) (am_okb hy ht)) (fun z => IH _ _ _ _ _ (j2 (decide_eq_false z)) hE2)
      | gt => exact sd_if_gt C hd hoff (fun z => IH _ _ _ _ _ (j1 (decide_eq_true z)) (am_okb hy ht)) (fun z => IH _ _ _ _ _ (j2 (decide_eq_false z)) hE2)
      | le => exact sd_if_le C hd hoff (fun z => IH _ _ _ _ _ (j1 (decide_eq_true z)) (am_okb hy ht)) (fun z => IH _ _ _ _ _ (j2 (decide_eq_false z)) hE2)
    · cases hI
  | if_icmp cnd off =>
    obtain rfl : len = 3 := of_decide_eq_true hln
    simp only [okI] at hI
    split at hI
    · rename_i c2 b
      simp only [Bool.and_eq_true, decide_eq_true_eq] at hI
      obtain ⟨rfl, hto⟩ := hI
      obtain ⟨t, ht, hoff⟩ := am_to_spec hto
      have hE2 : okO y (pc + 3) ops = true := by
        rcases hE with z | z
        · exact absurd (show false = true from z) (by decide)
        · exact z
      obtain ⟨x, y1, st2, rfl, j1, j2⟩ := am_inv_ic ex
      cases cnd with
      | eq => exact sd_ic_eq C hd hoff (fun z => IH _ _ _ _ _ (j1 (decide_eq_true z)) (am_okb hy ht)) (fun z => IH _ _ _ _ _ (j2 (decide_eq_false z)) hE2)
      | ne => exact sd_ic_ne C hd hoff (fun z => IH _ _ _ _ _ (j1 (decide_eq_true z)) (am_okb hy ht)) (fun z => IH _ _ _ _ _ (j2 (decide_eq_false z)) hE2)
      | lt => exact sd_ic_lt C hd hoff (fun z => IH _ _ _ _ _ (j1 (decide_eq_true z)) (am_okb hy ht)) (fun z => IH _ _ _ _ _ (j2 (decide_eq_false z)) hE2)
      | ge => exact sd_ic_ge C hd hoff (fun z => IH _ _ _ _ _ (j1 (decide_eq_true z)) (am_okb hy ht)) (fun z => IH _ _ _ _ _ (j2 (decide_eq_false z)) hE2)
      | gt => exact sd_ic_gt C hd hoff (fun z => IH _ _ _ _ _ (j1 (decide_eq_true z)) (am_okb hy ht)) (fun z => IH _ _ _ _ _ (j2 (decide_eq_false z)) hE2)
      | le => exact sd_ic_le C hd hoff (fun z => IH _ _ _ _ _ (j1 (decide_eq_true z)) (am_okb hy ht)) (fun z => IH _ _ _ _ _ (j2 (decide_eq_false z)) hE2)
    · cases hI
  | ifnull off =>
    obtain rfl : len = 3 := of_decide_eq_true hln
    simp only [okI] at hI
    split at hI
    · obtain ⟨t, ht, hoff⟩ := am_to_spec hI
      have hE2 : okO y (pc + 3) ops = true := by
        rcases hE with z | z
        · exact absurd (show false = true from z) (by decide)
        · exact z
      obtain ⟨x, st2, rfl, j1, j2⟩ := am_inv_nu ex
      exact sd_ifnull C hd hoff (fun z => IH _ _ _ _ _ (j1 z) (am_okb hy ht)) (fun z => IH _ _ _ _ _ (j2 z) hE2)
    · cases hI
  | ifnonnull off =>
    obtain rfl : len = 3 := of_decide_eq_true hln
    simp only [okI] at hI
    split at hI
    · obtain ⟨t, ht, hoff⟩ := am_to_spec hI
      have hE2 : okO y (pc + 3) ops = true := by
        rcases hE with z | z
        · exact absurd (show false = true from z) (by decide)
        · exact z
      obtain ⟨x, st2, rfl, j1, j2⟩ := am_inv_nn ex
      exact sd_ifnonnull C hd hoff (fun z => IH _ _ _ _ _ (j1 z) hE2) (fun z => IH _ _ _ _ _ (j2 z) (am_okb hy ht))
    · cases hI
  | tableswitch dd lo hi offs =>
    simp only [okI] at hI
    split at hI
    · rename_i d2 lo2 hi2 offs2
      simp only [Bool.and_eq_true, decide_eq_true_eq] at hI
      obtain ⟨hto, rfl, rfl, hsz, hsz2, hall⟩ := hI
      obtain ⟨x, st2, rfl, e2⟩ := am_inv_sw ex
      by_cases hr : x.toInt < lo ∨ hi < x.toInt
      · obtain ⟨t, ht, hoff⟩ := am_to_spec hto
        have e3 : am_sw d2 lo hi offs2 x = d2.toNat := if_pos hr
        rw [e3] at e2
        exact sd_swOut C hd hr hoff (IH _ _ _ _ _ e2 (am_okb hy ht))
      · have e3 : am_sw d2 lo hi offs2 x = (offs2.getD (x.toInt - lo).toNat 0).toNat := if_neg hr
        have hlt : (x.toInt - lo).toNat < offs.size := by omega
        have h9 := List.all_eq_true.mp hall _ (List.mem_range.mpr hlt)
        obtain ⟨t, ht, hoff⟩ := am_to_spec h9
        rw [e3] at e2
        have hget : offs[(x.toInt - lo).toNat]? = some (offs.getD (x.toInt - lo).toNat 0) := by
          rw [Array.getElem?_eq_getElem hlt]
          simp [Array.getD, hlt]
        exact sd_swIn C hd (fun z => hr (Or.inl z)) (fun z => hr (Or.inr z)) hget hoff (IH _ _ _ _ _ e2 (am_okb hy ht))
    · cases hI
  | ireturn =>
    obtain rfl : len = 1 := of_decide_eq_true hln
    have hw := (of_decide_eq_true hI : am_tr (am_q y) .ireturn = some w)
    simp only [am_tr] at hw
    split at hw
    · rename_i hrt
      cases hw
      obtain ⟨r1, hr, hh⟩ := am_inv_rt rfl rfl rfl ex
      cases hh
      simp only [am_r] at hr
      split at hr
      · cases hr
        intro H locs lsC hS hL hz
        exact K pc .ireturn H locs lsC hd (Or.inl ⟨rfl, _, _, rfl, hrt, rfl⟩) hS
      · cases hr
    · rename_i hrt
      cases hw
      obtain ⟨r1, hr, hh⟩ := am_inv_rt rfl rfl rfl ex
      cases hh
      simp only [am_r] at hr
      split at hr
      · split at hr
        · rename_i hg
          cases hr
          intro H locs lsC hS hL hz
          exact K pc .ireturn H locs lsC hd (Or.inl ⟨rfl, _, _, rfl, hrt, by rcases hg with rfl | rfl <;> rfl⟩) hS
        · cases hr
      · cases hr
    · rename_i hrt
      cases hw
      obtain ⟨r1, hr, hh⟩ := am_inv_rt rfl rfl rfl ex
      cases hh
      simp only [am_r] at hr
      split at hr
      · split at hr
        · rename_i x hg
          cases hr
          intro H locs lsC hS hL hz
          exact K pc .ireturn H locs lsC hd (Or.inl ⟨rfl, x, _, rfl, hrt, by rw [narrow_byte, hg]⟩) hS
        · cases hr
      · cases hr
    · rename_i hrt
      cases hw
      obtain ⟨r1, hr, hh⟩ := am_inv_rt rfl rfl rfl ex
      cases hh
      simp only [am_r] at hr
      split at hr
      · split at hr
        · rename_i x hg
          cases hr
          intro H locs lsC hS hL hz
          exact K pc .ireturn H locs lsC hd (Or.inl ⟨rfl, x, _, rfl, hrt, hg⟩) hS
        · cases hr
      · cases hr
    · cases hw
  | lreturn =>
    obtain rfl : len = 1 := of_decide_eq_true hln
    have hw := (of_decide_eq_true hI : am_tr (am_q y) .lreturn = some w)
    simp only [am_tr] at hw
    split at hw
    · rename_i hrt
      cases hw
      obtain ⟨r1, hr, hh⟩ := am_inv_rt rfl rfl rfl ex
      cases hh
      simp only [am_r] at hr
      split at hr
      · cases hr
        intro H locs lsC hS hL hz
        exact K pc .lreturn H locs lsC hd (Or.inr (Or.inl ⟨rfl, _, rfl, hrt⟩)) hS
      · cases hr
    · cases hw
  | areturn =>
    obtain rfl : len = 1 := of_decide_eq_true hln
    have hw := (of_decide_eq_true hI : am_tr (am_q y) .areturn = some w)
    simp only [am_tr] at hw
    split at hw
    · rename_i nn hrt
      cases hw
      obtain ⟨r1, hr, hh⟩ := am_inv_rt rfl rfl rfl ex
      cases hh
      simp only [am_r] at hr
      split at hr
      · cases hr
        intro H locs lsC hS hL hz
        exact K pc .areturn H locs lsC hd (Or.inr (Or.inr (Or.inl ⟨rfl, _, _, rfl, hrt, Or.inl ⟨_, rfl⟩⟩))) hS
      · cases hr
    · rename_i nn hrt
      cases hw
      obtain ⟨r1, hr, hh⟩ := am_inv_rt rfl rfl rfl ex
      cases hh
      simp only [am_r] at hr
      split at hr
      · cases hr
        intro H locs lsC hS hL hz
        exact K pc .areturn H locs lsC hd (Or.inr (Or.inr (Or.inl ⟨rfl, _, _, rfl, hrt, Or.inr ⟨_, rfl⟩⟩))) hS
      · cases hr
    · cases hw
  | return_ =>
    obtain rfl : len = 1 := of_decide_eq_true hln
    have hw := (of_decide_eq_true hI : am_tr (am_q y) .return_ = some w)
    simp only [am_tr] at hw
    split at hw
    · rename_i hrt
      cases hw
      obtain ⟨r1, hr, hh⟩ := am_inv_rt rfl rfl rfl ex
      cases hh
      simp only [am_r] at hr
      split at hr
      · cases hr
        intro H locs lsC hS hL hz
        exact K pc .return_ H locs lsC hd (Or.inr (Or.inr (Or.inr ⟨rfl, rfl, hrt⟩))) hS
      · cases hr
    · cases hw
  | getfield idx =>
    obtain rfl : len = 3 := of_decide_eq_true hln
    have hm := am_lu_mem (of_decide_eq_true hI : am_lu lt_gf (am_q y).2.2.2.2 idx = some w)
    rcases lf_gf _ hm with ⟨f, z, hl⟩ | ⟨z, hl⟩ | ⟨z, hl⟩
    · change w = _ at z
      subst z
      have hE2 : okO y (pc + 3) ops = true := by
        rcases hE with z | z
        · exact absurd (show false = true from z) (by decide)
        · exact z
      obtain ⟨ls2, st2, h2, es, e2⟩ := am_x_step ex rfl rfl rfl
      simp only [am_s] at es
      split at es
      · split at es
        · rename_i hg
          cases es
          exact sd_getfield C hd hl hg.1 hg.2 (IH _ _ _ _ _ e2 hE2)
        · cases es
      · cases es
    · change w = _ at z
      subst z
      have hE2 : okO y (pc + 3) ops = true := by
        rcases hE with z | z
        · exact absurd (show false = true from z) (by decide)
        · exact z
      obtain ⟨ls2, st2, h2, es, e2⟩ := am_x_step ex rfl rfl rfl
      simp only [am_s] at es
      split at es
      · split at es
        · rename_i hg
          cases es
          exact sd_strv C hd hl hg (IH _ _ _ _ _ e2 hE2)
        · cases es
      · cases es
    · change w = _ at z
      subst z
      have hE2 : okO y (pc + 3) ops = true := by
        rcases hE with z | z
        · exact absurd (show false = true from z) (by decide)
        · exact z
      obtain ⟨ls2, st2, h2, es, e2⟩ := am_x_step ex rfl rfl rfl
      simp only [am_s] at es
      split at es
      · split at es
        · rename_i hg
          cases es
          exact sd_strc C hd hl hg (IH _ _ _ _ _ e2 hE2)
        · cases es
      · cases es
  | putfield idx =>
    obtain rfl : len = 3 := of_decide_eq_true hln
    have hw := (of_decide_eq_true hI : am_tr (am_q y) (.putfield idx) = some w)
    simp only [am_tr] at hw
    split at hw
    · rename_i f hf
      split at hw
      · cases hw
      · rename_i hfi
        cases hw
        obtain ⟨f2, z, hl, hown⟩ := lf_pf _ (am_lu_mem hf)
        cases z
        have hfin : (sd_fr f).2.2.2 = true → (sd_fr f).1 = am_on (am_q y).2.2.2.2 ∧ (am_q y).1.name = "<init>" := fun z => ⟨hown z, Decidable.byContradiction (fun z2 => hfi ⟨z, z2⟩)⟩
        have hE2 : okO y (pc + 3) ops = true := by
          rcases hE with z | z
          · exact absurd (show false = true from z) (by decide)
          · exact z
        obtain ⟨ls2, st2, h2, es, e2⟩ := am_x_step ex rfl rfl rfl
        simp only [am_s] at es
        split at es
        · split at es
          · rename_i hg
            cases es
            exact sd_puti C hd hl hfin hg.2.1 hg.2.2 hg.1 (IH _ _ _ _ _ e2 hE2)
          · cases es
        · split at es
          · rename_i hg
            cases es
            exact sd_putj C hd hl hfin hg.2.1 hg.2.2 hg.1 (IH _ _ _ _ _ e2 hE2)
          · cases es
        · split at es
          · rename_i hg
            cases es
            exact sd_putr C hd hl hfin hg.2.1 hg.2.2 hg.1 (IH _ _ _ _ _ e2 hE2)
          · cases es
        · cases es
    · cases hw
  | new idx =>
    obtain rfl : len = 3 := of_decide_eq_true hln
    obtain ⟨cN, z, hc1, hc2, hl⟩ := lf_nw _ (am_lu_mem (of_decide_eq_true hI : am_lu lt_nw (am_q y).2.2.2.2 idx = some w))
    change w = _ at z
    subst z
    have hE2 : okO y (pc + 3) ops = true := by
      rcases hE with z | z
      · exact absurd (show false = true from z) (by decide)
      · exact z
    obtain ⟨ls2, st2, h2, es, e2⟩ := am_x_step ex rfl rfl rfl
    have hm := am_x_mono _ _ _ _ _ _ _ _ _ e2
    simp only [am_s] at es
    split at es
    · cases es
      have hm1 : h.2.2.2.2.1 + 1 ≤ hF.2.2.2.2.1 := hm.1
      have hm2 : h.2.2.2.2.2 + am_sz cN ≤ hF.2.2.2.2.2 := hm.2
      exact sd_new C hd hc1 hc2 hl (by omega) (by omega) (IH _ _ _ _ _ e2 hE2)
    · cases es
  | newarray t =>
    have hw : some (Sum.inr (Instr.newarray t) : am_O) = some w := of_decide_eq_true hI
    cases hw
    obtain rfl : len = 2 := of_decide_eq_true hln
    have hE2 : okO y (pc + 2) ops = true := by
      rcases hE with z | z
      · exact absurd (show false = true from z) (by decide)
      · exact z
    obtain ⟨ls2, st2, h2, es, e2⟩ := am_x_step ex rfl rfl rfl
    have hm := am_x_mono _ _ _ _ _ _ _ _ _ e2
    simp only [am_s] at es
    split at es
    · split at es
      · rename_i n1 st1 hg
        split at es
        · cases es
          have hm1 : h.2.2.2.2.1 + 1 ≤ hF.2.2.2.2.1 := hm.1
          have hm2 : h.2.2.2.2.2 + n1.toNatClampNeg ≤ hF.2.2.2.2.2 := hm.2
          exact sd_newa_int C hd rfl hg.1 hg.2.1 (by omega) (by omega) (IH _ _ _ _ _ e2 hE2)
        · cases es
          have hm1 : h.2.2.2.2.1 + 1 ≤ hF.2.2.2.2.1 := hm.1
          have hm2 : h.2.2.2.2.2 + n1.toNatClampNeg ≤ hF.2.2.2.2.2 := hm.2
          exact sd_newa_long C hd rfl hg.1 hg.2.1 (by omega) (by omega) (IH _ _ _ _ _ e2 hE2)
        · cases es
          have hm1 : h.2.2.2.2.1 + 1 ≤ hF.2.2.2.2.1 := hm.1
          have hm2 : h.2.2.2.2.2 + n1.toNatClampNeg ≤ hF.2.2.2.2.2 := hm.2
          exact sd_newa_byte C hd rfl hg.1 hg.2.1 (by omega) (by omega) (IH _ _ _ _ _ e2 hE2)
        · cases es
      · cases es
    · cases es
  | anewarray idx =>
    obtain rfl : len = 3 := of_decide_eq_true hln
    obtain ⟨z, hl⟩ := lf_ana _ (am_lu_mem (of_decide_eq_true hI : am_lu lt_ana (am_q y).2.2.2.2 idx = some w))
    change w = _ at z
    subst z
    have hE2 : okO y (pc + 3) ops = true := by
      rcases hE with z | z
      · exact absurd (show false = true from z) (by decide)
      · exact z
    obtain ⟨ls2, st2, h2, es, e2⟩ := am_x_step ex rfl rfl rfl
    have hm := am_x_mono _ _ _ _ _ _ _ _ _ e2
    simp only [am_s] at es
    split at es
    · split at es
      · rename_i n1 st1 hg
        cases es
        have hm1 : h.2.2.2.2.1 + 1 ≤ hF.2.2.2.2.1 := hm.1
        have hm2 : h.2.2.2.2.2 + n1.toNatClampNeg ≤ hF.2.2.2.2.2 := hm.2
        exact sd_newa_q C hd hl rfl hg.1 hg.2.1 (by omega) (by omega) (IH _ _ _ _ _ e2 hE2)
      · cases es
    · cases es
  | multianewarray idx dm =>
    obtain rfl : len = 4 := of_decide_eq_true hln
    have hw := (of_decide_eq_true hI : am_tr (am_q y) (.multianewarray idx dm) = some w)
    simp only [am_tr] at hw
    split at hw
    · rename_i hdm
      subst hdm
      rcases lf_mna _ (am_lu_mem hw) with ⟨z, hl⟩ | ⟨z, hl⟩
      · skip
        change w = _ at z
        subst z
        have hE2 : okO y (pc + 4) ops = true := by
          rcases hE with z | z
          · exact absurd (show false = true from z) (by decide)
          · exact z
        obtain ⟨ls2, st2, h2, es, e2⟩ := am_x_step ex rfl rfl rfl
        have hm := am_x_mono _ _ _ _ _ _ _ _ _ e2
        simp only [am_s] at es
        split at es
        · split at es
          · rename_i m1 n1 st1 hg
            cases es
            have hm1 : h.2.2.2.2.1 + (1 + n1.toNatClampNeg) ≤ hF.2.2.2.2.1 := hm.1
            have hm2 : h.2.2.2.2.2 + (n1.toNatClampNeg + n1.toNatClampNeg * m1.toNatClampNeg) ≤ hF.2.2.2.2.2 := hm.2
            exact sd_mna (ty := .int) (kO := 24) (kI := 20) (tO := 4) (tI := 0) C hd hl (C.2.2.2.2.2.2.1.2.2.2.2.2.2.2.2.1) wx_ai rfl rfl (Or.inl rfl) (Or.inl ⟨rfl, rfl⟩) rfl rfl hg.1 hg.2.1 hg.2.2.1 hg.2.2.2.1 (by omega) (by omega) (IH _ _ _ _ _ e2 hE2)
          · cases es
        · cases es
      · skip
        change w = _ at z
        subst z
        have hE2 : okO y (pc + 4) ops = true := by
          rcases hE with z | z
          · exact absurd (show false = true from z) (by decide)
          · exact z
        obtain ⟨ls2, st2, h2, es, e2⟩ := am_x_step ex rfl rfl rfl
        have hm := am_x_mono _ _ _ _ _ _ _ _ _ e2
        simp only [am_s] at es
        split at es
        · split at es
          · rename_i m1 n1 st1 hg
            cases es
            have hm1 : h.2.2.2.2.1 + (1 + n1.toNatClampNeg) ≤ hF.2.2.2.2.1 := hm.1
            have hm2 : h.2.2.2.2.2 + (n1.toNatClampNeg + n1.toNatClampNeg * m1.toNatClampNeg) ≤ hF.2.2.2.2.2 := hm.2
            exact sd_mna (ty := .long) (kO := 25) (kI := 21) (tO := 5) (tI := 1) C hd hl (C.2.2.2.2.2.2.1.2.2.2.2.2.2.2.2.2.1) wx_al rfl rfl (Or.inr rfl) (Or.inr ⟨rfl, rfl⟩) rfl rfl hg.1 hg.2.1 hg.2.2.1 hg.2.2.2.1 (by omega) (by omega) (IH _ _ _ _ _ e2 hE2)
          · cases es
        · cases es
    · cases hw
  | instanceof idx =>
    obtain rfl : len = 3 := of_decide_eq_true hln
    obtain ⟨t, z, ht, hl⟩ := lf_ins _ (am_lu_mem (of_decide_eq_true hI : am_lu lt_ins (am_q y).2.2.2.2 idx = some w))
    change w = _ at z
    subst z
    have hE2 : okO y (pc + 3) ops = true := by
      rcases hE with z | z
      · exact absurd (show false = true from z) (by decide)
      · exact z
    obtain ⟨ls2, st2, h2, es, e2⟩ := am_x_step ex rfl rfl rfl
    simp only [am_s] at es
    split at es
    · split at es
      · rename_i hg
        cases es
        exact sd_instanceof C hd ht hl hg (IH _ _ _ _ _ e2 hE2)
      · cases es
    · cases es
  | checkcast idx =>
    obtain rfl : len = 3 := of_decide_eq_true hln
    obtain ⟨t, z, ht, hl⟩ := lf_cc _ (am_lu_mem (of_decide_eq_true hI : am_lu lt_cc (am_q y).2.2.2.2 idx = some w))
    change w = _ at z
    subst z
    have hE2 : okO y (pc + 3) ops = true := by
      rcases hE with z | z
      · exact absurd (show false = true from z) (by decide)
      · exact z
    obtain ⟨ls2, st2, h2, es, e2⟩ := am_x_step ex rfl rfl rfl
    simp only [am_s] at es
    split at es
    · split at es
      · rename_i hg
        cases es
        exact sd_checkcast C hd ht hl ⟨hg.1, hg.2.1⟩ hg.2.2 (IH _ _ _ _ _ e2 hE2)
      · cases es
    · cases es
  | invokestatic idx =>
    obtain rfl : len = 3 := of_decide_eq_true hln
    have hmem := am_lu_mem (of_decide_eq_true hI : am_lu lt_st (am_q y).2.2.2.2 idx = some w)
    have hok2 := lt_stok _ hmem
    rcases lf_st _ hmem with ⟨z, hl⟩ | ⟨k, q2, z, hq, hl, hst⟩
    · change w = _ at z
      subst z
      have hE2 : okO y (pc + 3) ops = true := by
        rcases hE with z | z
        · exact absurd (show false = true from z) (by decide)
        · exact z
      obtain ⟨ls2, st2, h2, es, e2⟩ := am_x_step ex rfl rfl rfl
      simp only [am_s] at es
      split at es
      · split at es
        · rename_i hg
          split at es
          · rename_i hk
            cases es
            exact sd_cpyi C hd hl hg.1 hg.2.1 hg.2.2.1 hg.2.2.2.1 hg.2.2.2.2.1 hg.2.2.2.2.2 hk.1 hk.2 (by omega) (by omega) (IH _ _ _ _ _ e2 hE2)
          · split at es
            · rename_i hk
              cases es
              exact sd_cpyj C hd hl hg.1 hg.2.1 hg.2.2.1 hg.2.2.2.1 hg.2.2.2.2.1 hg.2.2.2.2.2 hk.1 hk.2 (by omega) (by omega) (IH _ _ _ _ _ e2 hE2)
            · cases es
        · cases es
      · cases es
    · change w = _ at z
      subst z
      have hok3 : (am_is k && decide (k ≠ 235)) = true := hok2
      simp only [Bool.and_eq_true, decide_eq_true_eq] at hok3
      have hE2 : okO y (pc + 3) ops = true := by
        rcases hE with z | z
        · exact absurd (show false = true from z) (by decide)
        · exact z
      obtain ⟨hk, rfl⟩ := am_mtl hq
      obtain ⟨k2, as, st2, hc, d2, r1, h1, rfl, e1, e2⟩ := am_inv_cl rfl rfl rfl ex
      have hm := am_x_mono _ _ _ _ _ _ _ _ _ e2
      simp only [am_cl] at hc
      split at hc
      · rename_i as2 st3 hp
        split at hc
        · rename_i hg
          cases hc
          exact sd_cst ihn C hd hk hok3.2 hl hst hok3.1 hp hg.1 hg.2 e1 hR1 hR2 (by omega) (by omega) (IH _ _ _ _ _ e2 hE2)
        · cases hc
      · cases hc
  | invokevirtual idx =>
    obtain rfl : len = 3 := of_decide_eq_true hln
    have hmem := am_lu_mem (of_decide_eq_true hI : am_lu lt_iv (am_q y).2.2.2.2 idx = some w)
    have hok2 := lt_ivok _ hmem
    rcases lf_iv _ hmem with ⟨k, q2, z, hk5, hk0, hq, hl, hin, hse⟩ | ⟨j, x, z, hj, hx, hl⟩
    · change w = _ at z
      subst z
      have hok3 : (decide (500 ≤ k) || (!am_is k && decide (k ≠ 235))) = true := hok2
      simp only [Bool.or_eq_true, Bool.and_eq_true, decide_eq_true_eq, Bool.not_eq_true'] at hok3
      have hok4 : am_is k = false ∧ k ≠ 235 := by
        rcases hok3 with z | z
        · omega
        · exact z
      have hE2 : okO y (pc + 3) ops = true := by
        rcases hE with z | z
        · exact absurd (show false = true from z) (by decide)
        · exact z
      obtain ⟨hk, rfl⟩ := am_mtl hq
      obtain ⟨k2, as, st2, hc, d2, r1, h1, rfl, e1, e2⟩ := am_inv_cl rfl rfl rfl ex
      have hm := am_x_mono _ _ _ _ _ _ _ _ _ e2
      simp only [am_cl] at hc
      split at hc
      · rename_i a as2 st3 hp
        split at hc
        · rename_i hg
          obtain ⟨hv0, hg1, hg2⟩ := hg
          cases hc
          have hvt : am_vt k (am_k h a) = k ∧ am_k h a ≠ 0 ∧ am_rc.getD k 0 = am_k h a := by
            unfold am_vt at hv0 ⊢
            rw [if_pos hk5] at hv0 ⊢
            split at hv0
            · rename_i h9
              exact ⟨if_pos h9, h9.1, h9.2⟩
            · exact absurd rfl hv0
          rw [hvt.1] at hg2 e1
          exact sd_civ ihn C hd hk hok4.2 hl hin hse hok4.1 hvt.2.2 hvt.2.1 hp hg1 hg2 e1 hR1 hR2 (by omega) (by omega) (IH _ _ _ _ _ e2 hE2)
        · cases hc
      · cases hc
    · change w = _ at z
      subst z
      subst hx
      have hE2 : okO y (pc + 3) ops = true := by
        rcases hE with z | z
        · exact absurd (show false = true from z) (by decide)
        · exact z
      obtain ⟨k2, as, st2, hc, d2, r1, h1, rfl, e1, e2⟩ := am_inv_cl rfl rfl rfl ex
      have hm := am_x_mono _ _ _ _ _ _ _ _ _ e2
      simp only [am_cl] at hc
      split at hc
      · rename_i a as2 st3 hp
        split at hc
        · rename_i hg
          obtain ⟨hv0, hg1, hg2⟩ := hg
          cases hc
          exact sd_cpv ihn C hd hj hl hv0 rfl hp hg1 hg2 e1 hR1 hR2 (by omega) (by omega) (IH _ _ _ _ _ e2 hE2)
        · cases hc
      · cases hc
  | invokespecial idx =>
    obtain rfl : len = 3 := of_decide_eq_true hln
    have hmem := am_lu_mem (of_decide_eq_true hI : am_lu lt_is (am_q y).2.2.2.2 idx = some w)
    have hok2 := lt_isok _ hmem
    rcases lf_is _ hmem with ⟨z, hl⟩ | ⟨k, q2, z, hq, hnm, hno, hin, hl⟩ | ⟨k, q2, z, hq, hnm, hin, hl, hsm, hsu⟩
    · change w = _ at z
      subst z
      have hE2 : okO y (pc + 3) ops = true := by
        rcases hE with z | z
        · exact absurd (show false = true from z) (by decide)
        · exact z
      obtain ⟨ls2, st2, h2, es, e2⟩ := am_x_step ex rfl rfl rfl
      simp only [am_s] at es
      split at es
      · split at es
        · rename_i hg
          cases es
          exact sd_objInit C hd hl hg.1 hg.2 (by omega) (by omega) (IH _ _ _ _ _ e2 hE2)
        · cases es
      · cases es
    · change w = _ at z
      subst z
      have hok3 : (!am_is k && decide (k ≠ 235)) = true := hok2
      simp only [Bool.and_eq_true, decide_eq_true_eq, Bool.not_eq_true'] at hok3
      have hE2 : okO y (pc + 3) ops = true := by
        rcases hE with z | z
        · exact absurd (show false = true from z) (by decide)
        · exact z
      obtain ⟨hk, rfl⟩ := am_mtl hq
      obtain ⟨k2, as, st2, hc, d2, r1, h1, rfl, e1, e2⟩ := am_inv_cl rfl rfl rfl ex
      have hm := am_x_mono _ _ _ _ _ _ _ _ _ e2
      simp only [am_cl] at hc
      split at hc
      · rename_i a as2 st3 hp
        split at hc
        · rename_i hg
          cases hc
          exact sd_cis ihn C hd hk hok3.2 hnm hno hin hl hok3.1 hg.1 hp hg.2.1 hg.2.2 e1 hR1 hR2 (by omega) (by omega) (IH _ _ _ _ _ e2 hE2)
        · cases hc
      · cases hc
    · change w = _ at z
      subst z
      have hok3 : (!am_is k && decide (k ≠ 235)) = true := hok2
      simp only [Bool.and_eq_true, decide_eq_true_eq, Bool.not_eq_true'] at hok3
      have hE2 : okO y (pc + 3) ops = true := by
        rcases hE with z | z
        · exact absurd (show false = true from z) (by decide)
        · exact z
      obtain ⟨hk, rfl⟩ := am_mtl hq
      obtain ⟨k2, as, st2, hc, d2, r1, h1, rfl, e1, e2⟩ := am_inv_cl rfl rfl rfl ex
      have hm := am_x_mono _ _ _ _ _ _ _ _ _ e2
      simp only [am_cl] at hc
      split at hc
      · rename_i a as2 st3 hp
        split at hc
        · rename_i hg
          cases hc
          exact sd_csu ihn C hd hk hok3.2 hnm hin hl hsm hsu hok3.1 hg.1 hp hg.2.1 hg.2.2 e1 hR1 hR2 (by omega) (by omega) (IH _ _ _ _ _ e2 hE2)
        · cases hc
      · cases hc
  | _ => exact absurd (of_decide_eq_true (p := (none : Option am_O) = some w) hI) (by intro z; cases z)
/-- THE MACHINE OF HANDLES IS THE JVM'S -/
theorem sd_main (l : Launch) (dC : Nat → ClassId) (dI : Nat → Nat → Nat) (dA : Nat → ClassId) (s0 : Nat) (sv : Nat → Value) : ∀ n, sd_Main l dC dI dA s0 sv n := by
  intro n
  induction n with
  | zero =>
    intro d y r hF p e R s m args below meth c n0 q0 Z hy C hR1 hR2 hR3 hR4 K ops ls st h pc ex hok
    simp [am_x] at ex
  | succ n ih =>
    intro d y r hF p e R s m args below meth c n0 q0 Z hy C hR1 hR2 hR3 hR4 K ops ls st h pc ex hok
    cases ops with
    | nil => cases hok
    | cons w ops =>
      unfold okO at hok
      split at hok
      · rename_i b
        obtain ⟨t, ht, hoff⟩ := am_to_spec hok
        have e2 := am_x_jump ex rfl
        have hpc : t = pc := by omega
        subst hpc
        exact ih d y r hF p e R s m args below meth c n0 q0 Z hy C hR1 hR2 hR3 hR4 K _ _ _ _ _ e2 (am_okb hy ht)
      · exact (am_x_stuck ex rfl rfl rfl rfl).elim
      · split at hok
        · rename_i ins len hd
          simp only [Bool.and_eq_true, Bool.or_eq_true] at hok
          exact sd_one ih hy C hR1 hR2 hR3 hR4 K ex hd hok.1 hok.2.1 hok.2.2
        · cases hok
