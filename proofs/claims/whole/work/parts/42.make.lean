/-! HOURS: the tables that are made -/
/-- what makeBest and makeValue leave: V in values -/
def hT (σ : wS) (ci : Nat → Nat → Int32) (cj : Nat → Nat → Int64) (V : Nat → Int) : Prop := hB σ ci cj ∧ hV 61 σ cj V
/-- ints that hours touch beside the plan; longs -/
def frC (ci ci' : Nat → Nat → Int32) : Prop := ∀ x, x ≠ 60 → x ≠ 65 → ci' x = ci x
def frJ (cj cj' : Nat → Nat → Int64) : Prop := ∀ x, x ≠ 61 → x ≠ 64 → x ≠ 66 → x ≠ 67 → x ≠ 68 → cj' x = cj x
theorem fsP_bd {σ : wS} (O : wOK σ) {P : Nat → Nat → Int} (hP : okP σ P) {V : Nat → Int} {M : Nat} (hV : bV σ V M) : bV σ (ftc σ (sumP σ P V)) (100000 * (M + 200000000)) := by
  intro s hs
  have h := ftc_bd O (B := sumP σ P V) (M := 100 * (M + 200000000)) (fun t ht => sumP_bd O ht hP hV) s hs
  exact Nat.le_trans h (Nat.le_of_eq (by simp only [← Nat.mul_assoc, Nat.reduceMul]))
theorem fsP_bd2 {σ : wS} (O : wOK σ) {P : Nat → Nat → Int} (hP : okP σ P) {V : Nat → Int} {M : Nat} (hV : bV σ V M) (hM : M ≤ 10000000000) : bV σ (ftc σ (sumP σ P V)) 1000000000000000000 := by
  intro s hs
  have h := fsP_bd O hP hV s hs
  have h2 : 100000 * (M + 200000000) ≤ 1000000000000000000 := by omega
  exact Nat.le_trans h h2
section MAKE
variable {d : Nat} {ci0 : Nat → Nat → Int32} {cj0 : Nat → Nat → Int64} {g : am_G} {Q : Option Value → am_H → Prop} {w : Nat} {σ : wS} {V : Nat → Int} {M : Nat}
/-- one hour more, by the best -/
theorem l_87 {ci : Nat → Nat → Int32} (G : so g) (S : sc ci) (H : wo g w) (HH : ho g) (O : wOK σ) (hw : wR ci w σ) {n : Nat} (hn : n ≤ 24) (k : ∀ cj', frJ cj0 cj' → hT σ ci cj' (itr σ (pB σ) n) → Q none (ci, cj', g)) : ∀ i, i ≤ n → ∀ cj, frJ cj0 cj → hT σ ci cj (itr σ (pB σ) i) → X (d + 4) 87 (am_bk 87 1) [.ref 60, .ref w, .int (nI n), .int (nI i)] [] (ci, cj, g) Q := by
  refine up_ind ?_ ?_
  · intro cj f h
    rw [bk_87_1]
    simp only [bq_87_1, bk_87_2, bq_87_2, X_push, X_goto, X_fall, X_ifeq, X_ifne, X_iflt, X_ifge, X_ifgt, X_ifle, X_iceq, X_icne, X_iclt, X_icge, X_icgt, X_icle, X_ifnull, X_ifnonnull, X_switch, X_ireturn, X_lreturn, X_areturn, X_return, X_zreturn, X_iload, X_lload, X_aload, X_istore, X_astore, X_lstore, X_iinc, X_iadd, X_isub, X_imul, X_idiv, X_irem, X_iand, X_ior, X_ishl, X_ishr, X_iushr, X_ladd, X_lsub, X_lmul, X_ldiv, X_land, X_lor, X_lshl, X_lcmp, X_ineg, X_i2l, X_l2i, X_i2b, X_i2s, X_i2c, X_dupr, X_dupi, X_dup_x1, X_dup2, X_popi, X_popr, X_iaload, X_baload, X_laload, X_aaload, X_iastore, X_bastore, X_lastore, X_aastore, X_arraylength, am_wt_0, am_wt_int, am_wt_long, am_wt_ref, List.getElem?_cons_zero, List.getElem?_cons_succ, am_s1, am_s2, am_kill, List.set_cons_zero, List.set_cons_succ, List.length_cons, List.length_nil, Int.reduceToNat, Nat.reduceAdd, Nat.reduceLeDiff, Nat.reduceLT, Option.toList_some, Option.toList_none, List.cons_append, List.nil_append, true_and, and_true, true_or, or_true, false_or, or_false, and_self, false_and, not_false_eq_true, not_true_eq_false, Int32.le_refl, if_true]
    exact k cj f h
  · intro i hi ih cj f h
    have h1 : ¬ nI n ≤ nI i := nI_ge hi (by omega)
    have bd := itr_bd O (pB_ok O) i
    rw [bk_87_1]
    simp only [bq_87_1, true_and, X_push, X_goto, X_fall, X_ifeq, X_ifne, X_iflt, X_ifge, X_ifgt, X_ifle, X_iceq, X_icne, X_iclt, X_icge, X_icgt, X_icle, X_ifnull, X_ifnonnull, X_switch, X_ireturn, X_lreturn, X_areturn, X_return, X_zreturn, X_iload, X_lload, X_aload, X_istore, X_astore, X_lstore, X_iinc, X_iadd, X_isub, X_imul, X_idiv, X_irem, X_iand, X_ior, X_ishl, X_ishr, X_iushr, X_ladd, X_lsub, X_lmul, X_ldiv, X_land, X_lor, X_lshl, X_lcmp, X_ineg, X_i2l, X_l2i, X_i2b, X_i2s, X_i2c, X_dupr, X_dupi, X_dup_x1, X_dup2, X_popi, X_popr, X_iaload, X_baload, X_laload, X_aaload, X_iastore, X_bastore, X_lastore, X_aastore, X_arraylength, am_wt_0, am_wt_int, am_wt_long, am_wt_ref, List.getElem?_cons_zero, List.getElem?_cons_succ, am_s1, am_s2, am_kill, List.set_cons_zero, List.set_cons_succ, List.length_cons, List.length_nil, Int.reduceToNat, Nat.reduceAdd, Nat.reduceLeDiff, Nat.reduceLT, Option.toList_some, Option.toList_none, List.cons_append, List.nil_append, true_and, and_true, true_or, or_true, false_or, or_false, and_self, false_and, not_false_eq_true, not_true_eq_false, ho_k HH, ho_r0 HH, ho_r1 HH, ho_r2 HH, ho_r3 HH, ho_r4 HH, ho_r6 HH, ho_r7 HH, ho_r8 HH, ho_a1 HH, ho_n1 HH, ho_a2 HH, ho_n2 HH, ho_a3 HH, ho_n3 HH, ho_a4 HH, ho_n4 HH, ho_a5 HH, ho_n5 HH, ho_a6 HH, ho_n6 HH, ho_a7 HH, ho_n7 HH, ho_a8 HH, ho_n8 HH, h1, if_false, C_91]
    refine c_91 H HH O hw (show i * 200000000 ≤ 10000000000 by omega) bd h.1 h.2 ?_
    intro cj1 f1 v1
    simp only [X_push, X_goto, X_fall, X_ifeq, X_ifne, X_iflt, X_ifge, X_ifgt, X_ifle, X_iceq, X_icne, X_iclt, X_icge, X_icgt, X_icle, X_ifnull, X_ifnonnull, X_switch, X_ireturn, X_lreturn, X_areturn, X_return, X_zreturn, X_iload, X_lload, X_aload, X_istore, X_astore, X_lstore, X_iinc, X_iadd, X_isub, X_imul, X_idiv, X_irem, X_iand, X_ior, X_ishl, X_ishr, X_iushr, X_ladd, X_lsub, X_lmul, X_ldiv, X_land, X_lor, X_lshl, X_lcmp, X_ineg, X_i2l, X_l2i, X_i2b, X_i2s, X_i2c, X_dupr, X_dupi, X_dup_x1, X_dup2, X_popi, X_popr, X_iaload, X_baload, X_laload, X_aaload, X_iastore, X_bastore, X_lastore, X_aastore, X_arraylength, am_wt_0, am_wt_int, am_wt_long, am_wt_ref, List.getElem?_cons_zero, List.getElem?_cons_succ, am_s1, am_s2, am_kill, List.set_cons_zero, List.set_cons_succ, List.length_cons, List.length_nil, Int.reduceToNat, Nat.reduceAdd, Nat.reduceLeDiff, Nat.reduceLT, Option.toList_some, Option.toList_none, List.cons_append, List.nil_append, true_and, and_true, true_or, or_true, false_or, or_false, and_self, false_and, not_false_eq_true, not_true_eq_false, ho_k HH, ho_r0 HH, ho_r1 HH, ho_r2 HH, ho_r3 HH, ho_r4 HH, ho_r6 HH, ho_r7 HH, ho_r8 HH, ho_a1 HH, ho_n1 HH, ho_a2 HH, ho_n2 HH, ho_a3 HH, ho_n3 HH, ho_a4 HH, ho_n4 HH, ho_a5 HH, ho_n5 HH, ho_a6 HH, ho_n6 HH, ho_a7 HH, ho_n7 HH, ho_a8 HH, ho_n8 HH, C_94]
    refine c_94 G S H HH O hw h.1.1 h.1.2.1 v1 ?_
    intro cj2 f2 v2
    simp only [X_push, X_goto, X_fall, X_ifeq, X_ifne, X_iflt, X_ifge, X_ifgt, X_ifle, X_iceq, X_icne, X_iclt, X_icge, X_icgt, X_icle, X_ifnull, X_ifnonnull, X_switch, X_ireturn, X_lreturn, X_areturn, X_return, X_zreturn, X_iload, X_lload, X_aload, X_istore, X_astore, X_lstore, X_iinc, X_iadd, X_isub, X_imul, X_idiv, X_irem, X_iand, X_ior, X_ishl, X_ishr, X_iushr, X_ladd, X_lsub, X_lmul, X_ldiv, X_land, X_lor, X_lshl, X_lcmp, X_ineg, X_i2l, X_l2i, X_i2b, X_i2s, X_i2c, X_dupr, X_dupi, X_dup_x1, X_dup2, X_popi, X_popr, X_iaload, X_baload, X_laload, X_aaload, X_iastore, X_bastore, X_lastore, X_aastore, X_arraylength, am_wt_0, am_wt_int, am_wt_long, am_wt_ref, List.getElem?_cons_zero, List.getElem?_cons_succ, am_s1, am_s2, am_kill, List.set_cons_zero, List.set_cons_succ, List.length_cons, List.length_nil, Int.reduceToNat, Nat.reduceAdd, Nat.reduceLeDiff, Nat.reduceLT, Option.toList_some, Option.toList_none, List.cons_append, List.nil_append, true_and, and_true, true_or, or_true, false_or, or_false, and_self, false_and, not_false_eq_true, not_true_eq_false, ho_k HH, ho_r0 HH, ho_r1 HH, ho_r2 HH, ho_r3 HH, ho_r4 HH, ho_r6 HH, ho_r7 HH, ho_r8 HH, ho_a1 HH, ho_n1 HH, ho_a2 HH, ho_n2 HH, ho_a3 HH, ho_n3 HH, ho_a4 HH, ho_n4 HH, ho_a5 HH, ho_n5 HH, ho_a6 HH, ho_n6 HH, ho_a7 HH, ho_n7 HH, ho_a8 HH, ho_n8 HH, C_96]
    have b2 : bV σ (ftc σ (sumP σ (pB σ (itr σ (pB σ) i)) (itr σ (pB σ) i))) 1000000000000000000 := fsP_bd2 O (pB_ok O _) bd (by omega)
    refine c_96 HH h.1.1 h.1.2.1 v2 b2 ?_
    intro cj3 f3 v3
    simp only [X_push, X_goto, X_fall, X_ifeq, X_ifne, X_iflt, X_ifge, X_ifgt, X_ifle, X_iceq, X_icne, X_iclt, X_icge, X_icgt, X_icle, X_ifnull, X_ifnonnull, X_switch, X_ireturn, X_lreturn, X_areturn, X_return, X_zreturn, X_iload, X_lload, X_aload, X_istore, X_astore, X_lstore, X_iinc, X_iadd, X_isub, X_imul, X_idiv, X_irem, X_iand, X_ior, X_ishl, X_ishr, X_iushr, X_ladd, X_lsub, X_lmul, X_ldiv, X_land, X_lor, X_lshl, X_lcmp, X_ineg, X_i2l, X_l2i, X_i2b, X_i2s, X_i2c, X_dupr, X_dupi, X_dup_x1, X_dup2, X_popi, X_popr, X_iaload, X_baload, X_laload, X_aaload, X_iastore, X_bastore, X_lastore, X_aastore, X_arraylength, am_wt_0, am_wt_int, am_wt_long, am_wt_ref, List.getElem?_cons_zero, List.getElem?_cons_succ, am_s1, am_s2, am_kill, List.set_cons_zero, List.set_cons_succ, List.length_cons, List.length_nil, Int.reduceToNat, Nat.reduceAdd, Nat.reduceLeDiff, Nat.reduceLT, Option.toList_some, Option.toList_none, List.cons_append, List.nil_append, true_and, and_true, true_or, or_true, false_or, or_false, and_self, false_and, not_false_eq_true, not_true_eq_false, oi_1, nI_add]
    refine ih cj3 (fun x a b c e q => ?_) ⟨?_, v3⟩
    · rw [f3 x a, f2 x b, f1 x b q]; exact f x a b c e q
    · exact hB_fr (by rw [f3 66 (by decide), f2 66 (by decide), f1 66 (by decide) (by decide)]) (by rw [f3 67 (by decide), f2 67 (by decide), f1 67 (by decide) (by decide)]) h.1
/-- makeBest -/
theorem c_87 (G : so g) (S : sc ci0) (H : wo g w) (h60 : w + 8 < 60) (HH : ho g) (O : wOK σ) (hw : wR ci0 w σ) {n : Nat} (hn : n ≤ 24) (k : ∀ ci' cj', frC ci0 ci' → frJ cj0 cj' → hT σ ci' cj' (itr σ (pB σ) n) → Q none (ci', cj', g)) : X (d + 4) 87 (am_bk 87 0) [.ref 60, .ref w, .int (nI n), .null] [] (ci0, cj0, g) Q := by
  simp only [bk_87_0, bq_87_0, true_and, X_push, X_goto, X_fall, X_ifeq, X_ifne, X_iflt, X_ifge, X_ifgt, X_ifle, X_iceq, X_icne, X_iclt, X_icge, X_icgt, X_icle, X_ifnull, X_ifnonnull, X_switch, X_ireturn, X_lreturn, X_areturn, X_return, X_zreturn, X_iload, X_lload, X_aload, X_istore, X_astore, X_lstore, X_iinc, X_iadd, X_isub, X_imul, X_idiv, X_irem, X_iand, X_ior, X_ishl, X_ishr, X_iushr, X_ladd, X_lsub, X_lmul, X_ldiv, X_land, X_lor, X_lshl, X_lcmp, X_ineg, X_i2l, X_l2i, X_i2b, X_i2s, X_i2c, X_dupr, X_dupi, X_dup_x1, X_dup2, X_popi, X_popr, X_iaload, X_baload, X_laload, X_aaload, X_iastore, X_bastore, X_lastore, X_aastore, X_arraylength, am_wt_0, am_wt_int, am_wt_long, am_wt_ref, List.getElem?_cons_zero, List.getElem?_cons_succ, am_s1, am_s2, am_kill, List.set_cons_zero, List.set_cons_succ, List.length_cons, List.length_nil, Int.reduceToNat, Nat.reduceAdd, Nat.reduceLeDiff, Nat.reduceLT, Option.toList_some, Option.toList_none, List.cons_append, List.nil_append, true_and, and_true, true_or, or_true, false_or, or_false, and_self, false_and, not_false_eq_true, not_true_eq_false, ho_k HH, ho_r0 HH, ho_r1 HH, ho_r2 HH, ho_r3 HH, ho_r4 HH, ho_r6 HH, ho_r7 HH, ho_r8 HH, ho_a1 HH, ho_n1 HH, ho_a2 HH, ho_n2 HH, ho_a3 HH, ho_n3 HH, ho_a4 HH, ho_n4 HH, ho_a5 HH, ho_n5 HH, ho_a6 HH, ho_n6 HH, ho_a7 HH, ho_n7 HH, ho_a8 HH, ho_n8 HH, C_86]
  refine c_86 G S H h60 HH O hw ?_
  intro ci cj f1 f2 B hz
  simp only [X_push, X_goto, X_fall, X_ifeq, X_ifne, X_iflt, X_ifge, X_ifgt, X_ifle, X_iceq, X_icne, X_iclt, X_icge, X_icgt, X_icle, X_ifnull, X_ifnonnull, X_switch, X_ireturn, X_lreturn, X_areturn, X_return, X_zreturn, X_iload, X_lload, X_aload, X_istore, X_astore, X_lstore, X_iinc, X_iadd, X_isub, X_imul, X_idiv, X_irem, X_iand, X_ior, X_ishl, X_ishr, X_iushr, X_ladd, X_lsub, X_lmul, X_ldiv, X_land, X_lor, X_lshl, X_lcmp, X_ineg, X_i2l, X_l2i, X_i2b, X_i2s, X_i2c, X_dupr, X_dupi, X_dup_x1, X_dup2, X_popi, X_popr, X_iaload, X_baload, X_laload, X_aaload, X_iastore, X_bastore, X_lastore, X_aastore, X_arraylength, am_wt_0, am_wt_int, am_wt_long, am_wt_ref, List.getElem?_cons_zero, List.getElem?_cons_succ, am_s1, am_s2, am_kill, List.set_cons_zero, List.set_cons_succ, List.length_cons, List.length_nil, Int.reduceToNat, Nat.reduceAdd, Nat.reduceLeDiff, Nat.reduceLT, Option.toList_some, Option.toList_none, List.cons_append, List.nil_append, true_and, and_true, true_or, or_true, false_or, or_false, and_self, false_and, not_false_eq_true, not_true_eq_false]
  exact l_87 (cj0 := cj0) G (sc_fr S (fun x hx => f1 x (by omega) (by omega))) H HH O (wR_fr (fun x a b => f1 x (by omega) (by omega)) hw) hn (fun cj' => k ci cj' f1) 0 (by omega) cj (fun x a b c e q => f2 x a c e) ⟨B, fun s hs => by rw [hz s hs]; rfl⟩
theorem l_90 {ci : Nat → Nat → Int32} (G : so g) (S : sc ci) (H : wo g w) (HH : ho g) (O : wOK σ) (hw : wR ci w σ) {P : Nat → Nat → Int} (hP : okP σ P) (hp : ∀ k, k < sCn σ → ∀ s, isS σ s = true → ci 63 (k * 125 + s) = iI (P k s)) {n : Nat} (hn : n ≤ 24) (k : ∀ cj', frJ cj0 cj' → hT σ ci cj' (itr σ (fun _ => P) n) → Q none (ci, cj', g)) : ∀ i, i ≤ n → ∀ cj, frJ cj0 cj → hT σ ci cj (itr σ (fun _ => P) i) → X (d + 4) 90 (am_bk 90 1) [.ref 60, .ref w, .int (nI n), .int (nI i)] [] (ci, cj, g) Q := by
  refine up_ind ?_ ?_
  · intro cj f h
    rw [bk_90_1]
    simp only [bq_90_1, bk_90_2, bq_90_2, X_push, X_goto, X_fall, X_ifeq, X_ifne, X_iflt, X_ifge, X_ifgt, X_ifle, X_iceq, X_icne, X_iclt, X_icge, X_icgt, X_icle, X_ifnull, X_ifnonnull, X_switch, X_ireturn, X_lreturn, X_areturn, X_return, X_zreturn, X_iload, X_lload, X_aload, X_istore, X_astore, X_lstore, X_iinc, X_iadd, X_isub, X_imul, X_idiv, X_irem, X_iand, X_ior, X_ishl, X_ishr, X_iushr, X_ladd, X_lsub, X_lmul, X_ldiv, X_land, X_lor, X_lshl, X_lcmp, X_ineg, X_i2l, X_l2i, X_i2b, X_i2s, X_i2c, X_dupr, X_dupi, X_dup_x1, X_dup2, X_popi, X_popr, X_iaload, X_baload, X_laload, X_aaload, X_iastore, X_bastore, X_lastore, X_aastore, X_arraylength, am_wt_0, am_wt_int, am_wt_long, am_wt_ref, List.getElem?_cons_zero, List.getElem?_cons_succ, am_s1, am_s2, am_kill, List.set_cons_zero, List.set_cons_succ, List.length_cons, List.length_nil, Int.reduceToNat, Nat.reduceAdd, Nat.reduceLeDiff, Nat.reduceLT, Option.toList_some, Option.toList_none, List.cons_append, List.nil_append, true_and, and_true, true_or, or_true, false_or, or_false, and_self, false_and, not_false_eq_true, not_true_eq_false, Int32.le_refl, if_true]
    exact k cj f h
  · intro i hi ih cj f h
    have h1 : ¬ nI n ≤ nI i := nI_ge hi (by omega)
    have bd := itr_bd O (P := fun _ => P) (fun _ => hP) i
    rw [bk_90_1]
    simp only [bq_90_1, true_and, X_push, X_goto, X_fall, X_ifeq, X_ifne, X_iflt, X_ifge, X_ifgt, X_ifle, X_iceq, X_icne, X_iclt, X_icge, X_icgt, X_icle, X_ifnull, X_ifnonnull, X_switch, X_ireturn, X_lreturn, X_areturn, X_return, X_zreturn, X_iload, X_lload, X_aload, X_istore, X_astore, X_lstore, X_iinc, X_iadd, X_isub, X_imul, X_idiv, X_irem, X_iand, X_ior, X_ishl, X_ishr, X_iushr, X_ladd, X_lsub, X_lmul, X_ldiv, X_land, X_lor, X_lshl, X_lcmp, X_ineg, X_i2l, X_l2i, X_i2b, X_i2s, X_i2c, X_dupr, X_dupi, X_dup_x1, X_dup2, X_popi, X_popr, X_iaload, X_baload, X_laload, X_aaload, X_iastore, X_bastore, X_lastore, X_aastore, X_arraylength, am_wt_0, am_wt_int, am_wt_long, am_wt_ref, List.getElem?_cons_zero, List.getElem?_cons_succ, am_s1, am_s2, am_kill, List.set_cons_zero, List.set_cons_succ, List.length_cons, List.length_nil, Int.reduceToNat, Nat.reduceAdd, Nat.reduceLeDiff, Nat.reduceLT, Option.toList_some, Option.toList_none, List.cons_append, List.nil_append, true_and, and_true, true_or, or_true, false_or, or_false, and_self, false_and, not_false_eq_true, not_true_eq_false, ho_k HH, ho_r0 HH, ho_r1 HH, ho_r2 HH, ho_r3 HH, ho_r4 HH, ho_r6 HH, ho_r7 HH, ho_r8 HH, ho_a1 HH, ho_n1 HH, ho_a2 HH, ho_n2 HH, ho_a3 HH, ho_n3 HH, ho_a4 HH, ho_n4 HH, ho_a5 HH, ho_n5 HH, ho_a6 HH, ho_n6 HH, ho_a7 HH, ho_n7 HH, ho_a8 HH, ho_n8 HH, h1, if_false, C_93]
    refine c_93 G S H HH O hw h.1 h.2 hP hp ?_
    intro cj1 f1 v1
    simp only [X_push, X_goto, X_fall, X_ifeq, X_ifne, X_iflt, X_ifge, X_ifgt, X_ifle, X_iceq, X_icne, X_iclt, X_icge, X_icgt, X_icle, X_ifnull, X_ifnonnull, X_switch, X_ireturn, X_lreturn, X_areturn, X_return, X_zreturn, X_iload, X_lload, X_aload, X_istore, X_astore, X_lstore, X_iinc, X_iadd, X_isub, X_imul, X_idiv, X_irem, X_iand, X_ior, X_ishl, X_ishr, X_iushr, X_ladd, X_lsub, X_lmul, X_ldiv, X_land, X_lor, X_lshl, X_lcmp, X_ineg, X_i2l, X_l2i, X_i2b, X_i2s, X_i2c, X_dupr, X_dupi, X_dup_x1, X_dup2, X_popi, X_popr, X_iaload, X_baload, X_laload, X_aaload, X_iastore, X_bastore, X_lastore, X_aastore, X_arraylength, am_wt_0, am_wt_int, am_wt_long, am_wt_ref, List.getElem?_cons_zero, List.getElem?_cons_succ, am_s1, am_s2, am_kill, List.set_cons_zero, List.set_cons_succ, List.length_cons, List.length_nil, Int.reduceToNat, Nat.reduceAdd, Nat.reduceLeDiff, Nat.reduceLT, Option.toList_some, Option.toList_none, List.cons_append, List.nil_append, true_and, and_true, true_or, or_true, false_or, or_false, and_self, false_and, not_false_eq_true, not_true_eq_false, ho_k HH, ho_r0 HH, ho_r1 HH, ho_r2 HH, ho_r3 HH, ho_r4 HH, ho_r6 HH, ho_r7 HH, ho_r8 HH, ho_a1 HH, ho_n1 HH, ho_a2 HH, ho_n2 HH, ho_a3 HH, ho_n3 HH, ho_a4 HH, ho_n4 HH, ho_a5 HH, ho_n5 HH, ho_a6 HH, ho_n6 HH, ho_a7 HH, ho_n7 HH, ho_a8 HH, ho_n8 HH, C_94]
    refine c_94 G S H HH O hw h.1.1 h.1.2.1 v1 ?_
    intro cj2 f2 v2
    simp only [X_push, X_goto, X_fall, X_ifeq, X_ifne, X_iflt, X_ifge, X_ifgt, X_ifle, X_iceq, X_icne, X_iclt, X_icge, X_icgt, X_icle, X_ifnull, X_ifnonnull, X_switch, X_ireturn, X_lreturn, X_areturn, X_return, X_zreturn, X_iload, X_lload, X_aload, X_istore, X_astore, X_lstore, X_iinc, X_iadd, X_isub, X_imul, X_idiv, X_irem, X_iand, X_ior, X_ishl, X_ishr, X_iushr, X_ladd, X_lsub, X_lmul, X_ldiv, X_land, X_lor, X_lshl, X_lcmp, X_ineg, X_i2l, X_l2i, X_i2b, X_i2s, X_i2c, X_dupr, X_dupi, X_dup_x1, X_dup2, X_popi, X_popr, X_iaload, X_baload, X_laload, X_aaload, X_iastore, X_bastore, X_lastore, X_aastore, X_arraylength, am_wt_0, am_wt_int, am_wt_long, am_wt_ref, List.getElem?_cons_zero, List.getElem?_cons_succ, am_s1, am_s2, am_kill, List.set_cons_zero, List.set_cons_succ, List.length_cons, List.length_nil, Int.reduceToNat, Nat.reduceAdd, Nat.reduceLeDiff, Nat.reduceLT, Option.toList_some, Option.toList_none, List.cons_append, List.nil_append, true_and, and_true, true_or, or_true, false_or, or_false, and_self, false_and, not_false_eq_true, not_true_eq_false, ho_k HH, ho_r0 HH, ho_r1 HH, ho_r2 HH, ho_r3 HH, ho_r4 HH, ho_r6 HH, ho_r7 HH, ho_r8 HH, ho_a1 HH, ho_n1 HH, ho_a2 HH, ho_n2 HH, ho_a3 HH, ho_n3 HH, ho_a4 HH, ho_n4 HH, ho_a5 HH, ho_n5 HH, ho_a6 HH, ho_n6 HH, ho_a7 HH, ho_n7 HH, ho_a8 HH, ho_n8 HH, C_96]
    have b2 : bV σ (ftc σ (sumP σ P (itr σ (fun _ => P) i))) 1000000000000000000 := fsP_bd2 O hP bd (by omega)
    refine c_96 HH h.1.1 h.1.2.1 v2 b2 ?_
    intro cj3 f3 v3
    simp only [X_push, X_goto, X_fall, X_ifeq, X_ifne, X_iflt, X_ifge, X_ifgt, X_ifle, X_iceq, X_icne, X_iclt, X_icge, X_icgt, X_icle, X_ifnull, X_ifnonnull, X_switch, X_ireturn, X_lreturn, X_areturn, X_return, X_zreturn, X_iload, X_lload, X_aload, X_istore, X_astore, X_lstore, X_iinc, X_iadd, X_isub, X_imul, X_idiv, X_irem, X_iand, X_ior, X_ishl, X_ishr, X_iushr, X_ladd, X_lsub, X_lmul, X_ldiv, X_land, X_lor, X_lshl, X_lcmp, X_ineg, X_i2l, X_l2i, X_i2b, X_i2s, X_i2c, X_dupr, X_dupi, X_dup_x1, X_dup2, X_popi, X_popr, X_iaload, X_baload, X_laload, X_aaload, X_iastore, X_bastore, X_lastore, X_aastore, X_arraylength, am_wt_0, am_wt_int, am_wt_long, am_wt_ref, List.getElem?_cons_zero, List.getElem?_cons_succ, am_s1, am_s2, am_kill, List.set_cons_zero, List.set_cons_succ, List.length_cons, List.length_nil, Int.reduceToNat, Nat.reduceAdd, Nat.reduceLeDiff, Nat.reduceLT, Option.toList_some, Option.toList_none, List.cons_append, List.nil_append, true_and, and_true, true_or, or_true, false_or, or_false, and_self, false_and, not_false_eq_true, not_true_eq_false, oi_1, nI_add]
    refine ih cj3 (fun x a b c e q => ?_) ⟨?_, v3⟩
    · rw [f3 x a, f2 x b, f1 x b q]; exact f x a b c e q
    · exact hB_fr (by rw [f3 66 (by decide), f2 66 (by decide), f1 66 (by decide) (by decide)]) (by rw [f3 67 (by decide), f2 67 (by decide), f1 67 (by decide) (by decide)]) h.1
/-- makeValue -/
theorem c_90 (G : so g) (S : sc ci0) (H : wo g w) (h60 : w + 8 < 60) (HH : ho g) (O : wOK σ) (hw : wR ci0 w σ) {P : Nat → Nat → Int} (hP : okP σ P) (hp : ∀ k, k < sCn σ → ∀ s, isS σ s = true → ci0 63 (k * 125 + s) = iI (P k s)) {n : Nat} (hn : n ≤ 24) (k : ∀ ci' cj', frC ci0 ci' → frJ cj0 cj' → hT σ ci' cj' (itr σ (fun _ => P) n) → Q none (ci', cj', g)) : X (d + 4) 90 (am_bk 90 0) [.ref 60, .ref w, .int (nI n), .null] [] (ci0, cj0, g) Q := by
  simp only [bk_90_0, bq_90_0, true_and, X_push, X_goto, X_fall, X_ifeq, X_ifne, X_iflt, X_ifge, X_ifgt, X_ifle, X_iceq, X_icne, X_iclt, X_icge, X_icgt, X_icle, X_ifnull, X_ifnonnull, X_switch, X_ireturn, X_lreturn, X_areturn, X_return, X_zreturn, X_iload, X_lload, X_aload, X_istore, X_astore, X_lstore, X_iinc, X_iadd, X_isub, X_imul, X_idiv, X_irem, X_iand, X_ior, X_ishl, X_ishr, X_iushr, X_ladd, X_lsub, X_lmul, X_ldiv, X_land, X_lor, X_lshl, X_lcmp, X_ineg, X_i2l, X_l2i, X_i2b, X_i2s, X_i2c, X_dupr, X_dupi, X_dup_x1, X_dup2, X_popi, X_popr, X_iaload, X_baload, X_laload, X_aaload, X_iastore, X_bastore, X_lastore, X_aastore, X_arraylength, am_wt_0, am_wt_int, am_wt_long, am_wt_ref, List.getElem?_cons_zero, List.getElem?_cons_succ, am_s1, am_s2, am_kill, List.set_cons_zero, List.set_cons_succ, List.length_cons, List.length_nil, Int.reduceToNat, Nat.reduceAdd, Nat.reduceLeDiff, Nat.reduceLT, Option.toList_some, Option.toList_none, List.cons_append, List.nil_append, true_and, and_true, true_or, or_true, false_or, or_false, and_self, false_and, not_false_eq_true, not_true_eq_false, ho_k HH, ho_r0 HH, ho_r1 HH, ho_r2 HH, ho_r3 HH, ho_r4 HH, ho_r6 HH, ho_r7 HH, ho_r8 HH, ho_a1 HH, ho_n1 HH, ho_a2 HH, ho_n2 HH, ho_a3 HH, ho_n3 HH, ho_a4 HH, ho_n4 HH, ho_a5 HH, ho_n5 HH, ho_a6 HH, ho_n6 HH, ho_a7 HH, ho_n7 HH, ho_a8 HH, ho_n8 HH, C_86]
  refine c_86 G S H h60 HH O hw ?_
  intro ci cj f1 f2 B hz
  simp only [X_push, X_goto, X_fall, X_ifeq, X_ifne, X_iflt, X_ifge, X_ifgt, X_ifle, X_iceq, X_icne, X_iclt, X_icge, X_icgt, X_icle, X_ifnull, X_ifnonnull, X_switch, X_ireturn, X_lreturn, X_areturn, X_return, X_zreturn, X_iload, X_lload, X_aload, X_istore, X_astore, X_lstore, X_iinc, X_iadd, X_isub, X_imul, X_idiv, X_irem, X_iand, X_ior, X_ishl, X_ishr, X_iushr, X_ladd, X_lsub, X_lmul, X_ldiv, X_land, X_lor, X_lshl, X_lcmp, X_ineg, X_i2l, X_l2i, X_i2b, X_i2s, X_i2c, X_dupr, X_dupi, X_dup_x1, X_dup2, X_popi, X_popr, X_iaload, X_baload, X_laload, X_aaload, X_iastore, X_bastore, X_lastore, X_aastore, X_arraylength, am_wt_0, am_wt_int, am_wt_long, am_wt_ref, List.getElem?_cons_zero, List.getElem?_cons_succ, am_s1, am_s2, am_kill, List.set_cons_zero, List.set_cons_succ, List.length_cons, List.length_nil, Int.reduceToNat, Nat.reduceAdd, Nat.reduceLeDiff, Nat.reduceLT, Option.toList_some, Option.toList_none, List.cons_append, List.nil_append, true_and, and_true, true_or, or_true, false_or, or_false, and_self, false_and, not_false_eq_true, not_true_eq_false]
  exact l_90 (cj0 := cj0) G (sc_fr S (fun x hx => f1 x (by omega) (by omega))) H HH O (wR_fr (fun x a b => f1 x (by omega) (by omega)) hw) hP (by rw [f1 63 (by decide) (by decide)]; exact hp) hn (fun cj' => k ci cj' f1) 0 (by omega) cj (fun x a b c e q => f2 x a c e) ⟨B, fun s hs => by rw [hz s hs]; rfl⟩
/-- two walls that differ in what goes, and in what is full -/
def wGo (σ τ : wS) : Prop := sBx τ = sBx σ ∧ sSz τ = sSz σ ∧ sCo τ = sCo σ ∧ sWo τ = sWo σ ∧ sBa τ = sBa σ ∧ sCn τ = sCn σ ∧ sNe τ = sNe σ ∧ sWa τ = sWa σ
theorem wGo_isS {σ τ : wS} (h : wGo σ τ) : isS τ = isS σ := by funext s; unfold isS; rw [h.1]
theorem wGo_cnt {σ τ : wS} (h : wGo σ τ) : cnt τ = cnt σ := by
  funext s
  induction s with
  | zero => rfl
  | succ s ih => show cnt τ s + _ = cnt σ s + _; rw [ih, wGo_isS h]
theorem wGo_lost {σ τ : wS} (h : wGo σ τ) : lost τ = lost σ := by
  obtain ⟨-, -, -, h4, h5, -, h7, h8⟩ := h
  funext k; unfold lost; rw [h4, h5, h7, h8]
theorem wGo_gain {σ τ : wS} (h : wGo σ τ) : gain τ = gain σ := by
  obtain ⟨-, -, -, h4, h5, -, h7, h8⟩ := h
  funext k; unfold gain; rw [h4]
theorem wGo_pz {σ τ : wS} (h : wGo σ τ) : pz τ = pz σ := by
  have e1 := wGo_lost h
  have e2 := wGo_gain h
  have e3 : pzS τ = pzS σ := by funext k s V j p; unfold pzS; rw [e2]
  have e4 : ∀ m k s V j p, pzF τ k s V m j p = pzF σ k s V m j p := by
    intro m
    induction m with
    | zero => intros; rfl
    | succ m ih => intro k s V j p; show pzF τ k s V m (j + 1) (pzS τ k s V j p) = pzF σ k s V m (j + 1) (pzS σ k s V j p); rw [e3, ih]
  funext k s V
  unfold pz
  rw [e4, e1, h.2.1]
theorem wGo_sumP {σ τ : wS} (h : wGo σ τ) : sumP τ = sumP σ := by
  have e1 := wGo_lost h
  have e2 := wGo_gain h
  have e3 : out τ = out σ := by funext k z s V; unfold out; rw [e1, e2]
  funext P V s
  unfold sumP
  rw [e3, h.2.2.1, h.2.2.2.2.2.1]
theorem wGo_ftc {σ τ : wS} (h : wGo σ τ) (h2 : sGo τ = sGo σ) : ftc τ = ftc σ := by
  have e : ft1 τ = ft1 σ := by funext j B s; unfold ft1; rw [h.1, h2]
  funext B
  unfold ftc
  rw [e]
theorem wGo_step {σ τ : wS} (h : wGo σ τ) (h2 : sGo τ = sGo σ) : stepV τ = stepV σ := by
  funext P V s
  unfold stepV
  rw [wGo_ftc h h2, wGo_sumP h]
theorem wGo_pB {σ τ : wS} (h : wGo σ τ) : pB τ = pB σ := by funext V k s; unfold pB; rw [wGo_pz h]
theorem wGo_itr {σ τ : wS} (h : wGo σ τ) (h2 : sGo τ = sGo σ) (P : (Nat → Int) → Nat → Nat → Int) (n : Nat) : itr τ P n = itr σ P n := by
  induction n with
  | zero => rfl
  | succ n ih => show stepV τ _ _ = stepV σ _ _; rw [ih, wGo_step h h2]
theorem hB_go {σ τ : wS} (h : wGo σ τ) {ci : Nat → Nat → Int32} {cj : Nat → Nat → Int64} (r : hB σ ci cj) : hB τ ci cj := by
  unfold hB
  rw [wGo_cnt h, wGo_isS h, wGo_lost h, wGo_gain h, h.2.2.2.2.2.1]
  exact r
theorem hV_go {σ τ : wS} (h : wGo σ τ) {a : Nat} {cj : Nat → Nat → Int64} {V : Nat → Int} (r : hV a σ cj V) : hV a τ cj V := by
  unfold hV
  rw [wGo_isS h]
  exact r
/-- bestOfOneMore, on a wall of the same boxes -/
theorem c_88 {ci : Nat → Nat → Int32} {τ : wS} (G : so g) (S : sc ci) (H : wo g w) (HH : ho g) (O : wOK τ) (hw : wR ci w τ) (hM : M ≤ 10000000000) (hb : bV τ V M) (h : hT τ ci cj0 V) {s : Nat} (hs : isS τ s = true) (k : ∀ cj', (∀ x, x ≠ 64 → x ≠ 68 → cj' x = cj0 x) → Q (some (.long (jI (stepV τ (pB τ V) V s)))) (ci, cj', g)) : X (d + 4) 88 (am_bk 88 0) [.ref 60, .ref w, .int (nI s)] [] (ci, cj0, g) Q := by
  have h125 := isS_lt hs
  simp only [bk_88_0, bq_88_0, G_23, X_push, X_goto, X_fall, X_ifeq, X_ifne, X_iflt, X_ifge, X_ifgt, X_ifle, X_iceq, X_icne, X_iclt, X_icge, X_icgt, X_icle, X_ifnull, X_ifnonnull, X_switch, X_ireturn, X_lreturn, X_areturn, X_return, X_zreturn, X_iload, X_lload, X_aload, X_istore, X_astore, X_lstore, X_iinc, X_iadd, X_isub, X_imul, X_idiv, X_irem, X_iand, X_ior, X_ishl, X_ishr, X_iushr, X_ladd, X_lsub, X_lmul, X_ldiv, X_land, X_lor, X_lshl, X_lcmp, X_ineg, X_i2l, X_l2i, X_i2b, X_i2s, X_i2c, X_dupr, X_dupi, X_dup_x1, X_dup2, X_popi, X_popr, X_iaload, X_baload, X_laload, X_aaload, X_iastore, X_bastore, X_lastore, X_aastore, X_arraylength, am_wt_0, am_wt_int, am_wt_long, am_wt_ref, List.getElem?_cons_zero, List.getElem?_cons_succ, am_s1, am_s2, am_kill, List.set_cons_zero, List.set_cons_succ, List.length_cons, List.length_nil, Int.reduceToNat, Nat.reduceAdd, Nat.reduceLeDiff, Nat.reduceLT, Option.toList_some, Option.toList_none, List.cons_append, List.nil_append, true_and, and_true, true_or, or_true, false_or, or_false, and_self, false_and, not_false_eq_true, not_true_eq_false, ho_k HH, ho_r0 HH, ho_r1 HH, ho_r2 HH, ho_r3 HH, ho_r4 HH, ho_r6 HH, ho_r7 HH, ho_r8 HH, ho_a1 HH, ho_n1 HH, ho_a2 HH, ho_n2 HH, ho_a3 HH, ho_n3 HH, ho_a4 HH, ho_n4 HH, ho_a5 HH, ho_n5 HH, ho_a6 HH, ho_n6 HH, ho_a7 HH, ho_n7 HH, ho_a8 HH, ho_n8 HH, C_91]
  refine c_91 H HH O hw hM hb h.1 h.2 ?_
  intro cj1 f1 v1
  simp only [X_push, X_goto, X_fall, X_ifeq, X_ifne, X_iflt, X_ifge, X_ifgt, X_ifle, X_iceq, X_icne, X_iclt, X_icge, X_icgt, X_icle, X_ifnull, X_ifnonnull, X_switch, X_ireturn, X_lreturn, X_areturn, X_return, X_zreturn, X_iload, X_lload, X_aload, X_istore, X_astore, X_lstore, X_iinc, X_iadd, X_isub, X_imul, X_idiv, X_irem, X_iand, X_ior, X_ishl, X_ishr, X_iushr, X_ladd, X_lsub, X_lmul, X_ldiv, X_land, X_lor, X_lshl, X_lcmp, X_ineg, X_i2l, X_l2i, X_i2b, X_i2s, X_i2c, X_dupr, X_dupi, X_dup_x1, X_dup2, X_popi, X_popr, X_iaload, X_baload, X_laload, X_aaload, X_iastore, X_bastore, X_lastore, X_aastore, X_arraylength, am_wt_0, am_wt_int, am_wt_long, am_wt_ref, List.getElem?_cons_zero, List.getElem?_cons_succ, am_s1, am_s2, am_kill, List.set_cons_zero, List.set_cons_succ, List.length_cons, List.length_nil, Int.reduceToNat, Nat.reduceAdd, Nat.reduceLeDiff, Nat.reduceLT, Option.toList_some, Option.toList_none, List.cons_append, List.nil_append, true_and, and_true, true_or, or_true, false_or, or_false, and_self, false_and, not_false_eq_true, not_true_eq_false, ho_k HH, ho_r0 HH, ho_r1 HH, ho_r2 HH, ho_r3 HH, ho_r4 HH, ho_r6 HH, ho_r7 HH, ho_r8 HH, ho_a1 HH, ho_n1 HH, ho_a2 HH, ho_n2 HH, ho_a3 HH, ho_n3 HH, ho_a4 HH, ho_n4 HH, ho_a5 HH, ho_n5 HH, ho_a6 HH, ho_n6 HH, ho_a7 HH, ho_n7 HH, ho_a8 HH, ho_n8 HH, C_94]
  refine c_94 G S H HH O hw h.1.1 h.1.2.1 v1 ?_
  intro cj2 f2 v2
  have b2 := fsP_bd2 O (pB_ok O V) hb hM s hs
  have nz : ¬ jI 100000 = 0 := by decide
  simp only [G_23, X_push, X_goto, X_fall, X_ifeq, X_ifne, X_iflt, X_ifge, X_ifgt, X_ifle, X_iceq, X_icne, X_iclt, X_icge, X_icgt, X_icle, X_ifnull, X_ifnonnull, X_switch, X_ireturn, X_lreturn, X_areturn, X_return, X_zreturn, X_iload, X_lload, X_aload, X_istore, X_astore, X_lstore, X_iinc, X_iadd, X_isub, X_imul, X_idiv, X_irem, X_iand, X_ior, X_ishl, X_ishr, X_iushr, X_ladd, X_lsub, X_lmul, X_ldiv, X_land, X_lor, X_lshl, X_lcmp, X_ineg, X_i2l, X_l2i, X_i2b, X_i2s, X_i2c, X_dupr, X_dupi, X_dup_x1, X_dup2, X_popi, X_popr, X_iaload, X_baload, X_laload, X_aaload, X_iastore, X_bastore, X_lastore, X_aastore, X_arraylength, am_wt_0, am_wt_int, am_wt_long, am_wt_ref, List.getElem?_cons_zero, List.getElem?_cons_succ, am_s1, am_s2, am_kill, List.set_cons_zero, List.set_cons_succ, List.length_cons, List.length_nil, Int.reduceToNat, Nat.reduceAdd, Nat.reduceLeDiff, Nat.reduceLT, Option.toList_some, Option.toList_none, List.cons_append, List.nil_append, true_and, and_true, true_or, or_true, false_or, or_false, and_self, false_and, not_false_eq_true, not_true_eq_false, ho_k HH, ho_r0 HH, ho_r1 HH, ho_r2 HH, ho_r3 HH, ho_r4 HH, ho_r6 HH, ho_r7 HH, ho_r8 HH, ho_a1 HH, ho_n1 HH, ho_a2 HH, ho_n2 HH, ho_a3 HH, ho_n3 HH, ho_a4 HH, ho_n4 HH, ho_a5 HH, ho_n5 HH, ho_a6 HH, ho_n6 HH, ho_a7 HH, ho_n7 HH, ho_a8 HH, ho_n8 HH, in_nI (show s < 125 by omega) (show 125 < 2 ^ 31 by decide), tn_nI (show s < 2 ^ 31 by omega), v2 s hs, jl_h, nz, jI_tdiv (show -9223372036854775808 ≤ ftc τ (sumP τ (pB τ V) V) s by omega) (show ftc τ (sumP τ (pB τ V) V) s < 9223372036854775808 by omega) (show (0 : Int) < 100000 by decide) (show (100000 : Int) < 9223372036854775808 by decide)]
  exact k cj2 (fun x a b => by rw [f2 x a, f1 x a b])
/-- leastState -/
def lst (σ : wS) (V : Nat → Int) : Nat → Nat
  | 0 => 0
  | s + 1 => if isS σ s = true ∧ V s < V (lst σ V s) then s else lst σ V s
theorem isS_0 (σ : wS) : isS σ 0 = true := isS_iff.mpr ⟨by decide, by rw [frI_0]; exact Nat.zero_le _, by rw [frI_1]; exact Nat.zero_le _, by rw [frI_2]; exact Nat.zero_le _⟩
theorem lst_ok (σ : wS) (V : Nat → Int) (s : Nat) : isS σ (lst σ V s) = true := by
  induction s with
  | zero => exact isS_0 σ
  | succ s ih =>
    unfold lst
    split
    · rename_i h; exact h.1
    · exact ih
theorem c_99 {ci : Nat → Nat → Int32} (HH : ho g) (hM : M ≤ 10000000000) (hb : bV σ V M) (h : hT σ ci cj0 V) : X d 99 (am_bk 99 0) [.ref 60, .null, .null] [] (ci, cj0, g) Q ↔ Q (some (.int (nI (lst σ V 125)))) (ci, cj0, g) := by
  have key : X d 99 (am_bk 99 1) [.ref 60, .int (nI (lst σ V 0)), .int (nI 0)] [] (ci, cj0, g) Q ↔ Q (some (.int (nI (lst σ V 125)))) (ci, cj0, g) := by
    refine st_ind (σ := σ) (M := fun c s => X d 99 (am_bk 99 1) [.ref 60, .int (nI (lst σ V s)), .int (nI c)] [] (ci, cj0, g) Q ↔ Q (some (.int (nI (lst σ V 125)))) (ci, cj0, g)) ?_ ?_ ?_
    · rw [bk_99_1]
      simp only [bq_99_1, bk_99_3, bq_99_3, G_25, G_20, G_24, X_push, X_goto, X_fall, X_ifeq, X_ifne, X_iflt, X_ifge, X_ifgt, X_ifle, X_iceq, X_icne, X_iclt, X_icge, X_icgt, X_icle, X_ifnull, X_ifnonnull, X_switch, X_ireturn, X_lreturn, X_areturn, X_return, X_zreturn, X_iload, X_lload, X_aload, X_istore, X_astore, X_lstore, X_iinc, X_iadd, X_isub, X_imul, X_idiv, X_irem, X_iand, X_ior, X_ishl, X_ishr, X_iushr, X_ladd, X_lsub, X_lmul, X_ldiv, X_land, X_lor, X_lshl, X_lcmp, X_ineg, X_i2l, X_l2i, X_i2b, X_i2s, X_i2c, X_dupr, X_dupi, X_dup_x1, X_dup2, X_popi, X_popr, X_iaload, X_baload, X_laload, X_aaload, X_iastore, X_bastore, X_lastore, X_aastore, X_arraylength, am_wt_0, am_wt_int, am_wt_long, am_wt_ref, List.getElem?_cons_zero, List.getElem?_cons_succ, am_s1, am_s2, am_kill, List.set_cons_zero, List.set_cons_succ, List.length_cons, List.length_nil, Int.reduceToNat, Nat.reduceAdd, Nat.reduceLeDiff, Nat.reduceLT, Option.toList_some, Option.toList_none, List.cons_append, List.nil_append, true_and, and_true, true_or, or_true, false_or, or_false, and_self, false_and, not_false_eq_true, not_true_eq_false, ho_k HH, ho_r0 HH, ho_r1 HH, ho_r2 HH, ho_r3 HH, ho_r4 HH, ho_r6 HH, ho_r7 HH, ho_r8 HH, ho_a1 HH, ho_n1 HH, ho_a2 HH, ho_n2 HH, ho_a3 HH, ho_n3 HH, ho_a4 HH, ho_n4 HH, ho_a5 HH, ho_n5 HH, ho_a6 HH, ho_n6 HH, ho_a7 HH, ho_n7 HH, ho_a8 HH, ho_n8 HH, h.1.1, Int32.le_refl, if_true]
    · intro s hs hlt ih
      have h125 := isS_lt hs
      have h2 := cnt_le σ 125
      have h3 := cnt_le σ s
      have h1 : ¬ nI (cnt σ 125) ≤ nI (cnt σ s) := nI_ge hlt (by omega)
      have q := lst_ok σ V s
      have q1 := isS_lt q
      have b1 := hb s hs
      have b2 := hb _ q
      rw [bk_99_1]
      have e : lst σ V (s + 1) = if isS σ s = true ∧ V s < V (lst σ V s) then s else lst σ V s := rfl
      by_cases c : V s < V (lst σ V s)
      · rw [if_pos ⟨hs, c⟩] at e
        rw [e] at ih
        have c' : ¬ V (lst σ V s) ≤ V s := by omega
        simp only [bq_99_1, bk_99_2, bq_99_2, G_25, G_20, G_24, X_push, X_goto, X_fall, X_ifeq, X_ifne, X_iflt, X_ifge, X_ifgt, X_ifle, X_iceq, X_icne, X_iclt, X_icge, X_icgt, X_icle, X_ifnull, X_ifnonnull, X_switch, X_ireturn, X_lreturn, X_areturn, X_return, X_zreturn, X_iload, X_lload, X_aload, X_istore, X_astore, X_lstore, X_iinc, X_iadd, X_isub, X_imul, X_idiv, X_irem, X_iand, X_ior, X_ishl, X_ishr, X_iushr, X_ladd, X_lsub, X_lmul, X_ldiv, X_land, X_lor, X_lshl, X_lcmp, X_ineg, X_i2l, X_l2i, X_i2b, X_i2s, X_i2c, X_dupr, X_dupi, X_dup_x1, X_dup2, X_popi, X_popr, X_iaload, X_baload, X_laload, X_aaload, X_iastore, X_bastore, X_lastore, X_aastore, X_arraylength, am_wt_0, am_wt_int, am_wt_long, am_wt_ref, List.getElem?_cons_zero, List.getElem?_cons_succ, am_s1, am_s2, am_kill, List.set_cons_zero, List.set_cons_succ, List.length_cons, List.length_nil, Int.reduceToNat, Nat.reduceAdd, Nat.reduceLeDiff, Nat.reduceLT, Option.toList_some, Option.toList_none, List.cons_append, List.nil_append, true_and, and_true, true_or, or_true, false_or, or_false, and_self, false_and, not_false_eq_true, not_true_eq_false, ho_k HH, ho_r0 HH, ho_r1 HH, ho_r2 HH, ho_r3 HH, ho_r4 HH, ho_r6 HH, ho_r7 HH, ho_r8 HH, ho_a1 HH, ho_n1 HH, ho_a2 HH, ho_n2 HH, ho_a3 HH, ho_n3 HH, ho_a4 HH, ho_n4 HH, ho_a5 HH, ho_n5 HH, ho_a6 HH, ho_n6 HH, ho_a7 HH, ho_n7 HH, ho_a8 HH, ho_n8 HH, h.1.1, h1, if_false, in_nI (show cnt σ s < 125 by omega) (show 125 < 2 ^ 31 by decide), tn_nI (show cnt σ s < 2 ^ 31 by omega), h.1.2.1 s hs, in_nI (show s < 125 by omega) (show 125 < 2 ^ 31 by decide), tn_nI (show s < 2 ^ 31 by omega), in_nI q1 (show 125 < 2 ^ 31 by decide), tn_nI (show lst σ V s < 2 ^ 31 by omega), h.2 s hs, h.2 _ q, cmp_ge, jI_ti (show -9223372036854775808 ≤ V s by omega) (show V s < 9223372036854775808 by omega), jI_ti (show -9223372036854775808 ≤ V (lst σ V s) by omega) (show V (lst σ V s) < 9223372036854775808 by omega), c', oi_1, nI_add]
        exact ih
      · rw [if_neg (fun z => c z.2)] at e
        rw [e] at ih
        have c' : V (lst σ V s) ≤ V s := by omega
        simp only [bq_99_1, bk_99_2, bq_99_2, G_25, G_20, G_24, X_push, X_goto, X_fall, X_ifeq, X_ifne, X_iflt, X_ifge, X_ifgt, X_ifle, X_iceq, X_icne, X_iclt, X_icge, X_icgt, X_icle, X_ifnull, X_ifnonnull, X_switch, X_ireturn, X_lreturn, X_areturn, X_return, X_zreturn, X_iload, X_lload, X_aload, X_istore, X_astore, X_lstore, X_iinc, X_iadd, X_isub, X_imul, X_idiv, X_irem, X_iand, X_ior, X_ishl, X_ishr, X_iushr, X_ladd, X_lsub, X_lmul, X_ldiv, X_land, X_lor, X_lshl, X_lcmp, X_ineg, X_i2l, X_l2i, X_i2b, X_i2s, X_i2c, X_dupr, X_dupi, X_dup_x1, X_dup2, X_popi, X_popr, X_iaload, X_baload, X_laload, X_aaload, X_iastore, X_bastore, X_lastore, X_aastore, X_arraylength, am_wt_0, am_wt_int, am_wt_long, am_wt_ref, List.getElem?_cons_zero, List.getElem?_cons_succ, am_s1, am_s2, am_kill, List.set_cons_zero, List.set_cons_succ, List.length_cons, List.length_nil, Int.reduceToNat, Nat.reduceAdd, Nat.reduceLeDiff, Nat.reduceLT, Option.toList_some, Option.toList_none, List.cons_append, List.nil_append, true_and, and_true, true_or, or_true, false_or, or_false, and_self, false_and, not_false_eq_true, not_true_eq_false, ho_k HH, ho_r0 HH, ho_r1 HH, ho_r2 HH, ho_r3 HH, ho_r4 HH, ho_r6 HH, ho_r7 HH, ho_r8 HH, ho_a1 HH, ho_n1 HH, ho_a2 HH, ho_n2 HH, ho_a3 HH, ho_n3 HH, ho_a4 HH, ho_n4 HH, ho_a5 HH, ho_n5 HH, ho_a6 HH, ho_n6 HH, ho_a7 HH, ho_n7 HH, ho_a8 HH, ho_n8 HH, h.1.1, h1, if_false, if_true, in_nI (show cnt σ s < 125 by omega) (show 125 < 2 ^ 31 by decide), tn_nI (show cnt σ s < 2 ^ 31 by omega), h.1.2.1 s hs, in_nI (show s < 125 by omega) (show 125 < 2 ^ 31 by decide), tn_nI (show s < 2 ^ 31 by omega), in_nI q1 (show 125 < 2 ^ 31 by decide), tn_nI (show lst σ V s < 2 ^ 31 by omega), h.2 s hs, h.2 _ q, cmp_ge, jI_ti (show -9223372036854775808 ≤ V s by omega) (show V s < 9223372036854775808 by omega), jI_ti (show -9223372036854775808 ≤ V (lst σ V s) by omega) (show V (lst σ V s) < 9223372036854775808 by omega), c', oi_1, nI_add]
        exact ih
    · intro s c hs hn ih
      have e : lst σ V (s + 1) = lst σ V s := if_neg (fun z => hn z.1)
      rw [e] at ih
      exact ih
  simp only [bk_99_0, bq_99_0, X_push, X_goto, X_fall, X_ifeq, X_ifne, X_iflt, X_ifge, X_ifgt, X_ifle, X_iceq, X_icne, X_iclt, X_icge, X_icgt, X_icle, X_ifnull, X_ifnonnull, X_switch, X_ireturn, X_lreturn, X_areturn, X_return, X_zreturn, X_iload, X_lload, X_aload, X_istore, X_astore, X_lstore, X_iinc, X_iadd, X_isub, X_imul, X_idiv, X_irem, X_iand, X_ior, X_ishl, X_ishr, X_iushr, X_ladd, X_lsub, X_lmul, X_ldiv, X_land, X_lor, X_lshl, X_lcmp, X_ineg, X_i2l, X_l2i, X_i2b, X_i2s, X_i2c, X_dupr, X_dupi, X_dup_x1, X_dup2, X_popi, X_popr, X_iaload, X_baload, X_laload, X_aaload, X_iastore, X_bastore, X_lastore, X_aastore, X_arraylength, am_wt_0, am_wt_int, am_wt_long, am_wt_ref, List.getElem?_cons_zero, List.getElem?_cons_succ, am_s1, am_s2, am_kill, List.set_cons_zero, List.set_cons_succ, List.length_cons, List.length_nil, Int.reduceToNat, Nat.reduceAdd, Nat.reduceLeDiff, Nat.reduceLT, Option.toList_some, Option.toList_none, List.cons_append, List.nil_append, true_and, and_true, true_or, or_true, false_or, or_false, and_self, false_and, not_false_eq_true, not_true_eq_false]
  exact key
end MAKE
