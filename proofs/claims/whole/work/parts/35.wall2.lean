section WALL2
variable {d : Nat} {ci : Nat → Nat → Int32} {cj : Nat → Nat → Int64} {g : am_G} {Q : Option Value → am_H → Prop} {w : Nat} {σ : wS}
theorem c_66_0 (G : so g) (S : sc ci) {s : Nat} (hs : s < 2 ^ 30) : X d 66 (am_bk 66 0) [.int (nI s), .int 0] [] (ci, cj, g) Q ↔ Q (some (.int (nI (frI s 0)))) (ci, cj, g) := c_66 G S hs (j := 0) (by decide)
theorem c_66_1 (G : so g) (S : sc ci) {s : Nat} (hs : s < 2 ^ 30) : X d 66 (am_bk 66 0) [.int (nI s), .int 1] [] (ci, cj, g) Q ↔ Q (some (.int (nI (frI s 1)))) (ci, cj, g) := c_66 G S hs (j := 1) (by decide)
theorem c_66_2 (G : so g) (S : sc ci) {s : Nat} (hs : s < 2 ^ 30) : X d 66 (am_bk 66 0) [.int (nI s), .int 2] [] (ci, cj, g) Q ↔ Q (some (.int (nI (frI s 2)))) (ci, cj, g) := c_66 G S hs (j := 2) (by decide)
theorem frI_lt (s j : Nat) : frI s j < 5 := Nat.mod_lt _ (by decide)
/-- isState(state) -/
theorem c_70 (G : so g) (S : sc ci) (H : wo g w) (O : wOK σ) (hw : wR ci w σ) {s : Nat} (hs : s < 2 ^ 30) : X (d + 1) 70 (am_bk 70 0) [.ref w, .int (nI s)] [] (ci, cj, g) Q ↔ Q (some (.int (bI (isS σ s)))) (ci, cj, g) := by
  have b0 := (O.1 0 (by decide)).2.1
  have b1 := (O.1 1 (by decide)).2.1
  have b2 := (O.1 2 (by decide)).2.1
  have f0 := frI_lt s 0
  have f1 := frI_lt s 1
  have f2 := frI_lt s 2
  simp only [bk_70_0, bq_70_0, bk_70_1, bq_70_1, bk_70_2, bq_70_2, G_8, X_push, X_goto, X_fall, X_ifeq, X_ifne, X_iflt, X_ifge, X_ifgt, X_ifle, X_iceq, X_icne, X_iclt, X_icge, X_icgt, X_icle, X_ifnull, X_ifnonnull, X_switch, X_ireturn, X_lreturn, X_areturn, X_return, X_zreturn, X_iload, X_lload, X_aload, X_istore, X_astore, X_lstore, X_iinc, X_iadd, X_isub, X_imul, X_idiv, X_irem, X_iand, X_ior, X_ishl, X_ishr, X_iushr, X_ladd, X_lsub, X_lmul, X_ldiv, X_land, X_lor, X_lshl, X_lcmp, X_ineg, X_i2l, X_l2i, X_i2b, X_i2s, X_i2c, X_dupr, X_dupi, X_dup_x1, X_dup2, X_popi, X_popr, X_iaload, X_baload, X_laload, X_aaload, X_iastore, X_bastore, X_lastore, X_aastore, X_arraylength, am_wt_0, am_wt_int, am_wt_long, am_wt_ref, List.getElem?_cons_zero, List.getElem?_cons_succ, am_s1, am_s2, am_kill, List.set_cons_zero, List.set_cons_succ, List.length_cons, List.length_nil, Int.reduceToNat, Nat.reduceAdd, Nat.reduceLeDiff, Nat.reduceLT, Option.toList_some, Option.toList_none, List.cons_append, List.nil_append, true_and, and_true, wo_k H, wo_r0 H, wo_r1 H, wo_r2 H, wo_r3 H, wo_r4 H, wo_r5 H, wo_r6 H, wo_r7 H, wo_a1 H, wo_n1 H, wo_a2 H, wo_n2 H, wo_a3 H, wo_n3 H, wo_a4 H, wo_n4 H, wo_a5 H, wo_n5 H, wo_a6 H, wo_n6 H, wo_a7 H, wo_n7 H, wo_a8 H, wo_n8 H, tn_0, tn_1, tn_2, tn_3, tn_4, tn_5, tn_6, tn_7, tn_8, in_0_1, in_0_2, in_1_2, in_0_3, in_1_3, in_2_3, in_0_4, in_1_4, in_2_4, in_3_4, in_0_5, in_1_5, in_2_5, in_3_5, in_4_5, in_0_6, in_1_6, in_2_6, in_3_6, in_4_6, in_5_6, in_0_8, in_1_8, in_2_8, in_3_8, in_4_8, in_5_8, in_6_8, in_7_8, C_66, c_66_0 G S hs, c_66_1 G S hs, c_66_2 G S hs, hw.1 0 (by decide), hw.1 1 (by decide), hw.1 2 (by decide), true_or, and_self, lt_ti, le_ti, ti_0, ti_125, nI_ti (show s < 2147483648 by omega), nI_ti (show sBx σ 0 < 2147483648 by omega), nI_ti (show sBx σ 1 < 2147483648 by omega), nI_ti (show sBx σ 2 < 2147483648 by omega), nI_ti (show frI s 0 < 2147483648 by omega), nI_ti (show frI s 1 < 2147483648 by omega), nI_ti (show frI s 2 < 2147483648 by omega)]
  unfold isS
  by_cases h : s < 125 ∧ frI s 0 ≤ sBx σ 0 ∧ frI s 1 ≤ sBx σ 1 ∧ frI s 2 ≤ sBx σ 2
  · rw [decide_eq_true h, if_neg (by omega), if_neg (by omega), if_neg (by omega), if_neg (by omega), if_neg (by omega)]
    simp [bI]
  · rw [decide_eq_false h]
    rw [if_neg (by omega)]
    repeat' split
    all_goals first | omega | simp [bI]
theorem c_70n {x : Int32} (hx : x.toInt < 0) : X d 70 (am_bk 70 0) [.ref w, .int x] [] (ci, cj, g) Q ↔ Q (some (.int 0)) (ci, cj, g) := by
  have e : x < 0 := by rw [lt_ti]; exact hx
  simp only [bk_70_0, bq_70_0, bk_70_1, bq_70_1, bk_70_2, bq_70_2, G_8, X_push, X_goto, X_fall, X_ifeq, X_ifne, X_iflt, X_ifge, X_ifgt, X_ifle, X_iceq, X_icne, X_iclt, X_icge, X_icgt, X_icle, X_ifnull, X_ifnonnull, X_switch, X_ireturn, X_lreturn, X_areturn, X_return, X_zreturn, X_iload, X_lload, X_aload, X_istore, X_astore, X_lstore, X_iinc, X_iadd, X_isub, X_imul, X_idiv, X_irem, X_iand, X_ior, X_ishl, X_ishr, X_iushr, X_ladd, X_lsub, X_lmul, X_ldiv, X_land, X_lor, X_lshl, X_lcmp, X_ineg, X_i2l, X_l2i, X_i2b, X_i2s, X_i2c, X_dupr, X_dupi, X_dup_x1, X_dup2, X_popi, X_popr, X_iaload, X_baload, X_laload, X_aaload, X_iastore, X_bastore, X_lastore, X_aastore, X_arraylength, am_wt_0, am_wt_int, am_wt_long, am_wt_ref, List.getElem?_cons_zero, List.getElem?_cons_succ, am_s1, am_s2, am_kill, List.set_cons_zero, List.set_cons_succ, List.length_cons, List.length_nil, Int.reduceToNat, Nat.reduceAdd, Nat.reduceLeDiff, Nat.reduceLT, Option.toList_some, Option.toList_none, List.cons_append, List.nil_append, true_and, and_true]
  rw [if_pos e]
  simp
/-- isSort(long) -/
theorem c_73 (H : wo g w) (O : wOK σ) (hw : wR ci w σ) (x : Int64) : X d 73 (am_bk 73 0) [.ref w, .long x, .null] [] (ci, cj, g) Q ↔ Q (some (.int (bI (decide (0 ≤ x.toInt ∧ x.toInt < (sCn σ : Int)))))) (ci, cj, g) := by
  have hc := O.2.1
  simp only [bk_73_0, bq_73_0, bk_73_1, bq_73_1, bk_73_2, bq_73_2, G_16, X_push, X_goto, X_fall, X_ifeq, X_ifne, X_iflt, X_ifge, X_ifgt, X_ifle, X_iceq, X_icne, X_iclt, X_icge, X_icgt, X_icle, X_ifnull, X_ifnonnull, X_switch, X_ireturn, X_lreturn, X_areturn, X_return, X_zreturn, X_iload, X_lload, X_aload, X_istore, X_astore, X_lstore, X_iinc, X_iadd, X_isub, X_imul, X_idiv, X_irem, X_iand, X_ior, X_ishl, X_ishr, X_iushr, X_ladd, X_lsub, X_lmul, X_ldiv, X_land, X_lor, X_lshl, X_lcmp, X_ineg, X_i2l, X_l2i, X_i2b, X_i2s, X_i2c, X_dupr, X_dupi, X_dup_x1, X_dup2, X_popi, X_popr, X_iaload, X_baload, X_laload, X_aaload, X_iastore, X_bastore, X_lastore, X_aastore, X_arraylength, am_wt_0, am_wt_int, am_wt_long, am_wt_ref, List.getElem?_cons_zero, List.getElem?_cons_succ, am_s1, am_s2, am_kill, List.set_cons_zero, List.set_cons_succ, List.length_cons, List.length_nil, Int.reduceToNat, Nat.reduceAdd, Nat.reduceLeDiff, Nat.reduceLT, Option.toList_some, Option.toList_none, List.cons_append, List.nil_append, true_and, and_true, wo_k H, wo_r0 H, wo_r1 H, wo_r2 H, wo_r3 H, wo_r4 H, wo_r5 H, wo_r6 H, wo_r7 H, wo_a1 H, wo_n1 H, wo_a2 H, wo_n2 H, wo_a3 H, wo_n3 H, wo_a4 H, wo_n4 H, wo_a5 H, wo_n5 H, wo_a6 H, wo_n6 H, wo_a7 H, wo_n7 H, wo_a8 H, wo_n8 H, cmp_lt, cmp_ge, tl_0, hw.2.2.2.2.2.2.2.2.1, nI_j (show sCn σ < 2147483648 by omega), jI_ti (show -9223372036854775808 ≤ (sCn σ : Int) by omega) (show (sCn σ : Int) < 9223372036854775808 by omega)]
  by_cases h1 : x.toInt < 0
  · rw [if_pos h1, decide_eq_false (by omega)]; simp [bI]
  · by_cases h2 : (sCn σ : Int) ≤ x.toInt
    · rw [if_neg h1, if_pos h2, decide_eq_false (by omega)]; simp [bI]
    · rw [if_neg h1, if_neg h2, decide_eq_true (by omega)]; simp [bI]
/-- comesTogether() -/
theorem l_74 (H : wo g w) (O : wOK σ) (hw : wR ci w σ) : ∀ k i : Nat, i + k = sCn σ → (X d 74 (am_bk 74 1) [.ref w, .int (nI (csum (sCo σ) i)), .int (nI i)] [] (ci, cj, g) Q ↔ Q (some (.int (nI (csum (sCo σ) (sCn σ))))) (ci, cj, g)) := by
  have hc := O.2.1
  intro k
  induction k with
  | zero =>
    intro i hi
    obtain rfl : i = sCn σ := by omega
    rw [bk_74_1]
    simp only [bk_74_2, bq_74_2, G_16, G_12, bq_74_1, X_push, X_goto, X_fall, X_ifeq, X_ifne, X_iflt, X_ifge, X_ifgt, X_ifle, X_iceq, X_icne, X_iclt, X_icge, X_icgt, X_icle, X_ifnull, X_ifnonnull, X_switch, X_ireturn, X_lreturn, X_areturn, X_return, X_zreturn, X_iload, X_lload, X_aload, X_istore, X_astore, X_lstore, X_iinc, X_iadd, X_isub, X_imul, X_idiv, X_irem, X_iand, X_ior, X_ishl, X_ishr, X_iushr, X_ladd, X_lsub, X_lmul, X_ldiv, X_land, X_lor, X_lshl, X_lcmp, X_ineg, X_i2l, X_l2i, X_i2b, X_i2s, X_i2c, X_dupr, X_dupi, X_dup_x1, X_dup2, X_popi, X_popr, X_iaload, X_baload, X_laload, X_aaload, X_iastore, X_bastore, X_lastore, X_aastore, X_arraylength, am_wt_0, am_wt_int, am_wt_long, am_wt_ref, List.getElem?_cons_zero, List.getElem?_cons_succ, am_s1, am_s2, am_kill, List.set_cons_zero, List.set_cons_succ, List.length_cons, List.length_nil, Int.reduceToNat, Nat.reduceAdd, Nat.reduceLeDiff, Nat.reduceLT, Option.toList_some, Option.toList_none, List.cons_append, List.nil_append, true_and, and_true, wo_k H, wo_r0 H, wo_r1 H, wo_r2 H, wo_r3 H, wo_r4 H, wo_r5 H, wo_r6 H, wo_r7 H, wo_a1 H, wo_n1 H, wo_a2 H, wo_n2 H, wo_a3 H, wo_n3 H, wo_a4 H, wo_n4 H, wo_a5 H, wo_n5 H, wo_a6 H, wo_n6 H, wo_a7 H, wo_n7 H, wo_a8 H, wo_n8 H, hw.2.2.2.2.2.2.2.2.1, Int32.le_refl, if_true]
  | succ k ih =>
    intro i hi
    have h1 : ¬ nI (sCn σ) ≤ nI i := nI_ge (by omega) (by omega)
    rw [bk_74_1]
    simp only [G_16, G_12, bq_74_1, X_push, X_goto, X_fall, X_ifeq, X_ifne, X_iflt, X_ifge, X_ifgt, X_ifle, X_iceq, X_icne, X_iclt, X_icge, X_icgt, X_icle, X_ifnull, X_ifnonnull, X_switch, X_ireturn, X_lreturn, X_areturn, X_return, X_zreturn, X_iload, X_lload, X_aload, X_istore, X_astore, X_lstore, X_iinc, X_iadd, X_isub, X_imul, X_idiv, X_irem, X_iand, X_ior, X_ishl, X_ishr, X_iushr, X_ladd, X_lsub, X_lmul, X_ldiv, X_land, X_lor, X_lshl, X_lcmp, X_ineg, X_i2l, X_l2i, X_i2b, X_i2s, X_i2c, X_dupr, X_dupi, X_dup_x1, X_dup2, X_popi, X_popr, X_iaload, X_baload, X_laload, X_aaload, X_iastore, X_bastore, X_lastore, X_aastore, X_arraylength, am_wt_0, am_wt_int, am_wt_long, am_wt_ref, List.getElem?_cons_zero, List.getElem?_cons_succ, am_s1, am_s2, am_kill, List.set_cons_zero, List.set_cons_succ, List.length_cons, List.length_nil, Int.reduceToNat, Nat.reduceAdd, Nat.reduceLeDiff, Nat.reduceLT, Option.toList_some, Option.toList_none, List.cons_append, List.nil_append, true_and, and_true, wo_k H, wo_r0 H, wo_r1 H, wo_r2 H, wo_r3 H, wo_r4 H, wo_r5 H, wo_r6 H, wo_r7 H, wo_a1 H, wo_n1 H, wo_a2 H, wo_n2 H, wo_a3 H, wo_n3 H, wo_a4 H, wo_n4 H, wo_a5 H, wo_n5 H, wo_a6 H, wo_n6 H, wo_a7 H, wo_n7 H, wo_a8 H, wo_n8 H, hw.2.2.2.2.2.2.2.2.1, if_neg h1, in_nI (show i < 6 by omega) (show 6 < 2 ^ 31 by decide), tn_nI (show i < 2 ^ 31 by omega), hw.2.2.2.2.1 i (by omega), true_or, and_self, nI_add, oi_1]
    exact ih (i + 1) (by omega)
theorem c_74 (H : wo g w) (O : wOK σ) (hw : wR ci w σ) : X d 74 (am_bk 74 0) [.ref w, .null, .null] [] (ci, cj, g) Q ↔ Q (some (.int (nI (csum (sCo σ) (sCn σ))))) (ci, cj, g) := by
  simp only [bk_74_0, bq_74_0, X_push, X_goto, X_fall, X_ifeq, X_ifne, X_iflt, X_ifge, X_ifgt, X_ifle, X_iceq, X_icne, X_iclt, X_icge, X_icgt, X_icle, X_ifnull, X_ifnonnull, X_switch, X_ireturn, X_lreturn, X_areturn, X_return, X_zreturn, X_iload, X_lload, X_aload, X_istore, X_astore, X_lstore, X_iinc, X_iadd, X_isub, X_imul, X_idiv, X_irem, X_iand, X_ior, X_ishl, X_ishr, X_iushr, X_ladd, X_lsub, X_lmul, X_ldiv, X_land, X_lor, X_lshl, X_lcmp, X_ineg, X_i2l, X_l2i, X_i2b, X_i2s, X_i2c, X_dupr, X_dupi, X_dup_x1, X_dup2, X_popi, X_popr, X_iaload, X_baload, X_laload, X_aaload, X_iastore, X_bastore, X_lastore, X_aastore, X_arraylength, am_wt_0, am_wt_int, am_wt_long, am_wt_ref, List.getElem?_cons_zero, List.getElem?_cons_succ, am_s1, am_s2, am_kill, List.set_cons_zero, List.set_cons_succ, List.length_cons, List.length_nil, Int.reduceToNat, Nat.reduceAdd, Nat.reduceLeDiff, Nat.reduceLT, Option.toList_some, Option.toList_none, List.cons_append, List.nil_append, true_and, and_true]
  exact l_74 H O hw (sCn σ) 0 (by omega)
end WALL2
