/-! THE LAW: its loop and its start -/
theorem sw_44 : ∀ k, k < 43 → ((#[2, 3, 4, 5, 6, 7, 8, 9, 10, 11, 12, 13, 14, 15, 16, 17, 18, 19, 20, 21, 22, 23, 24, 25, 26, 27, 28, 29, 30, 31, 32, 33, 34, 35, 36, 37, 38, 39, 40, 41, 42, 43, 44] : Array Int).getD k 0).toNat = k + 2 := by decide
theorem sw_235 (x : Int32) : am_sw 45 0 42 #[2, 3, 4, 5, 6, 7, 8, 9, 10, 11, 12, 13, 14, 15, 16, 17, 18, 19, 20, 21, 22, 23, 24, 25, 26, 27, 28, 29, 30, 31, 32, 33, 34, 35, 36, 37, 38, 39, 40, 41, 42, 43, 44] x = 45 ∨ (2 ≤ am_sw 45 0 42 #[2, 3, 4, 5, 6, 7, 8, 9, 10, 11, 12, 13, 14, 15, 16, 17, 18, 19, 20, 21, 22, 23, 24, 25, 26, 27, 28, 29, 30, 31, 32, 33, 34, 35, 36, 37, 38, 39, 40, 41, 42, 43, 44] x ∧ am_sw 45 0 42 #[2, 3, 4, 5, 6, 7, 8, 9, 10, 11, 12, 13, 14, 15, 16, 17, 18, 19, 20, 21, 22, 23, 24, 25, 26, 27, 28, 29, 30, 31, 32, 33, 34, 35, 36, 37, 38, 39, 40, 41, 42, 43, 44] x ≤ 44) := by
  unfold am_sw
  by_cases h : x.toInt < 0 ∨ 42 < x.toInt
  · rw [if_pos h]; exact Or.inl rfl
  · rw [if_neg h]
    have e := sw_44 (x.toInt - 0).toNat (by omega)
    rw [e]
    exact Or.inr (by omega)
section LAW
variable {d : Nat} {L : Nat} {xs : Nat → Int32} {n i : Nat} {F M : Nat → Prop} {T : tS} {ci : Nat → Nat → Int32} {cj : Nat → Nat → Int64} {g : am_G} {Q : Option Value → am_H → Prop}
theorem s_all {b : Nat} (hb : 2 ≤ b ∧ b ≤ 44) (S : bO L xs n F M T T ci cj g) (hn : n ≤ 128) (hi : i + 6 ≤ L) (hL : L ≤ 384) (kk : ∀ F' M' T' ci' cj' g', bO L xs (n + 2) F' M' T' T' ci' cj' g' → X (d + 13) 235 (am_bk 235 45) [.ref 10, .ref 32, .ref 73, .int (nI i)] [] (ci', cj', g') Q) : X (d + 13) 235 (am_bk 235 b) [.ref 10, .ref 32, .ref 73, .int (nI i)] [] (ci, cj, g) Q := by
  have e : b = 2 ∨ b = 3 ∨ b = 4 ∨ b = 5 ∨ b = 6 ∨ b = 7 ∨ b = 8 ∨ b = 9 ∨ b = 10 ∨ b = 11 ∨ b = 12 ∨ b = 13 ∨ b = 14 ∨ b = 15 ∨ b = 16 ∨ b = 17 ∨ b = 18 ∨ b = 19 ∨ b = 20 ∨ b = 21 ∨ b = 22 ∨ b = 23 ∨ b = 24 ∨ b = 25 ∨ b = 26 ∨ b = 27 ∨ b = 28 ∨ b = 29 ∨ b = 30 ∨ b = 31 ∨ b = 32 ∨ b = 33 ∨ b = 34 ∨ b = 35 ∨ b = 36 ∨ b = 37 ∨ b = 38 ∨ b = 39 ∨ b = 40 ∨ b = 41 ∨ b = 42 ∨ b = 43 ∨ b = 44 := by omega
  rcases e with rfl | rfl | rfl | rfl | rfl | rfl | rfl | rfl | rfl | rfl | rfl | rfl | rfl | rfl | rfl | rfl | rfl | rfl | rfl | rfl | rfl | rfl | rfl | rfl | rfl | rfl | rfl | rfl | rfl | rfl | rfl | rfl | rfl | rfl | rfl | rfl | rfl | rfl | rfl | rfl | rfl | rfl | rfl
  · exact s_2 S hn hi hL kk
  · exact s_3 S hn hi hL kk
  · exact s_4 S hn hi hL kk
  · exact s_5 S hn hi hL kk
  · exact s_6 S hn hi hL kk
  · exact s_7 S hn hi hL kk
  · exact s_8 S hn hi hL kk
  · exact s_9 S hn hi hL kk
  · exact s_10 S hn hi hL kk
  · exact s_11 S hn hi hL kk
  · exact s_12 S hn hi hL kk
  · exact s_13 S hn hi hL kk
  · exact s_14 S hn hi hL kk
  · exact s_15 S hn hi hL kk
  · exact s_16 S hn hi hL kk
  · exact s_17 S hn hi hL kk
  · exact s_18 S hn hi hL kk
  · exact s_19 S hn hi hL kk
  · exact s_20 S hn hi hL kk
  · exact s_21 S hn hi hL kk
  · exact s_22 S hn hi hL kk
  · exact s_23 S hn hi hL kk
  · exact s_24 S hn hi hL kk
  · exact s_25 S hn hi hL kk
  · exact s_26 S hn hi hL kk
  · exact s_27 S hn hi hL kk
  · exact s_28 S hn hi hL kk
  · exact s_29 S hn hi hL kk
  · exact s_30 S hn hi hL kk
  · exact s_31 S hn hi hL kk
  · exact s_32 S hn hi hL kk
  · exact s_33 S hn hi hL kk
  · exact s_34 S hn hi hL kk
  · exact s_35 S hn hi hL kk
  · exact s_36 S hn hi hL kk
  · exact s_37 S hn hi hL kk
  · exact s_38 S hn hi hL kk
  · exact s_39 S hn hi hL kk
  · exact s_40 S hn hi hL kk
  · exact s_41 S hn hi hL kk
  · exact s_42 S hn hi hL kk
  · exact s_43 S hn hi hL kk
  · exact s_44 S hn hi hL kk
theorem l_235 (hL : L ≤ 384) : ∀ m q, q + m = 65 → ∀ (F M : Nat → Prop) (T : tS) (ci : Nat → Nat → Int32) (cj : Nat → Nat → Int64) (g : am_G), bO L xs (2 * q) F M T T ci cj g → X (d + 13) 235 (am_bk 235 1) [.ref 10, .ref 32, .ref 73, .int (nI (6 * q))] [] (ci, cj, g) (fun r _ => r = some (.int 1)) := by
  intro m
  induction m with
  | zero =>
    intro q hq F M T ci cj g S
    have h1 : nI L - 6 < nI (6 * q) := by
      rw [lt_ti, show (6 : Int32) = iI 6 from rfl, nI_iI, nI_iI, iI_sub, iI_ti (by omega) (by omega), iI_ti (by omega) (by omega)]
      omega
    rw [bk_235_1]
    simp only [bq_235_1, bk_235_46, bq_235_46, X_push, X_goto, X_fall, X_ifeq, X_ifne, X_iflt, X_ifge, X_ifgt, X_ifle, X_iceq, X_icne, X_iclt, X_icge, X_icgt, X_icle, X_ifnull, X_ifnonnull, X_switch, X_ireturn, X_lreturn, X_areturn, X_return, X_zreturn, X_iload, X_lload, X_aload, X_istore, X_astore, X_lstore, X_iinc, X_iadd, X_isub, X_imul, X_idiv, X_irem, X_iand, X_ior, X_ishl, X_ishr, X_iushr, X_ladd, X_lsub, X_lmul, X_ldiv, X_land, X_lor, X_lshl, X_lcmp, X_ineg, X_i2l, X_l2i, X_i2b, X_i2s, X_i2c, X_dupr, X_dupi, X_dup_x1, X_dup2, X_popi, X_popr, X_iaload, X_baload, X_laload, X_aaload, X_iastore, X_bastore, X_lastore, X_aastore, X_arraylength, am_wt_0, am_wt_int, am_wt_long, am_wt_ref, List.getElem?_cons_zero, List.getElem?_cons_succ, am_s1, am_s2, am_kill, List.set_cons_zero, List.set_cons_succ, List.length_cons, List.length_nil, Int.reduceToNat, Nat.reduceAdd, Nat.reduceLeDiff, Nat.reduceLT, Option.toList_some, Option.toList_none, List.cons_append, List.nil_append, true_and, and_true, true_or, or_true, false_or, or_false, and_self, false_and, not_false_eq_true, not_true_eq_false, ls_k S, ls_n S, oi_n, gt_iff_lt, h1, if_true]
  | succ m ih =>
    intro q hq F M T ci cj g S
    by_cases z : 6 * q + 6 ≤ L
    · have h1 : ¬ nI L - 6 < nI (6 * q) := by
        rw [lt_ti, show (6 : Int32) = iI 6 from rfl, nI_iI, nI_iI, iI_sub, iI_ti (by omega) (by omega), iI_ti (by omega) (by omega)]
        omega
      have k45 : ∀ n', n' ≤ 2 * q + 2 → ∀ F' M' T' ci' cj' g', bO L xs n' F' M' T' T' ci' cj' g' → X (d + 13) 235 (am_bk 235 45) [.ref 10, .ref 32, .ref 73, .int (nI (6 * q))] [] (ci', cj', g') (fun r _ => r = some (.int 1)) := by
        intro n' hn' F' M' T' ci' cj' g' S'
        have S2 : bO L xs (2 * (q + 1)) F' M' T' T' ci' cj' g' := by
          obtain ⟨s1, s2, s3, s4, s5, ⟨s6, s7, s8⟩, s9⟩ := S'
          exact ⟨s1, s2, s3, s4, s5, ⟨s6, Nat.le_trans s7 (Nat.add_le_add_left (Nat.mul_le_mul_left _ (by omega)) _), Nat.le_trans s8 (Nat.add_le_add_left (Nat.mul_le_mul_left _ (by omega)) _)⟩, s9⟩
        have e6 : nI (6 * q) + Int32.ofInt 6 = nI (6 * (q + 1)) := by
          show nI (6 * q) + nI 6 = _
          rw [nI_add, Nat.mul_add]
        rw [bk_235_45]
        simp only [bq_235_45, X_push, X_goto, X_fall, X_ifeq, X_ifne, X_iflt, X_ifge, X_ifgt, X_ifle, X_iceq, X_icne, X_iclt, X_icge, X_icgt, X_icle, X_ifnull, X_ifnonnull, X_switch, X_ireturn, X_lreturn, X_areturn, X_return, X_zreturn, X_iload, X_lload, X_aload, X_istore, X_astore, X_lstore, X_iinc, X_iadd, X_isub, X_imul, X_idiv, X_irem, X_iand, X_ior, X_ishl, X_ishr, X_iushr, X_ladd, X_lsub, X_lmul, X_ldiv, X_land, X_lor, X_lshl, X_lcmp, X_ineg, X_i2l, X_l2i, X_i2b, X_i2s, X_i2c, X_dupr, X_dupi, X_dup_x1, X_dup2, X_popi, X_popr, X_iaload, X_baload, X_laload, X_aaload, X_iastore, X_bastore, X_lastore, X_aastore, X_arraylength, am_wt_0, am_wt_int, am_wt_long, am_wt_ref, List.getElem?_cons_zero, List.getElem?_cons_succ, am_s1, am_s2, am_kill, List.set_cons_zero, List.set_cons_succ, List.length_cons, List.length_nil, Int.reduceToNat, Nat.reduceAdd, Nat.reduceLeDiff, Nat.reduceLT, Option.toList_some, Option.toList_none, List.cons_append, List.nil_append, true_and, and_true, true_or, or_true, false_or, or_false, and_self, false_and, not_false_eq_true, not_true_eq_false, e6]
        exact ih (q + 1) (by omega) F' M' T' ci' cj' g' S2
      rw [bk_235_1]
      simp only [bq_235_1, X_push, X_goto, X_fall, X_ifeq, X_ifne, X_iflt, X_ifge, X_ifgt, X_ifle, X_iceq, X_icne, X_iclt, X_icge, X_icgt, X_icle, X_ifnull, X_ifnonnull, X_switch, X_ireturn, X_lreturn, X_areturn, X_return, X_zreturn, X_iload, X_lload, X_aload, X_istore, X_astore, X_lstore, X_iinc, X_iadd, X_isub, X_imul, X_idiv, X_irem, X_iand, X_ior, X_ishl, X_ishr, X_iushr, X_ladd, X_lsub, X_lmul, X_ldiv, X_land, X_lor, X_lshl, X_lcmp, X_ineg, X_i2l, X_l2i, X_i2b, X_i2s, X_i2c, X_dupr, X_dupi, X_dup_x1, X_dup2, X_popi, X_popr, X_iaload, X_baload, X_laload, X_aaload, X_iastore, X_bastore, X_lastore, X_aastore, X_arraylength, am_wt_0, am_wt_int, am_wt_long, am_wt_ref, List.getElem?_cons_zero, List.getElem?_cons_succ, am_s1, am_s2, am_kill, List.set_cons_zero, List.set_cons_succ, List.length_cons, List.length_nil, Int.reduceToNat, Nat.reduceAdd, Nat.reduceLeDiff, Nat.reduceLT, Option.toList_some, Option.toList_none, List.cons_append, List.nil_append, true_and, and_true, true_or, or_true, false_or, or_false, and_self, false_and, not_false_eq_true, not_true_eq_false, ls_k S, ls_n S, ls_x S, oi_n, gt_iff_lt, h1, if_false, in_nI (show 6 * q < L by omega) (show L < 2 ^ 31 by omega), tn_nI (show 6 * q < 2 ^ 31 by omega)]
      rcases sw_235 (xs (6 * q) &&& 63) with w | w
      · rw [w]; exact k45 (2 * q) (by omega) F M T ci cj g S
      · exact s_all w S (by omega) z hL (fun F' M' T' ci' cj' g' S' => k45 _ (Nat.le_refl _) F' M' T' ci' cj' g' S')
    · have h1 : nI L - 6 < nI (6 * q) := by
        rw [lt_ti, show (6 : Int32) = iI 6 from rfl, nI_iI, nI_iI, iI_sub, iI_ti (by omega) (by omega), iI_ti (by omega) (by omega)]
        omega
      rw [bk_235_1]
      simp only [bq_235_1, bk_235_46, bq_235_46, X_push, X_goto, X_fall, X_ifeq, X_ifne, X_iflt, X_ifge, X_ifgt, X_ifle, X_iceq, X_icne, X_iclt, X_icge, X_icgt, X_icle, X_ifnull, X_ifnonnull, X_switch, X_ireturn, X_lreturn, X_areturn, X_return, X_zreturn, X_iload, X_lload, X_aload, X_istore, X_astore, X_lstore, X_iinc, X_iadd, X_isub, X_imul, X_idiv, X_irem, X_iand, X_ior, X_ishl, X_ishr, X_iushr, X_ladd, X_lsub, X_lmul, X_ldiv, X_land, X_lor, X_lshl, X_lcmp, X_ineg, X_i2l, X_l2i, X_i2b, X_i2s, X_i2c, X_dupr, X_dupi, X_dup_x1, X_dup2, X_popi, X_popr, X_iaload, X_baload, X_laload, X_aaload, X_iastore, X_bastore, X_lastore, X_aastore, X_arraylength, am_wt_0, am_wt_int, am_wt_long, am_wt_ref, List.getElem?_cons_zero, List.getElem?_cons_succ, am_s1, am_s2, am_kill, List.set_cons_zero, List.set_cons_succ, List.length_cons, List.length_nil, Int.reduceToNat, Nat.reduceAdd, Nat.reduceLeDiff, Nat.reduceLT, Option.toList_some, Option.toList_none, List.cons_append, List.nil_append, true_and, and_true, true_or, or_true, false_or, or_false, and_self, false_and, not_false_eq_true, not_true_eq_false, ls_k S, ls_n S, oi_n, gt_iff_lt, h1, if_true]
end LAW
theorem so_st (L : Nat) : so (st_cr, st_kd L, 0, 0) := ⟨rfl, rfl, lt_8 rfl rfl rfl rfl rfl rfl rfl rfl, lt_8 rfl rfl rfl rfl rfl rfl rfl rfl, lt_8 rfl rfl rfl rfl rfl rfl rfl rfl, lt_8 rfl rfl rfl rfl rfl rfl rfl rfl⟩
theorem sc_st (xs : Nat → Int32) : sc (st_ci xs) := ⟨rfl, rfl, rfl, lt_8 (fun _ => rfl) (fun _ => rfl) (fun _ => rfl) (fun _ => rfl) (fun _ => rfl) (fun _ => rfl) (fun _ => rfl) (fun _ => rfl)⟩
/-- the law's run on the machine of handles -/
theorem law_run (d L : Nat) (xs : Nat → Int32) (hL : L ≤ 384) : X (d + 13) 235 (am_bk 235 0) [.ref 10, .null, .null, .null] [] (st_ci xs, fun _ _ => 0, ((st_cr, st_kd L, 0, 0) : am_G)) (fun r _ => r = some (.int 1)) := by
  rw [bk_235_0]
  simp only [bq_235_0]
  refine n_0 (d := d + 10) (show 0 + 41 ≤ 600000 by decide) (show 0 + 2404 ≤ 7302250 by decide) (by decide) ?_
  intro ci1 cj1 g1 I0
  have I : rgn 32 (oT 32) (lT 32) 40 2404 (st_ci xs) (fun _ _ => 0) (st_cr, st_kd L, 0, 0) ci1 cj1 g1 := I0
  clear I0
  have e1 := I.1.2.1
  have e2 : g1.2.2.2 = 0 + 2404 := I.1.2.2
  have l1 : ∀ a, a < 32 → ci1 a = st_ci xs a ∧ cj1 a = (fun _ => 0) ∧ g1.1 a = st_cr a ∧ g1.2.1 a = st_kd L a := fun a h => I.2.1 a (Or.inl h)
  have G1 : so g1 := so_g (g := (st_cr, st_kd L, 0, 0)) (fun a h => (l1 a h).2.2.2) (fun a i h => congrFun (l1 a h).2.2.1 i) (so_st L)
  have C1 : sc ci1 := sc_fr (sc_st xs) (fun a h => (l1 a h).1)
  have R1 := cR_of I G1 C1
  simp only [X_push, X_goto, X_fall, X_ifeq, X_ifne, X_iflt, X_ifge, X_ifgt, X_ifle, X_iceq, X_icne, X_iclt, X_icge, X_icgt, X_icle, X_ifnull, X_ifnonnull, X_switch, X_ireturn, X_lreturn, X_areturn, X_return, X_zreturn, X_iload, X_lload, X_aload, X_istore, X_astore, X_lstore, X_iinc, X_iadd, X_isub, X_imul, X_idiv, X_irem, X_iand, X_ior, X_ishl, X_ishr, X_iushr, X_ladd, X_lsub, X_lmul, X_ldiv, X_land, X_lor, X_lshl, X_lcmp, X_ineg, X_i2l, X_l2i, X_i2b, X_i2s, X_i2c, X_dupr, X_dupi, X_dup_x1, X_dup2, X_popi, X_popr, X_iaload, X_baload, X_laload, X_aaload, X_iastore, X_bastore, X_lastore, X_aastore, X_arraylength, am_wt_0, am_wt_int, am_wt_long, am_wt_ref, List.getElem?_cons_zero, List.getElem?_cons_succ, am_s1, am_s2, am_kill, List.set_cons_zero, List.set_cons_succ, List.length_cons, List.length_nil, Int.reduceToNat, Nat.reduceAdd, Nat.reduceLeDiff, Nat.reduceLT, Option.toList_some, Option.toList_none, List.cons_append, List.nil_append, true_and, and_true, true_or, or_true, false_or, or_false, and_self, false_and, not_false_eq_true, not_true_eq_false]
  refine n_136 (d := d + 11) (by omega) (by omega) (by decide) ?_
  intro ci2 cj2 g2 J
  have e3 : g1.2.2.1 + 32 = 73 := by omega
  rw [e3] at J ⊢
  have e4 := J.1.2.1
  have e5 := J.1.2.2
  have l2 : ∀ a, a < 73 → ci2 a = ci1 a ∧ cj2 a = cj1 a ∧ g2.1 a = g1.1 a ∧ g2.2.1 a = g1.2.1 a := fun a h => J.2.1 a (Or.inl h)
  have G2 : so g2 := so_g (fun a h => (l2 a (by omega)).2.2.2) (fun a i h => congrFun (l2 a (by omega)).2.2.1 i) G1
  have C2 : sc ci2 := sc_fr C1 (fun a h => (l2 a (by omega)).1)
  have R2 := mR_of J G2 C2
  have R1' : cR (fun a => 32 ≤ a ∧ a < 73) ci2 cj2 g2 tw0 := cR_g (fun a h => (l2 a (by omega)).2.2.2) (fun a i h => congrFun (l2 a (by omega)).2.2.1 i) (fun a h => ⟨(l2 a (by omega)).1, (l2 a (by omega)).2.1⟩) (fun a h => h) R1
  have k10 : g2.2.1 10 = (30, L) := by rw [(l2 10 (by decide)).2.2.2, (l1 10 (by decide)).2.2.2]; rfl
  have S : bO L xs (2 * 0) (fun a => 32 ≤ a ∧ a < 73) (fun a => 73 ≤ a ∧ a < 141) tw0 tw0 ci2 cj2 g2 := by
    refine ⟨R1', R2, fun a h => ⟨h.1, by omega⟩, fun a h => ⟨by omega, by omega⟩, fun a h1 h2 => by omega, ⟨by omega, by omega, by omega⟩, ?_, ?_, ?_⟩
    · rw [(l2 10 (by decide)).1, (l1 10 (by decide)).1]; rfl
    · unfold gk; rw [k10]
    · unfold gn; rw [k10]
  simp only [X_push, X_goto, X_fall, X_ifeq, X_ifne, X_iflt, X_ifge, X_ifgt, X_ifle, X_iceq, X_icne, X_iclt, X_icge, X_icgt, X_icle, X_ifnull, X_ifnonnull, X_switch, X_ireturn, X_lreturn, X_areturn, X_return, X_zreturn, X_iload, X_lload, X_aload, X_istore, X_astore, X_lstore, X_iinc, X_iadd, X_isub, X_imul, X_idiv, X_irem, X_iand, X_ior, X_ishl, X_ishr, X_iushr, X_ladd, X_lsub, X_lmul, X_ldiv, X_land, X_lor, X_lshl, X_lcmp, X_ineg, X_i2l, X_l2i, X_i2b, X_i2s, X_i2c, X_dupr, X_dupi, X_dup_x1, X_dup2, X_popi, X_popr, X_iaload, X_baload, X_laload, X_aaload, X_iastore, X_bastore, X_lastore, X_aastore, X_arraylength, am_wt_0, am_wt_int, am_wt_long, am_wt_ref, List.getElem?_cons_zero, List.getElem?_cons_succ, am_s1, am_s2, am_kill, List.set_cons_zero, List.set_cons_succ, List.length_cons, List.length_nil, Int.reduceToNat, Nat.reduceAdd, Nat.reduceLeDiff, Nat.reduceLT, Option.toList_some, Option.toList_none, List.cons_append, List.nil_append, true_and, and_true, true_or, or_true, false_or, or_false, and_self, false_and, not_false_eq_true, not_true_eq_false]
  exact l_235 hL 65 0 rfl _ _ _ ci2 cj2 g2 S
theorem law_ok (L : Nat) (xs : Nat → Int32) (hL : L ≤ 384) : X 30 235 (am_bk 235 0) [.ref 10, .null, .null, .null] [] (st_h L xs) (fun r _ => r = some (.int 1)) := law_run 17 L xs hL
