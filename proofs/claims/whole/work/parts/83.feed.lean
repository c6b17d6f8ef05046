/-! feed, of both -/
theorem and255 (x : Int32) : ∃ n : Nat, n < 256 ∧ x &&& 255 = nI n := by
  refine ⟨x.toBitVec.toNat &&& 255, ?_, ?_⟩
  · have := Nat.and_le_right (n := x.toBitVec.toNat) (m := 255)
    omega
  · apply Int32.toBitVec_inj.1
    apply BitVec.eq_of_toNat_eq
    have h : x.toBitVec.toNat &&& 255 < 2 ^ 32 := by
      have := Nat.and_le_right (n := x.toBitVec.toNat) (m := 255)
      omega
    show (x.toBitVec &&& 255#32).toNat = (BitVec.ofNat 32 (x.toBitVec.toNat &&& 255)).toNat
    rw [BitVec.toNat_and]
    show x.toBitVec.toNat &&& 255 = _
    rw [BitVec.toNat_ofNat, Nat.mod_eq_of_lt h]
/-- a byte of an int -/
def byt (v : Int32) (m : Nat) : Nat := ((v >>> (nI 8 * nI m &&& 31)) &&& 255).toNatClampNeg
theorem byt_e (v : Int32) (m : Nat) : byt v m < 256 ∧ (v >>> (nI 8 * nI m &&& 31)) &&& 255 = nI (byt v m) := by
  obtain ⟨n, hn, e⟩ := and255 (v >>> (nI 8 * nI m &&& 31))
  unfold byt
  rw [e, tn_nI (by omega)]
  exact ⟨hn, rfl⟩
theorem low8 (x : Int32) : (x &&& 255).toInt8 = x.toInt8 := by
  rw [Int32.toInt8_and]
  show x.toInt8 &&& (-1) = x.toInt8
  simp
theorem by8_byt (v : Int32) (m : Nat) : (v >>> (nI 8 * nI m &&& 31)).toInt8.toInt32.toInt8.toInt32 = by8 (byt v m) := by
  unfold by8
  rw [← (byt_e v m).2, low8]
  simp
def fdF (v : Int32) : Nat → Nat → (Nat → Nat) → Nat → Nat
  | 0, _, B => B
  | m + 1, l, B => fdF v m (l + 1) (am_u1 B l (byt v m))
theorem fdF_lt (v : Int32) : ∀ m l B, (∀ i, i < l → B i < 256) → ∀ i, i < l + m → fdF v m l B i < 256 := by
  intro m
  induction m with
  | zero => intro l B h i hi; exact h i hi
  | succ m ih =>
    intro l B h i hi
    refine ih (l + 1) _ (fun j hj => ?_) i (by omega)
    unfold am_u1
    split
    · exact (byt_e v m).1
    · exact h j (by omega)
def q_feed (T : tS) (v n : Int32) : Int32 × tS := if rg n 1 4 = true then (if 200 < tL T + n.toNatClampNeg then (rI 4, rfT T 4) else (nI (tL T + n.toNatClampNeg), stT T (tL T + n.toNatClampNeg) (fdF v n.toNatClampNeg (tL T) (tB T)))) else (rI 0, rfT T 0)
theorem rg_14 {n : Int32} (h : rg n 1 4 = true) : ∃ m : Nat, 1 ≤ m ∧ m ≤ 4 ∧ n = nI m := by
  have h1 : 1 ≤ n.toInt ∧ n.toInt ≤ 4 := of_decide_eq_true h
  obtain ⟨k, hk, e⟩ := nI_ex (x := n) (by omega)
  rw [e, nI_ti hk] at h1
  exact ⟨k, by omega, by omega, e⟩
section FEED
variable {d : Nat} {ci : Nat → Nat → Int32} {cj : Nat → Nat → Int64} {g : am_G} {Q : Option Value → am_H → Prop} {F M : Nat → Prop} {T : tS}
theorem k_feed (R : cR F ci cj g T) (v n : Int32) (k : Kn F ci cj g (q_feed T v n).2 (.int (q_feed T v n).1) Q) : X (d + 3) 13 (am_bk 13 0) [.ref 32, .int v, .int n] [] (ci, cj, g) Q := by
  have L := cR_to R
  have A := cR_ta R
  have P := R.2.2.2.2
  have t0 : ci 69 0 = nI (tL T) := R.2.1.2.2.2.2.1
  have t1 : ∀ i, i < tL T → ci 70 i = by8 (tB T i) := R.2.1.2.2.2.2.2.1
  have hL : tL T ≤ 200 := P.2.2.1
  have hB : ∀ i, i < tL T → tB T i < 256 := P.2.2.2.1
  unfold q_feed at k
  by_cases h1 : rg n 1 4 = true
  · rw [if_pos h1] at k
    obtain ⟨m, hm1, hm, rfl⟩ := rg_14 h1
    rw [tn_nI (by omega)] at k
    have g1 : ¬ nI m < 1 := by rw [lit_1, nI_lti (by omega) (by omega)]; omega
    have g2 : nI m ≤ 4 := by rw [lit_4, nI_lei (by omega) (by omega)]; omega
    by_cases h2 : 200 < tL T + m
    · rw [if_pos h2] at k
      have g3 : ¬ nI (tL T + m) ≤ 200 := by rw [lit_200, nI_lei (by omega) (by omega)]; omega
      simp only [bk_13_0, bq_13_0, bk_13_2, bq_13_2, G_4, G_29, X_push, X_goto, X_fall, X_ifeq, X_ifne, X_iflt, X_ifge, X_ifgt, X_ifle, X_iceq, X_icne, X_iclt, X_icge, X_icgt, X_icle, X_ifnull, X_ifnonnull, X_switch, X_ireturn, X_lreturn, X_areturn, X_return, X_zreturn, X_iload, X_lload, X_aload, X_istore, X_astore, X_lstore, X_iinc, X_iadd, X_isub, X_imul, X_idiv, X_irem, X_iand, X_ior, X_ishl, X_ishr, X_iushr, X_ladd, X_lsub, X_lmul, X_ldiv, X_land, X_lor, X_lshl, X_lcmp, X_ineg, X_i2l, X_l2i, X_i2b, X_i2s, X_i2c, X_dupr, X_dupi, X_dup_x1, X_dup2, X_popi, X_popr, X_iaload, X_baload, X_laload, X_aaload, X_iastore, X_bastore, X_lastore, X_aastore, X_arraylength, am_wt_0, am_wt_int, am_wt_long, am_wt_ref, List.getElem?_cons_zero, List.getElem?_cons_succ, am_s1, am_s2, am_kill, List.set_cons_zero, List.set_cons_succ, List.length_cons, List.length_nil, Int.reduceToNat, Nat.reduceAdd, Nat.reduceLeDiff, Nat.reduceLT, Option.toList_some, Option.toList_none, List.cons_append, List.nil_append, true_and, and_true, true_or, or_true, false_or, or_false, and_self, false_and, not_false_eq_true, not_true_eq_false, to_k L, to_r0 L, to_r1 L, to_r2 L, to_r3 L, to_r4 L, to_r5 L, to_r6 L, to_a5 L, to_n5 L, to_a6 L, to_n6 L, ta_k A, ta_r1 A, ta_a1 A, ta_n1 A, g1, g2, if_false, if_true, t0, nI_add, g3, rI_0, rI_1, rI_2, rI_3, rI_4, C_44, C_45, c_44 R (show 0 < 5 by decide), c_44 R (show 1 < 5 by decide), c_44 R (show 2 < 5 by decide), c_44 R (show 3 < 5 by decide), c_44 R (show 4 < 5 by decide), c_45 R (show 0 < 5 by decide), c_45 R (show 1 < 5 by decide), c_45 R (show 2 < 5 by decide), c_45 R (show 3 < 5 by decide), c_45 R (show 4 < 5 by decide)]
      exact kn_rf R (by decide) k
    · rw [if_neg h2] at k
      have g3 : nI (tL T + m) ≤ 200 := by rw [lit_200, nI_lei (by omega) (by omega)]; omega
      simp only [bk_13_0, bq_13_0, bk_13_2, bq_13_2, bk_13_3, bq_13_3, G_4, G_29, X_push, X_goto, X_fall, X_ifeq, X_ifne, X_iflt, X_ifge, X_ifgt, X_ifle, X_iceq, X_icne, X_iclt, X_icge, X_icgt, X_icle, X_ifnull, X_ifnonnull, X_switch, X_ireturn, X_lreturn, X_areturn, X_return, X_zreturn, X_iload, X_lload, X_aload, X_istore, X_astore, X_lstore, X_iinc, X_iadd, X_isub, X_imul, X_idiv, X_irem, X_iand, X_ior, X_ishl, X_ishr, X_iushr, X_ladd, X_lsub, X_lmul, X_ldiv, X_land, X_lor, X_lshl, X_lcmp, X_ineg, X_i2l, X_l2i, X_i2b, X_i2s, X_i2c, X_dupr, X_dupi, X_dup_x1, X_dup2, X_popi, X_popr, X_iaload, X_baload, X_laload, X_aaload, X_iastore, X_bastore, X_lastore, X_aastore, X_arraylength, am_wt_0, am_wt_int, am_wt_long, am_wt_ref, List.getElem?_cons_zero, List.getElem?_cons_succ, am_s1, am_s2, am_kill, List.set_cons_zero, List.set_cons_succ, List.length_cons, List.length_nil, Int.reduceToNat, Nat.reduceAdd, Nat.reduceLeDiff, Nat.reduceLT, Option.toList_some, Option.toList_none, List.cons_append, List.nil_append, true_and, and_true, true_or, or_true, false_or, or_false, and_self, false_and, not_false_eq_true, not_true_eq_false, to_k L, to_r0 L, to_r1 L, to_r2 L, to_r3 L, to_r4 L, to_r5 L, to_r6 L, to_a5 L, to_n5 L, to_a6 L, to_n6 L, ta_k A, ta_r1 A, ta_a1 A, ta_n1 A, g1, g2, if_false, if_true, t0, nI_add, g3, C_101]
      have key : ∀ (Q' : Option Value → am_H → Prop) r l B (ci1 : Nat → Nat → Int32), l + r = tL T + m → (∀ x, x ≠ 69 → x ≠ 70 → ci1 x = ci x) → ci1 69 0 = nI l → (∀ i, i < l → ci1 70 i = by8 (B i)) → (∀ ci2 : Nat → Nat → Int32, (∀ x, x ≠ 69 → x ≠ 70 → ci2 x = ci x) → ci2 69 0 = nI (tL T + m) → (∀ i, i < tL T + m → ci2 70 i = by8 (fdF v r l B i)) → Q' none (ci2, cj, g)) → X (d + 2) 101 (am_bk 101 1) [.ref 69, .int v, .int (nI m), .int (mm1 r)] [] (ci1, cj, g) Q' := by
        intro Q'
        intro r
        induction r with
        | zero =>
          intro l B ci1 hl f1 f2 f3 kk
          have h5 : mm1 0 < 0 := by decide
          rw [bk_101_1]
          simp only [bq_101_1, bk_101_2, bq_101_2, X_push, X_goto, X_fall, X_ifeq, X_ifne, X_iflt, X_ifge, X_ifgt, X_ifle, X_iceq, X_icne, X_iclt, X_icge, X_icgt, X_icle, X_ifnull, X_ifnonnull, X_switch, X_ireturn, X_lreturn, X_areturn, X_return, X_zreturn, X_iload, X_lload, X_aload, X_istore, X_astore, X_lstore, X_iinc, X_iadd, X_isub, X_imul, X_idiv, X_irem, X_iand, X_ior, X_ishl, X_ishr, X_iushr, X_ladd, X_lsub, X_lmul, X_ldiv, X_land, X_lor, X_lshl, X_lcmp, X_ineg, X_i2l, X_l2i, X_i2b, X_i2s, X_i2c, X_dupr, X_dupi, X_dup_x1, X_dup2, X_popi, X_popr, X_iaload, X_baload, X_laload, X_aaload, X_iastore, X_bastore, X_lastore, X_aastore, X_arraylength, am_wt_0, am_wt_int, am_wt_long, am_wt_ref, List.getElem?_cons_zero, List.getElem?_cons_succ, am_s1, am_s2, am_kill, List.set_cons_zero, List.set_cons_succ, List.length_cons, List.length_nil, Int.reduceToNat, Nat.reduceAdd, Nat.reduceLeDiff, Nat.reduceLT, Option.toList_some, Option.toList_none, List.cons_append, List.nil_append, true_and, and_true, true_or, or_true, false_or, or_false, and_self, false_and, not_false_eq_true, not_true_eq_false, h5, if_true]
          exact kk ci1 f1 (by rw [f2, show l = tL T + m by omega]) (fun i hi => f3 i (by omega))
        | succ r ih =>
          intro l B ci1 hl f1 f2 f3 kk
          have h5 : ¬ nI r < 0 := by rw [lit_0, nI_lti (by omega) (by omega)]; omega
          have h6 : ¬ (200 : Int32) ≤ nI l := by rw [lit_200, nI_lei (by omega) (by omega)]; omega
          have e69 : am_u2 ci1 70 l (by8 (byt v r)) 69 0 = nI l := by rw [u2_a _ _ (by decide)]; exact f2
          rw [bk_101_1, mm1_s]
          simp only [bq_101_1, G_29, G_30, P_29, X_push, X_goto, X_fall, X_ifeq, X_ifne, X_iflt, X_ifge, X_ifgt, X_ifle, X_iceq, X_icne, X_iclt, X_icge, X_icgt, X_icle, X_ifnull, X_ifnonnull, X_switch, X_ireturn, X_lreturn, X_areturn, X_return, X_zreturn, X_iload, X_lload, X_aload, X_istore, X_astore, X_lstore, X_iinc, X_iadd, X_isub, X_imul, X_idiv, X_irem, X_iand, X_ior, X_ishl, X_ishr, X_iushr, X_ladd, X_lsub, X_lmul, X_ldiv, X_land, X_lor, X_lshl, X_lcmp, X_ineg, X_i2l, X_l2i, X_i2b, X_i2s, X_i2c, X_dupr, X_dupi, X_dup_x1, X_dup2, X_popi, X_popr, X_iaload, X_baload, X_laload, X_aaload, X_iastore, X_bastore, X_lastore, X_aastore, X_arraylength, am_wt_0, am_wt_int, am_wt_long, am_wt_ref, List.getElem?_cons_zero, List.getElem?_cons_succ, am_s1, am_s2, am_kill, List.set_cons_zero, List.set_cons_succ, List.length_cons, List.length_nil, Int.reduceToNat, Nat.reduceAdd, Nat.reduceLeDiff, Nat.reduceLT, Option.toList_some, Option.toList_none, List.cons_append, List.nil_append, true_and, and_true, true_or, or_true, false_or, or_false, and_self, false_and, not_false_eq_true, not_true_eq_false, ta_k A, ta_r1 A, ta_a1 A, ta_n1 A, h5, if_false, f2, h6, in_nI (show l < 200 by omega) (show 200 < 2 ^ 31 by decide), tn_nI (show l < 2 ^ 31 by omega), show (8 : Int32) = nI 8 from rfl, by8_byt, e69, Nat.le_refl, nI_1, mm1_d]
          refine ih (l + 1) (am_u1 B l (byt v r)) _ (by omega) (fun x p q => by rw [u2_a _ _ p, u2_a _ _ q]; exact f1 x p q) (by rw [u2_s]) (fun i hi => ?_) kk
          rw [u2_a _ _ (by decide), u2_e, if_pos rfl]
          unfold am_u1
          split
          · rfl
          · exact f3 i (by omega)
      simp only [bk_101_0, bq_101_0, X_push, X_goto, X_fall, X_ifeq, X_ifne, X_iflt, X_ifge, X_ifgt, X_ifle, X_iceq, X_icne, X_iclt, X_icge, X_icgt, X_icle, X_ifnull, X_ifnonnull, X_switch, X_ireturn, X_lreturn, X_areturn, X_return, X_zreturn, X_iload, X_lload, X_aload, X_istore, X_astore, X_lstore, X_iinc, X_iadd, X_isub, X_imul, X_idiv, X_irem, X_iand, X_ior, X_ishl, X_ishr, X_iushr, X_ladd, X_lsub, X_lmul, X_ldiv, X_land, X_lor, X_lshl, X_lcmp, X_ineg, X_i2l, X_l2i, X_i2b, X_i2s, X_i2c, X_dupr, X_dupi, X_dup_x1, X_dup2, X_popi, X_popr, X_iaload, X_baload, X_laload, X_aaload, X_iastore, X_bastore, X_lastore, X_aastore, X_arraylength, am_wt_0, am_wt_int, am_wt_long, am_wt_ref, List.getElem?_cons_zero, List.getElem?_cons_succ, am_s1, am_s2, am_kill, List.set_cons_zero, List.set_cons_succ, List.length_cons, List.length_nil, Int.reduceToNat, Nat.reduceAdd, Nat.reduceLeDiff, Nat.reduceLT, Option.toList_some, Option.toList_none, List.cons_append, List.nil_append, true_and, and_true, true_or, or_true, false_or, or_false, and_self, false_and, not_false_eq_true, not_true_eq_false, nI_mm1]
      refine key _ m (tL T) (tB T) ci (by omega) (fun x _ _ => rfl) t0 t1 ?_
      · intro ci2 f1 f2 f3
        simp only [G_4, G_29, X_push, X_goto, X_fall, X_ifeq, X_ifne, X_iflt, X_ifge, X_ifgt, X_ifle, X_iceq, X_icne, X_iclt, X_icge, X_icgt, X_icle, X_ifnull, X_ifnonnull, X_switch, X_ireturn, X_lreturn, X_areturn, X_return, X_zreturn, X_iload, X_lload, X_aload, X_istore, X_astore, X_lstore, X_iinc, X_iadd, X_isub, X_imul, X_idiv, X_irem, X_iand, X_ior, X_ishl, X_ishr, X_iushr, X_ladd, X_lsub, X_lmul, X_ldiv, X_land, X_lor, X_lshl, X_lcmp, X_ineg, X_i2l, X_l2i, X_i2b, X_i2s, X_i2c, X_dupr, X_dupi, X_dup_x1, X_dup2, X_popi, X_popr, X_iaload, X_baload, X_laload, X_aaload, X_iastore, X_bastore, X_lastore, X_aastore, X_arraylength, am_wt_0, am_wt_int, am_wt_long, am_wt_ref, List.getElem?_cons_zero, List.getElem?_cons_succ, am_s1, am_s2, am_kill, List.set_cons_zero, List.set_cons_succ, List.length_cons, List.length_nil, Int.reduceToNat, Nat.reduceAdd, Nat.reduceLeDiff, Nat.reduceLT, Option.toList_some, Option.toList_none, List.cons_append, List.nil_append, true_and, and_true, true_or, or_true, false_or, or_false, and_self, false_and, not_false_eq_true, not_true_eq_false, to_k L, to_r0 L, to_r1 L, to_r2 L, to_r3 L, to_r4 L, to_r5 L, to_r6 L, to_a5 L, to_n5 L, to_a6 L, to_n6 L, ta_k A, ta_r1 A, ta_a1 A, ta_n1 A, f2]
        obtain ⟨R2, r2⟩ := cR_tape R (ci' := ci2) (l := tL T + m) (b := fdF v m (tL T) (tB T)) (by omega) (fdF_lt v m (tL T) (tB T) hB) (fun x p q _ => f1 x p q) f2 f3
        exact k _ _ R2 r2
  · rw [if_neg h1] at k
    have h1' := rg_no h1
    by_cases g1 : n < 1
    · simp only [bk_13_0, bq_13_0, bk_13_1, bq_13_1, X_push, X_goto, X_fall, X_ifeq, X_ifne, X_iflt, X_ifge, X_ifgt, X_ifle, X_iceq, X_icne, X_iclt, X_icge, X_icgt, X_icle, X_ifnull, X_ifnonnull, X_switch, X_ireturn, X_lreturn, X_areturn, X_return, X_zreturn, X_iload, X_lload, X_aload, X_istore, X_astore, X_lstore, X_iinc, X_iadd, X_isub, X_imul, X_idiv, X_irem, X_iand, X_ior, X_ishl, X_ishr, X_iushr, X_ladd, X_lsub, X_lmul, X_ldiv, X_land, X_lor, X_lshl, X_lcmp, X_ineg, X_i2l, X_l2i, X_i2b, X_i2s, X_i2c, X_dupr, X_dupi, X_dup_x1, X_dup2, X_popi, X_popr, X_iaload, X_baload, X_laload, X_aaload, X_iastore, X_bastore, X_lastore, X_aastore, X_arraylength, am_wt_0, am_wt_int, am_wt_long, am_wt_ref, List.getElem?_cons_zero, List.getElem?_cons_succ, am_s1, am_s2, am_kill, List.set_cons_zero, List.set_cons_succ, List.length_cons, List.length_nil, Int.reduceToNat, Nat.reduceAdd, Nat.reduceLeDiff, Nat.reduceLT, Option.toList_some, Option.toList_none, List.cons_append, List.nil_append, true_and, and_true, true_or, or_true, false_or, or_false, and_self, false_and, not_false_eq_true, not_true_eq_false, to_k L, to_r0 L, to_r1 L, to_r2 L, to_r3 L, to_r4 L, to_r5 L, to_r6 L, to_a5 L, to_n5 L, to_a6 L, to_n6 L, g1, if_true, rI_0, rI_1, rI_2, rI_3, rI_4, C_44, C_45, c_44 R (show 0 < 5 by decide), c_44 R (show 1 < 5 by decide), c_44 R (show 2 < 5 by decide), c_44 R (show 3 < 5 by decide), c_44 R (show 4 < 5 by decide), c_45 R (show 0 < 5 by decide), c_45 R (show 1 < 5 by decide), c_45 R (show 2 < 5 by decide), c_45 R (show 3 < 5 by decide), c_45 R (show 4 < 5 by decide)]
      exact kn_rf R (by decide) k
    · have g2 : ¬ n ≤ 4 := by rw [lt_ti, ti_1] at g1; rw [le_ti, ti_4]; omega
      simp only [bk_13_0, bq_13_0, bk_13_1, bq_13_1, X_push, X_goto, X_fall, X_ifeq, X_ifne, X_iflt, X_ifge, X_ifgt, X_ifle, X_iceq, X_icne, X_iclt, X_icge, X_icgt, X_icle, X_ifnull, X_ifnonnull, X_switch, X_ireturn, X_lreturn, X_areturn, X_return, X_zreturn, X_iload, X_lload, X_aload, X_istore, X_astore, X_lstore, X_iinc, X_iadd, X_isub, X_imul, X_idiv, X_irem, X_iand, X_ior, X_ishl, X_ishr, X_iushr, X_ladd, X_lsub, X_lmul, X_ldiv, X_land, X_lor, X_lshl, X_lcmp, X_ineg, X_i2l, X_l2i, X_i2b, X_i2s, X_i2c, X_dupr, X_dupi, X_dup_x1, X_dup2, X_popi, X_popr, X_iaload, X_baload, X_laload, X_aaload, X_iastore, X_bastore, X_lastore, X_aastore, X_arraylength, am_wt_0, am_wt_int, am_wt_long, am_wt_ref, List.getElem?_cons_zero, List.getElem?_cons_succ, am_s1, am_s2, am_kill, List.set_cons_zero, List.set_cons_succ, List.length_cons, List.length_nil, Int.reduceToNat, Nat.reduceAdd, Nat.reduceLeDiff, Nat.reduceLT, Option.toList_some, Option.toList_none, List.cons_append, List.nil_append, true_and, and_true, true_or, or_true, false_or, or_false, and_self, false_and, not_false_eq_true, not_true_eq_false, to_k L, to_r0 L, to_r1 L, to_r2 L, to_r3 L, to_r4 L, to_r5 L, to_r6 L, to_a5 L, to_n5 L, to_a6 L, to_n6 L, g1, g2, if_false, rI_0, rI_1, rI_2, rI_3, rI_4, C_44, C_45, c_44 R (show 0 < 5 by decide), c_44 R (show 1 < 5 by decide), c_44 R (show 2 < 5 by decide), c_44 R (show 3 < 5 by decide), c_44 R (show 4 < 5 by decide), c_45 R (show 0 < 5 by decide), c_45 R (show 1 < 5 by decide), c_45 R (show 2 < 5 by decide), c_45 R (show 3 < 5 by decide), c_45 R (show 4 < 5 by decide)]
      exact kn_rf R (by decide) k
theorem j_feed (R : mR M ci cj g T) (v n : Int32) (k : Km M ci cj g (q_feed T v n).2 (.int (q_feed T v n).1) Q) : X (d + 3) 164 (am_bk 164 0) [.ref 73, .int v, .int n, .null] [] (ci, cj, g) Q := by
  have H := mR_mo R
  have P := R.2.2.2.2.2
  have t0 : ci 73 8 = nI (tL T) := R.2.1.2.2.1
  have t1 : ∀ i, i < tL T → ci 89 i = nI (tB T i) := R.2.1.2.2.2.1
  have hL : tL T ≤ 200 := P.2.2.1
  have hB : ∀ i, i < tL T → tB T i < 256 := P.2.2.2.1
  unfold q_feed at k
  by_cases h1 : rg n 1 4 = true
  · rw [if_pos h1] at k
    obtain ⟨m, hm1, hm, rfl⟩ := rg_14 h1
    rw [tn_nI (by omega)] at k
    have es : (200 : Int32) - nI (tL T) = nI (200 - tL T) := pk_sub (a := 200) (b := tL T) hL
    by_cases h2 : 200 < tL T + m
    · rw [if_pos h2] at k
      have g3 : ¬ nI m ≤ nI (200 - tL T) := by rw [nI_lei (by omega) (by omega)]; omega
      simp only [bk_164_0, bq_164_0, bk_164_1, bq_164_1, G_45, X_push, X_goto, X_fall, X_ifeq, X_ifne, X_iflt, X_ifge, X_ifgt, X_ifle, X_iceq, X_icne, X_iclt, X_icge, X_icgt, X_icle, X_ifnull, X_ifnonnull, X_switch, X_ireturn, X_lreturn, X_areturn, X_return, X_zreturn, X_iload, X_lload, X_aload, X_istore, X_astore, X_lstore, X_iinc, X_iadd, X_isub, X_imul, X_idiv, X_irem, X_iand, X_ior, X_ishl, X_ishr, X_iushr, X_ladd, X_lsub, X_lmul, X_ldiv, X_land, X_lor, X_lshl, X_lcmp, X_ineg, X_i2l, X_l2i, X_i2b, X_i2s, X_i2c, X_dupr, X_dupi, X_dup_x1, X_dup2, X_popi, X_popr, X_iaload, X_baload, X_laload, X_aaload, X_iastore, X_bastore, X_lastore, X_aastore, X_arraylength, am_wt_0, am_wt_int, am_wt_long, am_wt_ref, List.getElem?_cons_zero, List.getElem?_cons_succ, am_s1, am_s2, am_kill, List.set_cons_zero, List.set_cons_succ, List.length_cons, List.length_nil, Int.reduceToNat, Nat.reduceAdd, Nat.reduceLeDiff, Nat.reduceLT, Option.toList_some, Option.toList_none, List.cons_append, List.nil_append, true_and, and_true, true_or, or_true, false_or, or_false, and_self, false_and, not_false_eq_true, not_true_eq_false, m7_k H, m7_r0 H, m7_r1 H, m7_r2 H, m7_r3 H, m7_r4 H, m7_r5 H, m7_r6 H, m7_r7 H, m7_r9 H, m7_r10 H, m7_r11 H, m7_r12 H, m7_r14 H, m7_r15 H, m7_r16 H, m7_r25 H, m7_r27 H, m7_r28 H, m7_r29 H, m7_r30 H, m7_r31 H, m7_r32 H, m7_a1 H, m7_n1 H, m7_a2 H, m7_n2 H, m7_a3 H, m7_n3 H, m7_a4 H, m7_n4 H, m7_a13 H, m7_n13 H, m7_a14 H, m7_n14 H, m7_a15 H, m7_n15 H, m7_a16 H, m7_n16 H, m7_a17 H, m7_n17 H, m7_a18 H, m7_n18 H, m7_a19 H, m7_n19 H, m7_a20 H, m7_n20 H, m7_a21 H, m7_n21 H, m7_a28 H, m7_n28 H, m7_a29 H, m7_n29 H, m7_a30 H, m7_n30 H, m7_a31 H, m7_n31 H, m7_a38 H, m7_n38 H, m7_a64 H, m7_n64 H, m7_a65 H, m7_n65 H, m7_a66 H, m7_n66 H, m7_a67 H, m7_n67 H, C_138, c_138i, tl_1, tl_4, h1, bI_t, i10, not_false_eq_true, if_true, t0, es, g3, if_false, rI_0, rI_1, rI_2, rI_3, rI_4, C_137, c_137m H (show 0 < 5 by decide), c_137m H (show 1 < 5 by decide), c_137m H (show 2 < 5 by decide), c_137m H (show 3 < 5 by decide), c_137m H (show 4 < 5 by decide)]
      exact km_rf R (by decide) k
    · rw [if_neg h2] at k
      have g3 : nI m ≤ nI (200 - tL T) := by rw [nI_lei (by omega) (by omega)]; omega
      simp only [bk_164_0, bq_164_0, bk_164_1, bq_164_1, bk_164_2, bq_164_2, G_45, X_push, X_goto, X_fall, X_ifeq, X_ifne, X_iflt, X_ifge, X_ifgt, X_ifle, X_iceq, X_icne, X_iclt, X_icge, X_icgt, X_icle, X_ifnull, X_ifnonnull, X_switch, X_ireturn, X_lreturn, X_areturn, X_return, X_zreturn, X_iload, X_lload, X_aload, X_istore, X_astore, X_lstore, X_iinc, X_iadd, X_isub, X_imul, X_idiv, X_irem, X_iand, X_ior, X_ishl, X_ishr, X_iushr, X_ladd, X_lsub, X_lmul, X_ldiv, X_land, X_lor, X_lshl, X_lcmp, X_ineg, X_i2l, X_l2i, X_i2b, X_i2s, X_i2c, X_dupr, X_dupi, X_dup_x1, X_dup2, X_popi, X_popr, X_iaload, X_baload, X_laload, X_aaload, X_iastore, X_bastore, X_lastore, X_aastore, X_arraylength, am_wt_0, am_wt_int, am_wt_long, am_wt_ref, List.getElem?_cons_zero, List.getElem?_cons_succ, am_s1, am_s2, am_kill, List.set_cons_zero, List.set_cons_succ, List.length_cons, List.length_nil, Int.reduceToNat, Nat.reduceAdd, Nat.reduceLeDiff, Nat.reduceLT, Option.toList_some, Option.toList_none, List.cons_append, List.nil_append, true_and, and_true, true_or, or_true, false_or, or_false, and_self, false_and, not_false_eq_true, not_true_eq_false, m7_k H, m7_r0 H, m7_r1 H, m7_r2 H, m7_r3 H, m7_r4 H, m7_r5 H, m7_r6 H, m7_r7 H, m7_r9 H, m7_r10 H, m7_r11 H, m7_r12 H, m7_r14 H, m7_r15 H, m7_r16 H, m7_r25 H, m7_r27 H, m7_r28 H, m7_r29 H, m7_r30 H, m7_r31 H, m7_r32 H, m7_a1 H, m7_n1 H, m7_a2 H, m7_n2 H, m7_a3 H, m7_n3 H, m7_a4 H, m7_n4 H, m7_a13 H, m7_n13 H, m7_a14 H, m7_n14 H, m7_a15 H, m7_n15 H, m7_a16 H, m7_n16 H, m7_a17 H, m7_n17 H, m7_a18 H, m7_n18 H, m7_a19 H, m7_n19 H, m7_a20 H, m7_n20 H, m7_a21 H, m7_n21 H, m7_a28 H, m7_n28 H, m7_a29 H, m7_n29 H, m7_a30 H, m7_n30 H, m7_a31 H, m7_n31 H, m7_a38 H, m7_n38 H, m7_a64 H, m7_n64 H, m7_a65 H, m7_n65 H, m7_a66 H, m7_n66 H, m7_a67 H, m7_n67 H, C_138, c_138i, tl_1, tl_4, h1, bI_t, i10, not_false_eq_true, if_true, t0, es, g3, nI_mm1]
      have key : ∀ r l B (ci1 : Nat → Nat → Int32), l + r = tL T + m → (∀ x, x ≠ 73 → x ≠ 89 → ci1 x = ci x) → (∀ i, i ≠ 8 → ci1 73 i = ci 73 i) → ci1 73 8 = nI l → (∀ i, i < l → ci1 89 i = nI (B i)) → (∀ ci2 : Nat → Nat → Int32, (∀ x, x ≠ 73 → x ≠ 89 → ci2 x = ci x) → (∀ i, i ≠ 8 → ci2 73 i = ci 73 i) → ci2 73 8 = nI (tL T + m) → (∀ i, i < tL T + m → ci2 89 i = nI (fdF v r l B i)) → X (d + 3) 164 (am_bk 164 4) [.ref 73, .int v, .int (nI m), .int (-1)] [] (ci2, cj, g) Q) → X (d + 3) 164 (am_bk 164 3) [.ref 73, .int v, .int (nI m), .int (mm1 r)] [] (ci1, cj, g) Q := by
        intro r
        induction r with
        | zero =>
          intro l B ci1 hl f1 f0 f2 f3 kk
          have h5 : mm1 0 < 0 := by decide
          rw [bk_164_3]
          simp only [bq_164_3, X_push, X_goto, X_fall, X_ifeq, X_ifne, X_iflt, X_ifge, X_ifgt, X_ifle, X_iceq, X_icne, X_iclt, X_icge, X_icgt, X_icle, X_ifnull, X_ifnonnull, X_switch, X_ireturn, X_lreturn, X_areturn, X_return, X_zreturn, X_iload, X_lload, X_aload, X_istore, X_astore, X_lstore, X_iinc, X_iadd, X_isub, X_imul, X_idiv, X_irem, X_iand, X_ior, X_ishl, X_ishr, X_iushr, X_ladd, X_lsub, X_lmul, X_ldiv, X_land, X_lor, X_lshl, X_lcmp, X_ineg, X_i2l, X_l2i, X_i2b, X_i2s, X_i2c, X_dupr, X_dupi, X_dup_x1, X_dup2, X_popi, X_popr, X_iaload, X_baload, X_laload, X_aaload, X_iastore, X_bastore, X_lastore, X_aastore, X_arraylength, am_wt_0, am_wt_int, am_wt_long, am_wt_ref, List.getElem?_cons_zero, List.getElem?_cons_succ, am_s1, am_s2, am_kill, List.set_cons_zero, List.set_cons_succ, List.length_cons, List.length_nil, Int.reduceToNat, Nat.reduceAdd, Nat.reduceLeDiff, Nat.reduceLT, Option.toList_some, Option.toList_none, List.cons_append, List.nil_append, true_and, and_true, true_or, or_true, false_or, or_false, and_self, false_and, not_false_eq_true, not_true_eq_false, h5, if_true]
          exact kk ci1 f1 f0 (by rw [f2, show l = tL T + m by omega]) (fun i hi => f3 i (by omega))
        | succ r ih =>
          intro l B ci1 hl f1 f0 f2 f3 kk
          have h5 : ¬ nI r < 0 := by rw [lit_0, nI_lti (by omega) (by omega)]; omega
          rw [bk_164_3, mm1_s]
          simp only [bq_164_3, G_44, G_45, P_45, X_push, X_goto, X_fall, X_ifeq, X_ifne, X_iflt, X_ifge, X_ifgt, X_ifle, X_iceq, X_icne, X_iclt, X_icge, X_icgt, X_icle, X_ifnull, X_ifnonnull, X_switch, X_ireturn, X_lreturn, X_areturn, X_return, X_zreturn, X_iload, X_lload, X_aload, X_istore, X_astore, X_lstore, X_iinc, X_iadd, X_isub, X_imul, X_idiv, X_irem, X_iand, X_ior, X_ishl, X_ishr, X_iushr, X_ladd, X_lsub, X_lmul, X_ldiv, X_land, X_lor, X_lshl, X_lcmp, X_ineg, X_i2l, X_l2i, X_i2b, X_i2s, X_i2c, X_dupr, X_dupi, X_dup_x1, X_dup2, X_popi, X_popr, X_iaload, X_baload, X_laload, X_aaload, X_iastore, X_bastore, X_lastore, X_aastore, X_arraylength, am_wt_0, am_wt_int, am_wt_long, am_wt_ref, List.getElem?_cons_zero, List.getElem?_cons_succ, am_s1, am_s2, am_kill, List.set_cons_zero, List.set_cons_succ, List.length_cons, List.length_nil, Int.reduceToNat, Nat.reduceAdd, Nat.reduceLeDiff, Nat.reduceLT, Option.toList_some, Option.toList_none, List.cons_append, List.nil_append, true_and, and_true, true_or, or_true, false_or, or_false, and_self, false_and, not_false_eq_true, not_true_eq_false, m7_k H, m7_r0 H, m7_r1 H, m7_r2 H, m7_r3 H, m7_r4 H, m7_r5 H, m7_r6 H, m7_r7 H, m7_r9 H, m7_r10 H, m7_r11 H, m7_r12 H, m7_r14 H, m7_r15 H, m7_r16 H, m7_r25 H, m7_r27 H, m7_r28 H, m7_r29 H, m7_r30 H, m7_r31 H, m7_r32 H, m7_a1 H, m7_n1 H, m7_a2 H, m7_n2 H, m7_a3 H, m7_n3 H, m7_a4 H, m7_n4 H, m7_a13 H, m7_n13 H, m7_a14 H, m7_n14 H, m7_a15 H, m7_n15 H, m7_a16 H, m7_n16 H, m7_a17 H, m7_n17 H, m7_a18 H, m7_n18 H, m7_a19 H, m7_n19 H, m7_a20 H, m7_n20 H, m7_a21 H, m7_n21 H, m7_a28 H, m7_n28 H, m7_a29 H, m7_n29 H, m7_a30 H, m7_n30 H, m7_a31 H, m7_n31 H, m7_a38 H, m7_n38 H, m7_a64 H, m7_n64 H, m7_a65 H, m7_n65 H, m7_a66 H, m7_n66 H, m7_a67 H, m7_n67 H, h5, if_false, f2, in_nI (show l < 200 by omega) (show 200 < 2 ^ 31 by decide), tn_nI (show l < 2 ^ 31 by omega), show (8 : Int32) = nI 8 from rfl, (byt_e v r).2, Nat.le_refl, nI_1, mm1_d]
          refine ih (l + 1) (am_u1 B l (byt v r)) _ (by omega) (fun x p q => by rw [u2_a _ _ q, u2_a _ _ p]; exact f1 x p q) (fun i hi => by rw [u2_a _ _ (by decide), u2_i _ _ hi]; exact f0 i hi) (by rw [u2_a _ _ (by decide), u2_s]) (fun i hi => ?_) kk
          rw [u2_e, if_pos rfl, u2_a _ _ (by decide)]
          unfold am_u1
          split
          · rfl
          · exact f3 i (by omega)
      refine key m (tL T) (tB T) ci (by omega) (fun x _ _ => rfl) (fun i _ => rfl) t0 t1 ?_
      intro ci2 f1 f0 f2 f3
      simp only [bk_164_4, bq_164_4, G_45, X_push, X_goto, X_fall, X_ifeq, X_ifne, X_iflt, X_ifge, X_ifgt, X_ifle, X_iceq, X_icne, X_iclt, X_icge, X_icgt, X_icle, X_ifnull, X_ifnonnull, X_switch, X_ireturn, X_lreturn, X_areturn, X_return, X_zreturn, X_iload, X_lload, X_aload, X_istore, X_astore, X_lstore, X_iinc, X_iadd, X_isub, X_imul, X_idiv, X_irem, X_iand, X_ior, X_ishl, X_ishr, X_iushr, X_ladd, X_lsub, X_lmul, X_ldiv, X_land, X_lor, X_lshl, X_lcmp, X_ineg, X_i2l, X_l2i, X_i2b, X_i2s, X_i2c, X_dupr, X_dupi, X_dup_x1, X_dup2, X_popi, X_popr, X_iaload, X_baload, X_laload, X_aaload, X_iastore, X_bastore, X_lastore, X_aastore, X_arraylength, am_wt_0, am_wt_int, am_wt_long, am_wt_ref, List.getElem?_cons_zero, List.getElem?_cons_succ, am_s1, am_s2, am_kill, List.set_cons_zero, List.set_cons_succ, List.length_cons, List.length_nil, Int.reduceToNat, Nat.reduceAdd, Nat.reduceLeDiff, Nat.reduceLT, Option.toList_some, Option.toList_none, List.cons_append, List.nil_append, true_and, and_true, true_or, or_true, false_or, or_false, and_self, false_and, not_false_eq_true, not_true_eq_false, m7_k H, m7_r0 H, m7_r1 H, m7_r2 H, m7_r3 H, m7_r4 H, m7_r5 H, m7_r6 H, m7_r7 H, m7_r9 H, m7_r10 H, m7_r11 H, m7_r12 H, m7_r14 H, m7_r15 H, m7_r16 H, m7_r25 H, m7_r27 H, m7_r28 H, m7_r29 H, m7_r30 H, m7_r31 H, m7_r32 H, m7_a1 H, m7_n1 H, m7_a2 H, m7_n2 H, m7_a3 H, m7_n3 H, m7_a4 H, m7_n4 H, m7_a13 H, m7_n13 H, m7_a14 H, m7_n14 H, m7_a15 H, m7_n15 H, m7_a16 H, m7_n16 H, m7_a17 H, m7_n17 H, m7_a18 H, m7_n18 H, m7_a19 H, m7_n19 H, m7_a20 H, m7_n20 H, m7_a21 H, m7_n21 H, m7_a28 H, m7_n28 H, m7_a29 H, m7_n29 H, m7_a30 H, m7_n30 H, m7_a31 H, m7_n31 H, m7_a38 H, m7_n38 H, m7_a64 H, m7_n64 H, m7_a65 H, m7_n65 H, m7_a66 H, m7_n66 H, m7_a67 H, m7_n67 H, f2]
      obtain ⟨R2, r2⟩ := mR_tape R (ci' := ci2) (l := tL T + m) (b := fdF v m (tL T) (tB T)) (by omega) (fdF_lt v m (tL T) (tB T) hB) f1 ⟨f0 13 (by decide), f0 17 (by decide)⟩ f2 f3
      exact k _ _ R2 r2
  · rw [if_neg h1] at k
    simp only [bk_164_0, bq_164_0, X_push, X_goto, X_fall, X_ifeq, X_ifne, X_iflt, X_ifge, X_ifgt, X_ifle, X_iceq, X_icne, X_iclt, X_icge, X_icgt, X_icle, X_ifnull, X_ifnonnull, X_switch, X_ireturn, X_lreturn, X_areturn, X_return, X_zreturn, X_iload, X_lload, X_aload, X_istore, X_astore, X_lstore, X_iinc, X_iadd, X_isub, X_imul, X_idiv, X_irem, X_iand, X_ior, X_ishl, X_ishr, X_iushr, X_ladd, X_lsub, X_lmul, X_ldiv, X_land, X_lor, X_lshl, X_lcmp, X_ineg, X_i2l, X_l2i, X_i2b, X_i2s, X_i2c, X_dupr, X_dupi, X_dup_x1, X_dup2, X_popi, X_popr, X_iaload, X_baload, X_laload, X_aaload, X_iastore, X_bastore, X_lastore, X_aastore, X_arraylength, am_wt_0, am_wt_int, am_wt_long, am_wt_ref, List.getElem?_cons_zero, List.getElem?_cons_succ, am_s1, am_s2, am_kill, List.set_cons_zero, List.set_cons_succ, List.length_cons, List.length_nil, Int.reduceToNat, Nat.reduceAdd, Nat.reduceLeDiff, Nat.reduceLT, Option.toList_some, Option.toList_none, List.cons_append, List.nil_append, true_and, and_true, true_or, or_true, false_or, or_false, and_self, false_and, not_false_eq_true, not_true_eq_false, m7_k H, m7_r0 H, m7_r1 H, m7_r2 H, m7_r3 H, m7_r4 H, m7_r5 H, m7_r6 H, m7_r7 H, m7_r9 H, m7_r10 H, m7_r11 H, m7_r12 H, m7_r14 H, m7_r15 H, m7_r16 H, m7_r25 H, m7_r27 H, m7_r28 H, m7_r29 H, m7_r30 H, m7_r31 H, m7_r32 H, m7_a1 H, m7_n1 H, m7_a2 H, m7_n2 H, m7_a3 H, m7_n3 H, m7_a4 H, m7_n4 H, m7_a13 H, m7_n13 H, m7_a14 H, m7_n14 H, m7_a15 H, m7_n15 H, m7_a16 H, m7_n16 H, m7_a17 H, m7_n17 H, m7_a18 H, m7_n18 H, m7_a19 H, m7_n19 H, m7_a20 H, m7_n20 H, m7_a21 H, m7_n21 H, m7_a28 H, m7_n28 H, m7_a29 H, m7_n29 H, m7_a30 H, m7_n30 H, m7_a31 H, m7_n31 H, m7_a38 H, m7_n38 H, m7_a64 H, m7_n64 H, m7_a65 H, m7_n65 H, m7_a66 H, m7_n66 H, m7_a67 H, m7_n67 H, C_138, c_138i, tl_1, tl_4, h1, bI_f, not_true_eq_false, if_false, rI_0, rI_1, rI_2, rI_3, rI_4, C_137, c_137m H (show 0 < 5 by decide), c_137m H (show 1 < 5 by decide), c_137m H (show 2 < 5 by decide), c_137m H (show 3 < 5 by decide), c_137m H (show 4 < 5 by decide)]
    exact km_rf R (by decide) k
end FEED
